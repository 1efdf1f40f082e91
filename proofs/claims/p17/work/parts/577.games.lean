/-- how many leaves of a game are missing, of its first moves -/
def sg_ms (G : Nat → Int) (g : Nat) : Nat → Nat
  | 0 => 0
  | n + 1 => sg_ms G g n + (if G (64 * g + 4 * n) = 0 ∧ G (64 * g + 4 * n + 1) = -1 then 1 else 0)
theorem sg_ms_le (G : Nat → Int) (g : Nat) : ∀ n : Nat, sg_ms G g n ≤ n := by
  intro n
  induction n with
  | zero => exact Nat.le_refl _
  | succ n ih =>
    show sg_ms G g n + _ ≤ _
    split <;> omega
theorem sg_ms_mono (G : Nat → Int) (g : Nat) {a b : Nat} (h : a ≤ b) : sg_ms G g a ≤ sg_ms G g b := by
  induction b with
  | zero => rw [Nat.le_zero.mp h]; exact Nat.le_refl _
  | succ b ih =>
    by_cases e : a = b + 1
    · rw [e]; exact Nat.le_refl _
    · exact Nat.le_trans (ih (by omega)) (Nat.le_add_right _ _)
theorem sg_ms_yes {G : Nat → Int} {g n : Nat} (h : G (64 * g + 4 * n) = 0) (h1 : G (64 * g + 4 * n + 1) = -1) : sg_ms G g (n + 1) = sg_ms G g n + 1 := by
  show sg_ms G g n + (if _ then 1 else 0) = _
  rw [if_pos ⟨h, h1⟩]
theorem sg_ms_no {G : Nat → Int} {g n : Nat} (h : ¬ (G (64 * g + 4 * n) = 0 ∧ G (64 * g + 4 * n + 1) = -1)) : sg_ms G g (n + 1) = sg_ms G g n := by
  show sg_ms G g n + (if _ then 1 else 0) = _
  rw [if_neg h]
  rfl
theorem sg_gav {f : Nat → Int} {ad ks : List Nat} {i x : Int32} {n : Nat} (h : okV ad ks (sg_ga f i.toNatClampNeg) (.int x)) (e : i.toInt = (n : Int)) (hn : n < 256) : x.toInt = f n := by
  have h1 : i.toNatClampNeg = n := by show i.toInt.toNat = n; omega
  rw [h1] at h
  unfold sg_ga at h
  rw [if_pos hn] at h
  obtain ⟨y, h2, h3, h4⟩ := h
  cases h2
  dsimp only at h3 h4
  omega
theorem sg_glv {f : Nat → Fin 17} {ad ks : List Nat} {i x : Int32} (h : okV ad ks (sg_gl f i.toNatClampNeg) (.int x)) (h0 : iv 0 3 i) : x.toInt = ((f i.toInt.toNat).val : Int) := by
  have h1 : i.toNatClampNeg = i.toInt.toNat := rfl
  rw [h1] at h
  unfold sg_gl at h
  have := h0.1
  have := h0.2
  rw [if_pos (by omega)] at h
  obtain ⟨y, h2, h3, h4⟩ := h
  cases h2
  dsimp only at h3 h4
  omega
theorem sg_eq0 {x : Int32} (h : x = 0) : x.toInt = 0 := by rw [h]; decide +kernel
theorem sg_ne0' {x : Int32} (h : ¬ x = 0) : x.toInt ≠ 0 := fun q => h (Int32.toInt_inj.mp (q.trans (by decide +kernel)))
theorem sg_eqm1 {x : Int32} (h : x = -1) : x.toInt = -1 := by rw [h]; decide +kernel
theorem sg_nem1 {x : Int32} (h : ¬ x = -1) : x.toInt ≠ -1 := fun q => h (Int32.toInt_inj.mp (q.trans (by decide +kernel)))
/-- bytes that aren't 0 -/
def sg_nb1 (v k : Int32) : Int := if (v >>> (k &&& 31)) &&& 255 = 0 then 0 else 1
def sg_nb (v : Int32) : Int := sg_nb1 v 24 + sg_nb1 v 16 + sg_nb1 v 8 + sg_nb1 v 0
theorem sg_nb1_le (v k : Int32) : 0 ≤ sg_nb1 v k ∧ sg_nb1 v k ≤ 1 := by
  unfold sg_nb1
  split <;> omega
theorem sg_nb_le (v : Int32) : 0 ≤ sg_nb v ∧ sg_nb v ≤ 4 := by
  have h1 := sg_nb1_le v 24
  have h2 := sg_nb1_le v 16
  have h3 := sg_nb1_le v 8
  have h4 := sg_nb1_le v 0
  unfold sg_nb
  omega
theorem sg_nbp {v k k0 f g : Int32} (e1 : f = v >>> (k &&& 31)) (e2 : g = f &&& 255) (hk : k = k0) (c : g = 0) : sg_nb1 v k0 = 0 := by
  subst hk
  unfold sg_nb1
  rw [← e1, ← e2, if_pos c]
theorem sg_nbq {v k k0 f g : Int32} (e1 : f = v >>> (k &&& 31)) (e2 : g = f &&& 255) (hk : k = k0) (c : ¬ g = 0) : sg_nb1 v k0 = 1 := by
  subst hk
  unfold sg_nb1
  rw [← e1, ← e2, if_neg c]
theorem sg_kc {k : Int32} {n : Int} (k0 : Int32) (h : iv n n k) (hd : decide (k0.toInt = n) = true) : k = k0 := Int32.toInt_inj.mp (by have := of_decide_eq_true hd; have := h.1; have := h.2; omega)
/-- how long the tape may be -/
def KK12v (u : Int) (P : sgPm) : sgK := .inl (12, [.inl ((-2147483648), 2147483647), .inr (.inl (false, 45)), .inr (.inl (false, 46)), .inr (.inl (false, 47)), .inr (.inl (false, 48)), .inr (.inr true), .inl (0, u), .inl ((P.2.2.2.2.2.2.2.2.1.val : Int), (P.2.2.2.2.2.2.2.2.1.val : Int)), .inl ((-2147483648), 2147483647), .inl (0, 240), .inl ((-2147483648), 2147483647), .inl ((-1), 241), .inl (0, 6), .inl ((-2147483648), 2147483647), .inl ((-2147483648), 2147483647), .inr (.inr true), .inr (.inr true), .inl (0, 1), .inr (.inl (false, 49)), .inr (.inl (false, 50)), .inr (.inl (false, 51)), .inr (.inl (false, 52)), .inr (.inl (false, 53)), .inl (sgC1 P, sgC1 P), .inl ((-2147483648), 2147483647), .inl ((-2147483648), 2147483647), .inl ((-2147483648), 2147483647), .inl ((-2147483648), 2147483647), .inl ((-2147483648), 2147483647), .inl ((P.2.2.2.2.2.2.2.2.2.1.val : Int), (P.2.2.2.2.2.2.2.2.2.1.val : Int)), .inl (0, 1), .inl (0, 1), .inr (.inl (false, 54)), .inr (.inl (false, 55)), .inl ((-1), 3), .inl (P.2.2.2.2.2.1, P.2.2.2.2.2.1), .inr (.inl (false, 56)), .inr (.inl (false, 57)), .inr (.inl (false, 58)), .inl (0, 40), .inr (.inr false), .inr (.inl (false, 59)), .inl ((-2147483648), 2147483647), .inl ((-2147483648), 2147483647), .inr (.inl (false, 60)), .inr (.inl (false, 61)), .inr (.inl (false, 62)), .inl (0, 12), .inr (.inl (false, 63)), .inr (.inl (false, 64)), .inl (0, 12), .inr (.inl (false, 65)), .inl (0, 1)])
def KV (u : Int) (P : sgPm) : List sgK := [KK0 P, KK1 P, KK2 P, KK3 P, KK4 P, KK5 P, KK6 P, KK7 P, KK8 P, KK9 P, KK10 P, KK11 P, KK12v u P, KK13 P, KK14 P, KK15 P, KK16 P, KK17 P, KK18 P, KK19 P, KK20 P, KK21 P, KK22 P, KK23 P, KK24 P, KK25 P, KK26 P, KK27 P, KK28 P, KK29 P, KK30 P, KK31 P, KK32 P, KK33 P, KK34 P, KK35 P, KK36 P, KK37 P, KK38 P, KK39 P, KK40 P, KK41 P, KK42 P, KK43 P, KK44 P, KK45 P, KK46 P, KK47 P, KK48 P, KK49 P, KK50 P, KK51 P, KK52 P, KK53 P, KK54 P, KK55 P, KK56 P, KK57 P, KK58 P, KK59 P, KK60 P, KK61 P, KK62 P, KK63 P, KK64 P, KK65 P, KK66 P, KK67 P]
theorem kv_weak {u u' : Int} {D : va_G} {A : Nat → Prop} {tys : List (ClassId × FieldType)} {ad ks : List Nat} {H : Heap} {P : sgPm} (hG : sgG (KV u P) D vwCl A tys ad ks H) (h2 : u ≤ u') : sgG (KV u' P) D vwCl A tys ad ks H := by
  refine sg_weak1 hG (k := 12) rfl rfl rfl (fun i t' ht => by match i, ht with
    | 0, ht => cases ht; exact ⟨_, rfl, fun v hv => hv⟩
    | 1, ht => cases ht; exact ⟨_, rfl, fun v hv => hv⟩
    | 2, ht => cases ht; exact ⟨_, rfl, fun v hv => hv⟩
    | 3, ht => cases ht; exact ⟨_, rfl, fun v hv => hv⟩
    | 4, ht => cases ht; exact ⟨_, rfl, fun v hv => hv⟩
    | 5, ht => cases ht; exact ⟨_, rfl, fun v hv => hv⟩
    | 6, ht => cases ht; exact ⟨_, rfl, fun v hv => by obtain ⟨x, g1, g2, g3⟩ := hv; exact ⟨x, g1, g2, Int.le_trans g3 h2⟩⟩
    | 7, ht => cases ht; exact ⟨_, rfl, fun v hv => hv⟩
    | 8, ht => cases ht; exact ⟨_, rfl, fun v hv => hv⟩
    | 9, ht => cases ht; exact ⟨_, rfl, fun v hv => hv⟩
    | 10, ht => cases ht; exact ⟨_, rfl, fun v hv => hv⟩
    | 11, ht => cases ht; exact ⟨_, rfl, fun v hv => hv⟩
    | 12, ht => cases ht; exact ⟨_, rfl, fun v hv => hv⟩
    | 13, ht => cases ht; exact ⟨_, rfl, fun v hv => hv⟩
    | 14, ht => cases ht; exact ⟨_, rfl, fun v hv => hv⟩
    | 15, ht => cases ht; exact ⟨_, rfl, fun v hv => hv⟩
    | 16, ht => cases ht; exact ⟨_, rfl, fun v hv => hv⟩
    | 17, ht => cases ht; exact ⟨_, rfl, fun v hv => hv⟩
    | 18, ht => cases ht; exact ⟨_, rfl, fun v hv => hv⟩
    | 19, ht => cases ht; exact ⟨_, rfl, fun v hv => hv⟩
    | 20, ht => cases ht; exact ⟨_, rfl, fun v hv => hv⟩
    | 21, ht => cases ht; exact ⟨_, rfl, fun v hv => hv⟩
    | 22, ht => cases ht; exact ⟨_, rfl, fun v hv => hv⟩
    | 23, ht => cases ht; exact ⟨_, rfl, fun v hv => hv⟩
    | 24, ht => cases ht; exact ⟨_, rfl, fun v hv => hv⟩
    | 25, ht => cases ht; exact ⟨_, rfl, fun v hv => hv⟩
    | 26, ht => cases ht; exact ⟨_, rfl, fun v hv => hv⟩
    | 27, ht => cases ht; exact ⟨_, rfl, fun v hv => hv⟩
    | 28, ht => cases ht; exact ⟨_, rfl, fun v hv => hv⟩
    | 29, ht => cases ht; exact ⟨_, rfl, fun v hv => hv⟩
    | 30, ht => cases ht; exact ⟨_, rfl, fun v hv => hv⟩
    | 31, ht => cases ht; exact ⟨_, rfl, fun v hv => hv⟩
    | 32, ht => cases ht; exact ⟨_, rfl, fun v hv => hv⟩
    | 33, ht => cases ht; exact ⟨_, rfl, fun v hv => hv⟩
    | 34, ht => cases ht; exact ⟨_, rfl, fun v hv => hv⟩
    | 35, ht => cases ht; exact ⟨_, rfl, fun v hv => hv⟩
    | 36, ht => cases ht; exact ⟨_, rfl, fun v hv => hv⟩
    | 37, ht => cases ht; exact ⟨_, rfl, fun v hv => hv⟩
    | 38, ht => cases ht; exact ⟨_, rfl, fun v hv => hv⟩
    | 39, ht => cases ht; exact ⟨_, rfl, fun v hv => hv⟩
    | 40, ht => cases ht; exact ⟨_, rfl, fun v hv => hv⟩
    | 41, ht => cases ht; exact ⟨_, rfl, fun v hv => hv⟩
    | 42, ht => cases ht; exact ⟨_, rfl, fun v hv => hv⟩
    | 43, ht => cases ht; exact ⟨_, rfl, fun v hv => hv⟩
    | 44, ht => cases ht; exact ⟨_, rfl, fun v hv => hv⟩
    | 45, ht => cases ht; exact ⟨_, rfl, fun v hv => hv⟩
    | 46, ht => cases ht; exact ⟨_, rfl, fun v hv => hv⟩
    | 47, ht => cases ht; exact ⟨_, rfl, fun v hv => hv⟩
    | 48, ht => cases ht; exact ⟨_, rfl, fun v hv => hv⟩
    | 49, ht => cases ht; exact ⟨_, rfl, fun v hv => hv⟩
    | 50, ht => cases ht; exact ⟨_, rfl, fun v hv => hv⟩
    | 51, ht => cases ht; exact ⟨_, rfl, fun v hv => hv⟩
    | 52, ht => cases ht; exact ⟨_, rfl, fun v hv => hv⟩
    | i + 53, ht => cases ht) (fun i hi => by match i, hi with
    | 0, hi => rfl
    | 1, hi => rfl
    | 2, hi => rfl
    | 3, hi => rfl
    | 4, hi => rfl
    | 5, hi => rfl
    | 6, hi => rfl
    | 7, hi => rfl
    | 8, hi => rfl
    | 9, hi => rfl
    | 10, hi => rfl
    | 11, hi => rfl
    | 12, hi => exact absurd rfl hi
    | 13, hi => rfl
    | 14, hi => rfl
    | 15, hi => rfl
    | 16, hi => rfl
    | 17, hi => rfl
    | 18, hi => rfl
    | 19, hi => rfl
    | 20, hi => rfl
    | 21, hi => rfl
    | 22, hi => rfl
    | 23, hi => rfl
    | 24, hi => rfl
    | 25, hi => rfl
    | 26, hi => rfl
    | 27, hi => rfl
    | 28, hi => rfl
    | 29, hi => rfl
    | 30, hi => rfl
    | 31, hi => rfl
    | 32, hi => rfl
    | 33, hi => rfl
    | 34, hi => rfl
    | 35, hi => rfl
    | 36, hi => rfl
    | 37, hi => rfl
    | 38, hi => rfl
    | 39, hi => rfl
    | 40, hi => rfl
    | 41, hi => rfl
    | 42, hi => rfl
    | 43, hi => rfl
    | 44, hi => rfl
    | 45, hi => rfl
    | 46, hi => rfl
    | 47, hi => rfl
    | 48, hi => rfl
    | 49, hi => rfl
    | 50, hi => rfl
    | 51, hi => rfl
    | 52, hi => rfl
    | 53, hi => rfl
    | 54, hi => rfl
    | 55, hi => rfl
    | 56, hi => rfl
    | 57, hi => rfl
    | 58, hi => rfl
    | 59, hi => rfl
    | 60, hi => rfl
    | 61, hi => rfl
    | 62, hi => rfl
    | 63, hi => rfl
    | 64, hi => rfl
    | 65, hi => rfl
    | 66, hi => rfl
    | 67, hi => rfl
    | i + 68, hi => rfl)
