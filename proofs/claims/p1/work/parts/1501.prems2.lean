set_option maxHeartbeats 20000000 in
set_option maxRecDepth 1000000 in
theorem pr_str_y {p : Program} {s : State} {m : MethodId} {meth : Method} {c : Code} {b L : Nat} {xs : Nat → Int32} (C0 : lw_At p s m meth c b L xs) : ∃ a v : Nat, P_S a v 1 [121] (fun q : Nat => s.heap.size ≤ q) s ∧ vk_R RX12 26 "y" a s := by
  obtain ⟨hx, hb, hr, hml, hown, hts0, hX, hbl, hlocks, hgv⟩ := id C0
  have hAn : ∀ a : Nat, a < s.heap.size → ¬ (fun q : Nat => s.heap.size ≤ q) a := fun a h => Nat.not_le.mpr h
  have hfl := flat_of_before _ hgv
  obtain ⟨adK, adV, hSS, hSe⟩ := vk_Sof (args := #[Value.ref b]) (s := s) (N := 1) (tm := fun _ => .string RX12 26) (len := [1]) (byt := [[121]]) (A := (fun q : Nat => s.heap.size ≤ q))
    (fun i hi => by obtain rfl : i = 0 := by omega
                    decide)
    (fun i hi => by obtain rfl : i = 0 := by omega
                    exact hfl _ (by decide +kernel))
    (fun i hi => by obtain rfl : i = 0 := by omega
                    exact hfl _ (by decide +kernel))
    (fun i hi => by obtain rfl : i = 0 := by omega
                    exact hfl _ (by decide +kernel))
    (fun i hi => by obtain rfl : i = 0 := by omega
                    exact hfl _ (by decide +kernel))
    (fun i hi j hj => by obtain rfl : i = 0 := by omega
                         have hj2 : j < 1 := hj
                         obtain rfl : j = 0 := by omega
                         exact hfl _ (by decide +kernel))
    (fun i j hi hj hij => absurd (show i = j by omega) hij) hAn
  exact ⟨adK 0, adV 0, ⟨(hSS.1 0 (by decide)).1, (hSS.1 0 (by decide)).2.1, (hSS.1 0 (by decide)).2.2.1, (hSS.1 0 (by decide)).2.2.2, (pr_cs C0).1, (pr_cs C0).2⟩, vk_R.of (hts0 (.stringRef RX12 26 "y") (List.mem_of_getElem? (i := 1490) (by decide +kernel))) (hSe 0 (by decide))⟩

set_option maxHeartbeats 20000000 in
set_option maxRecDepth 1000000 in
theorem pr_str_g {p : Program} {s : State} {m : MethodId} {meth : Method} {c : Code} {b L : Nat} {xs : Nat → Int32} (C0 : lw_At p s m meth c b L xs) : ∃ a v : Nat, P_S a v 4 [103, 99, 109, 120] (fun q : Nat => s.heap.size ≤ q) s ∧ vk_R RX12 273 "gcmx" a s := by
  obtain ⟨hx, hb, hr, hml, hown, hts0, hX, hbl, hlocks, hgv⟩ := id C0
  have hAn : ∀ a : Nat, a < s.heap.size → ¬ (fun q : Nat => s.heap.size ≤ q) a := fun a h => Nat.not_le.mpr h
  have hfl := flat_of_before _ hgv
  obtain ⟨adK, adV, hSS, hSe⟩ := vk_Sof (args := #[Value.ref b]) (s := s) (N := 1) (tm := fun _ => .string RX12 273) (len := [4]) (byt := [[103, 99, 109, 120]]) (A := (fun q : Nat => s.heap.size ≤ q))
    (fun i hi => by obtain rfl : i = 0 := by omega
                    decide)
    (fun i hi => by obtain rfl : i = 0 := by omega
                    exact hfl _ (by decide +kernel))
    (fun i hi => by obtain rfl : i = 0 := by omega
                    exact hfl _ (by decide +kernel))
    (fun i hi => by obtain rfl : i = 0 := by omega
                    exact hfl _ (by decide +kernel))
    (fun i hi => by obtain rfl : i = 0 := by omega
                    exact hfl _ (by decide +kernel))
    (fun i hi j hj => by obtain rfl : i = 0 := by omega
                         have hj2 : j < 4 := hj
                         rcases (show j = 0 ∨ j = 1 ∨ j = 2 ∨ j = 3 by omega) with rfl | rfl | rfl | rfl <;> exact hfl _ (by decide +kernel))
    (fun i j hi hj hij => absurd (show i = j by omega) hij) hAn
  exact ⟨adK 0, adV 0, ⟨(hSS.1 0 (by decide)).1, (hSS.1 0 (by decide)).2.1, (hSS.1 0 (by decide)).2.2.1, (hSS.1 0 (by decide)).2.2.2, (pr_cs C0).1, (pr_cs C0).2⟩, vk_R.of (hts0 (.stringRef RX12 273 "gcmx") (List.mem_of_getElem? (i := 1833) (by decide +kernel))) (hSe 0 (by decide))⟩

set_option maxHeartbeats 20000000 in
set_option maxRecDepth 1000000 in
theorem pr_str_t {p : Program} {s : State} {m : MethodId} {meth : Method} {c : Code} {b L : Nat} {xs : Nat → Int32} (C0 : lw_At p s m meth c b L xs) : ∃ a : Nat, vk_R RX12 32 "trcbdo" a s := by
  obtain ⟨hx, hb, hr, hml, hown, hts0, hX, hbl, hlocks, hgv⟩ := id C0
  have hAn : ∀ a : Nat, a < s.heap.size → ¬ (fun q : Nat => s.heap.size ≤ q) a := fun a h => Nat.not_le.mpr h
  have hfl := flat_of_before _ hgv
  obtain ⟨adK, adV, hSS, hSe⟩ := vk_Sof (args := #[Value.ref b]) (s := s) (N := 1) (tm := fun _ => .string RX12 32) (len := [6]) (byt := [[116, 114, 99, 98, 100, 111]]) (A := (fun q : Nat => s.heap.size ≤ q))
    (fun i hi => by obtain rfl : i = 0 := by omega
                    decide)
    (fun i hi => by obtain rfl : i = 0 := by omega
                    exact hfl _ (by decide +kernel))
    (fun i hi => by obtain rfl : i = 0 := by omega
                    exact hfl _ (by decide +kernel))
    (fun i hi => by obtain rfl : i = 0 := by omega
                    exact hfl _ (by decide +kernel))
    (fun i hi => by obtain rfl : i = 0 := by omega
                    exact hfl _ (by decide +kernel))
    (fun i hi j hj => by obtain rfl : i = 0 := by omega
                         have hj2 : j < 6 := hj
                         rcases (show j = 0 ∨ j = 1 ∨ j = 2 ∨ j = 3 ∨ j = 4 ∨ j = 5 by omega) with rfl | rfl | rfl | rfl | rfl | rfl <;> exact hfl _ (by decide +kernel))
    (fun i j hi hj hij => absurd (show i = j by omega) hij) hAn
  exact ⟨adK 0, vk_R.of (hts0 (.stringRef RX12 32 "trcbdo") (List.mem_of_getElem? (i := 1491) (by decide +kernel))) (hSe 0 (by decide))⟩
