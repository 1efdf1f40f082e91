/-- popcount -/
def sg_pc : Nat → Nat → Nat
  | 0, _ => 0
  | n + 1, i => sg_pc n i + (if i.testBit n then 1 else 0)
def sg_sum : Nat → sgT := fun i => .inl (0, (sg_pc 12 i : Int))
def sg_rl : Nat → sgT := fun i => if i = 0 then .inl (1, 6) else if i = 1 then .inl (1, 5) else if i = 2 then .inl (2, 5) else if i = 3 then .inl (1, 5) else if i = 6 then .inl (0, 1) else .inl (0, 8)
/-- the rules that were read, the first m of them good -/
def sg_rr (m : Int) : Nat → sgT := fun i => if (i : Int) < m then sg_rl i else .inl ((-2147483648), 2147483647)
def sg_now (N : Nat) : Nat → sgT := fun i => if i = 2 then .inl (0, 1) else if i = 4 then .inl (0, ((min N 1000000000 : Nat) : Int)) else if i = 8 then .inl (0, 60) else .inl ((-2147483648), 2147483647)
/-- the kinds of cells -/
abbrev sgPm : Type := Bool × Bool × Bool × Int × Bool × Int × Fin 5 × Fin 5 × Fin 5 × Fin 5 × Nat × (Nat → Nat) × (Nat → Int) × (Nat → Fin 17) × (Nat → Int) × Int × Option Int × (Nat → Int) × Int × (Nat → Int) × Int × (Nat → sgT)
abbrev sgN (P : sgPm) : Nat := P.2.2.2.2.2.2.2.2.2.2.1
abbrev sgPl (P : sgPm) : Nat → Nat := P.2.2.2.2.2.2.2.2.2.2.2.1
abbrev sgG0 (P : sgPm) : Nat → Int := P.2.2.2.2.2.2.2.2.2.2.2.2.1
abbrev sgGl (P : sgPm) : Nat → Fin 17 := P.2.2.2.2.2.2.2.2.2.2.2.2.2.1
abbrev sgRw (P : sgPm) : Nat → Int := P.2.2.2.2.2.2.2.2.2.2.2.2.2.2.1
abbrev sgW (P : sgPm) : Int := sgRw P 0
abbrev sgNc (P : sgPm) : Int := P.2.2.2.2.2.2.2.2.2.2.2.2.2.2.2.1
abbrev sgPin (P : sgPm) : Option Int := P.2.2.2.2.2.2.2.2.2.2.2.2.2.2.2.2.1
abbrev sgTp (P : sgPm) : (Nat → Int) × Int × (Nat → Int) × Int × (Nat → sgT) := P.2.2.2.2.2.2.2.2.2.2.2.2.2.2.2.2.2
/-- what was told so far, on both sides: the bytes, how many -/
abbrev sgT1 (P : sgPm) : Nat → Int := (sgTp P).1
abbrev sgL1 (P : sgPm) : Int := (sgTp P).2.1
abbrev sgT2 (P : sgPm) : Nat → Int := (sgTp P).2.2.1
abbrev sgL2 (P : sgPm) : Int := (sgTp P).2.2.2.1
/-- what the class's LAWN, its GAMES must hold, by address -/
abbrev sgGm (P : sgPm) : Nat → sgT := (sgTp P).2.2.2.2
def sgC240 (x : Int) : Int := max 0 (min x 240)
def sg_tp (f : Nat → Int) : Nat → sgT := fun i => .inl (f i, f i)
def sgAt (P : sgPm) (n : Nat) : sgPm := (P.1, P.2.1, P.2.2.1, P.2.2.2.1, P.2.2.2.2.1, P.2.2.2.2.2.1, P.2.2.2.2.2.2.1, P.2.2.2.2.2.2.2.1, P.2.2.2.2.2.2.2.2.1, P.2.2.2.2.2.2.2.2.2.1, n, P.2.2.2.2.2.2.2.2.2.2.2)
/-- the cells' number, the width -/
def sgC1 (P : sgPm) : Int := bif P.2.2.2.2.1 then max 1 (min (sgNc P) 30) else 0
def sg_ru (b : Bool) (f : Nat → Int) : Nat → sgT := fun i => bif b then (match sg_rl i with | .inl q => .inl (max q.1 (min (f i) q.2), max q.1 (min (f i) q.2)) | t => t) else .inl (0, 0)
def sg_nw (N : Nat) (pin : Option Int) : Nat → sgT := fun i => if i = 0 then (match pin with | none => .inl ((-2147483648), 2147483647) | some t => .inl (t, t)) else sg_now N i
def sg_plc (f : Nat → Nat) : Nat → sgT := fun i => .inl (0, ((min (f i) 8256 : Nat) : Int))
def sg_ga (f : Nat → Int) : Nat → sgT := fun i => if i < 256 then .inl (f i, f i) else .inl ((-2147483648), 2147483647)
def sg_gl (f : Nat → Fin 17) : Nat → sgT := fun i => if i < 4 then .inl (((f i).val : Int), ((f i).val : Int)) else .inl (0, 16)
/-- the droughts of both sides are as they were -/
def sgKeep (P P1 : sgPm) : Prop := P1.2.2.2.1 = P.2.2.2.1 ∧ P1.2.2.2.2.2.1 = P.2.2.2.2.2.1 ∧ sgN P ≤ sgN P1 ∧ sgN P1 ≤ sgN P + 432000
def KK0 (P : sgPm) : sgK := .inl (0, [.inr (.inl (false, 8)), .inl ((-2147483648), 2147483647), .inl ((-2147483648), 2147483647), .inl ((-2147483648), 2147483647), .inl ((-2147483648), 2147483647)])
def KK1 (P : sgPm) : sgK := .inl (1, [.inr (.inl (false, 13)), .inr (.inl (false, 14)), .inl (0, 12)])
def KK2 (P : sgPm) : sgK := .inl (2, [.inr (.inl (false, 8)), .inr (.inl (false, 15)), .inr (.inl (false, 16)), .inr (.inl (false, 17)), bif P.2.1 then .inr (.inl (false, 18)) else .inr (.inl (true, 999)), bif P.2.2.1 then .inr (.inl (false, 19)) else .inr (.inl (true, 999)), .inl (0, 30), .inl ((-2147483648), 2147483647), .inl (0, 1), .inl (0, 1)])
def KK3 (P : sgPm) : sgK := .inl (3, [.inr (.inl (false, 20)), .inl (0, 16), .inl ((-2147483648), 2147483647)])
def KK4 (P : sgPm) : sgK := .inl (4, [.inr (.inl (false, 21)), .inr (.inl (false, 22)), .inr (.inl (false, 23)), .inr (.inl (false, 24)), .inr (.inl (false, 25)), .inl (0, 30), .inl ((-2147483648), 2147483647), .inl ((-2147483648), 2147483647), .inl ((-2147483648), 2147483647), .inl (0, 1073741823), .inl ((-2147483648), 2147483647), .inl (0, 1), .inl (0, 1), .inl ((-2147483648), 2147483647), .inl ((-2147483648), 2147483647)])
def KK5 (P : sgPm) : sgK := .inl (5, [.inr (.inl (false, 26)), .inr (.inl (false, 27)), .inr (.inl (false, 9)), .inr (.inl (false, 28)), .inl ((-2147483648), 2147483647), .inl (0, 39), .inl ((-2147483648), 2147483647), .inl (0, 99), .inl (0, 1), .inl ((-2147483648), 2147483647), .inl (0, 99)])
def KK6 (P : sgPm) : sgK := .inl (6, [.inr (.inl (false, 29)), .inr (.inl (false, 30)), .inr (.inl (false, 31)), .inr (.inl (false, 32)), .inl (0, 240), .inl (0, 64), .inl (0, 1)])
def KK7 (P : sgPm) : sgK := .inl (7, [.inr (.inl (false, 8)), .inr (.inl (false, 33)), .inr (.inl (false, 34)), .inr (.inl (false, 35)), .inr (.inl (false, 3)), .inl ((-2147483648), 2147483647), .inl ((-2147483648), 2147483647), .inl ((-2147483648), 2147483647), .inl ((-2147483648), 2147483647)])
def KK8 (P : sgPm) : sgK := .inl (8, [.inr (.inl (false, 4)), bif P.1 then .inr (.inl (false, 6)) else .inr (.inl (true, 999)), .inr (.inl (false, 36)), .inr (.inl (false, 37)), .inr (.inl (false, 38)), .inr (.inl (false, 39)), .inr (.inl (false, 40)), .inr (.inl (false, 41)), .inl (0, 270)])
def KK9 (P : sgPm) : sgK := .inl (9, [.inl (0, 1073741823), .inl ((-2147483648), 2147483647), .inl ((-2147483648), 2147483647), .inl ((-2147483648), 2147483647), .inl ((-2147483648), 2147483647), .inl ((-2147483648), 2147483647), .inl ((-2147483648), 2147483647), .inl (0, 1)])
def KK10 (P : sgPm) : sgK := .inl (10, [.inr (.inl (false, 42)), .inl (sgC240 (sgL1 P), sgC240 (sgL1 P)), .inl (0, 240), .inl ((-2147483648), 2147483647)])
def KK11 (P : sgPm) : sgK := .inl (11, [.inr (.inl (false, 10)), .inr (.inl (false, 43)), .inr (.inl (false, 44)), .inr (.inl (false, 9)), .inr (.inl (false, 5)), .inr (.inl (false, 8)), .inr (.inl (false, 7)), .inr (.inl (false, 0)), .inr (.inl (false, 2)), .inr (.inl (false, 1)), .inr (.inl (false, 4)), .inr (.inl (false, 4)), .inl ((P.2.2.2.2.2.2.1.val : Int), (P.2.2.2.2.2.2.1.val : Int)), .inl ((P.2.2.2.2.2.2.2.1.val : Int), (P.2.2.2.2.2.2.2.1.val : Int)), .inl ((-2147483648), 2147483647), .inl (P.2.2.2.1, P.2.2.2.1), .inr (.inr false)])
def KK12 (P : sgPm) : sgK := .inl (12, [.inl ((-2147483648), 2147483647), .inr (.inl (false, 45)), .inr (.inl (false, 46)), .inr (.inl (false, 47)), .inr (.inl (false, 48)), .inr (.inr true), .inl (sgC240 (sgL2 P), sgC240 (sgL2 P)), .inl ((P.2.2.2.2.2.2.2.2.1.val : Int), (P.2.2.2.2.2.2.2.2.1.val : Int)), .inl ((-2147483648), 2147483647), .inl (0, 240), .inl ((-2147483648), 2147483647), .inl ((-1), 241), .inl (0, 6), .inl ((-2147483648), 2147483647), .inl ((-2147483648), 2147483647), .inr (.inr true), .inr (.inr true), .inl (0, 1), .inr (.inl (false, 49)), .inr (.inl (false, 50)), .inr (.inl (false, 51)), .inr (.inl (false, 52)), .inr (.inl (false, 53)), .inl (sgC1 P, sgC1 P), .inl ((-2147483648), 2147483647), .inl ((-2147483648), 2147483647), .inl ((-2147483648), 2147483647), .inl ((-2147483648), 2147483647), .inl ((-2147483648), 2147483647), .inl ((P.2.2.2.2.2.2.2.2.2.1.val : Int), (P.2.2.2.2.2.2.2.2.2.1.val : Int)), .inl (0, 1), .inl (0, 1), .inr (.inl (false, 54)), .inr (.inl (false, 55)), .inl ((-1), 3), .inl (P.2.2.2.2.2.1, P.2.2.2.2.2.1), .inr (.inl (false, 56)), .inr (.inl (false, 57)), .inr (.inl (false, 58)), .inl (0, 40), .inr (.inr false), .inr (.inl (false, 59)), .inl ((-2147483648), 2147483647), .inl ((-2147483648), 2147483647), .inr (.inl (false, 60)), .inr (.inl (false, 61)), .inr (.inl (false, 62)), .inl (0, 12), .inr (.inl (false, 63)), .inr (.inl (false, 64)), .inl (0, 12), .inr (.inl (false, 65)), .inl (0, 1)])
def KK13 (P : sgPm) : sgK := .inr (12, .int, fun _ => .inl ((-2147483648), 2147483647))
def KK14 (P : sgPm) : sgK := .inr (12, .boolean, fun _ => .inl (0, 1))
def KK15 (P : sgPm) : sgK := .inr (30, .int, fun _ => .inl (0, 1073741823))
def KK16 (P : sgPm) : sgK := .inr (30, .int, sg_plc (sgPl P))
def KK17 (P : sgPm) : sgK := .inr (270, .int, fun _ => .inl ((-2147483648), 2147483647))
def KK18 (P : sgPm) : sgK := .inr (8256, .int, fun _ => .inl ((-2147483648), 2147483647))
def KK19 (P : sgPm) : sgK := .inr (4096, .int, fun _ => .inl ((-2147483648), 2147483647))
def KK20 (P : sgPm) : sgK := .inr (16, .int, fun _ => .inl ((-2147483648), 2147483647))
def KK21 (P : sgPm) : sgK := .inr (7, .int, fun i => if i = 0 then .inl (0, 6) else if i = 1 then .inl (0, 5) else if i = 2 then .inl (0, 5) else if i = 3 then .inl (0, 5) else if i = 6 then .inl (0, 1) else .inl (0, 8))
def KK22 (P : sgPm) : sgK := .inr (30, .int, fun _ => .inl ((-2147483648), 2147483647))
def KK23 (P : sgPm) : sgK := .inr (4, .int, fun _ => .inl ((-2147483648), 2147483647))
def KK24 (P : sgPm) : sgK := .inr (4, .int, fun _ => .inl ((-2147483648), 2147483647))
def KK25 (P : sgPm) : sgK := .inr (4, .int, fun _ => .inl ((-2147483648), 2147483647))
def KK26 (P : sgPm) : sgK := .inr (40, .object RX9, fun _ => .inr (.inl (false, 9)))
def KK27 (P : sgPm) : sgK := .inr (100, .int, fun _ => .inl ((-2147483648), 2147483647))
def KK28 (P : sgPm) : sgK := .inr (100, .int, fun _ => .inl ((-2147483648), 2147483647))
def KK29 (P : sgPm) : sgK := .inr (240, .int, fun _ => .inl ((-2147483648), 2147483647))
def KK30 (P : sgPm) : sgK := .inr (32, .int, fun _ => .inl ((-2147483648), 2147483647))
def KK31 (P : sgPm) : sgK := .inr (65, .int, fun _ => .inl (0, 240))
def KK32 (P : sgPm) : sgK := .inr (64, .int, fun _ => .inl (0, 240))
def KK33 (P : sgPm) : sgK := .inr (4, .object RX9, fun _ => .inr (.inl (false, 9)))
def KK34 (P : sgPm) : sgK := .inr (17, .int, fun _ => .inl ((-2147483648), 2147483647))
def KK35 (P : sgPm) : sgK := .inr (17, .int, fun _ => .inl ((-2147483648), 2147483647))
def KK36 (P : sgPm) : sgK := .inr (4, .int, fun _ => .inl ((-2147483648), 2147483647))
def KK37 (P : sgPm) : sgK := .inr (1116, .int, fun _ => .inl ((-2147483648), 2147483647))
def KK38 (P : sgPm) : sgK := .inr (1116, .int, fun _ => .inl ((-2147483648), 2147483647))
def KK39 (P : sgPm) : sgK := .inr (6, .int, fun _ => .inl ((-2147483648), 2147483647))
def KK40 (P : sgPm) : sgK := .inr (270, .int, fun _ => .inl ((-2147483648), 2147483647))
def KK41 (P : sgPm) : sgK := .inr (270, .int, fun _ => .inl ((-2147483648), 2147483647))
def KK42 (P : sgPm) : sgK := .inr (240, .int, sg_tp (sgT1 P))
def KK43 (P : sgPm) : sgK := .inr (5, .object RX6, fun _ => .inr (.inl (false, 6)))
def KK44 (P : sgPm) : sgK := .inr (5, .object RX3, fun _ => .inr (.inl (false, 3)))
def KK45 (P : sgPm) : sgK := .inr (240, .byte, sg_tp (sgT2 P))
def KK46 (P : sgPm) : sgK := .inr (960, .byte, fun _ => .inl ((-2147483648), 2147483647))
def KK47 (P : sgPm) : sgK := .inr (4, .int, fun _ => .inl (0, 240))
def KK48 (P : sgPm) : sgK := .inr (128, .int, fun _ => .inl (0, 2147483647))
def KK49 (P : sgPm) : sgK := .inr (7, .int, sg_ru P.2.2.2.2.1 (sgRw P))
def KK50 (P : sgPm) : sgK := .inr (7, .int, sg_rr 0)
def KK51 (P : sgPm) : sgK := .inr (1, .int, fun _ => .inl ((-2147483648), 2147483647))
def KK52 (P : sgPm) : sgK := .inr (320, .int, sg_ga (sgG0 P))
def KK53 (P : sgPm) : sgK := .inr (5, .int, sg_gl (sgGl P))
def KK54 (P : sgPm) : sgK := .inr (249, .int, sg_nw (sgN P) (sgPin P))
def KK55 (P : sgPm) : sgK := .inr (249, .int, sg_now (sgN P))
def KK56 (P : sgPm) : sgK := .inr (8191, .long, fun _ => .inr (.inr false))
def KK57 (P : sgPm) : sgK := .inr (8191, .int, fun _ => .inl ((-2147483648), 2147483647))
def KK58 (P : sgPm) : sgK := .inr (9960, .int, fun i => sg_now (sgN P) (i % 249))
def KK59 (P : sgPm) : sgK := .inr (3, .int, fun _ => .inl ((-2147483648), 2147483647))
def KK60 (P : sgPm) : sgK := .inr (12, .int, fun _ => .inl ((-2147483648), 2147483647))
def KK61 (P : sgPm) : sgK := .inr (4096, .int, sg_sum)
def KK62 (P : sgPm) : sgK := .inr (4096, .int, fun _ => .inl ((-2147483648), 2147483647))
def KK63 (P : sgPm) : sgK := .inr (12, .int, fun _ => .inl ((-2147483648), 2147483647))
def KK64 (P : sgPm) : sgK := .inr (12, .boolean, fun _ => .inl (0, 1))
def KK65 (P : sgPm) : sgK := .inr (249, .int, sg_now (sgN P))
def KK66 (P : sgPm) : sgK := .inr (1, .long, fun _ => .inr (.inr false))
def KK67 (P : sgPm) : sgK := .inr (0, .int, sgGm P)
def KK10w (P : sgPm) : sgK := .inl (10, [.inr (.inl (false, 42)), .inl (sgC240 (sgL1 P), sgC240 (sgL1 P)), .inl (0, 241), .inl ((-2147483648), 2147483647)])
def KK12r (b : Bool) (d lo hi f : Int) (P : sgPm) : sgK := .inl (12, [.inl ((-2147483648), 2147483647), .inr (.inl (false, 45)), .inr (.inl (false, 46)), .inr (.inl (false, 47)), .inr (.inl (false, 48)), bif b then .inr (.inl (false, 46)) else .inr (.inl (false, 45)), .inl (sgC240 (sgL2 P), sgC240 (sgL2 P)), .inl ((P.2.2.2.2.2.2.2.2.1.val : Int), (P.2.2.2.2.2.2.2.2.1.val : Int)), .inl (0, bif b then 720 else 0), .inl (0, 240), .inl (lo, hi), .inl (f, 241), .inl (d, 6), .inl ((-2147483648), 2147483647), .inl ((-2147483648), 2147483647), .inr (.inr true), .inr (.inr true), .inl (0, 1), .inr (.inl (false, 49)), .inr (.inl (false, 50)), .inr (.inl (false, 51)), .inr (.inl (false, 52)), .inr (.inl (false, 53)), .inl (sgC1 P, sgC1 P), .inl ((-2147483648), 2147483647), .inl ((-2147483648), 2147483647), .inl ((-2147483648), 2147483647), .inl ((-2147483648), 2147483647), .inl ((-2147483648), 2147483647), .inl ((P.2.2.2.2.2.2.2.2.2.1.val : Int), (P.2.2.2.2.2.2.2.2.2.1.val : Int)), .inl (0, 1), .inl (0, 1), .inr (.inl (false, 54)), .inr (.inl (false, 55)), .inl ((-1), 3), .inl (P.2.2.2.2.2.1, P.2.2.2.2.2.1), .inr (.inl (false, 56)), .inr (.inl (false, 57)), .inr (.inl (false, 58)), .inl (0, 40), .inr (.inr false), .inr (.inl (false, 59)), .inl ((-2147483648), 2147483647), .inl ((-2147483648), 2147483647), .inr (.inl (false, 60)), .inr (.inl (false, 61)), .inr (.inl (false, 62)), .inl (0, 12), .inr (.inl (false, 63)), .inr (.inl (false, 64)), .inl (0, 12), .inr (.inl (false, 65)), .inl (0, 1)])
def KK50r (m : Int) (P : sgPm) : sgK := .inr (7, .int, sg_rr m)
def KK12s (b : Bool) (P : sgPm) : sgK := .inl (12, [.inl ((-2147483648), 2147483647), .inr (.inl (false, 45)), .inr (.inl (false, 46)), .inr (.inl (false, 47)), .inr (.inl (false, 48)), bif b then .inr (.inl (false, 46)) else .inr (.inl (false, 45)), .inl (sgC240 (sgL2 P), sgC240 (sgL2 P)), .inl ((P.2.2.2.2.2.2.2.2.1.val : Int), (P.2.2.2.2.2.2.2.2.1.val : Int)), .inl ((-2147483648), 2147483647), .inl (0, 240), .inl ((-2147483648), 2147483647), .inl ((-1), 241), .inl (0, 6), .inl ((-2147483648), 2147483647), .inl ((-2147483648), 2147483647), .inr (.inr true), .inr (.inr true), .inl (0, 1), .inr (.inl (false, 49)), .inr (.inl (false, 50)), .inr (.inl (false, 51)), .inr (.inl (false, 52)), .inr (.inl (false, 53)), .inl (sgC1 P, sgC1 P), .inl ((-2147483648), 2147483647), .inl ((-2147483648), 2147483647), .inl ((-2147483648), 2147483647), .inl ((-2147483648), 2147483647), .inl ((-2147483648), 2147483647), .inl ((P.2.2.2.2.2.2.2.2.2.1.val : Int), (P.2.2.2.2.2.2.2.2.2.1.val : Int)), .inl (0, 1), .inl (0, 1), .inr (.inl (false, 54)), .inr (.inl (false, 55)), .inl ((-1), 3), .inl (P.2.2.2.2.2.1, P.2.2.2.2.2.1), .inr (.inl (false, 56)), .inr (.inl (false, 57)), .inr (.inl (false, 58)), .inl (0, 40), .inr (.inr false), .inr (.inl (false, 59)), .inl ((-2147483648), 2147483647), .inl ((-2147483648), 2147483647), .inr (.inl (false, 60)), .inr (.inl (false, 61)), .inr (.inl (false, 62)), .inl (0, 12), .inr (.inl (false, 63)), .inr (.inl (false, 64)), .inl (0, 12), .inr (.inl (false, 65)), .inl (0, 1)])
def KK12t (b : Bool) (P : sgPm) : sgK := .inl (12, [.inl ((-2147483648), 2147483647), .inr (.inl (false, 45)), .inr (.inl (false, 46)), .inr (.inl (false, 47)), .inr (.inl (false, 48)), bif b then .inr (.inl (false, 46)) else .inr (.inl (false, 45)), .inl (sgC240 (sgL2 P), sgC240 (sgL2 P)), .inl ((P.2.2.2.2.2.2.2.2.1.val : Int), (P.2.2.2.2.2.2.2.2.1.val : Int)), .inl (0, bif b then 720 else 0), .inl (0, 240), .inl ((-2147483648), 2147483647), .inl ((-1), 241), .inl (0, 6), .inl ((-2147483648), 2147483647), .inl ((-2147483648), 2147483647), .inr (.inr true), .inr (.inr true), .inl (0, 1), .inr (.inl (false, 49)), .inr (.inl (false, 50)), .inr (.inl (false, 51)), .inr (.inl (false, 52)), .inr (.inl (false, 53)), .inl (sgC1 P, sgC1 P), .inl ((-2147483648), 2147483647), .inl ((-2147483648), 2147483647), .inl ((-2147483648), 2147483647), .inl ((-2147483648), 2147483647), .inl ((-2147483648), 2147483647), .inl ((P.2.2.2.2.2.2.2.2.2.1.val : Int), (P.2.2.2.2.2.2.2.2.2.1.val : Int)), .inl (0, 1), .inl (0, 1), .inr (.inl (false, 54)), .inr (.inl (false, 55)), .inl ((-1), 3), .inl (P.2.2.2.2.2.1, P.2.2.2.2.2.1), .inr (.inl (false, 56)), .inr (.inl (false, 57)), .inr (.inl (false, 58)), .inl (0, 40), .inr (.inr false), .inr (.inl (false, 59)), .inl ((-2147483648), 2147483647), .inl ((-2147483648), 2147483647), .inr (.inl (false, 60)), .inr (.inl (false, 61)), .inr (.inl (false, 62)), .inl (0, 12), .inr (.inl (false, 63)), .inr (.inl (false, 64)), .inl (0, 12), .inr (.inl (false, 65)), .inl (0, 1)])
def KK12l (P : sgPm) : sgK := .inl (12, [.inl ((-2147483648), 2147483647), .inr (.inl (false, 45)), .inr (.inl (false, 46)), .inr (.inl (false, 47)), .inr (.inl (false, 48)), .inr (.inr true), .inl (sgC240 (sgL2 P), sgC240 (sgL2 P)), .inl ((P.2.2.2.2.2.2.2.2.1.val : Int), (P.2.2.2.2.2.2.2.2.1.val : Int)), .inl ((-2147483648), 2147483647), .inl (0, 240), .inl ((-2147483648), 2147483647), .inl ((-1), 241), .inl (0, 6), .inl ((-2147483648), 2147483647), .inl ((-2147483648), 2147483647), .inr (.inr true), .inr (.inr true), .inl (0, 1), .inr (.inl (false, 49)), .inr (.inl (false, 50)), .inr (.inl (false, 51)), .inr (.inl (false, 52)), .inr (.inl (false, 53)), .inl (sgC1 P, sgC1 P), .inl ((-2147483648), 2147483647), .inl ((-2147483648), 2147483647), .inl ((-2147483648), 2147483647), .inl ((-2147483648), 2147483647), .inl ((-2147483648), 2147483647), .inl ((P.2.2.2.2.2.2.2.2.2.1.val : Int), (P.2.2.2.2.2.2.2.2.2.1.val : Int)), .inl (0, 1), .inl (0, 1), .inr (.inl (false, 54)), .inr (.inl (false, 55)), .inl (0, 3), .inl (P.2.2.2.2.2.1, P.2.2.2.2.2.1), .inr (.inl (false, 56)), .inr (.inl (false, 57)), .inr (.inl (false, 58)), .inl (0, 40), .inr (.inr false), .inr (.inl (false, 59)), .inl ((-2147483648), 2147483647), .inl ((-2147483648), 2147483647), .inr (.inl (false, 60)), .inr (.inl (false, 61)), .inr (.inl (false, 62)), .inl (0, 12), .inr (.inl (false, 63)), .inr (.inl (false, 64)), .inl (0, 12), .inr (.inl (false, 65)), .inl (0, 1)])
def KTw (P : sgPm) : List sgK := [KK0 P, KK1 P, KK2 P, KK3 P, KK4 P, KK5 P, KK6 P, KK7 P, KK8 P, KK9 P, KK10w P, KK11 P, KK12 P, KK13 P, KK14 P, KK15 P, KK16 P, KK17 P, KK18 P, KK19 P, KK20 P, KK21 P, KK22 P, KK23 P, KK24 P, KK25 P, KK26 P, KK27 P, KK28 P, KK29 P, KK30 P, KK31 P, KK32 P, KK33 P, KK34 P, KK35 P, KK36 P, KK37 P, KK38 P, KK39 P, KK40 P, KK41 P, KK42 P, KK43 P, KK44 P, KK45 P, KK46 P, KK47 P, KK48 P, KK49 P, KK50 P, KK51 P, KK52 P, KK53 P, KK54 P, KK55 P, KK56 P, KK57 P, KK58 P, KK59 P, KK60 P, KK61 P, KK62 P, KK63 P, KK64 P, KK65 P, KK66 P, KK67 P]
def KT (P : sgPm) : List sgK := [KK0 P, KK1 P, KK2 P, KK3 P, KK4 P, KK5 P, KK6 P, KK7 P, KK8 P, KK9 P, KK10 P, KK11 P, KK12 P, KK13 P, KK14 P, KK15 P, KK16 P, KK17 P, KK18 P, KK19 P, KK20 P, KK21 P, KK22 P, KK23 P, KK24 P, KK25 P, KK26 P, KK27 P, KK28 P, KK29 P, KK30 P, KK31 P, KK32 P, KK33 P, KK34 P, KK35 P, KK36 P, KK37 P, KK38 P, KK39 P, KK40 P, KK41 P, KK42 P, KK43 P, KK44 P, KK45 P, KK46 P, KK47 P, KK48 P, KK49 P, KK50 P, KK51 P, KK52 P, KK53 P, KK54 P, KK55 P, KK56 P, KK57 P, KK58 P, KK59 P, KK60 P, KK61 P, KK62 P, KK63 P, KK64 P, KK65 P, KK66 P, KK67 P]
def KR (b : Bool) (d lo hi m f : Int) (P : sgPm) : List sgK := [KK0 P, KK1 P, KK2 P, KK3 P, KK4 P, KK5 P, KK6 P, KK7 P, KK8 P, KK9 P, KK10 P, KK11 P, KK12r b d lo hi f P, KK13 P, KK14 P, KK15 P, KK16 P, KK17 P, KK18 P, KK19 P, KK20 P, KK21 P, KK22 P, KK23 P, KK24 P, KK25 P, KK26 P, KK27 P, KK28 P, KK29 P, KK30 P, KK31 P, KK32 P, KK33 P, KK34 P, KK35 P, KK36 P, KK37 P, KK38 P, KK39 P, KK40 P, KK41 P, KK42 P, KK43 P, KK44 P, KK45 P, KK46 P, KK47 P, KK48 P, KK49 P, KK50r m P, KK51 P, KK52 P, KK53 P, KK54 P, KK55 P, KK56 P, KK57 P, KK58 P, KK59 P, KK60 P, KK61 P, KK62 P, KK63 P, KK64 P, KK65 P, KK66 P, KK67 P]
def KM (m : Int) (P : sgPm) : List sgK := [KK0 P, KK1 P, KK2 P, KK3 P, KK4 P, KK5 P, KK6 P, KK7 P, KK8 P, KK9 P, KK10 P, KK11 P, KK12 P, KK13 P, KK14 P, KK15 P, KK16 P, KK17 P, KK18 P, KK19 P, KK20 P, KK21 P, KK22 P, KK23 P, KK24 P, KK25 P, KK26 P, KK27 P, KK28 P, KK29 P, KK30 P, KK31 P, KK32 P, KK33 P, KK34 P, KK35 P, KK36 P, KK37 P, KK38 P, KK39 P, KK40 P, KK41 P, KK42 P, KK43 P, KK44 P, KK45 P, KK46 P, KK47 P, KK48 P, KK49 P, KK50r m P, KK51 P, KK52 P, KK53 P, KK54 P, KK55 P, KK56 P, KK57 P, KK58 P, KK59 P, KK60 P, KK61 P, KK62 P, KK63 P, KK64 P, KK65 P, KK66 P, KK67 P]
def KS (b : Bool) (P : sgPm) : List sgK := [KK0 P, KK1 P, KK2 P, KK3 P, KK4 P, KK5 P, KK6 P, KK7 P, KK8 P, KK9 P, KK10 P, KK11 P, KK12s b P, KK13 P, KK14 P, KK15 P, KK16 P, KK17 P, KK18 P, KK19 P, KK20 P, KK21 P, KK22 P, KK23 P, KK24 P, KK25 P, KK26 P, KK27 P, KK28 P, KK29 P, KK30 P, KK31 P, KK32 P, KK33 P, KK34 P, KK35 P, KK36 P, KK37 P, KK38 P, KK39 P, KK40 P, KK41 P, KK42 P, KK43 P, KK44 P, KK45 P, KK46 P, KK47 P, KK48 P, KK49 P, KK50 P, KK51 P, KK52 P, KK53 P, KK54 P, KK55 P, KK56 P, KK57 P, KK58 P, KK59 P, KK60 P, KK61 P, KK62 P, KK63 P, KK64 P, KK65 P, KK66 P, KK67 P]
def KU (b : Bool) (P : sgPm) : List sgK := [KK0 P, KK1 P, KK2 P, KK3 P, KK4 P, KK5 P, KK6 P, KK7 P, KK8 P, KK9 P, KK10 P, KK11 P, KK12t b P, KK13 P, KK14 P, KK15 P, KK16 P, KK17 P, KK18 P, KK19 P, KK20 P, KK21 P, KK22 P, KK23 P, KK24 P, KK25 P, KK26 P, KK27 P, KK28 P, KK29 P, KK30 P, KK31 P, KK32 P, KK33 P, KK34 P, KK35 P, KK36 P, KK37 P, KK38 P, KK39 P, KK40 P, KK41 P, KK42 P, KK43 P, KK44 P, KK45 P, KK46 P, KK47 P, KK48 P, KK49 P, KK50 P, KK51 P, KK52 P, KK53 P, KK54 P, KK55 P, KK56 P, KK57 P, KK58 P, KK59 P, KK60 P, KK61 P, KK62 P, KK63 P, KK64 P, KK65 P, KK66 P, KK67 P]
def KL (P : sgPm) : List sgK := [KK0 P, KK1 P, KK2 P, KK3 P, KK4 P, KK5 P, KK6 P, KK7 P, KK8 P, KK9 P, KK10 P, KK11 P, KK12l P, KK13 P, KK14 P, KK15 P, KK16 P, KK17 P, KK18 P, KK19 P, KK20 P, KK21 P, KK22 P, KK23 P, KK24 P, KK25 P, KK26 P, KK27 P, KK28 P, KK29 P, KK30 P, KK31 P, KK32 P, KK33 P, KK34 P, KK35 P, KK36 P, KK37 P, KK38 P, KK39 P, KK40 P, KK41 P, KK42 P, KK43 P, KK44 P, KK45 P, KK46 P, KK47 P, KK48 P, KK49 P, KK50 P, KK51 P, KK52 P, KK53 P, KK54 P, KK55 P, KK56 P, KK57 P, KK58 P, KK59 P, KK60 P, KK61 P, KK62 P, KK63 P, KK64 P, KK65 P, KK66 P, KK67 P]
theorem sgC240_iv {v : Int} {x : Int32} (h : iv (sgC240 v) (sgC240 v) x) : iv 0 240 x := by
  obtain ⟨h1, h2⟩ := h
  unfold sgC240 at h1 h2
  exact ⟨by omega, by omega⟩
theorem sgC240_of {x : Int32} (h : iv 0 240 x) : iv (sgC240 x.toInt) (sgC240 x.toInt) x := by
  obtain ⟨h1, h2⟩ := h
  unfold sgC240
  exact ⟨by omega, by omega⟩
theorem sg_null {kt : List sgK} {D : va_G} {cl : List vw_C} {A : Nat → Prop} {tys : List (ClassId × FieldType)} {ad ks : List Nat} {H : Heap} {v : Value} (h9 : kt[999]? = none) (hG : sgG kt D cl A tys ad ks H) (h : okV ad ks (.inr (.inl (true, 999))) v) : v = .null := by
  rcases h with ⟨-, h⟩ | ⟨a, -, ha⟩
  · exact h
  · obtain ⟨ws, hP, hD, hT, hU⟩ := hG
    obtain ⟨j, e, K, h1, h2, h3, -⟩ := ha.in hT
    rw [h9] at h3
    cases h3
theorem sg_wide {P : sgPm} {D : va_G} {A : Nat → Prop} {tys : List (ClassId × FieldType)} {ad ks : List Nat} {H : Heap} (hG : sgG (KT P) D vwCl A tys ad ks H) : sgG (KTw P) D vwCl A tys ad ks H := by
  refine sg_kinds hG rfl fun k K e hk he => ?_
  by_cases h10 : k = 10
  · subst h10
    cases hk
    refine ⟨KK10w P, rfl, ?_⟩
    cases e with
    | inl z => exact he.elim
    | inr q =>
      obtain ⟨h1, h2, h3⟩ := he
      refine ⟨h1, h2, fun j t v ht hv => ?_⟩
      match j, ht with
      | 0, ht => exact h3 0 t v ht hv
      | 1, ht => exact h3 1 t v ht hv
      | 2, ht =>
        cases ht
        obtain ⟨x, rfl, hx⟩ := h3 2 _ v rfl hv
        exact ⟨x, rfl, iv_of hx (by decide +kernel)⟩
      | 3, ht => exact h3 3 t v ht hv
      | j + 4, ht => cases ht
  · refine ⟨K, ?_, he⟩
    rw [← hk]
    match k, h10 with
    | 0, h => rfl
    | 1, h => rfl
    | 2, h => rfl
    | 3, h => rfl
    | 4, h => rfl
    | 5, h => rfl
    | 6, h => rfl
    | 7, h => rfl
    | 8, h => rfl
    | 9, h => rfl
    | 10, h => exact absurd rfl h
    | 11, h => rfl
    | 12, h => rfl
    | 13, h => rfl
    | 14, h => rfl
    | 15, h => rfl
    | 16, h => rfl
    | 17, h => rfl
    | 18, h => rfl
    | 19, h => rfl
    | 20, h => rfl
    | 21, h => rfl
    | 22, h => rfl
    | 23, h => rfl
    | 24, h => rfl
    | 25, h => rfl
    | 26, h => rfl
    | 27, h => rfl
    | 28, h => rfl
    | 29, h => rfl
    | 30, h => rfl
    | 31, h => rfl
    | 32, h => rfl
    | 33, h => rfl
    | 34, h => rfl
    | 35, h => rfl
    | 36, h => rfl
    | 37, h => rfl
    | 38, h => rfl
    | 39, h => rfl
    | 40, h => rfl
    | 41, h => rfl
    | 42, h => rfl
    | 43, h => rfl
    | 44, h => rfl
    | k + 45, h => rfl
theorem sg_ruleok {ad ks : List Nat} {i x lo hi : Int32} (hi0 : iv 0 6 i) (e1 : lo = ([1, 1, 2, 1, 0, 0, 0] : List Int32).getD i.toNatClampNeg 0) (e2 : hi = ([6, 5, 5, 5, 8, 8, 1] : List Int32).getD i.toNatClampNeg 0) (h : x = -1 ∨ (lo ≤ x ∧ x ≤ hi)) (hn : ¬ x = -1) : okV ad ks ((fun i => if i = 0 then .inl (0, 6) else if i = 1 then .inl (0, 5) else if i = 2 then .inl (0, 5) else if i = 3 then .inl (0, 5) else if i = 6 then .inl (0, 1) else .inl (0, 8) : Nat → sgT) i.toNatClampNeg) (.int x) := by
  obtain ⟨h1, h2⟩ := h.resolve_left hn
  have hc := iv_clamp hi0 (by decide +kernel)
  obtain ⟨b1, b2⟩ := hi0
  rcases (show i.toNatClampNeg = 0 ∨ i.toNatClampNeg = 1 ∨ i.toNatClampNeg = 2 ∨ i.toNatClampNeg = 3 ∨ i.toNatClampNeg = 4 ∨ i.toNatClampNeg = 5 ∨ i.toNatClampNeg = 6 by omega) with q | q | q | q | q | q | q <;> rw [q] at e1 e2 ⊢
  · have e1 : lo = 1 := e1
    have e2 : hi = 6 := e2
    subst e1; subst e2
    have g1 := Int32.le_iff_toInt_le.mp h1
    have g2 := Int32.le_iff_toInt_le.mp h2
    exact ⟨x, rfl, iv_of (a := 1) (b := 6) ⟨g1, g2⟩ (by decide +kernel)⟩
  · have e1 : lo = 1 := e1
    have e2 : hi = 5 := e2
    subst e1; subst e2
    have g1 := Int32.le_iff_toInt_le.mp h1
    have g2 := Int32.le_iff_toInt_le.mp h2
    exact ⟨x, rfl, iv_of (a := 1) (b := 5) ⟨g1, g2⟩ (by decide +kernel)⟩
  · have e1 : lo = 2 := e1
    have e2 : hi = 5 := e2
    subst e1; subst e2
    have g1 := Int32.le_iff_toInt_le.mp h1
    have g2 := Int32.le_iff_toInt_le.mp h2
    exact ⟨x, rfl, iv_of (a := 2) (b := 5) ⟨g1, g2⟩ (by decide +kernel)⟩
  · have e1 : lo = 1 := e1
    have e2 : hi = 5 := e2
    subst e1; subst e2
    have g1 := Int32.le_iff_toInt_le.mp h1
    have g2 := Int32.le_iff_toInt_le.mp h2
    exact ⟨x, rfl, iv_of (a := 1) (b := 5) ⟨g1, g2⟩ (by decide +kernel)⟩
  · have e1 : lo = 0 := e1
    have e2 : hi = 8 := e2
    subst e1; subst e2
    have g1 := Int32.le_iff_toInt_le.mp h1
    have g2 := Int32.le_iff_toInt_le.mp h2
    exact ⟨x, rfl, iv_of (a := 0) (b := 8) ⟨g1, g2⟩ (by decide +kernel)⟩
  · have e1 : lo = 0 := e1
    have e2 : hi = 8 := e2
    subst e1; subst e2
    have g1 := Int32.le_iff_toInt_le.mp h1
    have g2 := Int32.le_iff_toInt_le.mp h2
    exact ⟨x, rfl, iv_of (a := 0) (b := 8) ⟨g1, g2⟩ (by decide +kernel)⟩
  · have e1 : lo = 0 := e1
    have e2 : hi = 1 := e2
    subst e1; subst e2
    have g1 := Int32.le_iff_toInt_le.mp h1
    have g2 := Int32.le_iff_toInt_le.mp h2
    exact ⟨x, rfl, iv_of (a := 0) (b := 1) ⟨g1, g2⟩ (by decide +kernel)⟩
theorem sg_usual {ad ks : List Nat} : ∀ j : Nat, j < 7 → okV ad ks ((fun i => if i = 0 then .inl (0, 6) else if i = 1 then .inl (0, 5) else if i = 2 then .inl (0, 5) else if i = 3 then .inl (0, 5) else if i = 6 then .inl (0, 1) else .inl (0, 8) : Nat → sgT) j) (.int (([5, 4, 3, 2, 0, 8, 0] : List Int32).getD j 0)) := by
  intro j hj
  match j, hj with
  | 0, _ => exact ⟨5, rfl, iv_c _ (by decide +kernel)⟩
  | 1, _ => exact ⟨4, rfl, iv_c _ (by decide +kernel)⟩
  | 2, _ => exact ⟨3, rfl, iv_c _ (by decide +kernel)⟩
  | 3, _ => exact ⟨2, rfl, iv_c _ (by decide +kernel)⟩
  | 4, _ => exact ⟨0, rfl, iv_c _ (by decide +kernel)⟩
  | 5, _ => exact ⟨8, rfl, iv_c _ (by decide +kernel)⟩
  | 6, _ => exact ⟨0, rfl, iv_c _ (by decide +kernel)⟩
  | j + 7, hj => exact absurd hj (by omega)
theorem sg_rl_le {j : Nat} {q : Int × Int} (h : sg_rl j = .inl q) : q.1 ≤ q.2 := by
  unfold sg_rl at h
  repeat' split at h
  all_goals (cases h; decide)
theorem sg_ru_rl {f : Nat → Int} {ad ks : List Nat} {j : Nat} {v : Value} (h : okV ad ks (sg_ru true f j) v) : okV ad ks (sg_rl j) v := by
  have h : okV ad ks (match sg_rl j with | .inl q => .inl (max q.1 (min (f j) q.2), max q.1 (min (f j) q.2)) | t => t) v := h
  cases hr : sg_rl j with
  | inr t =>
    rw [hr] at h
    exact h
  | inl q =>
    rw [hr] at h
    have hq := sg_rl_le hr
    obtain ⟨x, rfl, h1, h2⟩ := h
    dsimp only at h1 h2
    exact ⟨x, rfl, by omega, by omega⟩
theorem sg_r0 {ad ks : List Nat} {w : Nat → Int} {x i : Int32} {b : Bool} (hb : b = false) (h : okV ad ks (sg_ru b w i.toNatClampNeg) (.int x)) : iv 0 0 x := by
  subst hb
  obtain ⟨y, h1, h2⟩ := h
  cases h1
  exact h2
theorem sg_r1 {ad ks : List Nat} {w : Nat → Int} {x i : Int32} {b : Bool} {lo hi a c : Int} (hb : b = true) (h : okV ad ks (sg_ru b w i.toNatClampNeg) (.int x)) (hi0 : iv lo hi i) (hd : decide (0 ≤ lo ∧ lo = hi) = true) (he : sg_rl lo.toNat = .inl (a, c)) : iv a c x := by
  subst hb
  obtain ⟨h1, h2⟩ := of_decide_eq_true hd
  have e : i.toNatClampNeg = lo.toNat := by
    have := hi0.1
    have := hi0.2
    show i.toInt.toNat = lo.toNat
    omega
  have h : okV ad ks (sg_rl i.toNatClampNeg) (.int x) := sg_ru_rl h
  rw [e, he] at h
  obtain ⟨y, h3, h4⟩ := h
  cases h3
  exact h4
theorem sg_r2 {ad ks : List Nat} {w : Nat → Int} {x i : Int32} {b : Bool} (hb : b = true) (h : okV ad ks (sg_ru b w i.toNatClampNeg) (.int x)) : iv 0 8 x := by
  subst hb
  have h : okV ad ks (sg_rl i.toNatClampNeg) (.int x) := sg_ru_rl h
  generalize i.toNatClampNeg = j at h
  unfold sg_rl at h
  by_cases e0 : j = 0
  · rw [if_pos e0] at h; obtain ⟨y, h1, h2⟩ := h; cases h1; exact iv_of h2 (by decide +kernel)
  rw [if_neg e0] at h
  by_cases e1 : j = 1
  · rw [if_pos e1] at h; obtain ⟨y, h1, h2⟩ := h; cases h1; exact iv_of h2 (by decide +kernel)
  rw [if_neg e1] at h
  by_cases e2 : j = 2
  · rw [if_pos e2] at h; obtain ⟨y, h1, h2⟩ := h; cases h1; exact iv_of h2 (by decide +kernel)
  rw [if_neg e2] at h
  by_cases e3 : j = 3
  · rw [if_pos e3] at h; obtain ⟨y, h1, h2⟩ := h; cases h1; exact iv_of h2 (by decide +kernel)
  rw [if_neg e3] at h
  by_cases e6 : j = 6
  · rw [if_pos e6] at h; obtain ⟨y, h1, h2⟩ := h; cases h1; exact iv_of h2 (by decide +kernel)
  rw [if_neg e6] at h
  obtain ⟨y, h1, h2⟩ := h
  cases h1
  exact iv_of h2 (by decide +kernel)
theorem sg_spa_now {N : Nat} {ad ks : List Nat} {x : Int32} {j : Nat} (h : okV ad ks (sg_now N j) (.int x)) : iv (-2147483648) 2147483647 x := iv_top x
theorem sg_cl {i : Int32} {lo hi : Int} (hi0 : iv lo hi i) (hd : decide (0 ≤ lo ∧ lo = hi) = true) : i.toNatClampNeg = lo.toNat := by
  obtain ⟨h1, h2⟩ := of_decide_eq_true hd
  have := hi0.1
  have := hi0.2
  show i.toInt.toNat = lo.toNat
  omega
theorem sg_sp_now {N : Nat} {ad ks : List Nat} {x i : Int32} {lo hi a c : Int} (h : okV ad ks (sg_now N i.toNatClampNeg) (.int x)) (hi0 : iv lo hi i) (hd : decide (0 ≤ lo ∧ lo = hi) = true) (he : sg_now N lo.toNat = .inl (a, c)) : iv a c x := by
  rw [sg_cl hi0 hd, he] at h
  obtain ⟨y, h3, h4⟩ := h
  cases h3
  exact h4
theorem sg_at_now {N : Nat} {ad ks : List Nat} {x i : Int32} {lo hi a b : Int} (hi0 : iv lo hi i) (hd : decide (0 ≤ lo ∧ lo = hi) = true) (he : sg_now N lo.toNat = .inl (a, b)) (hx : iv a b x) : okV ad ks (sg_now N i.toNatClampNeg) (.int x) := by
  rw [sg_cl hi0 hd, he]
  exact ⟨x, rfl, hx⟩
theorem sg_off_now {N : Nat} {ad ks : List Nat} {x i : Int32} {lo hi : Int} (hi0 : iv lo hi i) (hd : decide (0 ≤ lo ∧ (hi < 2 ∨ (2 < lo ∧ hi < 4) ∨ (4 < lo ∧ hi < 8) ∨ 8 < lo)) = true) : okV ad ks (sg_now N i.toNatClampNeg) (.int x) := by
  have h1 := of_decide_eq_true hd
  have e := iv_clamp hi0 (by simp; omega)
  obtain ⟨b1, b2⟩ := hi0
  unfold sg_now
  rw [if_neg (by omega), if_neg (by omega), if_neg (by omega)]
  exact ⟨x, rfl, iv_top x⟩
theorem sg_day {N : Nat} {ad ks : List Nat} {x i : Int32} (h : okV ad ks (sg_now N i.toNatClampNeg) (.int x)) (hi0 : iv 4 4 i) : iv 0 1000000000 x := by
  rw [sg_cl hi0 (by decide +kernel)] at h
  obtain ⟨y, h3, h4⟩ := h
  cases h3
  obtain ⟨h5, h6⟩ := h4
  dsimp only at h6
  exact ⟨h5, by omega⟩
theorem sg_zero_now {N : Nat} {ad ks : List Nat} {j : Nat} : okV ad ks (sg_now N j) (.int 0) := by
  unfold sg_now
  by_cases e2 : j = 2
  · rw [if_pos e2]; exact ⟨0, rfl, iv_c _ (by decide +kernel)⟩
  rw [if_neg e2]
  by_cases e4 : j = 4
  · rw [if_pos e4]
    refine ⟨0, rfl, ?_, ?_⟩
    · show (0 : Int) ≤ (0 : Int32).toInt
      decide +kernel
    show (0 : Int32).toInt ≤ ((min N 1000000000 : Nat) : Int)
    have : (0 : Int32).toInt = 0 := by decide +kernel
    omega
  rw [if_neg e4]
  by_cases e8 : j = 8
  · rw [if_pos e8]; exact ⟨0, rfl, iv_c _ (by decide +kernel)⟩
  rw [if_neg e8]
  exact ⟨0, rfl, iv_top _⟩
/-- the day is later, by as much as there is room for -/
theorem sg_dayup {N n' : Nat} {ad ks : List Nat} {x i f d : Int32} (h : okV ad ks (sg_now N i.toNatClampNeg) (.int x)) (hi0 : iv 4 4 i) {i' : Int32} (hi1 : iv 4 4 i') (hd : iv 0 1 d) (e : f = x + d) (hn : N + 1 ≤ n') (hN : n' ≤ 1000000000) : okV ad ks (sg_now n' i'.toNatClampNeg) (.int f) := by
  rw [sg_cl hi0 (by decide +kernel)] at h
  rw [sg_cl hi1 (by decide +kernel)]
  obtain ⟨y, h3, h4⟩ := h
  cases h3
  obtain ⟨h5, h6⟩ := h4
  obtain ⟨d1, d2⟩ := hd
  have h6 : x.toInt ≤ ((min N 1000000000 : Nat) : Int) := h6
  have h7 : (x + d).toInt = x.toInt + d.toInt := Jvm.Kit.i32_add (by omega) (by omega)
  rw [← e] at h7
  refine ⟨f, rfl, ?_, ?_⟩
  · show (0 : Int) ≤ _
    omega
  · show f.toInt ≤ ((min n' 1000000000 : Nat) : Int)
    omega
theorem sg_now_mono {N N' : Nat} (h : N ≤ N') {ad ks : List Nat} {v : Value} {j : Nat} (hv : okV ad ks (sg_now N j) v) : okV ad ks (sg_now N' j) v := by
  unfold sg_now at hv ⊢
  by_cases e2 : j = 2
  · rw [if_pos e2] at hv ⊢; exact hv
  rw [if_neg e2] at hv ⊢
  by_cases e4 : j = 4
  · rw [if_pos e4] at hv ⊢
    obtain ⟨x, rfl, h1, h2⟩ := hv
    dsimp only at h1 h2
    refine ⟨x, rfl, h1, ?_⟩
    dsimp only
    omega
  rw [if_neg e4] at hv ⊢
  exact hv
theorem okA_mono {ad ks : List Nat} {n : Nat} {el el' : Nat → sgT} (h : ∀ (j : Nat) (v : Value), okV ad ks (el j) v → okV ad ks (el' j) v) {z : (Nat → Int32) ⊕ (Nat → Int64) ⊕ (Nat → UInt32) ⊕ (Nat → UInt64) ⊕ (Nat → Option Nat)} (hz : okA ad ks n el z) : okA ad ks n el' z := by
  match z, hz with
  | .inl f, hz => exact fun i hi => h _ _ (hz i hi)
  | .inr (.inl f), hz => exact fun i hi => h _ _ (hz i hi)
  | .inr (.inr (.inl f)), hz => exact hz.elim
  | .inr (.inr (.inr (.inl f))), hz => exact hz.elim
  | .inr (.inr (.inr (.inr f))), hz => exact fun i hi => h _ _ (hz i hi)
theorem okE_arr {ad ks : List Nat} {tys : List (ClassId × FieldType)} {n : Nat} {ty : FieldType} {el el' : Nat → sgT} (h : ∀ (j : Nat) (v : Value), okV ad ks (el j) v → okV ad ks (el' j) v) {e : va_E} (he : okE ad ks tys (.inr (n, ty, el)) e) : okE ad ks tys (.inr (n, ty, el')) e := by
  cases e with
  | inr q => exact he.elim
  | inl q =>
    obtain ⟨h1, h2, h3, h4⟩ := he
    exact ⟨h1, h2, okA_mono h h3, h4⟩
theorem sg_nw_now {N : Nat} {pin : Option Int} {ad ks : List Nat} {j : Nat} {x : Int32} (h : okV ad ks (sg_nw N pin j) (.int x)) : okV ad ks (sg_now N j) (.int x) := by
  unfold sg_nw at h
  by_cases e : j = 0
  · subst e
    exact ⟨x, rfl, iv_top x⟩
  · rw [if_neg e] at h
    exact h
theorem sg_nw_none {N : Nat} {pin : Option Int} {ad ks : List Nat} {j : Nat} {x : Int32} (hp : pin = none) (h : okV ad ks (sg_now N j) (.int x)) : okV ad ks (sg_nw N pin j) (.int x) := by
  subst hp
  unfold sg_nw
  by_cases e : j = 0
  · rw [if_pos e]
    exact ⟨x, rfl, iv_top x⟩
  · rw [if_neg e]
    exact h
theorem sg_nw_ne {N : Nat} {pin : Option Int} {ad ks : List Nat} {j : Nat} {x : Int32} (hj : 0 ≠ j) (h : okV ad ks (sg_now N j) (.int x)) : okV ad ks (sg_nw N pin j) (.int x) := by
  unfold sg_nw
  rw [if_neg (Ne.symm hj)]
  exact h
theorem sg_nw_mono {N N' : Nat} {pin : Option Int} (h : N ≤ N') {ad ks : List Nat} {v : Value} {j : Nat} (hv : okV ad ks (sg_nw N pin j) v) : okV ad ks (sg_nw N' pin j) v := by
  unfold sg_nw at hv ⊢
  by_cases e : j = 0
  · rw [if_pos e] at hv ⊢; exact hv
  · rw [if_neg e] at hv ⊢; exact sg_now_mono h hv
theorem sg_nei0 {i : Int32} {lo hi : Int} {j : Nat} (h : iv lo hi i) (hd : decide (0 ≤ lo ∧ ((j : Int) < lo ∨ hi < (j : Int))) = true) : j ≠ i.toNatClampNeg := by
  obtain ⟨h1, h2⟩ := of_decide_eq_true hd
  obtain ⟨h3, h4⟩ := h
  show j ≠ i.toInt.toNat
  omega
theorem sg_plr {f : Nat → Nat} {ad ks : List Nat} {j : Nat} {x : Int32} (h : okV ad ks (sg_plc f j) (.int x)) : iv 0 8256 x := by
  obtain ⟨y, h1, h2, h3⟩ := h
  cases h1
  dsimp only at h2 h3
  exact ⟨h2, by omega⟩
theorem sg_glr {f : Nat → Fin 17} {ad ks : List Nat} {j : Nat} {x : Int32} (h : okV ad ks (sg_gl f j) (.int x)) : iv 0 16 x := by
  unfold sg_gl at h
  by_cases e : j < 4
  · rw [if_pos e] at h
    obtain ⟨y, h1, h2, h3⟩ := h
    cases h1
    dsimp only at h2 h3
    have := (f j).isLt
    exact ⟨by omega, by omega⟩
  · rw [if_neg e] at h
    obtain ⟨y, h1, h2⟩ := h
    cases h1
    exact h2
theorem sg_gal {f : Nat → Int} {ad ks : List Nat} {i : Int32} {x : Int32} {lo hi : Int} (h : iv lo hi i) (hd : decide (256 ≤ lo) = true) : okV ad ks (sg_ga f i.toNatClampNeg) (.int x) := by
  have h1 := of_decide_eq_true hd
  have h2 : ¬ i.toNatClampNeg < 256 := by
    have := h.1
    show ¬ i.toInt.toNat < 256
    omega
  unfold sg_ga
  rw [if_neg h2]
  exact ⟨x, rfl, iv_top x⟩
theorem sg_gll {f : Nat → Fin 17} {ad ks : List Nat} {i : Int32} {x : Int32} {lo hi : Int} (h : iv lo hi i) (hd : decide (4 ≤ lo) = true) (hx : iv 0 16 x) : okV ad ks (sg_gl f i.toNatClampNeg) (.int x) := by
  have h1 := of_decide_eq_true hd
  have h2 : ¬ i.toNatClampNeg < 4 := by
    have := h.1
    show ¬ i.toInt.toNat < 4
    omega
  unfold sg_gl
  rw [if_neg h2]
  exact ⟨x, rfl, hx⟩
theorem sgC1_iv {P : sgPm} (hp : P.2.2.2.2.1 = true) {x : Int32} (h : iv (sgC1 P) (sgC1 P) x) : iv 1 30 x := by
  unfold sgC1 at h
  rw [hp] at h
  obtain ⟨h1, h2⟩ := h
  have h1 : max 1 (min (sgNc P) 30) ≤ x.toInt := h1
  have h2 : x.toInt ≤ max 1 (min (sgNc P) 30) := h2
  exact ⟨by omega, by omega⟩
theorem sgC1_iv0 {P : sgPm} (hp : P.2.2.2.2.1 = false) {x : Int32} (h : iv (sgC1 P) (sgC1 P) x) : iv 0 0 x := by
  unfold sgC1 at h
  rw [hp] at h
  exact h
/-- more days -/
theorem sg_moreN {P : sgPm} {n : Nat} (h : sgN P ≤ n) {D : va_G} {A : Nat → Prop} {tys : List (ClassId × FieldType)} {ad ks : List Nat} {H : Heap} (hG : sgG (KT P) D vwCl A tys ad ks H) : sgG (KT (sgAt P n)) D vwCl A tys ad ks H := by
  refine sg_kinds hG rfl fun k K e hk he => ?_
  by_cases h1 : k = 54
  · subst h1
    cases hk
    exact ⟨KK54 (sgAt P n), rfl, okE_arr (fun j v => sg_nw_mono h) he⟩
  by_cases h2 : k = 55
  · subst h2
    cases hk
    exact ⟨KK55 (sgAt P n), rfl, okE_arr (fun j v => sg_now_mono h) he⟩
  by_cases h3 : k = 58
  · subst h3
    cases hk
    exact ⟨KK58 (sgAt P n), rfl, okE_arr (fun j v => sg_now_mono h) he⟩
  by_cases h4 : k = 65
  · subst h4
    cases hk
    exact ⟨KK65 (sgAt P n), rfl, okE_arr (fun j v => sg_now_mono h) he⟩
  refine ⟨K, ?_, he⟩
  rw [← hk]
  match k, h1, h2, h3, h4 with
  | 0, h1, h2, h3, h4 => rfl
  | 1, h1, h2, h3, h4 => rfl
  | 2, h1, h2, h3, h4 => rfl
  | 3, h1, h2, h3, h4 => rfl
  | 4, h1, h2, h3, h4 => rfl
  | 5, h1, h2, h3, h4 => rfl
  | 6, h1, h2, h3, h4 => rfl
  | 7, h1, h2, h3, h4 => rfl
  | 8, h1, h2, h3, h4 => rfl
  | 9, h1, h2, h3, h4 => rfl
  | 10, h1, h2, h3, h4 => rfl
  | 11, h1, h2, h3, h4 => rfl
  | 12, h1, h2, h3, h4 => rfl
  | 13, h1, h2, h3, h4 => rfl
  | 14, h1, h2, h3, h4 => rfl
  | 15, h1, h2, h3, h4 => rfl
  | 16, h1, h2, h3, h4 => rfl
  | 17, h1, h2, h3, h4 => rfl
  | 18, h1, h2, h3, h4 => rfl
  | 19, h1, h2, h3, h4 => rfl
  | 20, h1, h2, h3, h4 => rfl
  | 21, h1, h2, h3, h4 => rfl
  | 22, h1, h2, h3, h4 => rfl
  | 23, h1, h2, h3, h4 => rfl
  | 24, h1, h2, h3, h4 => rfl
  | 25, h1, h2, h3, h4 => rfl
  | 26, h1, h2, h3, h4 => rfl
  | 27, h1, h2, h3, h4 => rfl
  | 28, h1, h2, h3, h4 => rfl
  | 29, h1, h2, h3, h4 => rfl
  | 30, h1, h2, h3, h4 => rfl
  | 31, h1, h2, h3, h4 => rfl
  | 32, h1, h2, h3, h4 => rfl
  | 33, h1, h2, h3, h4 => rfl
  | 34, h1, h2, h3, h4 => rfl
  | 35, h1, h2, h3, h4 => rfl
  | 36, h1, h2, h3, h4 => rfl
  | 37, h1, h2, h3, h4 => rfl
  | 38, h1, h2, h3, h4 => rfl
  | 39, h1, h2, h3, h4 => rfl
  | 40, h1, h2, h3, h4 => rfl
  | 41, h1, h2, h3, h4 => rfl
  | 42, h1, h2, h3, h4 => rfl
  | 43, h1, h2, h3, h4 => rfl
  | 44, h1, h2, h3, h4 => rfl
  | 45, h1, h2, h3, h4 => rfl
  | 46, h1, h2, h3, h4 => rfl
  | 47, h1, h2, h3, h4 => rfl
  | 48, h1, h2, h3, h4 => rfl
  | 49, h1, h2, h3, h4 => rfl
  | 50, h1, h2, h3, h4 => rfl
  | 51, h1, h2, h3, h4 => rfl
  | 52, h1, h2, h3, h4 => rfl
  | 53, h1, h2, h3, h4 => rfl
  | 54, h1, h2, h3, h4 => exact absurd rfl h1
  | 55, h1, h2, h3, h4 => exact absurd rfl h2
  | 56, h1, h2, h3, h4 => rfl
  | 57, h1, h2, h3, h4 => rfl
  | 58, h1, h2, h3, h4 => exact absurd rfl h3
  | 59, h1, h2, h3, h4 => rfl
  | 60, h1, h2, h3, h4 => rfl
  | 61, h1, h2, h3, h4 => rfl
  | 62, h1, h2, h3, h4 => rfl
  | 63, h1, h2, h3, h4 => rfl
  | 64, h1, h2, h3, h4 => rfl
  | 65, h1, h2, h3, h4 => exact absurd rfl h4
  | k + 66, h1, h2, h3, h4 => rfl
theorem sg_numb {x : Int32} (h : x = -1 ∨ ((0 : Int32) ≤ x ∧ x ≤ 29)) (hn : ¬ x = -1) : 0 ≤ x.toInt ∧ x.toInt ≤ 29 := by
  rcases h with h | ⟨h1, h2⟩
  · exact absurd h hn
  · exact ⟨Int32.le_iff_toInt_le.mp h1, Int32.le_iff_toInt_le.mp h2⟩
theorem sg_pinc {n : Fin 5} {x : Int32} (h : iv (n.val : Int) (n.val : Int) x) : x.toNatClampNeg = n.val := by
  have h1 := h.1
  have h2 := h.2
  show x.toInt.toNat = n.val
  omega

section
variable {kt kt' : List sgK} {D : va_G} {cl : List vw_C} {A : Nat → Prop} {tys : List (ClassId × FieldType)} {ad ks : List Nat} {H : Heap}
theorem sg_weak1 (hG : sgG kt D cl A tys ad ks H) {k ci : Nat} {fts fts' : List sgT} (hk : kt[k]? = some (.inl (ci, fts))) (hk' : kt'[k]? = some (.inl (ci, fts'))) (hlen : fts'.length = fts.length) (hsm : ∀ (i : Nat) (t' : sgT), fts'[i]? = some t' → ∃ t : sgT, fts[i]? = some t ∧ ∀ v : Value, okV ad ks t v → okV ad ks t' v) (hsk : ∀ i : Nat, i ≠ k → kt'[i]? = kt[i]?) (hk7 : 67 ≠ k := by decide) : sgG kt' D cl A tys ad ks H := by
  refine sg_kinds hG (hsk 67 hk7) fun i K e hi he => ?_
  by_cases h : i = k
  · subst h
    rw [hk] at hi
    cases hi
    refine ⟨_, hk', ?_⟩
    cases e with
    | inl z => exact he.elim
    | inr q =>
      obtain ⟨h1, h2, h3⟩ := he
      refine ⟨h1, h2.trans hlen.symm, fun j t v ht hv => ?_⟩
      obtain ⟨t0, h4, h5⟩ := hsm j t ht
      exact h5 v (h3 j t0 v h4 hv)
  · exact ⟨K, (hsk i h).trans hi, he⟩
theorem sg_str1 (hG : sgG kt D cl A tys ad ks H) {k a : Nat} (ha : isK ad ks k a) (hu : k ∈ [2, 8, 10, 11, 12, 16, 42, 45, 49, 50, 51, 52, 53, 54]) {ci : Nat} {fts fts' : List sgT} (hk : kt[k]? = some (.inl (ci, fts))) (hk' : kt'[k]? = some (.inl (ci, fts'))) {r : vw_C} (hc : cl[ci]? = some r) {j : Nat} (hj : j < r.2.2) (hlen : fts'.length = fts.length) {t' : sgT} (ht' : fts'[j]? = some t') (hsm : ∀ (i : Nat) (t'' : sgT), i ≠ j → fts'[i]? = some t'' → ∃ t : sgT, fts[i]? = some t ∧ ∀ v : Value, okV ad ks t v → okV ad ks t'' v) (hsk : ∀ i : Nat, i ≠ k → kt'[i]? = kt[i]?) {v : Value} (hf : fld D H ci a j v) (hv : okV ad ks t' v) : sgG kt' D cl A tys ad ks H := by
  obtain ⟨ws, hP, hD, hT, hU⟩ := hG
  refine ⟨ws, hP, hD, ⟨hT.1, hT.2.1, fun i q k2 hq hk2 => ?_⟩, hU.1, hU.2.kt (hsk 67 (by rintro rfl; revert hu; decide))⟩
  obtain ⟨K, g1, g2⟩ := hT.2.2 i q k2 hq hk2
  by_cases h : k2 = k
  · subst h
    rw [hk] at g1
    cases g1
    refine ⟨_, hk', ?_⟩
    obtain ⟨j0, e0, K0, w1, w2, w3, w4⟩ := ha.in hT
    have hij : i = j0 := hU.1 _ hu i j0 hk2 w2
    subst hij
    rw [w1] at hq
    cases hq
    cases e0 with
    | inl z => exact g2.elim
    | inr q =>
      obtain ⟨ci', fs⟩ := q
      obtain ⟨h1, h2, h3⟩ := g2
      dsimp only at h1 h2 h3
      subst h1
      refine ⟨rfl, h2.trans hlen.symm, fun j2 t v2 ht hv2 => ?_⟩
      by_cases hj2 : j2 = j
      · subst hj2
        rw [ht'] at ht
        cases ht
        have h9 := fld_of (hP i _ w1) hc hj
        have hv3 : fs[j2]? = some v2 := hv2
        rw [List.getD_eq_getElem?_getD, hv3] at h9
        rw [show v2 = v from fld_fun h9 hf]
        exact hv
      · obtain ⟨t0, h4, h5⟩ := hsm j2 t hj2 ht
        exact h5 v2 (h3 j2 t0 v2 h4 hv2)
  · exact ⟨K, (hsk k2 h).trans g1, g2⟩
end
theorem sgr_weak {b : Bool} {d d' lo lo' hi hi' m f f' : Int} {D : va_G} {A : Nat → Prop} {tys : List (ClassId × FieldType)} {ad ks : List Nat} {H : Heap} {P : sgPm} (hG : sgG (KR b d lo hi m f P) D vwCl A tys ad ks H) (h1 : d' ≤ d) (h2 : lo' ≤ lo) (h3 : hi ≤ hi') (h4 : f' ≤ f) : sgG (KR b d' lo' hi' m f' P) D vwCl A tys ad ks H := by
  refine sg_weak1 hG (k := 12) rfl rfl rfl (fun i t' ht => by match i, ht with
    | 0, ht => cases ht; exact ⟨_, rfl, fun v hv => hv⟩
    | 1, ht => cases ht; exact ⟨_, rfl, fun v hv => hv⟩
    | 2, ht => cases ht; exact ⟨_, rfl, fun v hv => hv⟩
    | 3, ht => cases ht; exact ⟨_, rfl, fun v hv => hv⟩
    | 4, ht => cases ht; exact ⟨_, rfl, fun v hv => hv⟩
    | 5, ht => cases ht; exact ⟨_, rfl, fun v hv => hv⟩
    | 6, ht => cases ht; exact ⟨_, rfl, fun v hv => hv⟩
    | 7, ht => cases ht; exact ⟨_, rfl, fun v hv => hv⟩
    | 8, ht => cases ht; exact ⟨_, rfl, fun v hv => hv⟩
    | 9, ht => cases ht; exact ⟨_, rfl, fun v hv => hv⟩
    | 10, ht => cases ht; exact ⟨_, rfl, fun v hv => by obtain ⟨x, g1, g2, g3⟩ := hv; exact ⟨x, g1, Int.le_trans h2 g2, Int.le_trans g3 h3⟩⟩
    | 11, ht => cases ht; exact ⟨_, rfl, fun v hv => by obtain ⟨x, g1, g2, g3⟩ := hv; exact ⟨x, g1, Int.le_trans h4 g2, Int.le_trans g3 (Int.le_refl _)⟩⟩
    | 12, ht => cases ht; exact ⟨_, rfl, fun v hv => by obtain ⟨x, g1, g2, g3⟩ := hv; exact ⟨x, g1, Int.le_trans h1 g2, Int.le_trans g3 (Int.le_refl _)⟩⟩
    | 13, ht => cases ht; exact ⟨_, rfl, fun v hv => hv⟩
    | 14, ht => cases ht; exact ⟨_, rfl, fun v hv => hv⟩
    | 15, ht => cases ht; exact ⟨_, rfl, fun v hv => hv⟩
    | 16, ht => cases ht; exact ⟨_, rfl, fun v hv => hv⟩
    | 17, ht => cases ht; exact ⟨_, rfl, fun v hv => hv⟩
    | 18, ht => cases ht; exact ⟨_, rfl, fun v hv => hv⟩
    | 19, ht => cases ht; exact ⟨_, rfl, fun v hv => hv⟩
    | 20, ht => cases ht; exact ⟨_, rfl, fun v hv => hv⟩
    | 21, ht => cases ht; exact ⟨_, rfl, fun v hv => hv⟩
    | 22, ht => cases ht; exact ⟨_, rfl, fun v hv => hv⟩
    | 23, ht => cases ht; exact ⟨_, rfl, fun v hv => hv⟩
    | 24, ht => cases ht; exact ⟨_, rfl, fun v hv => hv⟩
    | 25, ht => cases ht; exact ⟨_, rfl, fun v hv => hv⟩
    | 26, ht => cases ht; exact ⟨_, rfl, fun v hv => hv⟩
    | 27, ht => cases ht; exact ⟨_, rfl, fun v hv => hv⟩
    | 28, ht => cases ht; exact ⟨_, rfl, fun v hv => hv⟩
    | 29, ht => cases ht; exact ⟨_, rfl, fun v hv => hv⟩
    | 30, ht => cases ht; exact ⟨_, rfl, fun v hv => hv⟩
    | 31, ht => cases ht; exact ⟨_, rfl, fun v hv => hv⟩
    | 32, ht => cases ht; exact ⟨_, rfl, fun v hv => hv⟩
    | 33, ht => cases ht; exact ⟨_, rfl, fun v hv => hv⟩
    | 34, ht => cases ht; exact ⟨_, rfl, fun v hv => hv⟩
    | 35, ht => cases ht; exact ⟨_, rfl, fun v hv => hv⟩
    | 36, ht => cases ht; exact ⟨_, rfl, fun v hv => hv⟩
    | 37, ht => cases ht; exact ⟨_, rfl, fun v hv => hv⟩
    | 38, ht => cases ht; exact ⟨_, rfl, fun v hv => hv⟩
    | 39, ht => cases ht; exact ⟨_, rfl, fun v hv => hv⟩
    | 40, ht => cases ht; exact ⟨_, rfl, fun v hv => hv⟩
    | 41, ht => cases ht; exact ⟨_, rfl, fun v hv => hv⟩
    | 42, ht => cases ht; exact ⟨_, rfl, fun v hv => hv⟩
    | 43, ht => cases ht; exact ⟨_, rfl, fun v hv => hv⟩
    | 44, ht => cases ht; exact ⟨_, rfl, fun v hv => hv⟩
    | 45, ht => cases ht; exact ⟨_, rfl, fun v hv => hv⟩
    | 46, ht => cases ht; exact ⟨_, rfl, fun v hv => hv⟩
    | 47, ht => cases ht; exact ⟨_, rfl, fun v hv => hv⟩
    | 48, ht => cases ht; exact ⟨_, rfl, fun v hv => hv⟩
    | 49, ht => cases ht; exact ⟨_, rfl, fun v hv => hv⟩
    | 50, ht => cases ht; exact ⟨_, rfl, fun v hv => hv⟩
    | 51, ht => cases ht; exact ⟨_, rfl, fun v hv => hv⟩
    | 52, ht => cases ht; exact ⟨_, rfl, fun v hv => hv⟩
    | i + 53, ht => cases ht) (fun i hi => by match i, hi with
    | 0, hi => rfl
    | 1, hi => rfl
    | 2, hi => rfl
    | 3, hi => rfl
    | 4, hi => rfl
    | 5, hi => rfl
    | 6, hi => rfl
    | 7, hi => rfl
    | 8, hi => rfl
    | 9, hi => rfl
    | 10, hi => rfl
    | 11, hi => rfl
    | 12, hi => exact absurd rfl hi
    | 13, hi => rfl
    | 14, hi => rfl
    | 15, hi => rfl
    | 16, hi => rfl
    | 17, hi => rfl
    | 18, hi => rfl
    | 19, hi => rfl
    | 20, hi => rfl
    | 21, hi => rfl
    | 22, hi => rfl
    | 23, hi => rfl
    | 24, hi => rfl
    | 25, hi => rfl
    | 26, hi => rfl
    | 27, hi => rfl
    | 28, hi => rfl
    | 29, hi => rfl
    | 30, hi => rfl
    | 31, hi => rfl
    | 32, hi => rfl
    | 33, hi => rfl
    | 34, hi => rfl
    | 35, hi => rfl
    | 36, hi => rfl
    | 37, hi => rfl
    | 38, hi => rfl
    | 39, hi => rfl
    | 40, hi => rfl
    | 41, hi => rfl
    | 42, hi => rfl
    | 43, hi => rfl
    | 44, hi => rfl
    | 45, hi => rfl
    | 46, hi => rfl
    | 47, hi => rfl
    | 48, hi => rfl
    | 49, hi => rfl
    | 50, hi => rfl
    | 51, hi => rfl
    | 52, hi => rfl
    | 53, hi => rfl
    | 54, hi => rfl
    | 55, hi => rfl
    | 56, hi => rfl
    | 57, hi => rfl
    | 58, hi => rfl
    | 59, hi => rfl
    | 60, hi => rfl
    | 61, hi => rfl
    | 62, hi => rfl
    | 63, hi => rfl
    | 64, hi => rfl
    | 65, hi => rfl
    | 66, hi => rfl
    | 67, hi => rfl
    | i + 68, hi => rfl)
theorem sgr_toKM {b : Bool} {d lo hi m f : Int} {D : va_G} {A : Nat → Prop} {tys : List (ClassId × FieldType)} {ad ks : List Nat} {H : Heap} {P : sgPm} (hG : sgG (KR b d lo hi m f P) D vwCl A tys ad ks H) (h1 : 0 ≤ d) (h4 : -1 ≤ f) : sgG (KM m P) D vwCl A tys ad ks H := by
  refine sg_weak1 hG (k := 12) rfl rfl rfl (fun i t' ht => by match i, ht with
    | 0, ht => cases ht; exact ⟨_, rfl, fun v hv => hv⟩
    | 1, ht => cases ht; exact ⟨_, rfl, fun v hv => hv⟩
    | 2, ht => cases ht; exact ⟨_, rfl, fun v hv => hv⟩
    | 3, ht => cases ht; exact ⟨_, rfl, fun v hv => hv⟩
    | 4, ht => cases ht; exact ⟨_, rfl, fun v hv => hv⟩
    | 5, ht => cases ht; exact ⟨_, rfl, fun v hv => trivial⟩
    | 6, ht => cases ht; exact ⟨_, rfl, fun v hv => hv⟩
    | 7, ht => cases ht; exact ⟨_, rfl, fun v hv => hv⟩
    | 8, ht => cases ht; exact ⟨_, rfl, fun v hv => by obtain ⟨x, h1, h2⟩ := hv; exact ⟨x, h1, iv_top x⟩⟩
    | 9, ht => cases ht; exact ⟨_, rfl, fun v hv => hv⟩
    | 10, ht => cases ht; exact ⟨_, rfl, fun v hv => by obtain ⟨x, h1, h2⟩ := hv; exact ⟨x, h1, iv_top x⟩⟩
    | 11, ht => cases ht; exact ⟨_, rfl, fun v hv => by obtain ⟨x, g1, g2, g3⟩ := hv; exact ⟨x, g1, Int.le_trans h4 g2, Int.le_trans g3 (Int.le_refl _)⟩⟩
    | 12, ht => cases ht; exact ⟨_, rfl, fun v hv => by obtain ⟨x, g1, g2, g3⟩ := hv; exact ⟨x, g1, Int.le_trans h1 g2, Int.le_trans g3 (Int.le_refl _)⟩⟩
    | 13, ht => cases ht; exact ⟨_, rfl, fun v hv => hv⟩
    | 14, ht => cases ht; exact ⟨_, rfl, fun v hv => hv⟩
    | 15, ht => cases ht; exact ⟨_, rfl, fun v hv => hv⟩
    | 16, ht => cases ht; exact ⟨_, rfl, fun v hv => hv⟩
    | 17, ht => cases ht; exact ⟨_, rfl, fun v hv => hv⟩
    | 18, ht => cases ht; exact ⟨_, rfl, fun v hv => hv⟩
    | 19, ht => cases ht; exact ⟨_, rfl, fun v hv => hv⟩
    | 20, ht => cases ht; exact ⟨_, rfl, fun v hv => hv⟩
    | 21, ht => cases ht; exact ⟨_, rfl, fun v hv => hv⟩
    | 22, ht => cases ht; exact ⟨_, rfl, fun v hv => hv⟩
    | 23, ht => cases ht; exact ⟨_, rfl, fun v hv => hv⟩
    | 24, ht => cases ht; exact ⟨_, rfl, fun v hv => hv⟩
    | 25, ht => cases ht; exact ⟨_, rfl, fun v hv => hv⟩
    | 26, ht => cases ht; exact ⟨_, rfl, fun v hv => hv⟩
    | 27, ht => cases ht; exact ⟨_, rfl, fun v hv => hv⟩
    | 28, ht => cases ht; exact ⟨_, rfl, fun v hv => hv⟩
    | 29, ht => cases ht; exact ⟨_, rfl, fun v hv => hv⟩
    | 30, ht => cases ht; exact ⟨_, rfl, fun v hv => hv⟩
    | 31, ht => cases ht; exact ⟨_, rfl, fun v hv => hv⟩
    | 32, ht => cases ht; exact ⟨_, rfl, fun v hv => hv⟩
    | 33, ht => cases ht; exact ⟨_, rfl, fun v hv => hv⟩
    | 34, ht => cases ht; exact ⟨_, rfl, fun v hv => hv⟩
    | 35, ht => cases ht; exact ⟨_, rfl, fun v hv => hv⟩
    | 36, ht => cases ht; exact ⟨_, rfl, fun v hv => hv⟩
    | 37, ht => cases ht; exact ⟨_, rfl, fun v hv => hv⟩
    | 38, ht => cases ht; exact ⟨_, rfl, fun v hv => hv⟩
    | 39, ht => cases ht; exact ⟨_, rfl, fun v hv => hv⟩
    | 40, ht => cases ht; exact ⟨_, rfl, fun v hv => hv⟩
    | 41, ht => cases ht; exact ⟨_, rfl, fun v hv => hv⟩
    | 42, ht => cases ht; exact ⟨_, rfl, fun v hv => hv⟩
    | 43, ht => cases ht; exact ⟨_, rfl, fun v hv => hv⟩
    | 44, ht => cases ht; exact ⟨_, rfl, fun v hv => hv⟩
    | 45, ht => cases ht; exact ⟨_, rfl, fun v hv => hv⟩
    | 46, ht => cases ht; exact ⟨_, rfl, fun v hv => hv⟩
    | 47, ht => cases ht; exact ⟨_, rfl, fun v hv => hv⟩
    | 48, ht => cases ht; exact ⟨_, rfl, fun v hv => hv⟩
    | 49, ht => cases ht; exact ⟨_, rfl, fun v hv => hv⟩
    | 50, ht => cases ht; exact ⟨_, rfl, fun v hv => hv⟩
    | 51, ht => cases ht; exact ⟨_, rfl, fun v hv => hv⟩
    | 52, ht => cases ht; exact ⟨_, rfl, fun v hv => hv⟩
    | i + 53, ht => cases ht) (fun i hi => by match i, hi with
    | 0, hi => rfl
    | 1, hi => rfl
    | 2, hi => rfl
    | 3, hi => rfl
    | 4, hi => rfl
    | 5, hi => rfl
    | 6, hi => rfl
    | 7, hi => rfl
    | 8, hi => rfl
    | 9, hi => rfl
    | 10, hi => rfl
    | 11, hi => rfl
    | 12, hi => exact absurd rfl hi
    | 13, hi => rfl
    | 14, hi => rfl
    | 15, hi => rfl
    | 16, hi => rfl
    | 17, hi => rfl
    | 18, hi => rfl
    | 19, hi => rfl
    | 20, hi => rfl
    | 21, hi => rfl
    | 22, hi => rfl
    | 23, hi => rfl
    | 24, hi => rfl
    | 25, hi => rfl
    | 26, hi => rfl
    | 27, hi => rfl
    | 28, hi => rfl
    | 29, hi => rfl
    | 30, hi => rfl
    | 31, hi => rfl
    | 32, hi => rfl
    | 33, hi => rfl
    | 34, hi => rfl
    | 35, hi => rfl
    | 36, hi => rfl
    | 37, hi => rfl
    | 38, hi => rfl
    | 39, hi => rfl
    | 40, hi => rfl
    | 41, hi => rfl
    | 42, hi => rfl
    | 43, hi => rfl
    | 44, hi => rfl
    | 45, hi => rfl
    | 46, hi => rfl
    | 47, hi => rfl
    | 48, hi => rfl
    | 49, hi => rfl
    | 50, hi => rfl
    | 51, hi => rfl
    | 52, hi => rfl
    | 53, hi => rfl
    | 54, hi => rfl
    | 55, hi => rfl
    | 56, hi => rfl
    | 57, hi => rfl
    | 58, hi => rfl
    | 59, hi => rfl
    | 60, hi => rfl
    | 61, hi => rfl
    | 62, hi => rfl
    | 63, hi => rfl
    | 64, hi => rfl
    | 65, hi => rfl
    | 66, hi => rfl
    | 67, hi => rfl
    | i + 68, hi => rfl)
theorem sgr_str {b : Bool} {d lo hi lo' hi' m f : Int} {D : va_G} {A : Nat → Prop} {tys : List (ClassId × FieldType)} {ad ks : List Nat} {H : Heap} {P : sgPm} (hG : sgG (KR b d lo hi m f P) D vwCl A tys ad ks H) {a : Nat} (ha : isK ad ks 12 a) {v : Int32} (hf : fld D H 12 a 10 (.int v)) (hv : iv lo' hi' v) : sgG (KR b d lo' hi' m f P) D vwCl A tys ad ks H := by
  refine sg_str1 hG ha (by decide) rfl rfl (r := (RX12, TX12, 53)) rfl (j := 10) (by decide) rfl rfl (fun i t' hi ht => by match i, hi, ht with
    | 0, hi, ht => cases ht; exact ⟨_, rfl, fun v hv => hv⟩
    | 1, hi, ht => cases ht; exact ⟨_, rfl, fun v hv => hv⟩
    | 2, hi, ht => cases ht; exact ⟨_, rfl, fun v hv => hv⟩
    | 3, hi, ht => cases ht; exact ⟨_, rfl, fun v hv => hv⟩
    | 4, hi, ht => cases ht; exact ⟨_, rfl, fun v hv => hv⟩
    | 5, hi, ht => cases ht; exact ⟨_, rfl, fun v hv => hv⟩
    | 6, hi, ht => cases ht; exact ⟨_, rfl, fun v hv => hv⟩
    | 7, hi, ht => cases ht; exact ⟨_, rfl, fun v hv => hv⟩
    | 8, hi, ht => cases ht; exact ⟨_, rfl, fun v hv => hv⟩
    | 9, hi, ht => cases ht; exact ⟨_, rfl, fun v hv => hv⟩
    | 10, hi, ht => exact absurd rfl hi
    | 11, hi, ht => cases ht; exact ⟨_, rfl, fun v hv => hv⟩
    | 12, hi, ht => cases ht; exact ⟨_, rfl, fun v hv => hv⟩
    | 13, hi, ht => cases ht; exact ⟨_, rfl, fun v hv => hv⟩
    | 14, hi, ht => cases ht; exact ⟨_, rfl, fun v hv => hv⟩
    | 15, hi, ht => cases ht; exact ⟨_, rfl, fun v hv => hv⟩
    | 16, hi, ht => cases ht; exact ⟨_, rfl, fun v hv => hv⟩
    | 17, hi, ht => cases ht; exact ⟨_, rfl, fun v hv => hv⟩
    | 18, hi, ht => cases ht; exact ⟨_, rfl, fun v hv => hv⟩
    | 19, hi, ht => cases ht; exact ⟨_, rfl, fun v hv => hv⟩
    | 20, hi, ht => cases ht; exact ⟨_, rfl, fun v hv => hv⟩
    | 21, hi, ht => cases ht; exact ⟨_, rfl, fun v hv => hv⟩
    | 22, hi, ht => cases ht; exact ⟨_, rfl, fun v hv => hv⟩
    | 23, hi, ht => cases ht; exact ⟨_, rfl, fun v hv => hv⟩
    | 24, hi, ht => cases ht; exact ⟨_, rfl, fun v hv => hv⟩
    | 25, hi, ht => cases ht; exact ⟨_, rfl, fun v hv => hv⟩
    | 26, hi, ht => cases ht; exact ⟨_, rfl, fun v hv => hv⟩
    | 27, hi, ht => cases ht; exact ⟨_, rfl, fun v hv => hv⟩
    | 28, hi, ht => cases ht; exact ⟨_, rfl, fun v hv => hv⟩
    | 29, hi, ht => cases ht; exact ⟨_, rfl, fun v hv => hv⟩
    | 30, hi, ht => cases ht; exact ⟨_, rfl, fun v hv => hv⟩
    | 31, hi, ht => cases ht; exact ⟨_, rfl, fun v hv => hv⟩
    | 32, hi, ht => cases ht; exact ⟨_, rfl, fun v hv => hv⟩
    | 33, hi, ht => cases ht; exact ⟨_, rfl, fun v hv => hv⟩
    | 34, hi, ht => cases ht; exact ⟨_, rfl, fun v hv => hv⟩
    | 35, hi, ht => cases ht; exact ⟨_, rfl, fun v hv => hv⟩
    | 36, hi, ht => cases ht; exact ⟨_, rfl, fun v hv => hv⟩
    | 37, hi, ht => cases ht; exact ⟨_, rfl, fun v hv => hv⟩
    | 38, hi, ht => cases ht; exact ⟨_, rfl, fun v hv => hv⟩
    | 39, hi, ht => cases ht; exact ⟨_, rfl, fun v hv => hv⟩
    | 40, hi, ht => cases ht; exact ⟨_, rfl, fun v hv => hv⟩
    | 41, hi, ht => cases ht; exact ⟨_, rfl, fun v hv => hv⟩
    | 42, hi, ht => cases ht; exact ⟨_, rfl, fun v hv => hv⟩
    | 43, hi, ht => cases ht; exact ⟨_, rfl, fun v hv => hv⟩
    | 44, hi, ht => cases ht; exact ⟨_, rfl, fun v hv => hv⟩
    | 45, hi, ht => cases ht; exact ⟨_, rfl, fun v hv => hv⟩
    | 46, hi, ht => cases ht; exact ⟨_, rfl, fun v hv => hv⟩
    | 47, hi, ht => cases ht; exact ⟨_, rfl, fun v hv => hv⟩
    | 48, hi, ht => cases ht; exact ⟨_, rfl, fun v hv => hv⟩
    | 49, hi, ht => cases ht; exact ⟨_, rfl, fun v hv => hv⟩
    | 50, hi, ht => cases ht; exact ⟨_, rfl, fun v hv => hv⟩
    | 51, hi, ht => cases ht; exact ⟨_, rfl, fun v hv => hv⟩
    | 52, hi, ht => cases ht; exact ⟨_, rfl, fun v hv => hv⟩
    | i + 53, hi, ht => cases ht) (fun i hi => by match i, hi with
    | 0, hi => rfl
    | 1, hi => rfl
    | 2, hi => rfl
    | 3, hi => rfl
    | 4, hi => rfl
    | 5, hi => rfl
    | 6, hi => rfl
    | 7, hi => rfl
    | 8, hi => rfl
    | 9, hi => rfl
    | 10, hi => rfl
    | 11, hi => rfl
    | 12, hi => exact absurd rfl hi
    | 13, hi => rfl
    | 14, hi => rfl
    | 15, hi => rfl
    | 16, hi => rfl
    | 17, hi => rfl
    | 18, hi => rfl
    | 19, hi => rfl
    | 20, hi => rfl
    | 21, hi => rfl
    | 22, hi => rfl
    | 23, hi => rfl
    | 24, hi => rfl
    | 25, hi => rfl
    | 26, hi => rfl
    | 27, hi => rfl
    | 28, hi => rfl
    | 29, hi => rfl
    | 30, hi => rfl
    | 31, hi => rfl
    | 32, hi => rfl
    | 33, hi => rfl
    | 34, hi => rfl
    | 35, hi => rfl
    | 36, hi => rfl
    | 37, hi => rfl
    | 38, hi => rfl
    | 39, hi => rfl
    | 40, hi => rfl
    | 41, hi => rfl
    | 42, hi => rfl
    | 43, hi => rfl
    | 44, hi => rfl
    | 45, hi => rfl
    | 46, hi => rfl
    | 47, hi => rfl
    | 48, hi => rfl
    | 49, hi => rfl
    | 50, hi => rfl
    | 51, hi => rfl
    | 52, hi => rfl
    | 53, hi => rfl
    | 54, hi => rfl
    | 55, hi => rfl
    | 56, hi => rfl
    | 57, hi => rfl
    | 58, hi => rfl
    | 59, hi => rfl
    | 60, hi => rfl
    | 61, hi => rfl
    | 62, hi => rfl
    | 63, hi => rfl
    | 64, hi => rfl
    | 65, hi => rfl
    | 66, hi => rfl
    | 67, hi => rfl
    | i + 68, hi => rfl) hf ⟨v, rfl, hv⟩
theorem sg_rr_mono {m m' : Int} (h : m' ≤ m) {ad ks : List Nat} {j : Nat} {v : Value} {x : (Int × Int)} (hj : sg_rl j = .inl x) (hv : okV ad ks (sg_rr m j) v) : okV ad ks (sg_rr m' j) v := by
  unfold sg_rr at hv ⊢
  by_cases e : (j : Int) < m'
  · rw [if_pos e]
    rw [if_pos (Int.lt_of_lt_of_le e h)] at hv
    exact hv
  · rw [if_neg e]
    by_cases e2 : (j : Int) < m
    · rw [if_pos e2, hj] at hv
      obtain ⟨y, h1, -⟩ := hv
      exact ⟨y, h1, iv_top y⟩
    · rw [if_neg e2] at hv
      exact hv
theorem sg_rl_inl (j : Nat) : ∃ x : Int × Int, sg_rl j = .inl x := by
  unfold sg_rl
  repeat' split
  all_goals exact ⟨_, rfl⟩
theorem sgm_weak {m m' : Int} (h : m' ≤ m) {D : va_G} {A : Nat → Prop} {tys : List (ClassId × FieldType)} {ad ks : List Nat} {H : Heap} {P : sgPm} (hG : sgG (KM m P) D vwCl A tys ad ks H) : sgG (KM m' P) D vwCl A tys ad ks H := by
  refine sg_kinds hG rfl fun k K e hk he => ?_
  by_cases h5 : k = 50
  · subst h5
    cases hk
    exact ⟨KK50r m' P, rfl, okE_arr (fun j v => sg_rr_mono h (sg_rl_inl j).choose_spec) he⟩
  · refine ⟨K, ?_, he⟩
    rw [← hk]
    match k, h5 with
    | 0, h => rfl
    | 1, h => rfl
    | 2, h => rfl
    | 3, h => rfl
    | 4, h => rfl
    | 5, h => rfl
    | 6, h => rfl
    | 7, h => rfl
    | 8, h => rfl
    | 9, h => rfl
    | 10, h => rfl
    | 11, h => rfl
    | 12, h => rfl
    | 13, h => rfl
    | 14, h => rfl
    | 15, h => rfl
    | 16, h => rfl
    | 17, h => rfl
    | 18, h => rfl
    | 19, h => rfl
    | 20, h => rfl
    | 21, h => rfl
    | 22, h => rfl
    | 23, h => rfl
    | 24, h => rfl
    | 25, h => rfl
    | 26, h => rfl
    | 27, h => rfl
    | 28, h => rfl
    | 29, h => rfl
    | 30, h => rfl
    | 31, h => rfl
    | 32, h => rfl
    | 33, h => rfl
    | 34, h => rfl
    | 35, h => rfl
    | 36, h => rfl
    | 37, h => rfl
    | 38, h => rfl
    | 39, h => rfl
    | 40, h => rfl
    | 41, h => rfl
    | 42, h => rfl
    | 43, h => rfl
    | 44, h => rfl
    | 45, h => rfl
    | 46, h => rfl
    | 47, h => rfl
    | 48, h => rfl
    | 49, h => rfl
    | 50, h => exact absurd rfl h
    | 51, h => rfl
    | 52, h => rfl
    | 53, h => rfl
    | 54, h => rfl
    | 55, h => rfl
    | 56, h => rfl
    | 57, h => rfl
    | 58, h => rfl
    | 59, h => rfl
    | 60, h => rfl
    | 61, h => rfl
    | 62, h => rfl
    | 63, h => rfl
    | 64, h => rfl
    | 65, h => rfl
    | 66, h => rfl
    | 67, h => rfl
    | k + 68, h => rfl
theorem sgr_toKT {b : Bool} {d lo hi m f : Int} {D : va_G} {A : Nat → Prop} {tys : List (ClassId × FieldType)} {ad ks : List Nat} {H : Heap} {P : sgPm} (hG : sgG (KR b d lo hi m f P) D vwCl A tys ad ks H) (h1 : 0 ≤ d) (h4 : -1 ≤ f) (h5 : 0 ≤ m) : sgG (KT P) D vwCl A tys ad ks H := sgm_weak h5 (sgr_toKM hG h1 h4)
theorem sg_rr0 {ad ks : List Nat} {j : Nat} {x : Int32} : okV ad ks (sg_rr 0 j) (.int x) := by
  unfold sg_rr
  rw [if_neg (by omega)]
  exact ⟨x, rfl, iv_top x⟩
theorem sgl_str {D : va_G} {A : Nat → Prop} {tys : List (ClassId × FieldType)} {ad ks : List Nat} {H : Heap} {P : sgPm} (hG : sgG (KT P) D vwCl A tys ad ks H) {a : Nat} (ha : isK ad ks 12 a) {v : Int32} (hf : fld D H 12 a 34 (.int v)) (hv : iv 0 3 v) : sgG (KL P) D vwCl A tys ad ks H := by
  refine sg_str1 hG ha (by decide) rfl rfl (r := (RX12, TX12, 53)) rfl (j := 34) (by decide) rfl rfl (fun i t' hi ht => by match i, hi, ht with
    | 0, hi, ht => cases ht; exact ⟨_, rfl, fun v hv => hv⟩
    | 1, hi, ht => cases ht; exact ⟨_, rfl, fun v hv => hv⟩
    | 2, hi, ht => cases ht; exact ⟨_, rfl, fun v hv => hv⟩
    | 3, hi, ht => cases ht; exact ⟨_, rfl, fun v hv => hv⟩
    | 4, hi, ht => cases ht; exact ⟨_, rfl, fun v hv => hv⟩
    | 5, hi, ht => cases ht; exact ⟨_, rfl, fun v hv => hv⟩
    | 6, hi, ht => cases ht; exact ⟨_, rfl, fun v hv => hv⟩
    | 7, hi, ht => cases ht; exact ⟨_, rfl, fun v hv => hv⟩
    | 8, hi, ht => cases ht; exact ⟨_, rfl, fun v hv => hv⟩
    | 9, hi, ht => cases ht; exact ⟨_, rfl, fun v hv => hv⟩
    | 10, hi, ht => cases ht; exact ⟨_, rfl, fun v hv => hv⟩
    | 11, hi, ht => cases ht; exact ⟨_, rfl, fun v hv => hv⟩
    | 12, hi, ht => cases ht; exact ⟨_, rfl, fun v hv => hv⟩
    | 13, hi, ht => cases ht; exact ⟨_, rfl, fun v hv => hv⟩
    | 14, hi, ht => cases ht; exact ⟨_, rfl, fun v hv => hv⟩
    | 15, hi, ht => cases ht; exact ⟨_, rfl, fun v hv => hv⟩
    | 16, hi, ht => cases ht; exact ⟨_, rfl, fun v hv => hv⟩
    | 17, hi, ht => cases ht; exact ⟨_, rfl, fun v hv => hv⟩
    | 18, hi, ht => cases ht; exact ⟨_, rfl, fun v hv => hv⟩
    | 19, hi, ht => cases ht; exact ⟨_, rfl, fun v hv => hv⟩
    | 20, hi, ht => cases ht; exact ⟨_, rfl, fun v hv => hv⟩
    | 21, hi, ht => cases ht; exact ⟨_, rfl, fun v hv => hv⟩
    | 22, hi, ht => cases ht; exact ⟨_, rfl, fun v hv => hv⟩
    | 23, hi, ht => cases ht; exact ⟨_, rfl, fun v hv => hv⟩
    | 24, hi, ht => cases ht; exact ⟨_, rfl, fun v hv => hv⟩
    | 25, hi, ht => cases ht; exact ⟨_, rfl, fun v hv => hv⟩
    | 26, hi, ht => cases ht; exact ⟨_, rfl, fun v hv => hv⟩
    | 27, hi, ht => cases ht; exact ⟨_, rfl, fun v hv => hv⟩
    | 28, hi, ht => cases ht; exact ⟨_, rfl, fun v hv => hv⟩
    | 29, hi, ht => cases ht; exact ⟨_, rfl, fun v hv => hv⟩
    | 30, hi, ht => cases ht; exact ⟨_, rfl, fun v hv => hv⟩
    | 31, hi, ht => cases ht; exact ⟨_, rfl, fun v hv => hv⟩
    | 32, hi, ht => cases ht; exact ⟨_, rfl, fun v hv => hv⟩
    | 33, hi, ht => cases ht; exact ⟨_, rfl, fun v hv => hv⟩
    | 34, hi, ht => exact absurd rfl hi
    | 35, hi, ht => cases ht; exact ⟨_, rfl, fun v hv => hv⟩
    | 36, hi, ht => cases ht; exact ⟨_, rfl, fun v hv => hv⟩
    | 37, hi, ht => cases ht; exact ⟨_, rfl, fun v hv => hv⟩
    | 38, hi, ht => cases ht; exact ⟨_, rfl, fun v hv => hv⟩
    | 39, hi, ht => cases ht; exact ⟨_, rfl, fun v hv => hv⟩
    | 40, hi, ht => cases ht; exact ⟨_, rfl, fun v hv => hv⟩
    | 41, hi, ht => cases ht; exact ⟨_, rfl, fun v hv => hv⟩
    | 42, hi, ht => cases ht; exact ⟨_, rfl, fun v hv => hv⟩
    | 43, hi, ht => cases ht; exact ⟨_, rfl, fun v hv => hv⟩
    | 44, hi, ht => cases ht; exact ⟨_, rfl, fun v hv => hv⟩
    | 45, hi, ht => cases ht; exact ⟨_, rfl, fun v hv => hv⟩
    | 46, hi, ht => cases ht; exact ⟨_, rfl, fun v hv => hv⟩
    | 47, hi, ht => cases ht; exact ⟨_, rfl, fun v hv => hv⟩
    | 48, hi, ht => cases ht; exact ⟨_, rfl, fun v hv => hv⟩
    | 49, hi, ht => cases ht; exact ⟨_, rfl, fun v hv => hv⟩
    | 50, hi, ht => cases ht; exact ⟨_, rfl, fun v hv => hv⟩
    | 51, hi, ht => cases ht; exact ⟨_, rfl, fun v hv => hv⟩
    | 52, hi, ht => cases ht; exact ⟨_, rfl, fun v hv => hv⟩
    | i + 53, hi, ht => cases ht) (fun i hi => by match i, hi with
    | 0, hi => rfl
    | 1, hi => rfl
    | 2, hi => rfl
    | 3, hi => rfl
    | 4, hi => rfl
    | 5, hi => rfl
    | 6, hi => rfl
    | 7, hi => rfl
    | 8, hi => rfl
    | 9, hi => rfl
    | 10, hi => rfl
    | 11, hi => rfl
    | 12, hi => exact absurd rfl hi
    | 13, hi => rfl
    | 14, hi => rfl
    | 15, hi => rfl
    | 16, hi => rfl
    | 17, hi => rfl
    | 18, hi => rfl
    | 19, hi => rfl
    | 20, hi => rfl
    | 21, hi => rfl
    | 22, hi => rfl
    | 23, hi => rfl
    | 24, hi => rfl
    | 25, hi => rfl
    | 26, hi => rfl
    | 27, hi => rfl
    | 28, hi => rfl
    | 29, hi => rfl
    | 30, hi => rfl
    | 31, hi => rfl
    | 32, hi => rfl
    | 33, hi => rfl
    | 34, hi => rfl
    | 35, hi => rfl
    | 36, hi => rfl
    | 37, hi => rfl
    | 38, hi => rfl
    | 39, hi => rfl
    | 40, hi => rfl
    | 41, hi => rfl
    | 42, hi => rfl
    | 43, hi => rfl
    | 44, hi => rfl
    | 45, hi => rfl
    | 46, hi => rfl
    | 47, hi => rfl
    | 48, hi => rfl
    | 49, hi => rfl
    | 50, hi => rfl
    | 51, hi => rfl
    | 52, hi => rfl
    | 53, hi => rfl
    | 54, hi => rfl
    | 55, hi => rfl
    | 56, hi => rfl
    | 57, hi => rfl
    | 58, hi => rfl
    | 59, hi => rfl
    | 60, hi => rfl
    | 61, hi => rfl
    | 62, hi => rfl
    | 63, hi => rfl
    | 64, hi => rfl
    | 65, hi => rfl
    | 66, hi => rfl
    | 67, hi => rfl
    | i + 68, hi => rfl) hf ⟨v, rfl, hv⟩
theorem sgl_weak {D : va_G} {A : Nat → Prop} {tys : List (ClassId × FieldType)} {ad ks : List Nat} {H : Heap} {P : sgPm} (hG : sgG (KL P) D vwCl A tys ad ks H) : sgG (KT P) D vwCl A tys ad ks H := by
  refine sg_weak1 hG (k := 12) rfl rfl rfl (fun i t' ht => by match i, ht with
    | 0, ht => cases ht; exact ⟨_, rfl, fun v hv => hv⟩
    | 1, ht => cases ht; exact ⟨_, rfl, fun v hv => hv⟩
    | 2, ht => cases ht; exact ⟨_, rfl, fun v hv => hv⟩
    | 3, ht => cases ht; exact ⟨_, rfl, fun v hv => hv⟩
    | 4, ht => cases ht; exact ⟨_, rfl, fun v hv => hv⟩
    | 5, ht => cases ht; exact ⟨_, rfl, fun v hv => hv⟩
    | 6, ht => cases ht; exact ⟨_, rfl, fun v hv => hv⟩
    | 7, ht => cases ht; exact ⟨_, rfl, fun v hv => hv⟩
    | 8, ht => cases ht; exact ⟨_, rfl, fun v hv => hv⟩
    | 9, ht => cases ht; exact ⟨_, rfl, fun v hv => hv⟩
    | 10, ht => cases ht; exact ⟨_, rfl, fun v hv => hv⟩
    | 11, ht => cases ht; exact ⟨_, rfl, fun v hv => hv⟩
    | 12, ht => cases ht; exact ⟨_, rfl, fun v hv => hv⟩
    | 13, ht => cases ht; exact ⟨_, rfl, fun v hv => hv⟩
    | 14, ht => cases ht; exact ⟨_, rfl, fun v hv => hv⟩
    | 15, ht => cases ht; exact ⟨_, rfl, fun v hv => hv⟩
    | 16, ht => cases ht; exact ⟨_, rfl, fun v hv => hv⟩
    | 17, ht => cases ht; exact ⟨_, rfl, fun v hv => hv⟩
    | 18, ht => cases ht; exact ⟨_, rfl, fun v hv => hv⟩
    | 19, ht => cases ht; exact ⟨_, rfl, fun v hv => hv⟩
    | 20, ht => cases ht; exact ⟨_, rfl, fun v hv => hv⟩
    | 21, ht => cases ht; exact ⟨_, rfl, fun v hv => hv⟩
    | 22, ht => cases ht; exact ⟨_, rfl, fun v hv => hv⟩
    | 23, ht => cases ht; exact ⟨_, rfl, fun v hv => hv⟩
    | 24, ht => cases ht; exact ⟨_, rfl, fun v hv => hv⟩
    | 25, ht => cases ht; exact ⟨_, rfl, fun v hv => hv⟩
    | 26, ht => cases ht; exact ⟨_, rfl, fun v hv => hv⟩
    | 27, ht => cases ht; exact ⟨_, rfl, fun v hv => hv⟩
    | 28, ht => cases ht; exact ⟨_, rfl, fun v hv => hv⟩
    | 29, ht => cases ht; exact ⟨_, rfl, fun v hv => hv⟩
    | 30, ht => cases ht; exact ⟨_, rfl, fun v hv => hv⟩
    | 31, ht => cases ht; exact ⟨_, rfl, fun v hv => hv⟩
    | 32, ht => cases ht; exact ⟨_, rfl, fun v hv => hv⟩
    | 33, ht => cases ht; exact ⟨_, rfl, fun v hv => hv⟩
    | 34, ht => cases ht; exact ⟨_, rfl, fun v hv => by obtain ⟨x, g1, g2, g3⟩ := hv; exact ⟨x, g1, Int.le_trans (by decide) g2, Int.le_trans g3 (Int.le_refl _)⟩⟩
    | 35, ht => cases ht; exact ⟨_, rfl, fun v hv => hv⟩
    | 36, ht => cases ht; exact ⟨_, rfl, fun v hv => hv⟩
    | 37, ht => cases ht; exact ⟨_, rfl, fun v hv => hv⟩
    | 38, ht => cases ht; exact ⟨_, rfl, fun v hv => hv⟩
    | 39, ht => cases ht; exact ⟨_, rfl, fun v hv => hv⟩
    | 40, ht => cases ht; exact ⟨_, rfl, fun v hv => hv⟩
    | 41, ht => cases ht; exact ⟨_, rfl, fun v hv => hv⟩
    | 42, ht => cases ht; exact ⟨_, rfl, fun v hv => hv⟩
    | 43, ht => cases ht; exact ⟨_, rfl, fun v hv => hv⟩
    | 44, ht => cases ht; exact ⟨_, rfl, fun v hv => hv⟩
    | 45, ht => cases ht; exact ⟨_, rfl, fun v hv => hv⟩
    | 46, ht => cases ht; exact ⟨_, rfl, fun v hv => hv⟩
    | 47, ht => cases ht; exact ⟨_, rfl, fun v hv => hv⟩
    | 48, ht => cases ht; exact ⟨_, rfl, fun v hv => hv⟩
    | 49, ht => cases ht; exact ⟨_, rfl, fun v hv => hv⟩
    | 50, ht => cases ht; exact ⟨_, rfl, fun v hv => hv⟩
    | 51, ht => cases ht; exact ⟨_, rfl, fun v hv => hv⟩
    | 52, ht => cases ht; exact ⟨_, rfl, fun v hv => hv⟩
    | i + 53, ht => cases ht) (fun i hi => by match i, hi with
    | 0, hi => rfl
    | 1, hi => rfl
    | 2, hi => rfl
    | 3, hi => rfl
    | 4, hi => rfl
    | 5, hi => rfl
    | 6, hi => rfl
    | 7, hi => rfl
    | 8, hi => rfl
    | 9, hi => rfl
    | 10, hi => rfl
    | 11, hi => rfl
    | 12, hi => exact absurd rfl hi
    | 13, hi => rfl
    | 14, hi => rfl
    | 15, hi => rfl
    | 16, hi => rfl
    | 17, hi => rfl
    | 18, hi => rfl
    | 19, hi => rfl
    | 20, hi => rfl
    | 21, hi => rfl
    | 22, hi => rfl
    | 23, hi => rfl
    | 24, hi => rfl
    | 25, hi => rfl
    | 26, hi => rfl
    | 27, hi => rfl
    | 28, hi => rfl
    | 29, hi => rfl
    | 30, hi => rfl
    | 31, hi => rfl
    | 32, hi => rfl
    | 33, hi => rfl
    | 34, hi => rfl
    | 35, hi => rfl
    | 36, hi => rfl
    | 37, hi => rfl
    | 38, hi => rfl
    | 39, hi => rfl
    | 40, hi => rfl
    | 41, hi => rfl
    | 42, hi => rfl
    | 43, hi => rfl
    | 44, hi => rfl
    | 45, hi => rfl
    | 46, hi => rfl
    | 47, hi => rfl
    | 48, hi => rfl
    | 49, hi => rfl
    | 50, hi => rfl
    | 51, hi => rfl
    | 52, hi => rfl
    | 53, hi => rfl
    | 54, hi => rfl
    | 55, hi => rfl
    | 56, hi => rfl
    | 57, hi => rfl
    | 58, hi => rfl
    | 59, hi => rfl
    | 60, hi => rfl
    | 61, hi => rfl
    | 62, hi => rfl
    | 63, hi => rfl
    | 64, hi => rfl
    | 65, hi => rfl
    | 66, hi => rfl
    | 67, hi => rfl
    | i + 68, hi => rfl)

theorem sg_bg {b : Bool} {x : Int32} (h : iv 0 (bif b then 720 else 0) x) : iv 0 720 x := by
  cases b
  · exact iv_of (a := 0) (b := 0) h (by decide +kernel)
  · exact h
theorem sg_lk {r v : Int32} {lo a hi b : Int} (hr : iv a b r) (h : r = -1 ∨ iv lo 239 v) (hv : iv 0 hi v) (ha : 0 ≤ a := by decide) : iv 0 239 v := by
  rcases h with h | h
  · subst h
    have h1 := hr.1
    have h2 : (-1 : Int32).toInt = -1 := by decide +kernel
    omega
  · exact ⟨hv.1, h.2⟩
theorem sg_spot {r x : Int32} {a b : Int} (hr : iv a b r) (h : r = -1 ∨ iv 0 127 x) (ha : 0 ≤ a := by decide) : iv 0 127 x := by
  rcases h with h | h
  · subst h
    have h1 := hr.1
    have h2 : (-1 : Int32).toInt = -1 := by decide +kernel
    omega
  · exact h
theorem sg_inc {f x : Int32} {n : Int32} {a b k : Int} (e : f = x + n) (hx : iv a b x) (hd : decide (n.toInt = k ∧ -2147483648 ≤ a + k ∧ b + k ≤ 2147483647) = true) : f.toInt = x.toInt + k := by
  obtain ⟨rfl, h1, h2⟩ := of_decide_eq_true hd
  rw [e]
  exact Jvm.Kit.i32_add (by have := hx.1; omega) (by have := hx.2; omega)
theorem sg_dec {f x : Int32} {n : Int32} {a b k : Int} (e : f = x - n) (hx : iv a b x) (hd : decide (n.toInt = k ∧ -2147483648 ≤ a - k ∧ b - k ≤ 2147483647) = true) : f.toInt = x.toInt - k := by
  obtain ⟨rfl, h1, h2⟩ := of_decide_eq_true hd
  rw [e]
  exact Jvm.Kit.i32_sub (by have := hx.1; omega) (by have := hx.2; omega)
theorem sg_htb {tb : List Int32} {n : Nat} (h : (decide (n ≤ tb.length) && tb.all (fun x => decide (0 ≤ x.toInt ∧ x.toInt ≤ 127))) = true) : ∀ j : Nat, j < n → iv 0 127 (tb.getD j 0) := by
  intro j hj
  simp only [Bool.and_eq_true, decide_eq_true_eq, List.all_eq_true] at h
  have h1 : j < tb.length := by omega
  rw [List.getD_eq_getElem?_getD, List.getElem?_eq_getElem h1]
  exact h.2 _ (List.getElem_mem h1)
theorem sg_cn {x : Int32} (h : iv 0 127 x) : narrow .char (.int x) = .int x := by
  have h1 : ∀ n : Nat, n < 128 → narrow .char (.int (Int32.ofNat n)) = .int (Int32.ofNat n) := by decide +kernel
  obtain ⟨a, b⟩ := h
  have h2 := h1 x.toInt.toNat (by omega)
  have e : Int32.ofNat x.toInt.toNat = x := by
    apply Int32.toInt_inj.mp
    have h3 : (Int32.ofNat x.toInt.toNat).toInt = (x.toInt.toNat : Int) := Int32.toInt_ofNat_of_lt (by omega)
    omega
  rwa [e] at h2
theorem sg_i2c {f x : Int32} (e : f = (x.toUInt32 % 65536).toInt32) (h : iv 0 127 x) : iv 0 127 f := by
  have h1 : ∀ n : Nat, n < 128 → ((Int32.ofNat n).toUInt32 % 65536).toInt32 = Int32.ofNat n := by decide +kernel
  obtain ⟨a, b⟩ := h
  have h2 := h1 x.toInt.toNat (by omega)
  have e2 : Int32.ofNat x.toInt.toNat = x := by
    apply Int32.toInt_inj.mp
    have h3 : (Int32.ofNat x.toInt.toNat).toInt = (x.toInt.toNat : Int) := Int32.toInt_ofNat_of_lt (by omega)
    omega
  rw [e2] at h2
  rw [e, h2]
  exact ⟨a, b⟩
theorem sg_is0 {x : Int32} (h : iv 0 0 x) : x = 0 := Int32.toInt_inj.mp (by rw [show (0 : Int32).toInt = 0 from rfl]; have := h.1; have := h.2; omega)
theorem sg_nei {i : Int32} {lo hi : Int} {j : Nat} (h : iv lo hi i) (hd : decide (0 ≤ lo ∧ ((j : Int) < lo ∨ hi < (j : Int))) = true) : j ≠ i.toNatClampNeg := by
  obtain ⟨h1, h2⟩ := of_decide_eq_true hd
  obtain ⟨h3, h4⟩ := h
  show j ≠ i.toInt.toNat
  omega
theorem sg_eli {H : Heap} {a i j : Nat} {x : Int32} (h : ele H a i x) (e : i = j) : ele H a j x := e ▸ h
theorem sg_exadd {f x y : Int32} {a b c d tx ty : Int} (e : f = x + y) (hx : iv a b x) (hy : iv c d y) (hd : decide (-2147483648 ≤ a + c ∧ b + d ≤ 2147483647) = true) (e1 : x.toInt = tx) (e2 : y.toInt = ty) : f.toInt = tx + ty := by
  rw [← e1, ← e2]
  obtain ⟨h1, h2⟩ := of_decide_eq_true hd
  rw [e]
  exact Jvm.Kit.i32_add (by have := hx.1; have := hy.1; omega) (by have := hx.2; have := hy.2; omega)
theorem sg_exsub {f x y : Int32} {a b c d tx ty : Int} (e : f = x - y) (hx : iv a b x) (hy : iv c d y) (hd : decide (-2147483648 ≤ a - d ∧ b - c ≤ 2147483647) = true) (e1 : x.toInt = tx) (e2 : y.toInt = ty) : f.toInt = tx - ty := by
  rw [← e1, ← e2]
  obtain ⟨h1, h2⟩ := of_decide_eq_true hd
  rw [e]
  exact Jvm.Kit.i32_sub (by have := hx.1; have := hy.2; omega) (by have := hx.2; have := hy.1; omega)
theorem sg_exmul {f x y : Int32} {a b c d tx ty : Int} (e : f = x * y) (hx : iv a b x) (hy : iv c d y) (hd : decide (0 ≤ a ∧ 0 ≤ c ∧ b * d ≤ 2147483647) = true) (e1 : x.toInt = tx) (e2 : y.toInt = ty) : f.toInt = tx * ty := by
  rw [← e1, ← e2]
  obtain ⟨h0, h1, h2⟩ := of_decide_eq_true hd
  obtain ⟨x1, x2⟩ := hx
  obtain ⟨y1, y2⟩ := hy
  have l2 : x.toInt * y.toInt ≤ b * d := Int.mul_le_mul x2 y2 (by omega) (by omega)
  have l1 : 0 ≤ x.toInt * y.toInt := Int.mul_nonneg (by omega) (by omega)
  rw [e]
  exact Jvm.Kit.i32_mul (by omega) (by omega)
/-- a long within bounds -/
def jv (a b : Int) (x : Int64) : Prop := a ≤ x.toInt ∧ x.toInt ≤ b
theorem jv_c (x : Int64) {a b : Int} (hd : decide (a ≤ x.toInt ∧ x.toInt ≤ b) = true) : jv a b x := by
  have h := of_decide_eq_true hd
  exact ⟨h.1, h.2⟩
theorem jv_i2l {g : Int64} {x : Int32} {a b : Int} (e : g = x.toInt64) (h : iv a b x) : jv a b g := by
  rw [e]
  exact ⟨by rw [Int32.toInt_toInt64]; exact h.1, by rw [Int32.toInt_toInt64]; exact h.2⟩
theorem bmod64 {a : Int} (h1 : -9223372036854775808 ≤ a) (h2 : a ≤ 9223372036854775807) : a.bmod (2 ^ 64) = a := by
  rw [Int.bmod_def]
  omega
theorem jv_add {f x y : Int64} {a b c d a' b' : Int} (e : f = x + y) (hx : jv a b x) (hy : jv c d y) (hd : decide (a' ≤ a + c ∧ b + d ≤ b' ∧ -9223372036854775808 ≤ a' ∧ b' ≤ 9223372036854775807) = true) : jv a' b' f := by
  obtain ⟨h1, h2, h3, h4⟩ := of_decide_eq_true hd
  obtain ⟨x1, x2⟩ := hx
  obtain ⟨y1, y2⟩ := hy
  have h : (x + y).toInt = x.toInt + y.toInt := by rw [Int64.toInt_add]; exact bmod64 (by omega) (by omega)
  rw [e]
  exact ⟨by rw [h]; omega, by rw [h]; omega⟩
theorem jv_mul {f x y : Int64} {a b c d a' b' : Int} (e : f = x * y) (hx : jv a b x) (hy : jv c d y) (hd : decide (0 ≤ a ∧ 0 ≤ c ∧ a' ≤ a * c ∧ b * d ≤ b' ∧ -9223372036854775808 ≤ a' ∧ b' ≤ 9223372036854775807) = true) : jv a' b' f := by
  obtain ⟨h0, h00, h1, h2, h3, h4⟩ := of_decide_eq_true hd
  obtain ⟨x1, x2⟩ := hx
  obtain ⟨y1, y2⟩ := hy
  have l1 : a * c ≤ x.toInt * y.toInt := Int.mul_le_mul x1 y1 h00 (by omega)
  have l2 : x.toInt * y.toInt ≤ b * d := Int.mul_le_mul x2 y2 (by omega) (by omega)
  have h : (x * y).toInt = x.toInt * y.toInt := by rw [Int64.toInt_mul]; exact bmod64 (by omega) (by omega)
  rw [e]
  exact ⟨by rw [h]; omega, by rw [h]; omega⟩
theorem i64_rem' (x y : Int64) : (x - (x / y) * y).toInt = x.toInt.tmod y.toInt := by
  have a := (x % y).toInt_lt; have b := (x % y).le_toInt
  rw [Int64.toInt_mod] at a b
  rw [Int64.toInt_sub, Int64.toInt_mul, Int64.toInt_div, Int.bmod_mul_bmod, Int.sub_bmod_bmod, Int.mul_comm, ← Int.tmod_def]
  exact bmod64 (by omega) (by omega)
theorem jv_rem {f x y : Int64} {a b c d a' b' : Int} (e : f = x - x / y * y) (hx : jv a b x) (hy : jv c d y) (hd : decide (0 ≤ a ∧ 0 < c ∧ a' ≤ 0 ∧ d - 1 ≤ b') = true) : jv a' b' f := by
  obtain ⟨h0, h1, h2, h3⟩ := of_decide_eq_true hd
  obtain ⟨x1, x2⟩ := hx
  obtain ⟨y1, y2⟩ := hy
  have h : (x - x / y * y).toInt = x.toInt % y.toInt := (i64_rem' x y).trans (Int.tmod_eq_emod_of_nonneg (by omega))
  have l1 := Int.emod_nonneg x.toInt (show y.toInt ≠ 0 by omega)
  have l2 := Int.emod_lt_of_pos x.toInt (show 0 < y.toInt by omega)
  rw [e]
  exact ⟨by rw [h]; omega, by rw [h]; omega⟩
theorem jv_l2i {f : Int32} {x : Int64} {a b : Int} (e : f = x.toInt32) (hx : jv a b x) (hd : decide (-2147483648 ≤ a ∧ b ≤ 2147483647) = true) : iv a b f := by
  obtain ⟨h1, h2⟩ := of_decide_eq_true hd
  obtain ⟨x1, x2⟩ := hx
  have h : x.toInt32.toInt = x.toInt := by rw [Int64.toInt_toInt32]; exact Jvm.Kit.bmod32 (by omega) (by omega)
  rw [e]
  exact ⟨by rw [h]; exact x1, by rw [h]; exact x2⟩
theorem sg_isinI {v l m : Int64} {x y : Int32} (h : l.toInt ≤ v.toInt ∧ v.toInt ≤ m.toInt) (e : v = x.toInt64) (e2 : m = y.toInt64) : x.toInt ≤ y.toInt := by
  have h1 : v.toInt = x.toInt := by rw [e, Int32.toInt_toInt64]
  have h2 : m.toInt = y.toInt := by rw [e2, Int32.toInt_toInt64]
  omega
theorem sg_shl1 {f y : Int32} {a b : Int} (e : f = 1 <<< (y &&& 31)) (hy : iv a b y) (hd : decide (0 ≤ a ∧ b ≤ 30) = true) : iv (2 ^ a.toNat) (2 ^ b.toNat) f := by
  obtain ⟨h1, h2⟩ := of_decide_eq_true hd
  obtain ⟨y1, y2⟩ := hy
  have h3 : ∀ n : Nat, n < 31 → ((1 : Int32) <<< (Int32.ofNat n &&& 31)).toInt = (2 ^ n : Int) := by decide +kernel
  have h4 := h3 y.toInt.toNat (by omega)
  have e2 : Int32.ofNat y.toInt.toNat = y := by
    apply Int32.toInt_inj.mp
    have h5 : (Int32.ofNat y.toInt.toNat).toInt = (y.toInt.toNat : Int) := Int32.toInt_ofNat_of_lt (by omega)
    omega
  rw [e2, ← e] at h4
  rw [iv, h4]
  have l1 : (2 : Int) ^ a.toNat ≤ 2 ^ y.toInt.toNat := by
    have := Nat.pow_le_pow_right (n := 2) (by decide) (show a.toNat ≤ y.toInt.toNat by omega)
    exact_mod_cast this
  have l2 : (2 : Int) ^ y.toInt.toNat ≤ 2 ^ b.toNat := by
    have := Nat.pow_le_pow_right (n := 2) (by decide) (show y.toInt.toNat ≤ b.toNat by omega)
    exact_mod_cast this
  exact ⟨l1, l2⟩
theorem sg_shl01 {f x y : Int32} (e : f = x <<< (y &&& 31)) (hx : iv 0 1 x) (hy : iv 0 29 y) : iv 0 536870912 f := by
  have h3 : ∀ n : Nat, n < 30 → ((0 : Int32) <<< (Int32.ofNat n &&& 31)).toInt = 0 := by decide +kernel
  rcases iv_01 hx with rfl | rfl
  · have e2 : Int32.ofNat y.toInt.toNat = y := by
      apply Int32.toInt_inj.mp
      have h5 : (Int32.ofNat y.toInt.toNat).toInt = (y.toInt.toNat : Int) := Int32.toInt_ofNat_of_lt (by have := hy.2; omega)
      have := hy.1
      omega
    have h4 := h3 y.toInt.toNat (by have := hy.2; omega)
    rw [e2, ← e] at h4
    exact ⟨by omega, by omega⟩
  · exact iv_of (sg_shl1 e hy (by decide +kernel)) (by decide +kernel)
theorem sg_inlt {i : Int32} {n : Nat} (h : vp_in i n) : i.toNatClampNeg < n := Nat.not_le.mp fun q => h (Or.inr q)
theorem sg_shr0 {f x y : Int32} (e : f = x >>> (y &&& 31)) (hy : iv 0 0 y) (hd : decide (x >>> ((0 : Int32) &&& 31) = x) = true) {a b : Int} (hx : iv a b x) : iv a b f := by
  obtain ⟨h1, h2⟩ := hy
  have h3 : y = 0 := Int32.toInt_inj.mp (by rw [show (0 : Int32).toInt = 0 from rfl]; omega)
  subst h3
  rw [e, of_decide_eq_true hd]
  exact hx
theorem sg_sums {ad ks : List Nat} {i : Nat} {x : Int32} (h : okV ad ks (sg_sum i) (.int x)) : iv 0 12 x := by
  obtain ⟨y, h1, h2⟩ := h
  cases h1
  refine ⟨h2.1, Int.le_trans h2.2 ?_⟩
  dsimp only [sg_pc]
  repeat' split
  all_goals omega
/-- what look answers, and where it stands then -/
def sgLk (b : Bool) (d lo hi m f : Int) (P : sgPm) (D : va_G) (base : Nat) (tys : List (ClassId × FieldType)) (ad ks : List Nat) (a : Nat) (r : Int32) (t : State) : Prop :=
  sgB (KR b d lo hi m f P) D vwCl base tys ad ks t ∧ ∃ v : Int32, fld D t.heap 12 a 10 (.int v) ∧ iv lo hi v ∧ (r = -1 ∨ iv lo 239 v)
theorem inL_X0 : ∀ w ∈ u_ws RX0 TX0 5, w ∈ sg_tbl := by
  intro w hw
  obtain ⟨k, hk, rfl⟩ := List.mem_map.mp hw
  have hk := List.mem_range.mp hk
  match k, hk with
  | 0, _ => exact tb_2 _ (List.mem_of_getElem? (i := 127) (by decide +kernel)) (by decide +kernel)
  | 1, _ => exact tb_2 _ (List.mem_of_getElem? (i := 129) (by decide +kernel)) (by decide +kernel)
  | 2, _ => exact tb_2 _ (List.mem_of_getElem? (i := 131) (by decide +kernel)) (by decide +kernel)
  | 3, _ => exact tb_2 _ (List.mem_of_getElem? (i := 133) (by decide +kernel)) (by decide +kernel)
  | 4, _ => exact tb_2 _ (List.mem_of_getElem? (i := 135) (by decide +kernel)) (by decide +kernel)
  | k + 5, hk => exact absurd hk (by omega)
theorem inL_X1 : ∀ w ∈ u_ws RX1 TX1 3, w ∈ sg_tbl := by
  intro w hw
  obtain ⟨k, hk, rfl⟩ := List.mem_map.mp hw
  have hk := List.mem_range.mp hk
  match k, hk with
  | 0, _ => exact tb_2 _ (List.mem_of_getElem? (i := 187) (by decide +kernel)) (by decide +kernel)
  | 1, _ => exact tb_2 _ (List.mem_of_getElem? (i := 189) (by decide +kernel)) (by decide +kernel)
  | 2, _ => exact tb_2 _ (List.mem_of_getElem? (i := 191) (by decide +kernel)) (by decide +kernel)
  | k + 3, hk => exact absurd hk (by omega)
theorem inL_X2 : ∀ w ∈ u_ws RX2 TX2 10, w ∈ sg_tbl := by
  intro w hw
  obtain ⟨k, hk, rfl⟩ := List.mem_map.mp hw
  have hk := List.mem_range.mp hk
  match k, hk with
  | 0, _ => exact tb_2 _ (List.mem_of_getElem? (i := 156) (by decide +kernel)) (by decide +kernel)
  | 1, _ => exact tb_2 _ (List.mem_of_getElem? (i := 158) (by decide +kernel)) (by decide +kernel)
  | 2, _ => exact tb_2 _ (List.mem_of_getElem? (i := 160) (by decide +kernel)) (by decide +kernel)
  | 3, _ => exact tb_2 _ (List.mem_of_getElem? (i := 162) (by decide +kernel)) (by decide +kernel)
  | 4, _ => exact tb_2 _ (List.mem_of_getElem? (i := 164) (by decide +kernel)) (by decide +kernel)
  | 5, _ => exact tb_2 _ (List.mem_of_getElem? (i := 166) (by decide +kernel)) (by decide +kernel)
  | 6, _ => exact tb_2 _ (List.mem_of_getElem? (i := 168) (by decide +kernel)) (by decide +kernel)
  | 7, _ => exact tb_2 _ (List.mem_of_getElem? (i := 170) (by decide +kernel)) (by decide +kernel)
  | 8, _ => exact tb_2 _ (List.mem_of_getElem? (i := 172) (by decide +kernel)) (by decide +kernel)
  | 9, _ => exact tb_2 _ (List.mem_of_getElem? (i := 174) (by decide +kernel)) (by decide +kernel)
  | k + 10, hk => exact absurd hk (by omega)
theorem inL_X3 : ∀ w ∈ u_ws RX3 TX3 3, w ∈ sg_tbl := by
  intro w hw
  obtain ⟨k, hk, rfl⟩ := List.mem_map.mp hw
  have hk := List.mem_range.mp hk
  match k, hk with
  | 0, _ => exact tb_1 _ (List.mem_of_getElem? (i := 102) (by decide +kernel)) (by decide +kernel)
  | 1, _ => exact tb_1 _ (List.mem_of_getElem? (i := 104) (by decide +kernel)) (by decide +kernel)
  | 2, _ => exact tb_1 _ (List.mem_of_getElem? (i := 106) (by decide +kernel)) (by decide +kernel)
  | k + 3, hk => exact absurd hk (by omega)
theorem inL_X4 : ∀ w ∈ u_ws RX4 TX4 15, w ∈ sg_tbl := by
  intro w hw
  obtain ⟨k, hk, rfl⟩ := List.mem_map.mp hw
  have hk := List.mem_range.mp hk
  match k, hk with
  | 0, _ => exact tb_1 _ (List.mem_of_getElem? (i := 238) (by decide +kernel)) (by decide +kernel)
  | 1, _ => exact tb_2 _ (List.mem_of_getElem? (i := 0) (by decide +kernel)) (by decide +kernel)
  | 2, _ => exact tb_2 _ (List.mem_of_getElem? (i := 2) (by decide +kernel)) (by decide +kernel)
  | 3, _ => exact tb_2 _ (List.mem_of_getElem? (i := 4) (by decide +kernel)) (by decide +kernel)
  | 4, _ => exact tb_2 _ (List.mem_of_getElem? (i := 6) (by decide +kernel)) (by decide +kernel)
  | 5, _ => exact tb_2 _ (List.mem_of_getElem? (i := 8) (by decide +kernel)) (by decide +kernel)
  | 6, _ => exact tb_2 _ (List.mem_of_getElem? (i := 10) (by decide +kernel)) (by decide +kernel)
  | 7, _ => exact tb_2 _ (List.mem_of_getElem? (i := 12) (by decide +kernel)) (by decide +kernel)
  | 8, _ => exact tb_2 _ (List.mem_of_getElem? (i := 14) (by decide +kernel)) (by decide +kernel)
  | 9, _ => exact tb_2 _ (List.mem_of_getElem? (i := 16) (by decide +kernel)) (by decide +kernel)
  | 10, _ => exact tb_2 _ (List.mem_of_getElem? (i := 18) (by decide +kernel)) (by decide +kernel)
  | 11, _ => exact tb_2 _ (List.mem_of_getElem? (i := 20) (by decide +kernel)) (by decide +kernel)
  | 12, _ => exact tb_2 _ (List.mem_of_getElem? (i := 22) (by decide +kernel)) (by decide +kernel)
  | 13, _ => exact tb_2 _ (List.mem_of_getElem? (i := 24) (by decide +kernel)) (by decide +kernel)
  | 14, _ => exact tb_2 _ (List.mem_of_getElem? (i := 26) (by decide +kernel)) (by decide +kernel)
  | k + 15, hk => exact absurd hk (by omega)
theorem inL_X5 : ∀ w ∈ u_ws RX5 TX5 11, w ∈ sg_tbl := by
  intro w hw
  obtain ⟨k, hk, rfl⟩ := List.mem_map.mp hw
  have hk := List.mem_range.mp hk
  match k, hk with
  | 0, _ => exact tb_1 _ (List.mem_of_getElem? (i := 180) (by decide +kernel)) (by decide +kernel)
  | 1, _ => exact tb_1 _ (List.mem_of_getElem? (i := 182) (by decide +kernel)) (by decide +kernel)
  | 2, _ => exact tb_1 _ (List.mem_of_getElem? (i := 184) (by decide +kernel)) (by decide +kernel)
  | 3, _ => exact tb_1 _ (List.mem_of_getElem? (i := 186) (by decide +kernel)) (by decide +kernel)
  | 4, _ => exact tb_1 _ (List.mem_of_getElem? (i := 188) (by decide +kernel)) (by decide +kernel)
  | 5, _ => exact tb_1 _ (List.mem_of_getElem? (i := 190) (by decide +kernel)) (by decide +kernel)
  | 6, _ => exact tb_1 _ (List.mem_of_getElem? (i := 192) (by decide +kernel)) (by decide +kernel)
  | 7, _ => exact tb_1 _ (List.mem_of_getElem? (i := 194) (by decide +kernel)) (by decide +kernel)
  | 8, _ => exact tb_1 _ (List.mem_of_getElem? (i := 196) (by decide +kernel)) (by decide +kernel)
  | 9, _ => exact tb_1 _ (List.mem_of_getElem? (i := 198) (by decide +kernel)) (by decide +kernel)
  | 10, _ => exact tb_1 _ (List.mem_of_getElem? (i := 200) (by decide +kernel)) (by decide +kernel)
  | k + 11, hk => exact absurd hk (by omega)
theorem inL_X6 : ∀ w ∈ u_ws RX6 TX6 7, w ∈ sg_tbl := by
  intro w hw
  obtain ⟨k, hk, rfl⟩ := List.mem_map.mp hw
  have hk := List.mem_range.mp hk
  match k, hk with
  | 0, _ => exact tb_1 _ (List.mem_of_getElem? (i := 74) (by decide +kernel)) (by decide +kernel)
  | 1, _ => exact tb_1 _ (List.mem_of_getElem? (i := 76) (by decide +kernel)) (by decide +kernel)
  | 2, _ => exact tb_1 _ (List.mem_of_getElem? (i := 78) (by decide +kernel)) (by decide +kernel)
  | 3, _ => exact tb_1 _ (List.mem_of_getElem? (i := 80) (by decide +kernel)) (by decide +kernel)
  | 4, _ => exact tb_1 _ (List.mem_of_getElem? (i := 82) (by decide +kernel)) (by decide +kernel)
  | 5, _ => exact tb_1 _ (List.mem_of_getElem? (i := 84) (by decide +kernel)) (by decide +kernel)
  | 6, _ => exact tb_1 _ (List.mem_of_getElem? (i := 86) (by decide +kernel)) (by decide +kernel)
  | k + 7, hk => exact absurd hk (by omega)
theorem inL_X7 : ∀ w ∈ u_ws RX7 TX7 9, w ∈ sg_tbl := by
  intro w hw
  obtain ⟨k, hk, rfl⟩ := List.mem_map.mp hw
  have hk := List.mem_range.mp hk
  match k, hk with
  | 0, _ => exact tb_2 _ (List.mem_of_getElem? (i := 95) (by decide +kernel)) (by decide +kernel)
  | 1, _ => exact tb_2 _ (List.mem_of_getElem? (i := 97) (by decide +kernel)) (by decide +kernel)
  | 2, _ => exact tb_2 _ (List.mem_of_getElem? (i := 99) (by decide +kernel)) (by decide +kernel)
  | 3, _ => exact tb_2 _ (List.mem_of_getElem? (i := 101) (by decide +kernel)) (by decide +kernel)
  | 4, _ => exact tb_2 _ (List.mem_of_getElem? (i := 103) (by decide +kernel)) (by decide +kernel)
  | 5, _ => exact tb_2 _ (List.mem_of_getElem? (i := 105) (by decide +kernel)) (by decide +kernel)
  | 6, _ => exact tb_2 _ (List.mem_of_getElem? (i := 107) (by decide +kernel)) (by decide +kernel)
  | 7, _ => exact tb_2 _ (List.mem_of_getElem? (i := 109) (by decide +kernel)) (by decide +kernel)
  | 8, _ => exact tb_2 _ (List.mem_of_getElem? (i := 111) (by decide +kernel)) (by decide +kernel)
  | k + 9, hk => exact absurd hk (by omega)
theorem inL_X8 : ∀ w ∈ u_ws RX8 TX8 9, w ∈ sg_tbl := by
  intro w hw
  obtain ⟨k, hk, rfl⟩ := List.mem_map.mp hw
  have hk := List.mem_range.mp hk
  match k, hk with
  | 0, _ => exact tb_2 _ (List.mem_of_getElem? (i := 55) (by decide +kernel)) (by decide +kernel)
  | 1, _ => exact tb_2 _ (List.mem_of_getElem? (i := 57) (by decide +kernel)) (by decide +kernel)
  | 2, _ => exact tb_2 _ (List.mem_of_getElem? (i := 59) (by decide +kernel)) (by decide +kernel)
  | 3, _ => exact tb_2 _ (List.mem_of_getElem? (i := 61) (by decide +kernel)) (by decide +kernel)
  | 4, _ => exact tb_2 _ (List.mem_of_getElem? (i := 63) (by decide +kernel)) (by decide +kernel)
  | 5, _ => exact tb_2 _ (List.mem_of_getElem? (i := 65) (by decide +kernel)) (by decide +kernel)
  | 6, _ => exact tb_2 _ (List.mem_of_getElem? (i := 67) (by decide +kernel)) (by decide +kernel)
  | 7, _ => exact tb_2 _ (List.mem_of_getElem? (i := 69) (by decide +kernel)) (by decide +kernel)
  | 8, _ => exact tb_2 _ (List.mem_of_getElem? (i := 71) (by decide +kernel)) (by decide +kernel)
  | k + 9, hk => exact absurd hk (by omega)
theorem inL_X9 : ∀ w ∈ u_ws RX9 TX9 8, w ∈ sg_tbl := by
  intro w hw
  obtain ⟨k, hk, rfl⟩ := List.mem_map.mp hw
  have hk := List.mem_range.mp hk
  match k, hk with
  | 0, _ => exact tb_1 _ (List.mem_of_getElem? (i := 142) (by decide +kernel)) (by decide +kernel)
  | 1, _ => exact tb_1 _ (List.mem_of_getElem? (i := 144) (by decide +kernel)) (by decide +kernel)
  | 2, _ => exact tb_1 _ (List.mem_of_getElem? (i := 146) (by decide +kernel)) (by decide +kernel)
  | 3, _ => exact tb_1 _ (List.mem_of_getElem? (i := 148) (by decide +kernel)) (by decide +kernel)
  | 4, _ => exact tb_1 _ (List.mem_of_getElem? (i := 150) (by decide +kernel)) (by decide +kernel)
  | 5, _ => exact tb_1 _ (List.mem_of_getElem? (i := 152) (by decide +kernel)) (by decide +kernel)
  | 6, _ => exact tb_1 _ (List.mem_of_getElem? (i := 154) (by decide +kernel)) (by decide +kernel)
  | 7, _ => exact tb_1 _ (List.mem_of_getElem? (i := 156) (by decide +kernel)) (by decide +kernel)
  | k + 8, hk => exact absurd hk (by omega)
theorem inL_X10 : ∀ w ∈ u_ws RX10 TX10 4, w ∈ sg_tbl := by
  intro w hw
  obtain ⟨k, hk, rfl⟩ := List.mem_map.mp hw
  have hk := List.mem_range.mp hk
  match k, hk with
  | 0, _ => exact tb_1 _ (List.mem_of_getElem? (i := 47) (by decide +kernel)) (by decide +kernel)
  | 1, _ => exact tb_1 _ (List.mem_of_getElem? (i := 49) (by decide +kernel)) (by decide +kernel)
  | 2, _ => exact tb_1 _ (List.mem_of_getElem? (i := 51) (by decide +kernel)) (by decide +kernel)
  | 3, _ => exact tb_1 _ (List.mem_of_getElem? (i := 53) (by decide +kernel)) (by decide +kernel)
  | k + 4, hk => exact absurd hk (by omega)
theorem inL_X11 : ∀ w ∈ u_ws RX11 TX11 17, w ∈ sg_tbl := by
  intro w hw
  obtain ⟨k, hk, rfl⟩ := List.mem_map.mp hw
  have hk := List.mem_range.mp hk
  match k, hk with
  | 0, _ => exact tb_2 _ (List.mem_of_getElem? (i := 212) (by decide +kernel)) (by decide +kernel)
  | 1, _ => exact tb_2 _ (List.mem_of_getElem? (i := 214) (by decide +kernel)) (by decide +kernel)
  | 2, _ => exact tb_2 _ (List.mem_of_getElem? (i := 216) (by decide +kernel)) (by decide +kernel)
  | 3, _ => exact tb_2 _ (List.mem_of_getElem? (i := 218) (by decide +kernel)) (by decide +kernel)
  | 4, _ => exact tb_2 _ (List.mem_of_getElem? (i := 220) (by decide +kernel)) (by decide +kernel)
  | 5, _ => exact tb_2 _ (List.mem_of_getElem? (i := 222) (by decide +kernel)) (by decide +kernel)
  | 6, _ => exact tb_2 _ (List.mem_of_getElem? (i := 224) (by decide +kernel)) (by decide +kernel)
  | 7, _ => exact tb_2 _ (List.mem_of_getElem? (i := 226) (by decide +kernel)) (by decide +kernel)
  | 8, _ => exact tb_2 _ (List.mem_of_getElem? (i := 228) (by decide +kernel)) (by decide +kernel)
  | 9, _ => exact tb_2 _ (List.mem_of_getElem? (i := 230) (by decide +kernel)) (by decide +kernel)
  | 10, _ => exact tb_2 _ (List.mem_of_getElem? (i := 232) (by decide +kernel)) (by decide +kernel)
  | 11, _ => exact tb_2 _ (List.mem_of_getElem? (i := 234) (by decide +kernel)) (by decide +kernel)
  | 12, _ => exact tb_2 _ (List.mem_of_getElem? (i := 236) (by decide +kernel)) (by decide +kernel)
  | 13, _ => exact tb_2 _ (List.mem_of_getElem? (i := 238) (by decide +kernel)) (by decide +kernel)
  | 14, _ => exact tb_3 _ (List.mem_of_getElem? (i := 0) (by decide +kernel)) (by decide +kernel)
  | 15, _ => exact tb_3 _ (List.mem_of_getElem? (i := 2) (by decide +kernel)) (by decide +kernel)
  | 16, _ => exact tb_3 _ (List.mem_of_getElem? (i := 4) (by decide +kernel)) (by decide +kernel)
  | k + 17, hk => exact absurd hk (by omega)
theorem inL_X12 : ∀ w ∈ u_ws RX12 TX12 53, w ∈ sg_tbl := by
  intro w hw
  obtain ⟨k, hk, rfl⟩ := List.mem_map.mp hw
  have hk := List.mem_range.mp hk
  match k, hk with
  | 0, _ => exact tb_6 _ (List.mem_of_getElem? (i := 231) (by decide +kernel)) (by decide +kernel)
  | 1, _ => exact tb_6 _ (List.mem_of_getElem? (i := 233) (by decide +kernel)) (by decide +kernel)
  | 2, _ => exact tb_6 _ (List.mem_of_getElem? (i := 235) (by decide +kernel)) (by decide +kernel)
  | 3, _ => exact tb_6 _ (List.mem_of_getElem? (i := 237) (by decide +kernel)) (by decide +kernel)
  | 4, _ => exact tb_6 _ (List.mem_of_getElem? (i := 239) (by decide +kernel)) (by decide +kernel)
  | 5, _ => exact tb_7 _ (List.mem_of_getElem? (i := 1) (by decide +kernel)) (by decide +kernel)
  | 6, _ => exact tb_7 _ (List.mem_of_getElem? (i := 3) (by decide +kernel)) (by decide +kernel)
  | 7, _ => exact tb_7 _ (List.mem_of_getElem? (i := 5) (by decide +kernel)) (by decide +kernel)
  | 8, _ => exact tb_7 _ (List.mem_of_getElem? (i := 7) (by decide +kernel)) (by decide +kernel)
  | 9, _ => exact tb_7 _ (List.mem_of_getElem? (i := 9) (by decide +kernel)) (by decide +kernel)
  | 10, _ => exact tb_7 _ (List.mem_of_getElem? (i := 11) (by decide +kernel)) (by decide +kernel)
  | 11, _ => exact tb_7 _ (List.mem_of_getElem? (i := 13) (by decide +kernel)) (by decide +kernel)
  | 12, _ => exact tb_7 _ (List.mem_of_getElem? (i := 15) (by decide +kernel)) (by decide +kernel)
  | 13, _ => exact tb_7 _ (List.mem_of_getElem? (i := 17) (by decide +kernel)) (by decide +kernel)
  | 14, _ => exact tb_7 _ (List.mem_of_getElem? (i := 19) (by decide +kernel)) (by decide +kernel)
  | 15, _ => exact tb_7 _ (List.mem_of_getElem? (i := 21) (by decide +kernel)) (by decide +kernel)
  | 16, _ => exact tb_7 _ (List.mem_of_getElem? (i := 23) (by decide +kernel)) (by decide +kernel)
  | 17, _ => exact tb_7 _ (List.mem_of_getElem? (i := 25) (by decide +kernel)) (by decide +kernel)
  | 18, _ => exact tb_7 _ (List.mem_of_getElem? (i := 27) (by decide +kernel)) (by decide +kernel)
  | 19, _ => exact tb_7 _ (List.mem_of_getElem? (i := 29) (by decide +kernel)) (by decide +kernel)
  | 20, _ => exact tb_7 _ (List.mem_of_getElem? (i := 31) (by decide +kernel)) (by decide +kernel)
  | 21, _ => exact tb_7 _ (List.mem_of_getElem? (i := 33) (by decide +kernel)) (by decide +kernel)
  | 22, _ => exact tb_7 _ (List.mem_of_getElem? (i := 35) (by decide +kernel)) (by decide +kernel)
  | 23, _ => exact tb_7 _ (List.mem_of_getElem? (i := 37) (by decide +kernel)) (by decide +kernel)
  | 24, _ => exact tb_7 _ (List.mem_of_getElem? (i := 39) (by decide +kernel)) (by decide +kernel)
  | 25, _ => exact tb_7 _ (List.mem_of_getElem? (i := 41) (by decide +kernel)) (by decide +kernel)
  | 26, _ => exact tb_7 _ (List.mem_of_getElem? (i := 43) (by decide +kernel)) (by decide +kernel)
  | 27, _ => exact tb_7 _ (List.mem_of_getElem? (i := 45) (by decide +kernel)) (by decide +kernel)
  | 28, _ => exact tb_7 _ (List.mem_of_getElem? (i := 47) (by decide +kernel)) (by decide +kernel)
  | 29, _ => exact tb_7 _ (List.mem_of_getElem? (i := 49) (by decide +kernel)) (by decide +kernel)
  | 30, _ => exact tb_7 _ (List.mem_of_getElem? (i := 51) (by decide +kernel)) (by decide +kernel)
  | 31, _ => exact tb_7 _ (List.mem_of_getElem? (i := 53) (by decide +kernel)) (by decide +kernel)
  | 32, _ => exact tb_7 _ (List.mem_of_getElem? (i := 55) (by decide +kernel)) (by decide +kernel)
  | 33, _ => exact tb_7 _ (List.mem_of_getElem? (i := 57) (by decide +kernel)) (by decide +kernel)
  | 34, _ => exact tb_7 _ (List.mem_of_getElem? (i := 59) (by decide +kernel)) (by decide +kernel)
  | 35, _ => exact tb_7 _ (List.mem_of_getElem? (i := 61) (by decide +kernel)) (by decide +kernel)
  | 36, _ => exact tb_7 _ (List.mem_of_getElem? (i := 63) (by decide +kernel)) (by decide +kernel)
  | 37, _ => exact tb_7 _ (List.mem_of_getElem? (i := 65) (by decide +kernel)) (by decide +kernel)
  | 38, _ => exact tb_7 _ (List.mem_of_getElem? (i := 67) (by decide +kernel)) (by decide +kernel)
  | 39, _ => exact tb_7 _ (List.mem_of_getElem? (i := 69) (by decide +kernel)) (by decide +kernel)
  | 40, _ => exact tb_7 _ (List.mem_of_getElem? (i := 71) (by decide +kernel)) (by decide +kernel)
  | 41, _ => exact tb_7 _ (List.mem_of_getElem? (i := 73) (by decide +kernel)) (by decide +kernel)
  | 42, _ => exact tb_7 _ (List.mem_of_getElem? (i := 75) (by decide +kernel)) (by decide +kernel)
  | 43, _ => exact tb_7 _ (List.mem_of_getElem? (i := 77) (by decide +kernel)) (by decide +kernel)
  | 44, _ => exact tb_7 _ (List.mem_of_getElem? (i := 79) (by decide +kernel)) (by decide +kernel)
  | 45, _ => exact tb_7 _ (List.mem_of_getElem? (i := 81) (by decide +kernel)) (by decide +kernel)
  | 46, _ => exact tb_7 _ (List.mem_of_getElem? (i := 83) (by decide +kernel)) (by decide +kernel)
  | 47, _ => exact tb_7 _ (List.mem_of_getElem? (i := 85) (by decide +kernel)) (by decide +kernel)
  | 48, _ => exact tb_7 _ (List.mem_of_getElem? (i := 87) (by decide +kernel)) (by decide +kernel)
  | 49, _ => exact tb_7 _ (List.mem_of_getElem? (i := 89) (by decide +kernel)) (by decide +kernel)
  | 50, _ => exact tb_7 _ (List.mem_of_getElem? (i := 91) (by decide +kernel)) (by decide +kernel)
  | 51, _ => exact tb_7 _ (List.mem_of_getElem? (i := 93) (by decide +kernel)) (by decide +kernel)
  | 52, _ => exact tb_7 _ (List.mem_of_getElem? (i := 95) (by decide +kernel)) (by decide +kernel)
  | k + 53, hk => exact absurd hk (by omega)
