def adr (x0 m0 : Nat) (qx qm : Nat → Nat) : Nat → Nat := fun c => if c < 60 then [x0, (qx 0), (qx 1), (qx 2), (qx 3), (qx 4), (qx 5), (qx 6), (qx 7), (qx 8), (qx 78), (qx 79), (qx 80), (qx 81), (qx 82), (qx 83), (qx 84), (qx 85), (qx 86), (qx 87), (qx 88), (qx 89), (qx 90), (qx 91), (qx 92), (qx 93), (qx 94), (qx 95), (qx 9), (qx 10), (qx 11), (qx 12), (qx 13), (qx 14), (qx 15), (qx 16), (qx 17), (qx 18), (qx 19), (qx 20), (qx 21), (qx 22), (qx 23), (qx 24), (qx 25), (qx 26), (qx 27), (qx 28), (qx 29), (qx 30), (qx 31), (qx 32), (qx 33), (qx 34), (qx 35), (qx 36), (qx 37), (qx 38), (qx 39), (qx 40)].getD c 0 else [(qx 41), (qx 42), (qx 45), (qx 46), (qx 47), (qx 48), (qx 49), (qx 50), (qx 51), (qx 52), (qx 53), (qx 54), (qx 55), (qx 56), (qx 57), (qx 58), (qx 59), (qx 60), (qx 61), (qx 62), (qx 63), (qx 64), (qx 43), (qx 44), (qx 65), (qx 66), (qx 67), (qx 68), (qx 69), (qx 70), (qx 71), (qx 72), (qx 73), (qx 74), (qx 75), (qx 76), (qx 77), m0, (qm 0), (qm 1), (qm 2), (qm 3), (qm 4), (qm 5), (qm 6), (qm 7), (qm 8), (qm 9), (qm 10), (qm 11), (qm 12), (qm 13), (qm 14), (qm 15), (qm 16), (qm 17), (qm 18)].getD (c - 60) 0
def P2w (dA : Nat → ClassId) (x0 m0 : Nat) (qx qm : Nat → Nat) : va_W := [(x0, .inr (9, [.ref (qx 0), .ref (qx 9), .ref (qx 10), .ref (qx 11), .ref (qx 12), .ref (qx 34), .ref (qx 41), .ref (qx 65), .ref (qx 72), .ref (qx 77), vi 0, vi 0, vi (-1), vi (-1)])), ((qx 0), .inr (6, [.ref (qx 1), .ref (qx 6), vi 0, .ref (qx 7), vi 0, .ref (qx 8), vi 0])), ((qx 1), .inr (7, [.ref (qx 2), .ref (qx 3), .ref (qx 4), .ref (qx 5), vl 1, vi 0])), ((qx 2), zI dA 6), ((qx 3), zI dA 6), ((qx 4), zL dA 24), ((qx 5), zL dA 24), ((qx 6), zI dA 3), ((qx 7), zI dA 18), ((qx 8), zI dA 18), ((qx 78), .inr (6, [.ref (qx 79), .ref (qx 84), vi 0, .ref (qx 85), vi 0, .ref (qx 86), vi 0])), ((qx 79), .inr (7, [.ref (qx 80), .ref (qx 81), .ref (qx 82), .ref (qx 83), vl 1, vi 0])), ((qx 80), zI dA 6), ((qx 81), zI dA 6), ((qx 82), zL dA 24), ((qx 83), zL dA 24), ((qx 84), zI dA 3), ((qx 85), zI dA 18), ((qx 86), zI dA 18), ((qx 87), .inr (6, [.ref (qx 88), .ref (qx 93), vi 0, .ref (qx 94), vi 0, .ref (qx 95), vi 0])), ((qx 88), .inr (7, [.ref (qx 89), .ref (qx 90), .ref (qx 91), .ref (qx 92), vl 1, vi 0])), ((qx 89), zI dA 6), ((qx 90), zI dA 6), ((qx 91), zL dA 24), ((qx 92), zL dA 24), ((qx 93), zI dA 3), ((qx 94), zI dA 18), ((qx 95), zI dA 18), ((qx 9), .inl (dA 3, 2, .inr (.inr (.inr (.inr (fun j => some (adr x0 m0 qx qm ([10, 19].getD j 0)))))))), ((qx 10), zZ dA 2), ((qx 11), .inr (2, [.ref (qx 12), .ref (qx 18), vi 0])), ((qx 12), .inr (8, [.ref (qx 13), vi 0, .ref (qx 14), .ref (qx 15), .ref (qx 16), .ref (qx 17), vi 0, vi 0])), ((qx 13), zI dA 400), ((qx 14), zI dA 401), ((qx 15), zI dA 401), ((qx 16), zI dA 401), ((qx 17), zI dA 401), ((qx 18), .inr (4, [.ref (qx 19), vi 0, .ref (qx 20), .ref (qx 21), vi 0])), ((qx 19), .inl (dA 4, 12, .inr (.inr (.inr (.inr (fun j => some (adr x0 m0 qx qm ([41, 42, 43, 44, 45, 46, 47, 48, 49, 50, 51, 52].getD j 0)))))))), ((qx 20), zI dA 400), ((qx 21), zI dA 400), ((qx 22), .inr (0, [vi 0, vi 0, vi 0, vi 0, vi 0, vi 0, vi 0, vi 0])), ((qx 23), .inr (0, [vi 0, vi 0, vi 0, vi 0, vi 0, vi 0, vi 0, vi 0])), ((qx 24), .inr (0, [vi 0, vi 0, vi 0, vi 0, vi 0, vi 0, vi 0, vi 0])), ((qx 25), .inr (0, [vi 0, vi 0, vi 0, vi 0, vi 0, vi 0, vi 0, vi 0])), ((qx 26), .inr (0, [vi 0, vi 0, vi 0, vi 0, vi 0, vi 0, vi 0, vi 0])), ((qx 27), .inr (0, [vi 0, vi 0, vi 0, vi 0, vi 0, vi 0, vi 0, vi 0])), ((qx 28), .inr (0, [vi 0, vi 0, vi 0, vi 0, vi 0, vi 0, vi 0, vi 0])), ((qx 29), .inr (0, [vi 0, vi 0, vi 0, vi 0, vi 0, vi 0, vi 0, vi 0])), ((qx 30), .inr (0, [vi 0, vi 0, vi 0, vi 0, vi 0, vi 0, vi 0, vi 0])), ((qx 31), .inr (0, [vi 0, vi 0, vi 0, vi 0, vi 0, vi 0, vi 0, vi 0])), ((qx 32), .inr (0, [vi 0, vi 0, vi 0, vi 0, vi 0, vi 0, vi 0, vi 0])), ((qx 33), .inr (0, [vi 0, vi 0, vi 0, vi 0, vi 0, vi 0, vi 0, vi 0])), ((qx 34), .inr (3, [.ref (qx 35), .ref (qx 40), vi 0, vi 0, vi 0])), ((qx 35), .inr (7, [.ref (qx 36), .ref (qx 37), .ref (qx 38), .ref (qx 39), vl 1, vi 0])), ((qx 36), zI dA 6), ((qx 37), zI dA 6), ((qx 38), zL dA 24), ((qx 39), zL dA 24), ((qx 40), zL dA 50), ((qx 41), .inr (5, [.ref (qx 42), .ref (qx 43), .ref (qx 44), vi 0, vi 0, vi 0, vi 0, vi 0, vi 0])), ((qx 42), .inl (dA 5, 4, .inr (.inr (.inr (.inr (fun j => some (adr x0 m0 qx qm ([62, 67, 72, 77].getD j 0)))))))), ((qx 45), .inr (7, [.ref (qx 46), .ref (qx 47), .ref (qx 48), .ref (qx 49), vl 1, vi 0])), ((qx 46), zI dA 6), ((qx 47), zI dA 6), ((qx 48), zL dA 24), ((qx 49), zL dA 24), ((qx 50), .inr (7, [.ref (qx 51), .ref (qx 52), .ref (qx 53), .ref (qx 54), vl 1, vi 0])), ((qx 51), zI dA 6), ((qx 52), zI dA 6), ((qx 53), zL dA 24), ((qx 54), zL dA 24), ((qx 55), .inr (7, [.ref (qx 56), .ref (qx 57), .ref (qx 58), .ref (qx 59), vl 1, vi 0])), ((qx 56), zI dA 6), ((qx 57), zI dA 6), ((qx 58), zL dA 24), ((qx 59), zL dA 24), ((qx 60), .inr (7, [.ref (qx 61), .ref (qx 62), .ref (qx 63), .ref (qx 64), vl 1, vi 0])), ((qx 61), zI dA 6), ((qx 62), zI dA 6), ((qx 63), zL dA 24), ((qx 64), zL dA 24), ((qx 43), zI dA 9), ((qx 44), zI dA 9), ((qx 65), .inr (1, [.ref (qx 66), .ref (qx 67), vi 0, .ref (qx 68), .ref (qx 69), .ref (qx 70), .ref (qx 71)])), ((qx 66), zI dA 6), ((qx 67), zI dA 6), ((qx 68), zI dA 7), ((qx 69), zI dA 7), ((qx 70), zI dA 7), ((qx 71), zI dA 7), ((qx 72), .inr (7, [.ref (qx 73), .ref (qx 74), .ref (qx 75), .ref (qx 76), vl 1, vi 0])), ((qx 73), zI dA 6), ((qx 74), zI dA 6), ((qx 75), zL dA 24), ((qx 76), zL dA 24), ((qx 77), zI dA 5), (m0, .inr (10, [vi 0, vi 0, .ref (qm 0), .ref (qm 1), .ref (qm 2), .ref (qm 3), .ref (qm 4), .ref (qm 5), .ref (qm 6), .ref (qm 7), vi 0, .ref (qm 8), vi 0, vi 0, vi 0, vi 0, vl 0, vi (-1), vi 0, vi 0, .ref (qm 9), vi 0, .ref (qm 10), .ref (qm 11), vi 0, .ref (qm 12), .ref (qm 13), vi 0, vi 0, .ref (qm 14), vi 0, vl 0, vi 0, vi (-1), .ref (qm 15), .ref (qm 16), vi 0, vi 0, vi 0, vi 0, vi 0, .ref (qm 17), vl 0, .ref (qm 18), vi 0])), ((qm 0), zI dA 7), ((qm 1), zI dA 49), ((qm 2), zI dA 98), ((qm 3), .inl (dA 1, 25, .inr (.inl (fun j => Int64.ofInt (msL (fun _ => 0) 24 1 j))))), ((qm 4), zL dA 50), ((qm 5), zZ dA 2), ((qm 6), zL dA 300), ((qm 7), zL dA 4), ((qm 8), zI dA 400), ((qm 9), zI dA 96), ((qm 10), zI dA 400), ((qm 11), zI dA 400), ((qm 12), zI dA 400), ((qm 13), zI dA 400), ((qm 14), zL dA 400), ((qm 15), zI dA 3), ((qm 16), zI dA 3), ((qm 17), zI dA 294147), ((qm 18), zI dA 24)]
theorem ceI0 (X : Cx) {n c : Nat} {r : List Nat} (h : ∀ i, M0 c i = 0) : ce X (1, n, r) (M0 c) = zI X.2.2.2.1 n := by
  show (Sum.inl (X.2.2.2.1 0, n, Sum.inl (fun j => Int32.ofInt (M0 c j))) : va_E) = _
  rw [show (fun j => Int32.ofInt (M0 c j)) = (fun _ => Int32.ofInt 0) from funext fun j => by rw [h]]
  rfl
theorem ceL0 (X : Cx) {n c : Nat} {r : List Nat} (h : ∀ i, M0 c i = 0) : ce X (2, n, r) (M0 c) = zL X.2.2.2.1 n := by
  show (Sum.inl (X.2.2.2.1 1, n, Sum.inr (Sum.inl (fun j => Int64.ofInt (M0 c j)))) : va_E) = _
  rw [show (fun j => Int64.ofInt (M0 c j)) = (fun _ => Int64.ofInt 0) from funext fun j => by rw [h]]
  rfl
theorem ceZ0 (X : Cx) {n c : Nat} {r : List Nat} (h : ∀ i, M0 c i = 0) : ce X (3, n, r) (M0 c) = zZ X.2.2.2.1 n := by
  show (Sum.inl (X.2.2.2.1 2, n, Sum.inl (fun j => Int32.ofInt (M0 c j))) : va_E) = _
  rw [show (fun j => Int32.ofInt (M0 c j)) = (fun _ => Int32.ofInt 0) from funext fun j => by rw [h]]
  rfl
theorem w0_0 (X : Cx) : ce X (0, 9, [4, 31, 32, 33, 34, 56, 63, 87, 94, 99, 0, 0, 0, 0]) (M0 0) = .inr (9, [vr X 1, vr X 28, vr X 29, vr X 30, vr X 31, vr X 53, vr X 60, vr X 84, vr X 91, vr X 96, vi 0, vi 0, vi (-1), vi (-1)]) := by rfl
theorem w1_0 (l : Launch) (D : va_G) (dA : Nat → ClassId) (sa sb : Nat → Nat) (x0 m0 : Nat) (qx qm : Nat → Nat) : (P2w dA x0 m0 qx qm)[0]? = some (adr x0 m0 qx qm 0, ce (l, adr x0 m0 qx qm, D, dA, sa, sb) (0, 9, [4, 31, 32, 33, 34, 56, 63, 87, 94, 99, 0, 0, 0, 0]) (M0 0)) := by
  rw [w0_0]
  rfl
theorem w0_1 (X : Cx) : ce X (0, 6, [5, 10, 0, 11, 0, 12, 0]) (M0 1) = .inr (6, [vr X 2, vr X 7, vi 0, vr X 8, vi 0, vr X 9, vi 0]) := by rfl
theorem w1_1 (l : Launch) (D : va_G) (dA : Nat → ClassId) (sa sb : Nat → Nat) (x0 m0 : Nat) (qx qm : Nat → Nat) : (P2w dA x0 m0 qx qm)[1]? = some (adr x0 m0 qx qm 1, ce (l, adr x0 m0 qx qm, D, dA, sa, sb) (0, 6, [5, 10, 0, 11, 0, 12, 0]) (M0 1)) := by
  rw [w0_1]
  rfl
theorem w0_2 (X : Cx) : ce X (0, 7, [6, 7, 2, 2, 1, 0]) (M0 2) = .inr (7, [vr X 3, vr X 4, vr X 5, vr X 6, vl 1, vi 0]) := by rfl
theorem w1_2 (l : Launch) (D : va_G) (dA : Nat → ClassId) (sa sb : Nat → Nat) (x0 m0 : Nat) (qx qm : Nat → Nat) : (P2w dA x0 m0 qx qm)[2]? = some (adr x0 m0 qx qm 2, ce (l, adr x0 m0 qx qm, D, dA, sa, sb) (0, 7, [6, 7, 2, 2, 1, 0]) (M0 2)) := by
  rw [w0_2]
  rfl
theorem w1_3 (l : Launch) (D : va_G) (dA : Nat → ClassId) (sa sb : Nat → Nat) (x0 m0 : Nat) (qx qm : Nat → Nat) : (P2w dA x0 m0 qx qm)[3]? = some (adr x0 m0 qx qm 3, ce (l, adr x0 m0 qx qm, D, dA, sa, sb) (1, 6, []) (M0 3)) := by
  rw [ceI0 _ (fun i => M0z (c := 3) (by decide) rfl i)]
  rfl
theorem w1_4 (l : Launch) (D : va_G) (dA : Nat → ClassId) (sa sb : Nat → Nat) (x0 m0 : Nat) (qx qm : Nat → Nat) : (P2w dA x0 m0 qx qm)[4]? = some (adr x0 m0 qx qm 4, ce (l, adr x0 m0 qx qm, D, dA, sa, sb) (1, 6, []) (M0 4)) := by
  rw [ceI0 _ (fun i => M0z (c := 4) (by decide) rfl i)]
  rfl
theorem w1_5 (l : Launch) (D : va_G) (dA : Nat → ClassId) (sa sb : Nat → Nat) (x0 m0 : Nat) (qx qm : Nat → Nat) : (P2w dA x0 m0 qx qm)[5]? = some (adr x0 m0 qx qm 5, ce (l, adr x0 m0 qx qm, D, dA, sa, sb) (2, 24, []) (M0 5)) := by
  rw [ceL0 _ (fun i => M0z (c := 5) (by decide) rfl i)]
  rfl
theorem w1_6 (l : Launch) (D : va_G) (dA : Nat → ClassId) (sa sb : Nat → Nat) (x0 m0 : Nat) (qx qm : Nat → Nat) : (P2w dA x0 m0 qx qm)[6]? = some (adr x0 m0 qx qm 6, ce (l, adr x0 m0 qx qm, D, dA, sa, sb) (2, 24, []) (M0 6)) := by
  rw [ceL0 _ (fun i => M0z (c := 6) (by decide) rfl i)]
  rfl
theorem w1_7 (l : Launch) (D : va_G) (dA : Nat → ClassId) (sa sb : Nat → Nat) (x0 m0 : Nat) (qx qm : Nat → Nat) : (P2w dA x0 m0 qx qm)[7]? = some (adr x0 m0 qx qm 7, ce (l, adr x0 m0 qx qm, D, dA, sa, sb) (1, 3, []) (M0 7)) := by
  rw [ceI0 _ (fun i => M0z (c := 7) (by decide) rfl i)]
  rfl
theorem w1_8 (l : Launch) (D : va_G) (dA : Nat → ClassId) (sa sb : Nat → Nat) (x0 m0 : Nat) (qx qm : Nat → Nat) : (P2w dA x0 m0 qx qm)[8]? = some (adr x0 m0 qx qm 8, ce (l, adr x0 m0 qx qm, D, dA, sa, sb) (1, 18, []) (M0 8)) := by
  rw [ceI0 _ (fun i => M0z (c := 8) (by decide) rfl i)]
  rfl
theorem w1_9 (l : Launch) (D : va_G) (dA : Nat → ClassId) (sa sb : Nat → Nat) (x0 m0 : Nat) (qx qm : Nat → Nat) : (P2w dA x0 m0 qx qm)[9]? = some (adr x0 m0 qx qm 9, ce (l, adr x0 m0 qx qm, D, dA, sa, sb) (1, 18, []) (M0 9)) := by
  rw [ceI0 _ (fun i => M0z (c := 9) (by decide) rfl i)]
  rfl
theorem w0_10 (X : Cx) : ce X (0, 6, [14, 19, 0, 20, 0, 21, 0]) (M0 10) = .inr (6, [vr X 11, vr X 16, vi 0, vr X 17, vi 0, vr X 18, vi 0]) := by rfl
theorem w1_10 (l : Launch) (D : va_G) (dA : Nat → ClassId) (sa sb : Nat → Nat) (x0 m0 : Nat) (qx qm : Nat → Nat) : (P2w dA x0 m0 qx qm)[10]? = some (adr x0 m0 qx qm 10, ce (l, adr x0 m0 qx qm, D, dA, sa, sb) (0, 6, [14, 19, 0, 20, 0, 21, 0]) (M0 10)) := by
  rw [w0_10]
  rfl
theorem w0_11 (X : Cx) : ce X (0, 7, [15, 16, 2, 2, 1, 0]) (M0 11) = .inr (7, [vr X 12, vr X 13, vr X 14, vr X 15, vl 1, vi 0]) := by rfl
theorem w1_11 (l : Launch) (D : va_G) (dA : Nat → ClassId) (sa sb : Nat → Nat) (x0 m0 : Nat) (qx qm : Nat → Nat) : (P2w dA x0 m0 qx qm)[11]? = some (adr x0 m0 qx qm 11, ce (l, adr x0 m0 qx qm, D, dA, sa, sb) (0, 7, [15, 16, 2, 2, 1, 0]) (M0 11)) := by
  rw [w0_11]
  rfl
theorem w1_12 (l : Launch) (D : va_G) (dA : Nat → ClassId) (sa sb : Nat → Nat) (x0 m0 : Nat) (qx qm : Nat → Nat) : (P2w dA x0 m0 qx qm)[12]? = some (adr x0 m0 qx qm 12, ce (l, adr x0 m0 qx qm, D, dA, sa, sb) (1, 6, []) (M0 12)) := by
  rw [ceI0 _ (fun i => M0z (c := 12) (by decide) rfl i)]
  rfl
theorem w1_13 (l : Launch) (D : va_G) (dA : Nat → ClassId) (sa sb : Nat → Nat) (x0 m0 : Nat) (qx qm : Nat → Nat) : (P2w dA x0 m0 qx qm)[13]? = some (adr x0 m0 qx qm 13, ce (l, adr x0 m0 qx qm, D, dA, sa, sb) (1, 6, []) (M0 13)) := by
  rw [ceI0 _ (fun i => M0z (c := 13) (by decide) rfl i)]
  rfl
theorem w1_14 (l : Launch) (D : va_G) (dA : Nat → ClassId) (sa sb : Nat → Nat) (x0 m0 : Nat) (qx qm : Nat → Nat) : (P2w dA x0 m0 qx qm)[14]? = some (adr x0 m0 qx qm 14, ce (l, adr x0 m0 qx qm, D, dA, sa, sb) (2, 24, []) (M0 14)) := by
  rw [ceL0 _ (fun i => M0z (c := 14) (by decide) rfl i)]
  rfl
theorem w1_15 (l : Launch) (D : va_G) (dA : Nat → ClassId) (sa sb : Nat → Nat) (x0 m0 : Nat) (qx qm : Nat → Nat) : (P2w dA x0 m0 qx qm)[15]? = some (adr x0 m0 qx qm 15, ce (l, adr x0 m0 qx qm, D, dA, sa, sb) (2, 24, []) (M0 15)) := by
  rw [ceL0 _ (fun i => M0z (c := 15) (by decide) rfl i)]
  rfl
theorem w1_16 (l : Launch) (D : va_G) (dA : Nat → ClassId) (sa sb : Nat → Nat) (x0 m0 : Nat) (qx qm : Nat → Nat) : (P2w dA x0 m0 qx qm)[16]? = some (adr x0 m0 qx qm 16, ce (l, adr x0 m0 qx qm, D, dA, sa, sb) (1, 3, []) (M0 16)) := by
  rw [ceI0 _ (fun i => M0z (c := 16) (by decide) rfl i)]
  rfl
theorem w1_17 (l : Launch) (D : va_G) (dA : Nat → ClassId) (sa sb : Nat → Nat) (x0 m0 : Nat) (qx qm : Nat → Nat) : (P2w dA x0 m0 qx qm)[17]? = some (adr x0 m0 qx qm 17, ce (l, adr x0 m0 qx qm, D, dA, sa, sb) (1, 18, []) (M0 17)) := by
  rw [ceI0 _ (fun i => M0z (c := 17) (by decide) rfl i)]
  rfl
theorem w1_18 (l : Launch) (D : va_G) (dA : Nat → ClassId) (sa sb : Nat → Nat) (x0 m0 : Nat) (qx qm : Nat → Nat) : (P2w dA x0 m0 qx qm)[18]? = some (adr x0 m0 qx qm 18, ce (l, adr x0 m0 qx qm, D, dA, sa, sb) (1, 18, []) (M0 18)) := by
  rw [ceI0 _ (fun i => M0z (c := 18) (by decide) rfl i)]
  rfl
theorem w0_19 (X : Cx) : ce X (0, 6, [23, 28, 0, 29, 0, 30, 0]) (M0 19) = .inr (6, [vr X 20, vr X 25, vi 0, vr X 26, vi 0, vr X 27, vi 0]) := by rfl
theorem w1_19 (l : Launch) (D : va_G) (dA : Nat → ClassId) (sa sb : Nat → Nat) (x0 m0 : Nat) (qx qm : Nat → Nat) : (P2w dA x0 m0 qx qm)[19]? = some (adr x0 m0 qx qm 19, ce (l, adr x0 m0 qx qm, D, dA, sa, sb) (0, 6, [23, 28, 0, 29, 0, 30, 0]) (M0 19)) := by
  rw [w0_19]
  rfl
theorem w0_20 (X : Cx) : ce X (0, 7, [24, 25, 2, 2, 1, 0]) (M0 20) = .inr (7, [vr X 21, vr X 22, vr X 23, vr X 24, vl 1, vi 0]) := by rfl
theorem w1_20 (l : Launch) (D : va_G) (dA : Nat → ClassId) (sa sb : Nat → Nat) (x0 m0 : Nat) (qx qm : Nat → Nat) : (P2w dA x0 m0 qx qm)[20]? = some (adr x0 m0 qx qm 20, ce (l, adr x0 m0 qx qm, D, dA, sa, sb) (0, 7, [24, 25, 2, 2, 1, 0]) (M0 20)) := by
  rw [w0_20]
  rfl
theorem w1_21 (l : Launch) (D : va_G) (dA : Nat → ClassId) (sa sb : Nat → Nat) (x0 m0 : Nat) (qx qm : Nat → Nat) : (P2w dA x0 m0 qx qm)[21]? = some (adr x0 m0 qx qm 21, ce (l, adr x0 m0 qx qm, D, dA, sa, sb) (1, 6, []) (M0 21)) := by
  rw [ceI0 _ (fun i => M0z (c := 21) (by decide) rfl i)]
  rfl
theorem w1_22 (l : Launch) (D : va_G) (dA : Nat → ClassId) (sa sb : Nat → Nat) (x0 m0 : Nat) (qx qm : Nat → Nat) : (P2w dA x0 m0 qx qm)[22]? = some (adr x0 m0 qx qm 22, ce (l, adr x0 m0 qx qm, D, dA, sa, sb) (1, 6, []) (M0 22)) := by
  rw [ceI0 _ (fun i => M0z (c := 22) (by decide) rfl i)]
  rfl
theorem w1_23 (l : Launch) (D : va_G) (dA : Nat → ClassId) (sa sb : Nat → Nat) (x0 m0 : Nat) (qx qm : Nat → Nat) : (P2w dA x0 m0 qx qm)[23]? = some (adr x0 m0 qx qm 23, ce (l, adr x0 m0 qx qm, D, dA, sa, sb) (2, 24, []) (M0 23)) := by
  rw [ceL0 _ (fun i => M0z (c := 23) (by decide) rfl i)]
  rfl
theorem w1_24 (l : Launch) (D : va_G) (dA : Nat → ClassId) (sa sb : Nat → Nat) (x0 m0 : Nat) (qx qm : Nat → Nat) : (P2w dA x0 m0 qx qm)[24]? = some (adr x0 m0 qx qm 24, ce (l, adr x0 m0 qx qm, D, dA, sa, sb) (2, 24, []) (M0 24)) := by
  rw [ceL0 _ (fun i => M0z (c := 24) (by decide) rfl i)]
  rfl
theorem w1_25 (l : Launch) (D : va_G) (dA : Nat → ClassId) (sa sb : Nat → Nat) (x0 m0 : Nat) (qx qm : Nat → Nat) : (P2w dA x0 m0 qx qm)[25]? = some (adr x0 m0 qx qm 25, ce (l, adr x0 m0 qx qm, D, dA, sa, sb) (1, 3, []) (M0 25)) := by
  rw [ceI0 _ (fun i => M0z (c := 25) (by decide) rfl i)]
  rfl
theorem w1_26 (l : Launch) (D : va_G) (dA : Nat → ClassId) (sa sb : Nat → Nat) (x0 m0 : Nat) (qx qm : Nat → Nat) : (P2w dA x0 m0 qx qm)[26]? = some (adr x0 m0 qx qm 26, ce (l, adr x0 m0 qx qm, D, dA, sa, sb) (1, 18, []) (M0 26)) := by
  rw [ceI0 _ (fun i => M0z (c := 26) (by decide) rfl i)]
  rfl
theorem w1_27 (l : Launch) (D : va_G) (dA : Nat → ClassId) (sa sb : Nat → Nat) (x0 m0 : Nat) (qx qm : Nat → Nat) : (P2w dA x0 m0 qx qm)[27]? = some (adr x0 m0 qx qm 27, ce (l, adr x0 m0 qx qm, D, dA, sa, sb) (1, 18, []) (M0 27)) := by
  rw [ceI0 _ (fun i => M0z (c := 27) (by decide) rfl i)]
  rfl
theorem w1_28 (l : Launch) (D : va_G) (dA : Nat → ClassId) (sa sb : Nat → Nat) (x0 m0 : Nat) (qx qm : Nat → Nat) : (P2w dA x0 m0 qx qm)[28]? = some (adr x0 m0 qx qm 28, ce (l, adr x0 m0 qx qm, D, dA, sa, sb) (4, 2, [10, 19]) (M0 28)) := by
  rfl
theorem w1_29 (l : Launch) (D : va_G) (dA : Nat → ClassId) (sa sb : Nat → Nat) (x0 m0 : Nat) (qx qm : Nat → Nat) : (P2w dA x0 m0 qx qm)[29]? = some (adr x0 m0 qx qm 29, ce (l, adr x0 m0 qx qm, D, dA, sa, sb) (3, 2, []) (M0 29)) := by
  rw [ceZ0 _ (fun i => M0z (c := 29) (by decide) rfl i)]
  rfl
theorem w0_30 (X : Cx) : ce X (0, 2, [34, 40, 0]) (M0 30) = .inr (2, [vr X 31, vr X 37, vi 0]) := by rfl
theorem w1_30 (l : Launch) (D : va_G) (dA : Nat → ClassId) (sa sb : Nat → Nat) (x0 m0 : Nat) (qx qm : Nat → Nat) : (P2w dA x0 m0 qx qm)[30]? = some (adr x0 m0 qx qm 30, ce (l, adr x0 m0 qx qm, D, dA, sa, sb) (0, 2, [34, 40, 0]) (M0 30)) := by
  rw [w0_30]
  rfl
theorem w0_31 (X : Cx) : ce X (0, 8, [35, 0, 36, 37, 38, 39, 0, 0]) (M0 31) = .inr (8, [vr X 32, vi 0, vr X 33, vr X 34, vr X 35, vr X 36, vi 0, vi 0]) := by rfl
theorem w1_31 (l : Launch) (D : va_G) (dA : Nat → ClassId) (sa sb : Nat → Nat) (x0 m0 : Nat) (qx qm : Nat → Nat) : (P2w dA x0 m0 qx qm)[31]? = some (adr x0 m0 qx qm 31, ce (l, adr x0 m0 qx qm, D, dA, sa, sb) (0, 8, [35, 0, 36, 37, 38, 39, 0, 0]) (M0 31)) := by
  rw [w0_31]
  rfl
theorem w1_32 (l : Launch) (D : va_G) (dA : Nat → ClassId) (sa sb : Nat → Nat) (x0 m0 : Nat) (qx qm : Nat → Nat) : (P2w dA x0 m0 qx qm)[32]? = some (adr x0 m0 qx qm 32, ce (l, adr x0 m0 qx qm, D, dA, sa, sb) (1, 400, []) (M0 32)) := by
  rw [ceI0 _ (fun i => M0z (c := 32) (by decide) rfl i)]
  rfl
theorem w1_33 (l : Launch) (D : va_G) (dA : Nat → ClassId) (sa sb : Nat → Nat) (x0 m0 : Nat) (qx qm : Nat → Nat) : (P2w dA x0 m0 qx qm)[33]? = some (adr x0 m0 qx qm 33, ce (l, adr x0 m0 qx qm, D, dA, sa, sb) (1, 401, []) (M0 33)) := by
  rw [ceI0 _ (fun i => M0z (c := 33) (by decide) rfl i)]
  rfl
theorem w1_34 (l : Launch) (D : va_G) (dA : Nat → ClassId) (sa sb : Nat → Nat) (x0 m0 : Nat) (qx qm : Nat → Nat) : (P2w dA x0 m0 qx qm)[34]? = some (adr x0 m0 qx qm 34, ce (l, adr x0 m0 qx qm, D, dA, sa, sb) (1, 401, []) (M0 34)) := by
  rw [ceI0 _ (fun i => M0z (c := 34) (by decide) rfl i)]
  rfl
theorem w1_35 (l : Launch) (D : va_G) (dA : Nat → ClassId) (sa sb : Nat → Nat) (x0 m0 : Nat) (qx qm : Nat → Nat) : (P2w dA x0 m0 qx qm)[35]? = some (adr x0 m0 qx qm 35, ce (l, adr x0 m0 qx qm, D, dA, sa, sb) (1, 401, []) (M0 35)) := by
  rw [ceI0 _ (fun i => M0z (c := 35) (by decide) rfl i)]
  rfl
theorem w1_36 (l : Launch) (D : va_G) (dA : Nat → ClassId) (sa sb : Nat → Nat) (x0 m0 : Nat) (qx qm : Nat → Nat) : (P2w dA x0 m0 qx qm)[36]? = some (adr x0 m0 qx qm 36, ce (l, adr x0 m0 qx qm, D, dA, sa, sb) (1, 401, []) (M0 36)) := by
  rw [ceI0 _ (fun i => M0z (c := 36) (by decide) rfl i)]
  rfl
theorem w0_37 (X : Cx) : ce X (0, 4, [41, 0, 42, 43, 0]) (M0 37) = .inr (4, [vr X 38, vi 0, vr X 39, vr X 40, vi 0]) := by rfl
theorem w1_37 (l : Launch) (D : va_G) (dA : Nat → ClassId) (sa sb : Nat → Nat) (x0 m0 : Nat) (qx qm : Nat → Nat) : (P2w dA x0 m0 qx qm)[37]? = some (adr x0 m0 qx qm 37, ce (l, adr x0 m0 qx qm, D, dA, sa, sb) (0, 4, [41, 0, 42, 43, 0]) (M0 37)) := by
  rw [w0_37]
  rfl
theorem w1_38 (l : Launch) (D : va_G) (dA : Nat → ClassId) (sa sb : Nat → Nat) (x0 m0 : Nat) (qx qm : Nat → Nat) : (P2w dA x0 m0 qx qm)[38]? = some (adr x0 m0 qx qm 38, ce (l, adr x0 m0 qx qm, D, dA, sa, sb) (5, 12, [41, 42, 43, 44, 45, 46, 47, 48, 49, 50, 51, 52]) (M0 38)) := by
  rfl
theorem w1_39 (l : Launch) (D : va_G) (dA : Nat → ClassId) (sa sb : Nat → Nat) (x0 m0 : Nat) (qx qm : Nat → Nat) : (P2w dA x0 m0 qx qm)[39]? = some (adr x0 m0 qx qm 39, ce (l, adr x0 m0 qx qm, D, dA, sa, sb) (1, 400, []) (M0 39)) := by
  rw [ceI0 _ (fun i => M0z (c := 39) (by decide) rfl i)]
  rfl
theorem w1_40 (l : Launch) (D : va_G) (dA : Nat → ClassId) (sa sb : Nat → Nat) (x0 m0 : Nat) (qx qm : Nat → Nat) : (P2w dA x0 m0 qx qm)[40]? = some (adr x0 m0 qx qm 40, ce (l, adr x0 m0 qx qm, D, dA, sa, sb) (1, 400, []) (M0 40)) := by
  rw [ceI0 _ (fun i => M0z (c := 40) (by decide) rfl i)]
  rfl
theorem w0_41 (X : Cx) : ce X (0, 0, [0, 0, 0, 0, 0, 0, 0, 0]) (M0 41) = .inr (0, [vi 0, vi 0, vi 0, vi 0, vi 0, vi 0, vi 0, vi 0]) := by rfl
theorem w1_41 (l : Launch) (D : va_G) (dA : Nat → ClassId) (sa sb : Nat → Nat) (x0 m0 : Nat) (qx qm : Nat → Nat) : (P2w dA x0 m0 qx qm)[41]? = some (adr x0 m0 qx qm 41, ce (l, adr x0 m0 qx qm, D, dA, sa, sb) (0, 0, [0, 0, 0, 0, 0, 0, 0, 0]) (M0 41)) := by
  rw [w0_41]
  rfl
theorem w0_42 (X : Cx) : ce X (0, 0, [0, 0, 0, 0, 0, 0, 0, 0]) (M0 42) = .inr (0, [vi 0, vi 0, vi 0, vi 0, vi 0, vi 0, vi 0, vi 0]) := by rfl
theorem w1_42 (l : Launch) (D : va_G) (dA : Nat → ClassId) (sa sb : Nat → Nat) (x0 m0 : Nat) (qx qm : Nat → Nat) : (P2w dA x0 m0 qx qm)[42]? = some (adr x0 m0 qx qm 42, ce (l, adr x0 m0 qx qm, D, dA, sa, sb) (0, 0, [0, 0, 0, 0, 0, 0, 0, 0]) (M0 42)) := by
  rw [w0_42]
  rfl
theorem w0_43 (X : Cx) : ce X (0, 0, [0, 0, 0, 0, 0, 0, 0, 0]) (M0 43) = .inr (0, [vi 0, vi 0, vi 0, vi 0, vi 0, vi 0, vi 0, vi 0]) := by rfl
theorem w1_43 (l : Launch) (D : va_G) (dA : Nat → ClassId) (sa sb : Nat → Nat) (x0 m0 : Nat) (qx qm : Nat → Nat) : (P2w dA x0 m0 qx qm)[43]? = some (adr x0 m0 qx qm 43, ce (l, adr x0 m0 qx qm, D, dA, sa, sb) (0, 0, [0, 0, 0, 0, 0, 0, 0, 0]) (M0 43)) := by
  rw [w0_43]
  rfl
theorem w0_44 (X : Cx) : ce X (0, 0, [0, 0, 0, 0, 0, 0, 0, 0]) (M0 44) = .inr (0, [vi 0, vi 0, vi 0, vi 0, vi 0, vi 0, vi 0, vi 0]) := by rfl
theorem w1_44 (l : Launch) (D : va_G) (dA : Nat → ClassId) (sa sb : Nat → Nat) (x0 m0 : Nat) (qx qm : Nat → Nat) : (P2w dA x0 m0 qx qm)[44]? = some (adr x0 m0 qx qm 44, ce (l, adr x0 m0 qx qm, D, dA, sa, sb) (0, 0, [0, 0, 0, 0, 0, 0, 0, 0]) (M0 44)) := by
  rw [w0_44]
  rfl
theorem w0_45 (X : Cx) : ce X (0, 0, [0, 0, 0, 0, 0, 0, 0, 0]) (M0 45) = .inr (0, [vi 0, vi 0, vi 0, vi 0, vi 0, vi 0, vi 0, vi 0]) := by rfl
theorem w1_45 (l : Launch) (D : va_G) (dA : Nat → ClassId) (sa sb : Nat → Nat) (x0 m0 : Nat) (qx qm : Nat → Nat) : (P2w dA x0 m0 qx qm)[45]? = some (adr x0 m0 qx qm 45, ce (l, adr x0 m0 qx qm, D, dA, sa, sb) (0, 0, [0, 0, 0, 0, 0, 0, 0, 0]) (M0 45)) := by
  rw [w0_45]
  rfl
theorem w0_46 (X : Cx) : ce X (0, 0, [0, 0, 0, 0, 0, 0, 0, 0]) (M0 46) = .inr (0, [vi 0, vi 0, vi 0, vi 0, vi 0, vi 0, vi 0, vi 0]) := by rfl
theorem w1_46 (l : Launch) (D : va_G) (dA : Nat → ClassId) (sa sb : Nat → Nat) (x0 m0 : Nat) (qx qm : Nat → Nat) : (P2w dA x0 m0 qx qm)[46]? = some (adr x0 m0 qx qm 46, ce (l, adr x0 m0 qx qm, D, dA, sa, sb) (0, 0, [0, 0, 0, 0, 0, 0, 0, 0]) (M0 46)) := by
  rw [w0_46]
  rfl
theorem w0_47 (X : Cx) : ce X (0, 0, [0, 0, 0, 0, 0, 0, 0, 0]) (M0 47) = .inr (0, [vi 0, vi 0, vi 0, vi 0, vi 0, vi 0, vi 0, vi 0]) := by rfl
theorem w1_47 (l : Launch) (D : va_G) (dA : Nat → ClassId) (sa sb : Nat → Nat) (x0 m0 : Nat) (qx qm : Nat → Nat) : (P2w dA x0 m0 qx qm)[47]? = some (adr x0 m0 qx qm 47, ce (l, adr x0 m0 qx qm, D, dA, sa, sb) (0, 0, [0, 0, 0, 0, 0, 0, 0, 0]) (M0 47)) := by
  rw [w0_47]
  rfl
theorem w0_48 (X : Cx) : ce X (0, 0, [0, 0, 0, 0, 0, 0, 0, 0]) (M0 48) = .inr (0, [vi 0, vi 0, vi 0, vi 0, vi 0, vi 0, vi 0, vi 0]) := by rfl
theorem w1_48 (l : Launch) (D : va_G) (dA : Nat → ClassId) (sa sb : Nat → Nat) (x0 m0 : Nat) (qx qm : Nat → Nat) : (P2w dA x0 m0 qx qm)[48]? = some (adr x0 m0 qx qm 48, ce (l, adr x0 m0 qx qm, D, dA, sa, sb) (0, 0, [0, 0, 0, 0, 0, 0, 0, 0]) (M0 48)) := by
  rw [w0_48]
  rfl
theorem w0_49 (X : Cx) : ce X (0, 0, [0, 0, 0, 0, 0, 0, 0, 0]) (M0 49) = .inr (0, [vi 0, vi 0, vi 0, vi 0, vi 0, vi 0, vi 0, vi 0]) := by rfl
theorem w1_49 (l : Launch) (D : va_G) (dA : Nat → ClassId) (sa sb : Nat → Nat) (x0 m0 : Nat) (qx qm : Nat → Nat) : (P2w dA x0 m0 qx qm)[49]? = some (adr x0 m0 qx qm 49, ce (l, adr x0 m0 qx qm, D, dA, sa, sb) (0, 0, [0, 0, 0, 0, 0, 0, 0, 0]) (M0 49)) := by
  rw [w0_49]
  rfl
theorem w0_50 (X : Cx) : ce X (0, 0, [0, 0, 0, 0, 0, 0, 0, 0]) (M0 50) = .inr (0, [vi 0, vi 0, vi 0, vi 0, vi 0, vi 0, vi 0, vi 0]) := by rfl
theorem w1_50 (l : Launch) (D : va_G) (dA : Nat → ClassId) (sa sb : Nat → Nat) (x0 m0 : Nat) (qx qm : Nat → Nat) : (P2w dA x0 m0 qx qm)[50]? = some (adr x0 m0 qx qm 50, ce (l, adr x0 m0 qx qm, D, dA, sa, sb) (0, 0, [0, 0, 0, 0, 0, 0, 0, 0]) (M0 50)) := by
  rw [w0_50]
  rfl
theorem w0_51 (X : Cx) : ce X (0, 0, [0, 0, 0, 0, 0, 0, 0, 0]) (M0 51) = .inr (0, [vi 0, vi 0, vi 0, vi 0, vi 0, vi 0, vi 0, vi 0]) := by rfl
theorem w1_51 (l : Launch) (D : va_G) (dA : Nat → ClassId) (sa sb : Nat → Nat) (x0 m0 : Nat) (qx qm : Nat → Nat) : (P2w dA x0 m0 qx qm)[51]? = some (adr x0 m0 qx qm 51, ce (l, adr x0 m0 qx qm, D, dA, sa, sb) (0, 0, [0, 0, 0, 0, 0, 0, 0, 0]) (M0 51)) := by
  rw [w0_51]
  rfl
theorem w0_52 (X : Cx) : ce X (0, 0, [0, 0, 0, 0, 0, 0, 0, 0]) (M0 52) = .inr (0, [vi 0, vi 0, vi 0, vi 0, vi 0, vi 0, vi 0, vi 0]) := by rfl
theorem w1_52 (l : Launch) (D : va_G) (dA : Nat → ClassId) (sa sb : Nat → Nat) (x0 m0 : Nat) (qx qm : Nat → Nat) : (P2w dA x0 m0 qx qm)[52]? = some (adr x0 m0 qx qm 52, ce (l, adr x0 m0 qx qm, D, dA, sa, sb) (0, 0, [0, 0, 0, 0, 0, 0, 0, 0]) (M0 52)) := by
  rw [w0_52]
  rfl
theorem w0_53 (X : Cx) : ce X (0, 3, [57, 62, 0, 0, 0]) (M0 53) = .inr (3, [vr X 54, vr X 59, vi 0, vi 0, vi 0]) := by rfl
theorem w1_53 (l : Launch) (D : va_G) (dA : Nat → ClassId) (sa sb : Nat → Nat) (x0 m0 : Nat) (qx qm : Nat → Nat) : (P2w dA x0 m0 qx qm)[53]? = some (adr x0 m0 qx qm 53, ce (l, adr x0 m0 qx qm, D, dA, sa, sb) (0, 3, [57, 62, 0, 0, 0]) (M0 53)) := by
  rw [w0_53]
  rfl
theorem w0_54 (X : Cx) : ce X (0, 7, [58, 59, 2, 2, 1, 0]) (M0 54) = .inr (7, [vr X 55, vr X 56, vr X 57, vr X 58, vl 1, vi 0]) := by rfl
theorem w1_54 (l : Launch) (D : va_G) (dA : Nat → ClassId) (sa sb : Nat → Nat) (x0 m0 : Nat) (qx qm : Nat → Nat) : (P2w dA x0 m0 qx qm)[54]? = some (adr x0 m0 qx qm 54, ce (l, adr x0 m0 qx qm, D, dA, sa, sb) (0, 7, [58, 59, 2, 2, 1, 0]) (M0 54)) := by
  rw [w0_54]
  rfl
theorem w1_55 (l : Launch) (D : va_G) (dA : Nat → ClassId) (sa sb : Nat → Nat) (x0 m0 : Nat) (qx qm : Nat → Nat) : (P2w dA x0 m0 qx qm)[55]? = some (adr x0 m0 qx qm 55, ce (l, adr x0 m0 qx qm, D, dA, sa, sb) (1, 6, []) (M0 55)) := by
  rw [ceI0 _ (fun i => M0z (c := 55) (by decide) rfl i)]
  rfl
theorem w1_56 (l : Launch) (D : va_G) (dA : Nat → ClassId) (sa sb : Nat → Nat) (x0 m0 : Nat) (qx qm : Nat → Nat) : (P2w dA x0 m0 qx qm)[56]? = some (adr x0 m0 qx qm 56, ce (l, adr x0 m0 qx qm, D, dA, sa, sb) (1, 6, []) (M0 56)) := by
  rw [ceI0 _ (fun i => M0z (c := 56) (by decide) rfl i)]
  rfl
theorem w1_57 (l : Launch) (D : va_G) (dA : Nat → ClassId) (sa sb : Nat → Nat) (x0 m0 : Nat) (qx qm : Nat → Nat) : (P2w dA x0 m0 qx qm)[57]? = some (adr x0 m0 qx qm 57, ce (l, adr x0 m0 qx qm, D, dA, sa, sb) (2, 24, []) (M0 57)) := by
  rw [ceL0 _ (fun i => M0z (c := 57) (by decide) rfl i)]
  rfl
theorem w1_58 (l : Launch) (D : va_G) (dA : Nat → ClassId) (sa sb : Nat → Nat) (x0 m0 : Nat) (qx qm : Nat → Nat) : (P2w dA x0 m0 qx qm)[58]? = some (adr x0 m0 qx qm 58, ce (l, adr x0 m0 qx qm, D, dA, sa, sb) (2, 24, []) (M0 58)) := by
  rw [ceL0 _ (fun i => M0z (c := 58) (by decide) rfl i)]
  rfl
theorem w1_59 (l : Launch) (D : va_G) (dA : Nat → ClassId) (sa sb : Nat → Nat) (x0 m0 : Nat) (qx qm : Nat → Nat) : (P2w dA x0 m0 qx qm)[59]? = some (adr x0 m0 qx qm 59, ce (l, adr x0 m0 qx qm, D, dA, sa, sb) (2, 50, []) (M0 59)) := by
  rw [ceL0 _ (fun i => M0z (c := 59) (by decide) rfl i)]
  rfl
theorem w0_60 (X : Cx) : ce X (0, 5, [64, 85, 86, 0, 0, 0, 0, 0, 0]) (M0 60) = .inr (5, [vr X 61, vr X 82, vr X 83, vi 0, vi 0, vi 0, vi 0, vi 0, vi 0]) := by rfl
theorem w1_60 (l : Launch) (D : va_G) (dA : Nat → ClassId) (sa sb : Nat → Nat) (x0 m0 : Nat) (qx qm : Nat → Nat) : (P2w dA x0 m0 qx qm)[60]? = some (adr x0 m0 qx qm 60, ce (l, adr x0 m0 qx qm, D, dA, sa, sb) (0, 5, [64, 85, 86, 0, 0, 0, 0, 0, 0]) (M0 60)) := by
  rw [w0_60]
  rfl
theorem w1_61 (l : Launch) (D : va_G) (dA : Nat → ClassId) (sa sb : Nat → Nat) (x0 m0 : Nat) (qx qm : Nat → Nat) : (P2w dA x0 m0 qx qm)[61]? = some (adr x0 m0 qx qm 61, ce (l, adr x0 m0 qx qm, D, dA, sa, sb) (6, 4, [62, 67, 72, 77]) (M0 61)) := by
  rfl
theorem w0_62 (X : Cx) : ce X (0, 7, [66, 67, 2, 2, 1, 0]) (M0 62) = .inr (7, [vr X 63, vr X 64, vr X 65, vr X 66, vl 1, vi 0]) := by rfl
theorem w1_62 (l : Launch) (D : va_G) (dA : Nat → ClassId) (sa sb : Nat → Nat) (x0 m0 : Nat) (qx qm : Nat → Nat) : (P2w dA x0 m0 qx qm)[62]? = some (adr x0 m0 qx qm 62, ce (l, adr x0 m0 qx qm, D, dA, sa, sb) (0, 7, [66, 67, 2, 2, 1, 0]) (M0 62)) := by
  rw [w0_62]
  rfl
theorem w1_63 (l : Launch) (D : va_G) (dA : Nat → ClassId) (sa sb : Nat → Nat) (x0 m0 : Nat) (qx qm : Nat → Nat) : (P2w dA x0 m0 qx qm)[63]? = some (adr x0 m0 qx qm 63, ce (l, adr x0 m0 qx qm, D, dA, sa, sb) (1, 6, []) (M0 63)) := by
  rw [ceI0 _ (fun i => M0z (c := 63) (by decide) rfl i)]
  rfl
theorem w1_64 (l : Launch) (D : va_G) (dA : Nat → ClassId) (sa sb : Nat → Nat) (x0 m0 : Nat) (qx qm : Nat → Nat) : (P2w dA x0 m0 qx qm)[64]? = some (adr x0 m0 qx qm 64, ce (l, adr x0 m0 qx qm, D, dA, sa, sb) (1, 6, []) (M0 64)) := by
  rw [ceI0 _ (fun i => M0z (c := 64) (by decide) rfl i)]
  rfl
theorem w1_65 (l : Launch) (D : va_G) (dA : Nat → ClassId) (sa sb : Nat → Nat) (x0 m0 : Nat) (qx qm : Nat → Nat) : (P2w dA x0 m0 qx qm)[65]? = some (adr x0 m0 qx qm 65, ce (l, adr x0 m0 qx qm, D, dA, sa, sb) (2, 24, []) (M0 65)) := by
  rw [ceL0 _ (fun i => M0z (c := 65) (by decide) rfl i)]
  rfl
theorem w1_66 (l : Launch) (D : va_G) (dA : Nat → ClassId) (sa sb : Nat → Nat) (x0 m0 : Nat) (qx qm : Nat → Nat) : (P2w dA x0 m0 qx qm)[66]? = some (adr x0 m0 qx qm 66, ce (l, adr x0 m0 qx qm, D, dA, sa, sb) (2, 24, []) (M0 66)) := by
  rw [ceL0 _ (fun i => M0z (c := 66) (by decide) rfl i)]
  rfl
theorem w0_67 (X : Cx) : ce X (0, 7, [71, 72, 2, 2, 1, 0]) (M0 67) = .inr (7, [vr X 68, vr X 69, vr X 70, vr X 71, vl 1, vi 0]) := by rfl
theorem w1_67 (l : Launch) (D : va_G) (dA : Nat → ClassId) (sa sb : Nat → Nat) (x0 m0 : Nat) (qx qm : Nat → Nat) : (P2w dA x0 m0 qx qm)[67]? = some (adr x0 m0 qx qm 67, ce (l, adr x0 m0 qx qm, D, dA, sa, sb) (0, 7, [71, 72, 2, 2, 1, 0]) (M0 67)) := by
  rw [w0_67]
  rfl
theorem w1_68 (l : Launch) (D : va_G) (dA : Nat → ClassId) (sa sb : Nat → Nat) (x0 m0 : Nat) (qx qm : Nat → Nat) : (P2w dA x0 m0 qx qm)[68]? = some (adr x0 m0 qx qm 68, ce (l, adr x0 m0 qx qm, D, dA, sa, sb) (1, 6, []) (M0 68)) := by
  rw [ceI0 _ (fun i => M0z (c := 68) (by decide) rfl i)]
  rfl
theorem w1_69 (l : Launch) (D : va_G) (dA : Nat → ClassId) (sa sb : Nat → Nat) (x0 m0 : Nat) (qx qm : Nat → Nat) : (P2w dA x0 m0 qx qm)[69]? = some (adr x0 m0 qx qm 69, ce (l, adr x0 m0 qx qm, D, dA, sa, sb) (1, 6, []) (M0 69)) := by
  rw [ceI0 _ (fun i => M0z (c := 69) (by decide) rfl i)]
  rfl
theorem w1_70 (l : Launch) (D : va_G) (dA : Nat → ClassId) (sa sb : Nat → Nat) (x0 m0 : Nat) (qx qm : Nat → Nat) : (P2w dA x0 m0 qx qm)[70]? = some (adr x0 m0 qx qm 70, ce (l, adr x0 m0 qx qm, D, dA, sa, sb) (2, 24, []) (M0 70)) := by
  rw [ceL0 _ (fun i => M0z (c := 70) (by decide) rfl i)]
  rfl
theorem w1_71 (l : Launch) (D : va_G) (dA : Nat → ClassId) (sa sb : Nat → Nat) (x0 m0 : Nat) (qx qm : Nat → Nat) : (P2w dA x0 m0 qx qm)[71]? = some (adr x0 m0 qx qm 71, ce (l, adr x0 m0 qx qm, D, dA, sa, sb) (2, 24, []) (M0 71)) := by
  rw [ceL0 _ (fun i => M0z (c := 71) (by decide) rfl i)]
  rfl
theorem w0_72 (X : Cx) : ce X (0, 7, [76, 77, 2, 2, 1, 0]) (M0 72) = .inr (7, [vr X 73, vr X 74, vr X 75, vr X 76, vl 1, vi 0]) := by rfl
theorem w1_72 (l : Launch) (D : va_G) (dA : Nat → ClassId) (sa sb : Nat → Nat) (x0 m0 : Nat) (qx qm : Nat → Nat) : (P2w dA x0 m0 qx qm)[72]? = some (adr x0 m0 qx qm 72, ce (l, adr x0 m0 qx qm, D, dA, sa, sb) (0, 7, [76, 77, 2, 2, 1, 0]) (M0 72)) := by
  rw [w0_72]
  rfl
theorem w1_73 (l : Launch) (D : va_G) (dA : Nat → ClassId) (sa sb : Nat → Nat) (x0 m0 : Nat) (qx qm : Nat → Nat) : (P2w dA x0 m0 qx qm)[73]? = some (adr x0 m0 qx qm 73, ce (l, adr x0 m0 qx qm, D, dA, sa, sb) (1, 6, []) (M0 73)) := by
  rw [ceI0 _ (fun i => M0z (c := 73) (by decide) rfl i)]
  rfl
theorem w1_74 (l : Launch) (D : va_G) (dA : Nat → ClassId) (sa sb : Nat → Nat) (x0 m0 : Nat) (qx qm : Nat → Nat) : (P2w dA x0 m0 qx qm)[74]? = some (adr x0 m0 qx qm 74, ce (l, adr x0 m0 qx qm, D, dA, sa, sb) (1, 6, []) (M0 74)) := by
  rw [ceI0 _ (fun i => M0z (c := 74) (by decide) rfl i)]
  rfl
theorem w1_75 (l : Launch) (D : va_G) (dA : Nat → ClassId) (sa sb : Nat → Nat) (x0 m0 : Nat) (qx qm : Nat → Nat) : (P2w dA x0 m0 qx qm)[75]? = some (adr x0 m0 qx qm 75, ce (l, adr x0 m0 qx qm, D, dA, sa, sb) (2, 24, []) (M0 75)) := by
  rw [ceL0 _ (fun i => M0z (c := 75) (by decide) rfl i)]
  rfl
theorem w1_76 (l : Launch) (D : va_G) (dA : Nat → ClassId) (sa sb : Nat → Nat) (x0 m0 : Nat) (qx qm : Nat → Nat) : (P2w dA x0 m0 qx qm)[76]? = some (adr x0 m0 qx qm 76, ce (l, adr x0 m0 qx qm, D, dA, sa, sb) (2, 24, []) (M0 76)) := by
  rw [ceL0 _ (fun i => M0z (c := 76) (by decide) rfl i)]
  rfl
theorem w0_77 (X : Cx) : ce X (0, 7, [81, 82, 2, 2, 1, 0]) (M0 77) = .inr (7, [vr X 78, vr X 79, vr X 80, vr X 81, vl 1, vi 0]) := by rfl
theorem w1_77 (l : Launch) (D : va_G) (dA : Nat → ClassId) (sa sb : Nat → Nat) (x0 m0 : Nat) (qx qm : Nat → Nat) : (P2w dA x0 m0 qx qm)[77]? = some (adr x0 m0 qx qm 77, ce (l, adr x0 m0 qx qm, D, dA, sa, sb) (0, 7, [81, 82, 2, 2, 1, 0]) (M0 77)) := by
  rw [w0_77]
  rfl
theorem w1_78 (l : Launch) (D : va_G) (dA : Nat → ClassId) (sa sb : Nat → Nat) (x0 m0 : Nat) (qx qm : Nat → Nat) : (P2w dA x0 m0 qx qm)[78]? = some (adr x0 m0 qx qm 78, ce (l, adr x0 m0 qx qm, D, dA, sa, sb) (1, 6, []) (M0 78)) := by
  rw [ceI0 _ (fun i => M0z (c := 78) (by decide) rfl i)]
  rfl
theorem w1_79 (l : Launch) (D : va_G) (dA : Nat → ClassId) (sa sb : Nat → Nat) (x0 m0 : Nat) (qx qm : Nat → Nat) : (P2w dA x0 m0 qx qm)[79]? = some (adr x0 m0 qx qm 79, ce (l, adr x0 m0 qx qm, D, dA, sa, sb) (1, 6, []) (M0 79)) := by
  rw [ceI0 _ (fun i => M0z (c := 79) (by decide) rfl i)]
  rfl
theorem w1_80 (l : Launch) (D : va_G) (dA : Nat → ClassId) (sa sb : Nat → Nat) (x0 m0 : Nat) (qx qm : Nat → Nat) : (P2w dA x0 m0 qx qm)[80]? = some (adr x0 m0 qx qm 80, ce (l, adr x0 m0 qx qm, D, dA, sa, sb) (2, 24, []) (M0 80)) := by
  rw [ceL0 _ (fun i => M0z (c := 80) (by decide) rfl i)]
  rfl
theorem w1_81 (l : Launch) (D : va_G) (dA : Nat → ClassId) (sa sb : Nat → Nat) (x0 m0 : Nat) (qx qm : Nat → Nat) : (P2w dA x0 m0 qx qm)[81]? = some (adr x0 m0 qx qm 81, ce (l, adr x0 m0 qx qm, D, dA, sa, sb) (2, 24, []) (M0 81)) := by
  rw [ceL0 _ (fun i => M0z (c := 81) (by decide) rfl i)]
  rfl
theorem w1_82 (l : Launch) (D : va_G) (dA : Nat → ClassId) (sa sb : Nat → Nat) (x0 m0 : Nat) (qx qm : Nat → Nat) : (P2w dA x0 m0 qx qm)[82]? = some (adr x0 m0 qx qm 82, ce (l, adr x0 m0 qx qm, D, dA, sa, sb) (1, 9, []) (M0 82)) := by
  rw [ceI0 _ (fun i => M0z (c := 82) (by decide) rfl i)]
  rfl
theorem w1_83 (l : Launch) (D : va_G) (dA : Nat → ClassId) (sa sb : Nat → Nat) (x0 m0 : Nat) (qx qm : Nat → Nat) : (P2w dA x0 m0 qx qm)[83]? = some (adr x0 m0 qx qm 83, ce (l, adr x0 m0 qx qm, D, dA, sa, sb) (1, 9, []) (M0 83)) := by
  rw [ceI0 _ (fun i => M0z (c := 83) (by decide) rfl i)]
  rfl
theorem w0_84 (X : Cx) : ce X (0, 1, [88, 89, 0, 90, 91, 92, 93]) (M0 84) = .inr (1, [vr X 85, vr X 86, vi 0, vr X 87, vr X 88, vr X 89, vr X 90]) := by rfl
theorem w1_84 (l : Launch) (D : va_G) (dA : Nat → ClassId) (sa sb : Nat → Nat) (x0 m0 : Nat) (qx qm : Nat → Nat) : (P2w dA x0 m0 qx qm)[84]? = some (adr x0 m0 qx qm 84, ce (l, adr x0 m0 qx qm, D, dA, sa, sb) (0, 1, [88, 89, 0, 90, 91, 92, 93]) (M0 84)) := by
  rw [w0_84]
  rfl
theorem w1_85 (l : Launch) (D : va_G) (dA : Nat → ClassId) (sa sb : Nat → Nat) (x0 m0 : Nat) (qx qm : Nat → Nat) : (P2w dA x0 m0 qx qm)[85]? = some (adr x0 m0 qx qm 85, ce (l, adr x0 m0 qx qm, D, dA, sa, sb) (1, 6, []) (M0 85)) := by
  rw [ceI0 _ (fun i => M0z (c := 85) (by decide) rfl i)]
  rfl
theorem w1_86 (l : Launch) (D : va_G) (dA : Nat → ClassId) (sa sb : Nat → Nat) (x0 m0 : Nat) (qx qm : Nat → Nat) : (P2w dA x0 m0 qx qm)[86]? = some (adr x0 m0 qx qm 86, ce (l, adr x0 m0 qx qm, D, dA, sa, sb) (1, 6, []) (M0 86)) := by
  rw [ceI0 _ (fun i => M0z (c := 86) (by decide) rfl i)]
  rfl
theorem w1_87 (l : Launch) (D : va_G) (dA : Nat → ClassId) (sa sb : Nat → Nat) (x0 m0 : Nat) (qx qm : Nat → Nat) : (P2w dA x0 m0 qx qm)[87]? = some (adr x0 m0 qx qm 87, ce (l, adr x0 m0 qx qm, D, dA, sa, sb) (1, 7, []) (M0 87)) := by
  rw [ceI0 _ (fun i => M0z (c := 87) (by decide) rfl i)]
  rfl
theorem w1_88 (l : Launch) (D : va_G) (dA : Nat → ClassId) (sa sb : Nat → Nat) (x0 m0 : Nat) (qx qm : Nat → Nat) : (P2w dA x0 m0 qx qm)[88]? = some (adr x0 m0 qx qm 88, ce (l, adr x0 m0 qx qm, D, dA, sa, sb) (1, 7, []) (M0 88)) := by
  rw [ceI0 _ (fun i => M0z (c := 88) (by decide) rfl i)]
  rfl
theorem w1_89 (l : Launch) (D : va_G) (dA : Nat → ClassId) (sa sb : Nat → Nat) (x0 m0 : Nat) (qx qm : Nat → Nat) : (P2w dA x0 m0 qx qm)[89]? = some (adr x0 m0 qx qm 89, ce (l, adr x0 m0 qx qm, D, dA, sa, sb) (1, 7, []) (M0 89)) := by
  rw [ceI0 _ (fun i => M0z (c := 89) (by decide) rfl i)]
  rfl
theorem w1_90 (l : Launch) (D : va_G) (dA : Nat → ClassId) (sa sb : Nat → Nat) (x0 m0 : Nat) (qx qm : Nat → Nat) : (P2w dA x0 m0 qx qm)[90]? = some (adr x0 m0 qx qm 90, ce (l, adr x0 m0 qx qm, D, dA, sa, sb) (1, 7, []) (M0 90)) := by
  rw [ceI0 _ (fun i => M0z (c := 90) (by decide) rfl i)]
  rfl
theorem w0_91 (X : Cx) : ce X (0, 7, [95, 96, 2, 2, 1, 0]) (M0 91) = .inr (7, [vr X 92, vr X 93, vr X 94, vr X 95, vl 1, vi 0]) := by rfl
theorem w1_91 (l : Launch) (D : va_G) (dA : Nat → ClassId) (sa sb : Nat → Nat) (x0 m0 : Nat) (qx qm : Nat → Nat) : (P2w dA x0 m0 qx qm)[91]? = some (adr x0 m0 qx qm 91, ce (l, adr x0 m0 qx qm, D, dA, sa, sb) (0, 7, [95, 96, 2, 2, 1, 0]) (M0 91)) := by
  rw [w0_91]
  rfl
theorem w1_92 (l : Launch) (D : va_G) (dA : Nat → ClassId) (sa sb : Nat → Nat) (x0 m0 : Nat) (qx qm : Nat → Nat) : (P2w dA x0 m0 qx qm)[92]? = some (adr x0 m0 qx qm 92, ce (l, adr x0 m0 qx qm, D, dA, sa, sb) (1, 6, []) (M0 92)) := by
  rw [ceI0 _ (fun i => M0z (c := 92) (by decide) rfl i)]
  rfl
theorem w1_93 (l : Launch) (D : va_G) (dA : Nat → ClassId) (sa sb : Nat → Nat) (x0 m0 : Nat) (qx qm : Nat → Nat) : (P2w dA x0 m0 qx qm)[93]? = some (adr x0 m0 qx qm 93, ce (l, adr x0 m0 qx qm, D, dA, sa, sb) (1, 6, []) (M0 93)) := by
  rw [ceI0 _ (fun i => M0z (c := 93) (by decide) rfl i)]
  rfl
theorem w1_94 (l : Launch) (D : va_G) (dA : Nat → ClassId) (sa sb : Nat → Nat) (x0 m0 : Nat) (qx qm : Nat → Nat) : (P2w dA x0 m0 qx qm)[94]? = some (adr x0 m0 qx qm 94, ce (l, adr x0 m0 qx qm, D, dA, sa, sb) (2, 24, []) (M0 94)) := by
  rw [ceL0 _ (fun i => M0z (c := 94) (by decide) rfl i)]
  rfl
theorem w1_95 (l : Launch) (D : va_G) (dA : Nat → ClassId) (sa sb : Nat → Nat) (x0 m0 : Nat) (qx qm : Nat → Nat) : (P2w dA x0 m0 qx qm)[95]? = some (adr x0 m0 qx qm 95, ce (l, adr x0 m0 qx qm, D, dA, sa, sb) (2, 24, []) (M0 95)) := by
  rw [ceL0 _ (fun i => M0z (c := 95) (by decide) rfl i)]
  rfl
theorem w1_96 (l : Launch) (D : va_G) (dA : Nat → ClassId) (sa sb : Nat → Nat) (x0 m0 : Nat) (qx qm : Nat → Nat) : (P2w dA x0 m0 qx qm)[96]? = some (adr x0 m0 qx qm 96, ce (l, adr x0 m0 qx qm, D, dA, sa, sb) (1, 5, []) (M0 96)) := by
  rw [ceI0 _ (fun i => M0z (c := 96) (by decide) rfl i)]
  rfl
theorem w0_97 (X : Cx) : ce X (0, 10, [0, 0, 101, 102, 103, 104, 105, 106, 107, 108, 0, 109, 0, 0, 0, 0, 1, 0, 0, 0, 110, 0, 111, 112, 0, 113, 114, 0, 0, 115, 0, 1, 0, 0, 116, 117, 0, 0, 0, 0, 0, 118, 1, 119, 0]) (M0 97) = .inr (10, [vi 0, vi 0, vr X 98, vr X 99, vr X 100, vr X 101, vr X 102, vr X 103, vr X 104, vr X 105, vi 0, vr X 106, vi 0, vi 0, vi 0, vi 0, vl 0, vi (-1), vi 0, vi 0, vr X 107, vi 0, vr X 108, vr X 109, vi 0, vr X 110, vr X 111, vi 0, vi 0, vr X 112, vi 0, vl 0, vi 0, vi (-1), vr X 113, vr X 114, vi 0, vi 0, vi 0, vi 0, vi 0, vr X 115, vl 0, vr X 116, vi 0]) := by rfl
theorem w1_97 (l : Launch) (D : va_G) (dA : Nat → ClassId) (sa sb : Nat → Nat) (x0 m0 : Nat) (qx qm : Nat → Nat) : (P2w dA x0 m0 qx qm)[97]? = some (adr x0 m0 qx qm 97, ce (l, adr x0 m0 qx qm, D, dA, sa, sb) (0, 10, [0, 0, 101, 102, 103, 104, 105, 106, 107, 108, 0, 109, 0, 0, 0, 0, 1, 0, 0, 0, 110, 0, 111, 112, 0, 113, 114, 0, 0, 115, 0, 1, 0, 0, 116, 117, 0, 0, 0, 0, 0, 118, 1, 119, 0]) (M0 97)) := by
  rw [w0_97]
  rfl
theorem w1_98 (l : Launch) (D : va_G) (dA : Nat → ClassId) (sa sb : Nat → Nat) (x0 m0 : Nat) (qx qm : Nat → Nat) : (P2w dA x0 m0 qx qm)[98]? = some (adr x0 m0 qx qm 98, ce (l, adr x0 m0 qx qm, D, dA, sa, sb) (1, 7, []) (M0 98)) := by
  rw [ceI0 _ (fun i => M0z (c := 98) (by decide) rfl i)]
  rfl
theorem w1_99 (l : Launch) (D : va_G) (dA : Nat → ClassId) (sa sb : Nat → Nat) (x0 m0 : Nat) (qx qm : Nat → Nat) : (P2w dA x0 m0 qx qm)[99]? = some (adr x0 m0 qx qm 99, ce (l, adr x0 m0 qx qm, D, dA, sa, sb) (1, 49, []) (M0 99)) := by
  rw [ceI0 _ (fun i => M0z (c := 99) (by decide) rfl i)]
  rfl
theorem w1_100 (l : Launch) (D : va_G) (dA : Nat → ClassId) (sa sb : Nat → Nat) (x0 m0 : Nat) (qx qm : Nat → Nat) : (P2w dA x0 m0 qx qm)[100]? = some (adr x0 m0 qx qm 100, ce (l, adr x0 m0 qx qm, D, dA, sa, sb) (1, 98, []) (M0 100)) := by
  rw [ceI0 _ (fun i => M0z (c := 100) (by decide) rfl i)]
  rfl
theorem w1_101 (l : Launch) (D : va_G) (dA : Nat → ClassId) (sa sb : Nat → Nat) (x0 m0 : Nat) (qx qm : Nat → Nat) : (P2w dA x0 m0 qx qm)[101]? = some (adr x0 m0 qx qm 101, ce (l, adr x0 m0 qx qm, D, dA, sa, sb) (2, 25, []) (M0 101)) := by
  rfl
theorem w1_102 (l : Launch) (D : va_G) (dA : Nat → ClassId) (sa sb : Nat → Nat) (x0 m0 : Nat) (qx qm : Nat → Nat) : (P2w dA x0 m0 qx qm)[102]? = some (adr x0 m0 qx qm 102, ce (l, adr x0 m0 qx qm, D, dA, sa, sb) (2, 50, []) (M0 102)) := by
  rw [ceL0 _ (fun i => M0z (c := 102) (by decide) rfl i)]
  rfl
theorem w1_103 (l : Launch) (D : va_G) (dA : Nat → ClassId) (sa sb : Nat → Nat) (x0 m0 : Nat) (qx qm : Nat → Nat) : (P2w dA x0 m0 qx qm)[103]? = some (adr x0 m0 qx qm 103, ce (l, adr x0 m0 qx qm, D, dA, sa, sb) (3, 2, []) (M0 103)) := by
  rw [ceZ0 _ (fun i => M0z (c := 103) (by decide) rfl i)]
  rfl
theorem w1_104 (l : Launch) (D : va_G) (dA : Nat → ClassId) (sa sb : Nat → Nat) (x0 m0 : Nat) (qx qm : Nat → Nat) : (P2w dA x0 m0 qx qm)[104]? = some (adr x0 m0 qx qm 104, ce (l, adr x0 m0 qx qm, D, dA, sa, sb) (2, 300, []) (M0 104)) := by
  rw [ceL0 _ (fun i => M0z (c := 104) (by decide) rfl i)]
  rfl
theorem w1_105 (l : Launch) (D : va_G) (dA : Nat → ClassId) (sa sb : Nat → Nat) (x0 m0 : Nat) (qx qm : Nat → Nat) : (P2w dA x0 m0 qx qm)[105]? = some (adr x0 m0 qx qm 105, ce (l, adr x0 m0 qx qm, D, dA, sa, sb) (2, 4, []) (M0 105)) := by
  rw [ceL0 _ (fun i => M0z (c := 105) (by decide) rfl i)]
  rfl
theorem w1_106 (l : Launch) (D : va_G) (dA : Nat → ClassId) (sa sb : Nat → Nat) (x0 m0 : Nat) (qx qm : Nat → Nat) : (P2w dA x0 m0 qx qm)[106]? = some (adr x0 m0 qx qm 106, ce (l, adr x0 m0 qx qm, D, dA, sa, sb) (1, 400, []) (M0 106)) := by
  rw [ceI0 _ (fun i => M0z (c := 106) (by decide) rfl i)]
  rfl
theorem w1_107 (l : Launch) (D : va_G) (dA : Nat → ClassId) (sa sb : Nat → Nat) (x0 m0 : Nat) (qx qm : Nat → Nat) : (P2w dA x0 m0 qx qm)[107]? = some (adr x0 m0 qx qm 107, ce (l, adr x0 m0 qx qm, D, dA, sa, sb) (1, 96, []) (M0 107)) := by
  rw [ceI0 _ (fun i => M0z (c := 107) (by decide) rfl i)]
  rfl
theorem w1_108 (l : Launch) (D : va_G) (dA : Nat → ClassId) (sa sb : Nat → Nat) (x0 m0 : Nat) (qx qm : Nat → Nat) : (P2w dA x0 m0 qx qm)[108]? = some (adr x0 m0 qx qm 108, ce (l, adr x0 m0 qx qm, D, dA, sa, sb) (1, 400, []) (M0 108)) := by
  rw [ceI0 _ (fun i => M0z (c := 108) (by decide) rfl i)]
  rfl
theorem w1_109 (l : Launch) (D : va_G) (dA : Nat → ClassId) (sa sb : Nat → Nat) (x0 m0 : Nat) (qx qm : Nat → Nat) : (P2w dA x0 m0 qx qm)[109]? = some (adr x0 m0 qx qm 109, ce (l, adr x0 m0 qx qm, D, dA, sa, sb) (1, 400, []) (M0 109)) := by
  rw [ceI0 _ (fun i => M0z (c := 109) (by decide) rfl i)]
  rfl
theorem w1_110 (l : Launch) (D : va_G) (dA : Nat → ClassId) (sa sb : Nat → Nat) (x0 m0 : Nat) (qx qm : Nat → Nat) : (P2w dA x0 m0 qx qm)[110]? = some (adr x0 m0 qx qm 110, ce (l, adr x0 m0 qx qm, D, dA, sa, sb) (1, 400, []) (M0 110)) := by
  rw [ceI0 _ (fun i => M0z (c := 110) (by decide) rfl i)]
  rfl
theorem w1_111 (l : Launch) (D : va_G) (dA : Nat → ClassId) (sa sb : Nat → Nat) (x0 m0 : Nat) (qx qm : Nat → Nat) : (P2w dA x0 m0 qx qm)[111]? = some (adr x0 m0 qx qm 111, ce (l, adr x0 m0 qx qm, D, dA, sa, sb) (1, 400, []) (M0 111)) := by
  rw [ceI0 _ (fun i => M0z (c := 111) (by decide) rfl i)]
  rfl
theorem w1_112 (l : Launch) (D : va_G) (dA : Nat → ClassId) (sa sb : Nat → Nat) (x0 m0 : Nat) (qx qm : Nat → Nat) : (P2w dA x0 m0 qx qm)[112]? = some (adr x0 m0 qx qm 112, ce (l, adr x0 m0 qx qm, D, dA, sa, sb) (2, 400, []) (M0 112)) := by
  rw [ceL0 _ (fun i => M0z (c := 112) (by decide) rfl i)]
  rfl
theorem w1_113 (l : Launch) (D : va_G) (dA : Nat → ClassId) (sa sb : Nat → Nat) (x0 m0 : Nat) (qx qm : Nat → Nat) : (P2w dA x0 m0 qx qm)[113]? = some (adr x0 m0 qx qm 113, ce (l, adr x0 m0 qx qm, D, dA, sa, sb) (1, 3, []) (M0 113)) := by
  rw [ceI0 _ (fun i => M0z (c := 113) (by decide) rfl i)]
  rfl
theorem w1_114 (l : Launch) (D : va_G) (dA : Nat → ClassId) (sa sb : Nat → Nat) (x0 m0 : Nat) (qx qm : Nat → Nat) : (P2w dA x0 m0 qx qm)[114]? = some (adr x0 m0 qx qm 114, ce (l, adr x0 m0 qx qm, D, dA, sa, sb) (1, 3, []) (M0 114)) := by
  rw [ceI0 _ (fun i => M0z (c := 114) (by decide) rfl i)]
  rfl
theorem w1_115 (l : Launch) (D : va_G) (dA : Nat → ClassId) (sa sb : Nat → Nat) (x0 m0 : Nat) (qx qm : Nat → Nat) : (P2w dA x0 m0 qx qm)[115]? = some (adr x0 m0 qx qm 115, ce (l, adr x0 m0 qx qm, D, dA, sa, sb) (1, 294147, []) (M0 115)) := by
  rw [ceI0 _ (fun i => M0z (c := 115) (by decide) rfl i)]
  rfl
theorem w1_116 (l : Launch) (D : va_G) (dA : Nat → ClassId) (sa sb : Nat → Nat) (x0 m0 : Nat) (qx qm : Nat → Nat) : (P2w dA x0 m0 qx qm)[116]? = some (adr x0 m0 qx qm 116, ce (l, adr x0 m0 qx qm, D, dA, sa, sb) (1, 24, []) (M0 116)) := by
  rw [ceI0 _ (fun i => M0z (c := 116) (by decide) rfl i)]
  rfl
theorem shp_l : shp.length = 117 := by decide
set_option maxRecDepth 100000 in
theorem wd0 (l : Launch) (D : va_G) (dA : Nat → ClassId) (sa sb : Nat → Nat) (x0 m0 : Nat) (qx qm : Nat → Nat) : wd (l, adr x0 m0 qx qm, D, dA, sa, sb) M0 = P2w dA x0 m0 qx qm := by
  apply List.ext_getElem?
  intro k
  match k with
  | 0 => exact (wd_at (d := (0, 9, [4, 31, 32, 33, 34, 56, 63, 87, 94, 99, 0, 0, 0, 0])) rfl).trans (w1_0 l D dA sa sb x0 m0 qx qm).symm
  | 1 => exact (wd_at (d := (0, 6, [5, 10, 0, 11, 0, 12, 0])) rfl).trans (w1_1 l D dA sa sb x0 m0 qx qm).symm
  | 2 => exact (wd_at (d := (0, 7, [6, 7, 2, 2, 1, 0])) rfl).trans (w1_2 l D dA sa sb x0 m0 qx qm).symm
  | 3 => exact (wd_at (d := (1, 6, [])) rfl).trans (w1_3 l D dA sa sb x0 m0 qx qm).symm
  | 4 => exact (wd_at (d := (1, 6, [])) rfl).trans (w1_4 l D dA sa sb x0 m0 qx qm).symm
  | 5 => exact (wd_at (d := (2, 24, [])) rfl).trans (w1_5 l D dA sa sb x0 m0 qx qm).symm
  | 6 => exact (wd_at (d := (2, 24, [])) rfl).trans (w1_6 l D dA sa sb x0 m0 qx qm).symm
  | 7 => exact (wd_at (d := (1, 3, [])) rfl).trans (w1_7 l D dA sa sb x0 m0 qx qm).symm
  | 8 => exact (wd_at (d := (1, 18, [])) rfl).trans (w1_8 l D dA sa sb x0 m0 qx qm).symm
  | 9 => exact (wd_at (d := (1, 18, [])) rfl).trans (w1_9 l D dA sa sb x0 m0 qx qm).symm
  | 10 => exact (wd_at (d := (0, 6, [14, 19, 0, 20, 0, 21, 0])) rfl).trans (w1_10 l D dA sa sb x0 m0 qx qm).symm
  | 11 => exact (wd_at (d := (0, 7, [15, 16, 2, 2, 1, 0])) rfl).trans (w1_11 l D dA sa sb x0 m0 qx qm).symm
  | 12 => exact (wd_at (d := (1, 6, [])) rfl).trans (w1_12 l D dA sa sb x0 m0 qx qm).symm
  | 13 => exact (wd_at (d := (1, 6, [])) rfl).trans (w1_13 l D dA sa sb x0 m0 qx qm).symm
  | 14 => exact (wd_at (d := (2, 24, [])) rfl).trans (w1_14 l D dA sa sb x0 m0 qx qm).symm
  | 15 => exact (wd_at (d := (2, 24, [])) rfl).trans (w1_15 l D dA sa sb x0 m0 qx qm).symm
  | 16 => exact (wd_at (d := (1, 3, [])) rfl).trans (w1_16 l D dA sa sb x0 m0 qx qm).symm
  | 17 => exact (wd_at (d := (1, 18, [])) rfl).trans (w1_17 l D dA sa sb x0 m0 qx qm).symm
  | 18 => exact (wd_at (d := (1, 18, [])) rfl).trans (w1_18 l D dA sa sb x0 m0 qx qm).symm
  | 19 => exact (wd_at (d := (0, 6, [23, 28, 0, 29, 0, 30, 0])) rfl).trans (w1_19 l D dA sa sb x0 m0 qx qm).symm
  | 20 => exact (wd_at (d := (0, 7, [24, 25, 2, 2, 1, 0])) rfl).trans (w1_20 l D dA sa sb x0 m0 qx qm).symm
  | 21 => exact (wd_at (d := (1, 6, [])) rfl).trans (w1_21 l D dA sa sb x0 m0 qx qm).symm
  | 22 => exact (wd_at (d := (1, 6, [])) rfl).trans (w1_22 l D dA sa sb x0 m0 qx qm).symm
  | 23 => exact (wd_at (d := (2, 24, [])) rfl).trans (w1_23 l D dA sa sb x0 m0 qx qm).symm
  | 24 => exact (wd_at (d := (2, 24, [])) rfl).trans (w1_24 l D dA sa sb x0 m0 qx qm).symm
  | 25 => exact (wd_at (d := (1, 3, [])) rfl).trans (w1_25 l D dA sa sb x0 m0 qx qm).symm
  | 26 => exact (wd_at (d := (1, 18, [])) rfl).trans (w1_26 l D dA sa sb x0 m0 qx qm).symm
  | 27 => exact (wd_at (d := (1, 18, [])) rfl).trans (w1_27 l D dA sa sb x0 m0 qx qm).symm
  | 28 => exact (wd_at (d := (4, 2, [10, 19])) rfl).trans (w1_28 l D dA sa sb x0 m0 qx qm).symm
  | 29 => exact (wd_at (d := (3, 2, [])) rfl).trans (w1_29 l D dA sa sb x0 m0 qx qm).symm
  | 30 => exact (wd_at (d := (0, 2, [34, 40, 0])) rfl).trans (w1_30 l D dA sa sb x0 m0 qx qm).symm
  | 31 => exact (wd_at (d := (0, 8, [35, 0, 36, 37, 38, 39, 0, 0])) rfl).trans (w1_31 l D dA sa sb x0 m0 qx qm).symm
  | 32 => exact (wd_at (d := (1, 400, [])) rfl).trans (w1_32 l D dA sa sb x0 m0 qx qm).symm
  | 33 => exact (wd_at (d := (1, 401, [])) rfl).trans (w1_33 l D dA sa sb x0 m0 qx qm).symm
  | 34 => exact (wd_at (d := (1, 401, [])) rfl).trans (w1_34 l D dA sa sb x0 m0 qx qm).symm
  | 35 => exact (wd_at (d := (1, 401, [])) rfl).trans (w1_35 l D dA sa sb x0 m0 qx qm).symm
  | 36 => exact (wd_at (d := (1, 401, [])) rfl).trans (w1_36 l D dA sa sb x0 m0 qx qm).symm
  | 37 => exact (wd_at (d := (0, 4, [41, 0, 42, 43, 0])) rfl).trans (w1_37 l D dA sa sb x0 m0 qx qm).symm
  | 38 => exact (wd_at (d := (5, 12, [41, 42, 43, 44, 45, 46, 47, 48, 49, 50, 51, 52])) rfl).trans (w1_38 l D dA sa sb x0 m0 qx qm).symm
  | 39 => exact (wd_at (d := (1, 400, [])) rfl).trans (w1_39 l D dA sa sb x0 m0 qx qm).symm
  | 40 => exact (wd_at (d := (1, 400, [])) rfl).trans (w1_40 l D dA sa sb x0 m0 qx qm).symm
  | 41 => exact (wd_at (d := (0, 0, [0, 0, 0, 0, 0, 0, 0, 0])) rfl).trans (w1_41 l D dA sa sb x0 m0 qx qm).symm
  | 42 => exact (wd_at (d := (0, 0, [0, 0, 0, 0, 0, 0, 0, 0])) rfl).trans (w1_42 l D dA sa sb x0 m0 qx qm).symm
  | 43 => exact (wd_at (d := (0, 0, [0, 0, 0, 0, 0, 0, 0, 0])) rfl).trans (w1_43 l D dA sa sb x0 m0 qx qm).symm
  | 44 => exact (wd_at (d := (0, 0, [0, 0, 0, 0, 0, 0, 0, 0])) rfl).trans (w1_44 l D dA sa sb x0 m0 qx qm).symm
  | 45 => exact (wd_at (d := (0, 0, [0, 0, 0, 0, 0, 0, 0, 0])) rfl).trans (w1_45 l D dA sa sb x0 m0 qx qm).symm
  | 46 => exact (wd_at (d := (0, 0, [0, 0, 0, 0, 0, 0, 0, 0])) rfl).trans (w1_46 l D dA sa sb x0 m0 qx qm).symm
  | 47 => exact (wd_at (d := (0, 0, [0, 0, 0, 0, 0, 0, 0, 0])) rfl).trans (w1_47 l D dA sa sb x0 m0 qx qm).symm
  | 48 => exact (wd_at (d := (0, 0, [0, 0, 0, 0, 0, 0, 0, 0])) rfl).trans (w1_48 l D dA sa sb x0 m0 qx qm).symm
  | 49 => exact (wd_at (d := (0, 0, [0, 0, 0, 0, 0, 0, 0, 0])) rfl).trans (w1_49 l D dA sa sb x0 m0 qx qm).symm
  | 50 => exact (wd_at (d := (0, 0, [0, 0, 0, 0, 0, 0, 0, 0])) rfl).trans (w1_50 l D dA sa sb x0 m0 qx qm).symm
  | 51 => exact (wd_at (d := (0, 0, [0, 0, 0, 0, 0, 0, 0, 0])) rfl).trans (w1_51 l D dA sa sb x0 m0 qx qm).symm
  | 52 => exact (wd_at (d := (0, 0, [0, 0, 0, 0, 0, 0, 0, 0])) rfl).trans (w1_52 l D dA sa sb x0 m0 qx qm).symm
  | 53 => exact (wd_at (d := (0, 3, [57, 62, 0, 0, 0])) rfl).trans (w1_53 l D dA sa sb x0 m0 qx qm).symm
  | 54 => exact (wd_at (d := (0, 7, [58, 59, 2, 2, 1, 0])) rfl).trans (w1_54 l D dA sa sb x0 m0 qx qm).symm
  | 55 => exact (wd_at (d := (1, 6, [])) rfl).trans (w1_55 l D dA sa sb x0 m0 qx qm).symm
  | 56 => exact (wd_at (d := (1, 6, [])) rfl).trans (w1_56 l D dA sa sb x0 m0 qx qm).symm
  | 57 => exact (wd_at (d := (2, 24, [])) rfl).trans (w1_57 l D dA sa sb x0 m0 qx qm).symm
  | 58 => exact (wd_at (d := (2, 24, [])) rfl).trans (w1_58 l D dA sa sb x0 m0 qx qm).symm
  | 59 => exact (wd_at (d := (2, 50, [])) rfl).trans (w1_59 l D dA sa sb x0 m0 qx qm).symm
  | 60 => exact (wd_at (d := (0, 5, [64, 85, 86, 0, 0, 0, 0, 0, 0])) rfl).trans (w1_60 l D dA sa sb x0 m0 qx qm).symm
  | 61 => exact (wd_at (d := (6, 4, [62, 67, 72, 77])) rfl).trans (w1_61 l D dA sa sb x0 m0 qx qm).symm
  | 62 => exact (wd_at (d := (0, 7, [66, 67, 2, 2, 1, 0])) rfl).trans (w1_62 l D dA sa sb x0 m0 qx qm).symm
  | 63 => exact (wd_at (d := (1, 6, [])) rfl).trans (w1_63 l D dA sa sb x0 m0 qx qm).symm
  | 64 => exact (wd_at (d := (1, 6, [])) rfl).trans (w1_64 l D dA sa sb x0 m0 qx qm).symm
  | 65 => exact (wd_at (d := (2, 24, [])) rfl).trans (w1_65 l D dA sa sb x0 m0 qx qm).symm
  | 66 => exact (wd_at (d := (2, 24, [])) rfl).trans (w1_66 l D dA sa sb x0 m0 qx qm).symm
  | 67 => exact (wd_at (d := (0, 7, [71, 72, 2, 2, 1, 0])) rfl).trans (w1_67 l D dA sa sb x0 m0 qx qm).symm
  | 68 => exact (wd_at (d := (1, 6, [])) rfl).trans (w1_68 l D dA sa sb x0 m0 qx qm).symm
  | 69 => exact (wd_at (d := (1, 6, [])) rfl).trans (w1_69 l D dA sa sb x0 m0 qx qm).symm
  | 70 => exact (wd_at (d := (2, 24, [])) rfl).trans (w1_70 l D dA sa sb x0 m0 qx qm).symm
  | 71 => exact (wd_at (d := (2, 24, [])) rfl).trans (w1_71 l D dA sa sb x0 m0 qx qm).symm
  | 72 => exact (wd_at (d := (0, 7, [76, 77, 2, 2, 1, 0])) rfl).trans (w1_72 l D dA sa sb x0 m0 qx qm).symm
  | 73 => exact (wd_at (d := (1, 6, [])) rfl).trans (w1_73 l D dA sa sb x0 m0 qx qm).symm
  | 74 => exact (wd_at (d := (1, 6, [])) rfl).trans (w1_74 l D dA sa sb x0 m0 qx qm).symm
  | 75 => exact (wd_at (d := (2, 24, [])) rfl).trans (w1_75 l D dA sa sb x0 m0 qx qm).symm
  | 76 => exact (wd_at (d := (2, 24, [])) rfl).trans (w1_76 l D dA sa sb x0 m0 qx qm).symm
  | 77 => exact (wd_at (d := (0, 7, [81, 82, 2, 2, 1, 0])) rfl).trans (w1_77 l D dA sa sb x0 m0 qx qm).symm
  | 78 => exact (wd_at (d := (1, 6, [])) rfl).trans (w1_78 l D dA sa sb x0 m0 qx qm).symm
  | 79 => exact (wd_at (d := (1, 6, [])) rfl).trans (w1_79 l D dA sa sb x0 m0 qx qm).symm
  | 80 => exact (wd_at (d := (2, 24, [])) rfl).trans (w1_80 l D dA sa sb x0 m0 qx qm).symm
  | 81 => exact (wd_at (d := (2, 24, [])) rfl).trans (w1_81 l D dA sa sb x0 m0 qx qm).symm
  | 82 => exact (wd_at (d := (1, 9, [])) rfl).trans (w1_82 l D dA sa sb x0 m0 qx qm).symm
  | 83 => exact (wd_at (d := (1, 9, [])) rfl).trans (w1_83 l D dA sa sb x0 m0 qx qm).symm
  | 84 => exact (wd_at (d := (0, 1, [88, 89, 0, 90, 91, 92, 93])) rfl).trans (w1_84 l D dA sa sb x0 m0 qx qm).symm
  | 85 => exact (wd_at (d := (1, 6, [])) rfl).trans (w1_85 l D dA sa sb x0 m0 qx qm).symm
  | 86 => exact (wd_at (d := (1, 6, [])) rfl).trans (w1_86 l D dA sa sb x0 m0 qx qm).symm
  | 87 => exact (wd_at (d := (1, 7, [])) rfl).trans (w1_87 l D dA sa sb x0 m0 qx qm).symm
  | 88 => exact (wd_at (d := (1, 7, [])) rfl).trans (w1_88 l D dA sa sb x0 m0 qx qm).symm
  | 89 => exact (wd_at (d := (1, 7, [])) rfl).trans (w1_89 l D dA sa sb x0 m0 qx qm).symm
  | 90 => exact (wd_at (d := (1, 7, [])) rfl).trans (w1_90 l D dA sa sb x0 m0 qx qm).symm
  | 91 => exact (wd_at (d := (0, 7, [95, 96, 2, 2, 1, 0])) rfl).trans (w1_91 l D dA sa sb x0 m0 qx qm).symm
  | 92 => exact (wd_at (d := (1, 6, [])) rfl).trans (w1_92 l D dA sa sb x0 m0 qx qm).symm
  | 93 => exact (wd_at (d := (1, 6, [])) rfl).trans (w1_93 l D dA sa sb x0 m0 qx qm).symm
  | 94 => exact (wd_at (d := (2, 24, [])) rfl).trans (w1_94 l D dA sa sb x0 m0 qx qm).symm
  | 95 => exact (wd_at (d := (2, 24, [])) rfl).trans (w1_95 l D dA sa sb x0 m0 qx qm).symm
  | 96 => exact (wd_at (d := (1, 5, [])) rfl).trans (w1_96 l D dA sa sb x0 m0 qx qm).symm
  | 97 => exact (wd_at (d := (0, 10, [0, 0, 101, 102, 103, 104, 105, 106, 107, 108, 0, 109, 0, 0, 0, 0, 1, 0, 0, 0, 110, 0, 111, 112, 0, 113, 114, 0, 0, 115, 0, 1, 0, 0, 116, 117, 0, 0, 0, 0, 0, 118, 1, 119, 0])) rfl).trans (w1_97 l D dA sa sb x0 m0 qx qm).symm
  | 98 => exact (wd_at (d := (1, 7, [])) rfl).trans (w1_98 l D dA sa sb x0 m0 qx qm).symm
  | 99 => exact (wd_at (d := (1, 49, [])) rfl).trans (w1_99 l D dA sa sb x0 m0 qx qm).symm
  | 100 => exact (wd_at (d := (1, 98, [])) rfl).trans (w1_100 l D dA sa sb x0 m0 qx qm).symm
  | 101 => exact (wd_at (d := (2, 25, [])) rfl).trans (w1_101 l D dA sa sb x0 m0 qx qm).symm
  | 102 => exact (wd_at (d := (2, 50, [])) rfl).trans (w1_102 l D dA sa sb x0 m0 qx qm).symm
  | 103 => exact (wd_at (d := (3, 2, [])) rfl).trans (w1_103 l D dA sa sb x0 m0 qx qm).symm
  | 104 => exact (wd_at (d := (2, 300, [])) rfl).trans (w1_104 l D dA sa sb x0 m0 qx qm).symm
  | 105 => exact (wd_at (d := (2, 4, [])) rfl).trans (w1_105 l D dA sa sb x0 m0 qx qm).symm
  | 106 => exact (wd_at (d := (1, 400, [])) rfl).trans (w1_106 l D dA sa sb x0 m0 qx qm).symm
  | 107 => exact (wd_at (d := (1, 96, [])) rfl).trans (w1_107 l D dA sa sb x0 m0 qx qm).symm
  | 108 => exact (wd_at (d := (1, 400, [])) rfl).trans (w1_108 l D dA sa sb x0 m0 qx qm).symm
  | 109 => exact (wd_at (d := (1, 400, [])) rfl).trans (w1_109 l D dA sa sb x0 m0 qx qm).symm
  | 110 => exact (wd_at (d := (1, 400, [])) rfl).trans (w1_110 l D dA sa sb x0 m0 qx qm).symm
  | 111 => exact (wd_at (d := (1, 400, [])) rfl).trans (w1_111 l D dA sa sb x0 m0 qx qm).symm
  | 112 => exact (wd_at (d := (2, 400, [])) rfl).trans (w1_112 l D dA sa sb x0 m0 qx qm).symm
  | 113 => exact (wd_at (d := (1, 3, [])) rfl).trans (w1_113 l D dA sa sb x0 m0 qx qm).symm
  | 114 => exact (wd_at (d := (1, 3, [])) rfl).trans (w1_114 l D dA sa sb x0 m0 qx qm).symm
  | 115 => exact (wd_at (d := (1, 294147, [])) rfl).trans (w1_115 l D dA sa sb x0 m0 qx qm).symm
  | 116 => exact (wd_at (d := (1, 24, [])) rfl).trans (w1_116 l D dA sa sb x0 m0 qx qm).symm
  | k + 117 =>
    have h := shp_l
    rw [List.getElem?_eq_none (by simp [wd]; omega), List.getElem?_eq_none (show (P2w dA x0 m0 qx qm).length ≤ k + 117 from Nat.le_add_left 117 k)]
set_option maxHeartbeats 4000000 in
set_option maxRecDepth 100000 in
theorem wdP (l : Launch) (D : va_G) (dA : Nat → ClassId) (sa sb : Nat → Nat) (x0 m0 : Nat) (qx qm : Nat → Nat) (H : Heap) (hP : va_P D cls [(x0, .inr (9, [.ref (qx 0), .ref (qx 9), .ref (qx 10), .ref (qx 11), .ref (qx 12), .ref (qx 34), .ref (qx 41), .ref (qx 65), .ref (qx 72), .ref (qx 77), vi 0, vi 0, vi (-1), vi (-1)])), ((qx 0), .inr (6, [.ref (qx 1), .ref (qx 6), vi 0, .ref (qx 7), vi 0, .ref (qx 8), vi 0])), ((qx 1), .inr (7, [.ref (qx 2), .ref (qx 3), .ref (qx 4), .ref (qx 5), vl 1, vi 0])), ((qx 2), zI dA 6), ((qx 3), zI dA 6), ((qx 4), zL dA 24), ((qx 5), zL dA 24), ((qx 6), zI dA 3), ((qx 7), zI dA 18), ((qx 8), zI dA 18), ((qx 9), zR dA 0 2 [some (qx 78), some (qx 87)]), ((qx 10), zZ dA 2), ((qx 11), .inr (2, [.ref (qx 12), .ref (qx 18), vi 0])), ((qx 12), .inr (8, [.ref (qx 13), vi 0, .ref (qx 14), .ref (qx 15), .ref (qx 16), .ref (qx 17), vi 0, vi 0])), ((qx 13), zI dA 400), ((qx 14), zI dA 401), ((qx 15), zI dA 401), ((qx 16), zI dA 401), ((qx 17), zI dA 401), ((qx 18), .inr (4, [.ref (qx 19), vi 0, .ref (qx 20), .ref (qx 21), vi 0])), ((qx 19), zR dA 1 12 [some (qx 22), some (qx 23), some (qx 24), some (qx 25), some (qx 26), some (qx 27), some (qx 28), some (qx 29), some (qx 30), some (qx 31), some (qx 32), some (qx 33)]), ((qx 20), zI dA 400), ((qx 21), zI dA 400), ((qx 22), .inr (0, [vi 0, vi 0, vi 0, vi 0, vi 0, vi 0, vi 0, vi 0])), ((qx 23), .inr (0, [vi 0, vi 0, vi 0, vi 0, vi 0, vi 0, vi 0, vi 0])), ((qx 24), .inr (0, [vi 0, vi 0, vi 0, vi 0, vi 0, vi 0, vi 0, vi 0])), ((qx 25), .inr (0, [vi 0, vi 0, vi 0, vi 0, vi 0, vi 0, vi 0, vi 0])), ((qx 26), .inr (0, [vi 0, vi 0, vi 0, vi 0, vi 0, vi 0, vi 0, vi 0])), ((qx 27), .inr (0, [vi 0, vi 0, vi 0, vi 0, vi 0, vi 0, vi 0, vi 0])), ((qx 28), .inr (0, [vi 0, vi 0, vi 0, vi 0, vi 0, vi 0, vi 0, vi 0])), ((qx 29), .inr (0, [vi 0, vi 0, vi 0, vi 0, vi 0, vi 0, vi 0, vi 0])), ((qx 30), .inr (0, [vi 0, vi 0, vi 0, vi 0, vi 0, vi 0, vi 0, vi 0])), ((qx 31), .inr (0, [vi 0, vi 0, vi 0, vi 0, vi 0, vi 0, vi 0, vi 0])), ((qx 32), .inr (0, [vi 0, vi 0, vi 0, vi 0, vi 0, vi 0, vi 0, vi 0])), ((qx 33), .inr (0, [vi 0, vi 0, vi 0, vi 0, vi 0, vi 0, vi 0, vi 0])), ((qx 34), .inr (3, [.ref (qx 35), .ref (qx 40), vi 0, vi 0, vi 0])), ((qx 35), .inr (7, [.ref (qx 36), .ref (qx 37), .ref (qx 38), .ref (qx 39), vl 1, vi 0])), ((qx 36), zI dA 6), ((qx 37), zI dA 6), ((qx 38), zL dA 24), ((qx 39), zL dA 24), ((qx 40), zL dA 50), ((qx 41), .inr (5, [.ref (qx 42), .ref (qx 43), .ref (qx 44), vi 0, vi 0, vi 0, vi 0, vi 0, vi 0])), ((qx 42), zR dA 2 4 [some (qx 45), some (qx 50), some (qx 55), some (qx 60)]), ((qx 43), zI dA 9), ((qx 44), zI dA 9), ((qx 45), .inr (7, [.ref (qx 46), .ref (qx 47), .ref (qx 48), .ref (qx 49), vl 1, vi 0])), ((qx 46), zI dA 6), ((qx 47), zI dA 6), ((qx 48), zL dA 24), ((qx 49), zL dA 24), ((qx 50), .inr (7, [.ref (qx 51), .ref (qx 52), .ref (qx 53), .ref (qx 54), vl 1, vi 0])), ((qx 51), zI dA 6), ((qx 52), zI dA 6), ((qx 53), zL dA 24), ((qx 54), zL dA 24), ((qx 55), .inr (7, [.ref (qx 56), .ref (qx 57), .ref (qx 58), .ref (qx 59), vl 1, vi 0])), ((qx 56), zI dA 6), ((qx 57), zI dA 6), ((qx 58), zL dA 24), ((qx 59), zL dA 24), ((qx 60), .inr (7, [.ref (qx 61), .ref (qx 62), .ref (qx 63), .ref (qx 64), vl 1, vi 0])), ((qx 61), zI dA 6), ((qx 62), zI dA 6), ((qx 63), zL dA 24), ((qx 64), zL dA 24), ((qx 65), .inr (1, [.ref (qx 66), .ref (qx 67), vi 0, .ref (qx 68), .ref (qx 69), .ref (qx 70), .ref (qx 71)])), ((qx 66), zI dA 6), ((qx 67), zI dA 6), ((qx 68), zI dA 7), ((qx 69), zI dA 7), ((qx 70), zI dA 7), ((qx 71), zI dA 7), ((qx 72), .inr (7, [.ref (qx 73), .ref (qx 74), .ref (qx 75), .ref (qx 76), vl 1, vi 0])), ((qx 73), zI dA 6), ((qx 74), zI dA 6), ((qx 75), zL dA 24), ((qx 76), zL dA 24), ((qx 77), zI dA 5), ((qx 78), .inr (6, [.ref (qx 79), .ref (qx 84), vi 0, .ref (qx 85), vi 0, .ref (qx 86), vi 0])), ((qx 79), .inr (7, [.ref (qx 80), .ref (qx 81), .ref (qx 82), .ref (qx 83), vl 1, vi 0])), ((qx 80), zI dA 6), ((qx 81), zI dA 6), ((qx 82), zL dA 24), ((qx 83), zL dA 24), ((qx 84), zI dA 3), ((qx 85), zI dA 18), ((qx 86), zI dA 18), ((qx 87), .inr (6, [.ref (qx 88), .ref (qx 93), vi 0, .ref (qx 94), vi 0, .ref (qx 95), vi 0])), ((qx 88), .inr (7, [.ref (qx 89), .ref (qx 90), .ref (qx 91), .ref (qx 92), vl 1, vi 0])), ((qx 89), zI dA 6), ((qx 90), zI dA 6), ((qx 91), zL dA 24), ((qx 92), zL dA 24), ((qx 93), zI dA 3), ((qx 94), zI dA 18), ((qx 95), zI dA 18), (m0, .inr (10, [vi 0, vi 0, .ref (qm 0), .ref (qm 1), .ref (qm 2), .ref (qm 3), .ref (qm 4), .ref (qm 5), .ref (qm 6), .ref (qm 7), vi 0, .ref (qm 8), vi 0, vi 0, vi 0, vi 0, vl 0, vi (-1), vi 0, vi 0, .ref (qm 9), vi 0, .ref (qm 10), .ref (qm 11), vi 0, .ref (qm 12), .ref (qm 13), vi 0, vi 0, .ref (qm 14), vi 0, vl 0, vi 0, vi (-1), .ref (qm 15), .ref (qm 16), vi 0, vi 0, vi 0, vi 0, vi 0, .ref (qm 17), vl 0, .ref (qm 18), vi 0])), ((qm 0), zI dA 7), ((qm 1), zI dA 49), ((qm 2), zI dA 98), ((qm 3), .inl (dA 1, 25, .inr (.inl (fun j => Int64.ofInt (msL (fun _ => 0) 24 1 j))))), ((qm 4), zL dA 50), ((qm 5), zZ dA 2), ((qm 6), zL dA 300), ((qm 7), zL dA 4), ((qm 8), zI dA 400), ((qm 9), zI dA 96), ((qm 10), zI dA 400), ((qm 11), zI dA 400), ((qm 12), zI dA 400), ((qm 13), zI dA 400), ((qm 14), zL dA 400), ((qm 15), zI dA 3), ((qm 16), zI dA 3), ((qm 17), zI dA 294147), ((qm 18), zI dA 24)] H) : va_P D cls (wd (l, adr x0 m0 qx qm, D, dA, sa, sb) M0) H := by
  have h0 := hP.sub (ws' := [(x0, .inr (9, [.ref (qx 0), .ref (qx 9), .ref (qx 10), .ref (qx 11), .ref (qx 12), .ref (qx 34), .ref (qx 41), .ref (qx 65), .ref (qx 72), .ref (qx 77), vi 0, vi 0, vi (-1), vi (-1)])), ((qx 0), .inr (6, [.ref (qx 1), .ref (qx 6), vi 0, .ref (qx 7), vi 0, .ref (qx 8), vi 0])), ((qx 1), .inr (7, [.ref (qx 2), .ref (qx 3), .ref (qx 4), .ref (qx 5), vl 1, vi 0])), ((qx 2), zI dA 6), ((qx 3), zI dA 6), ((qx 4), zL dA 24), ((qx 5), zL dA 24), ((qx 6), zI dA 3), ((qx 7), zI dA 18), ((qx 8), zI dA 18), ((qx 78), .inr (6, [.ref (qx 79), .ref (qx 84), vi 0, .ref (qx 85), vi 0, .ref (qx 86), vi 0])), ((qx 79), .inr (7, [.ref (qx 80), .ref (qx 81), .ref (qx 82), .ref (qx 83), vl 1, vi 0])), ((qx 80), zI dA 6), ((qx 81), zI dA 6), ((qx 82), zL dA 24), ((qx 83), zL dA 24), ((qx 84), zI dA 3), ((qx 85), zI dA 18), ((qx 86), zI dA 18), ((qx 87), .inr (6, [.ref (qx 88), .ref (qx 93), vi 0, .ref (qx 94), vi 0, .ref (qx 95), vi 0])), ((qx 88), .inr (7, [.ref (qx 89), .ref (qx 90), .ref (qx 91), .ref (qx 92), vl 1, vi 0])), ((qx 89), zI dA 6), ((qx 90), zI dA 6), ((qx 91), zL dA 24), ((qx 92), zL dA 24), ((qx 93), zI dA 3), ((qx 94), zI dA 18), ((qx 95), zI dA 18), ((qx 9), zR dA 0 2 [some (qx 78), some (qx 87)]), ((qx 10), zZ dA 2), ((qx 11), .inr (2, [.ref (qx 12), .ref (qx 18), vi 0])), ((qx 12), .inr (8, [.ref (qx 13), vi 0, .ref (qx 14), .ref (qx 15), .ref (qx 16), .ref (qx 17), vi 0, vi 0])), ((qx 13), zI dA 400), ((qx 14), zI dA 401), ((qx 15), zI dA 401), ((qx 16), zI dA 401), ((qx 17), zI dA 401), ((qx 18), .inr (4, [.ref (qx 19), vi 0, .ref (qx 20), .ref (qx 21), vi 0])), ((qx 19), zR dA 1 12 [some (qx 22), some (qx 23), some (qx 24), some (qx 25), some (qx 26), some (qx 27), some (qx 28), some (qx 29), some (qx 30), some (qx 31), some (qx 32), some (qx 33)]), ((qx 20), zI dA 400), ((qx 21), zI dA 400), ((qx 22), .inr (0, [vi 0, vi 0, vi 0, vi 0, vi 0, vi 0, vi 0, vi 0])), ((qx 23), .inr (0, [vi 0, vi 0, vi 0, vi 0, vi 0, vi 0, vi 0, vi 0])), ((qx 24), .inr (0, [vi 0, vi 0, vi 0, vi 0, vi 0, vi 0, vi 0, vi 0])), ((qx 25), .inr (0, [vi 0, vi 0, vi 0, vi 0, vi 0, vi 0, vi 0, vi 0])), ((qx 26), .inr (0, [vi 0, vi 0, vi 0, vi 0, vi 0, vi 0, vi 0, vi 0])), ((qx 27), .inr (0, [vi 0, vi 0, vi 0, vi 0, vi 0, vi 0, vi 0, vi 0])), ((qx 28), .inr (0, [vi 0, vi 0, vi 0, vi 0, vi 0, vi 0, vi 0, vi 0])), ((qx 29), .inr (0, [vi 0, vi 0, vi 0, vi 0, vi 0, vi 0, vi 0, vi 0])), ((qx 30), .inr (0, [vi 0, vi 0, vi 0, vi 0, vi 0, vi 0, vi 0, vi 0])), ((qx 31), .inr (0, [vi 0, vi 0, vi 0, vi 0, vi 0, vi 0, vi 0, vi 0])), ((qx 32), .inr (0, [vi 0, vi 0, vi 0, vi 0, vi 0, vi 0, vi 0, vi 0])), ((qx 33), .inr (0, [vi 0, vi 0, vi 0, vi 0, vi 0, vi 0, vi 0, vi 0])), ((qx 34), .inr (3, [.ref (qx 35), .ref (qx 40), vi 0, vi 0, vi 0])), ((qx 35), .inr (7, [.ref (qx 36), .ref (qx 37), .ref (qx 38), .ref (qx 39), vl 1, vi 0])), ((qx 36), zI dA 6), ((qx 37), zI dA 6), ((qx 38), zL dA 24), ((qx 39), zL dA 24), ((qx 40), zL dA 50), ((qx 41), .inr (5, [.ref (qx 42), .ref (qx 43), .ref (qx 44), vi 0, vi 0, vi 0, vi 0, vi 0, vi 0])), ((qx 42), zR dA 2 4 [some (qx 45), some (qx 50), some (qx 55), some (qx 60)]), ((qx 45), .inr (7, [.ref (qx 46), .ref (qx 47), .ref (qx 48), .ref (qx 49), vl 1, vi 0])), ((qx 46), zI dA 6), ((qx 47), zI dA 6), ((qx 48), zL dA 24), ((qx 49), zL dA 24), ((qx 50), .inr (7, [.ref (qx 51), .ref (qx 52), .ref (qx 53), .ref (qx 54), vl 1, vi 0])), ((qx 51), zI dA 6), ((qx 52), zI dA 6), ((qx 53), zL dA 24), ((qx 54), zL dA 24), ((qx 55), .inr (7, [.ref (qx 56), .ref (qx 57), .ref (qx 58), .ref (qx 59), vl 1, vi 0])), ((qx 56), zI dA 6), ((qx 57), zI dA 6), ((qx 58), zL dA 24), ((qx 59), zL dA 24), ((qx 60), .inr (7, [.ref (qx 61), .ref (qx 62), .ref (qx 63), .ref (qx 64), vl 1, vi 0])), ((qx 61), zI dA 6), ((qx 62), zI dA 6), ((qx 63), zL dA 24), ((qx 64), zL dA 24), ((qx 43), zI dA 9), ((qx 44), zI dA 9), ((qx 65), .inr (1, [.ref (qx 66), .ref (qx 67), vi 0, .ref (qx 68), .ref (qx 69), .ref (qx 70), .ref (qx 71)])), ((qx 66), zI dA 6), ((qx 67), zI dA 6), ((qx 68), zI dA 7), ((qx 69), zI dA 7), ((qx 70), zI dA 7), ((qx 71), zI dA 7), ((qx 72), .inr (7, [.ref (qx 73), .ref (qx 74), .ref (qx 75), .ref (qx 76), vl 1, vi 0])), ((qx 73), zI dA 6), ((qx 74), zI dA 6), ((qx 75), zL dA 24), ((qx 76), zL dA 24), ((qx 77), zI dA 5), (m0, .inr (10, [vi 0, vi 0, .ref (qm 0), .ref (qm 1), .ref (qm 2), .ref (qm 3), .ref (qm 4), .ref (qm 5), .ref (qm 6), .ref (qm 7), vi 0, .ref (qm 8), vi 0, vi 0, vi 0, vi 0, vl 0, vi (-1), vi 0, vi 0, .ref (qm 9), vi 0, .ref (qm 10), .ref (qm 11), vi 0, .ref (qm 12), .ref (qm 13), vi 0, vi 0, .ref (qm 14), vi 0, vl 0, vi 0, vi (-1), .ref (qm 15), .ref (qm 16), vi 0, vi 0, vi 0, vi 0, vi 0, .ref (qm 17), vl 0, .ref (qm 18), vi 0])), ((qm 0), zI dA 7), ((qm 1), zI dA 49), ((qm 2), zI dA 98), ((qm 3), .inl (dA 1, 25, .inr (.inl (fun j => Int64.ofInt (msL (fun _ => 0) 24 1 j))))), ((qm 4), zL dA 50), ((qm 5), zZ dA 2), ((qm 6), zL dA 300), ((qm 7), zL dA 4), ((qm 8), zI dA 400), ((qm 9), zI dA 96), ((qm 10), zI dA 400), ((qm 11), zI dA 400), ((qm 12), zI dA 400), ((qm 13), zI dA 400), ((qm 14), zL dA 400), ((qm 15), zI dA 3), ((qm 16), zI dA 3), ((qm 17), zI dA 294147), ((qm 18), zI dA 24)]) [0, 1, 2, 3, 4, 5, 6, 7, 8, 9, 79, 80, 81, 82, 83, 84, 85, 86, 87, 88, 89, 90, 91, 92, 93, 94, 95, 96, 10, 11, 12, 13, 14, 15, 16, 17, 18, 19, 20, 21, 22, 23, 24, 25, 26, 27, 28, 29, 30, 31, 32, 33, 34, 35, 36, 37, 38, 39, 40, 41, 42, 43, 46, 47, 48, 49, 50, 51, 52, 53, 54, 55, 56, 57, 58, 59, 60, 61, 62, 63, 64, 65, 44, 45, 66, 67, 68, 69, 70, 71, 72, 73, 74, 75, 76, 77, 78, 97, 98, 99, 100, 101, 102, 103, 104, 105, 106, 107, 108, 109, 110, 111, 112, 113, 114, 115, 116] rfl
  have h1 := va_P_re (g := (fun j => some (adr x0 m0 qx qm ([10, 19].getD j 0)))) 28 h0 rfl (fun j hj => by match j, hj with
      | 0, _ => rfl
      | 1, _ => rfl
      | j + 2, hj => exact absurd hj (by omega))
  have h2 := va_P_re (g := (fun j => some (adr x0 m0 qx qm ([41, 42, 43, 44, 45, 46, 47, 48, 49, 50, 51, 52].getD j 0)))) 38 h1 rfl (fun j hj => by match j, hj with
      | 0, _ => rfl
      | 1, _ => rfl
      | 2, _ => rfl
      | 3, _ => rfl
      | 4, _ => rfl
      | 5, _ => rfl
      | 6, _ => rfl
      | 7, _ => rfl
      | 8, _ => rfl
      | 9, _ => rfl
      | 10, _ => rfl
      | 11, _ => rfl
      | j + 12, hj => exact absurd hj (by omega))
  have h3 := va_P_re (g := (fun j => some (adr x0 m0 qx qm ([62, 67, 72, 77].getD j 0)))) 61 h2 rfl (fun j hj => by match j, hj with
      | 0, _ => rfl
      | 1, _ => rfl
      | 2, _ => rfl
      | 3, _ => rfl
      | j + 4, hj => exact absurd hj (by omega))
  rw [wd0]
  exact h3
set_option maxHeartbeats 4000000 in
set_option maxRecDepth 100000 in
theorem wdD (l : Launch) (D : va_G) (dA : Nat → ClassId) (sa sb : Nat → Nat) (x0 m0 : Nat) (qx qm : Nat → Nat) (A : Nat → Prop) (hD : va_D A [(x0, .inr (9, [.ref (qx 0), .ref (qx 9), .ref (qx 10), .ref (qx 11), .ref (qx 12), .ref (qx 34), .ref (qx 41), .ref (qx 65), .ref (qx 72), .ref (qx 77), vi 0, vi 0, vi (-1), vi (-1)])), ((qx 0), .inr (6, [.ref (qx 1), .ref (qx 6), vi 0, .ref (qx 7), vi 0, .ref (qx 8), vi 0])), ((qx 1), .inr (7, [.ref (qx 2), .ref (qx 3), .ref (qx 4), .ref (qx 5), vl 1, vi 0])), ((qx 2), zI dA 6), ((qx 3), zI dA 6), ((qx 4), zL dA 24), ((qx 5), zL dA 24), ((qx 6), zI dA 3), ((qx 7), zI dA 18), ((qx 8), zI dA 18), ((qx 9), zR dA 0 2 [some (qx 78), some (qx 87)]), ((qx 10), zZ dA 2), ((qx 11), .inr (2, [.ref (qx 12), .ref (qx 18), vi 0])), ((qx 12), .inr (8, [.ref (qx 13), vi 0, .ref (qx 14), .ref (qx 15), .ref (qx 16), .ref (qx 17), vi 0, vi 0])), ((qx 13), zI dA 400), ((qx 14), zI dA 401), ((qx 15), zI dA 401), ((qx 16), zI dA 401), ((qx 17), zI dA 401), ((qx 18), .inr (4, [.ref (qx 19), vi 0, .ref (qx 20), .ref (qx 21), vi 0])), ((qx 19), zR dA 1 12 [some (qx 22), some (qx 23), some (qx 24), some (qx 25), some (qx 26), some (qx 27), some (qx 28), some (qx 29), some (qx 30), some (qx 31), some (qx 32), some (qx 33)]), ((qx 20), zI dA 400), ((qx 21), zI dA 400), ((qx 22), .inr (0, [vi 0, vi 0, vi 0, vi 0, vi 0, vi 0, vi 0, vi 0])), ((qx 23), .inr (0, [vi 0, vi 0, vi 0, vi 0, vi 0, vi 0, vi 0, vi 0])), ((qx 24), .inr (0, [vi 0, vi 0, vi 0, vi 0, vi 0, vi 0, vi 0, vi 0])), ((qx 25), .inr (0, [vi 0, vi 0, vi 0, vi 0, vi 0, vi 0, vi 0, vi 0])), ((qx 26), .inr (0, [vi 0, vi 0, vi 0, vi 0, vi 0, vi 0, vi 0, vi 0])), ((qx 27), .inr (0, [vi 0, vi 0, vi 0, vi 0, vi 0, vi 0, vi 0, vi 0])), ((qx 28), .inr (0, [vi 0, vi 0, vi 0, vi 0, vi 0, vi 0, vi 0, vi 0])), ((qx 29), .inr (0, [vi 0, vi 0, vi 0, vi 0, vi 0, vi 0, vi 0, vi 0])), ((qx 30), .inr (0, [vi 0, vi 0, vi 0, vi 0, vi 0, vi 0, vi 0, vi 0])), ((qx 31), .inr (0, [vi 0, vi 0, vi 0, vi 0, vi 0, vi 0, vi 0, vi 0])), ((qx 32), .inr (0, [vi 0, vi 0, vi 0, vi 0, vi 0, vi 0, vi 0, vi 0])), ((qx 33), .inr (0, [vi 0, vi 0, vi 0, vi 0, vi 0, vi 0, vi 0, vi 0])), ((qx 34), .inr (3, [.ref (qx 35), .ref (qx 40), vi 0, vi 0, vi 0])), ((qx 35), .inr (7, [.ref (qx 36), .ref (qx 37), .ref (qx 38), .ref (qx 39), vl 1, vi 0])), ((qx 36), zI dA 6), ((qx 37), zI dA 6), ((qx 38), zL dA 24), ((qx 39), zL dA 24), ((qx 40), zL dA 50), ((qx 41), .inr (5, [.ref (qx 42), .ref (qx 43), .ref (qx 44), vi 0, vi 0, vi 0, vi 0, vi 0, vi 0])), ((qx 42), zR dA 2 4 [some (qx 45), some (qx 50), some (qx 55), some (qx 60)]), ((qx 43), zI dA 9), ((qx 44), zI dA 9), ((qx 45), .inr (7, [.ref (qx 46), .ref (qx 47), .ref (qx 48), .ref (qx 49), vl 1, vi 0])), ((qx 46), zI dA 6), ((qx 47), zI dA 6), ((qx 48), zL dA 24), ((qx 49), zL dA 24), ((qx 50), .inr (7, [.ref (qx 51), .ref (qx 52), .ref (qx 53), .ref (qx 54), vl 1, vi 0])), ((qx 51), zI dA 6), ((qx 52), zI dA 6), ((qx 53), zL dA 24), ((qx 54), zL dA 24), ((qx 55), .inr (7, [.ref (qx 56), .ref (qx 57), .ref (qx 58), .ref (qx 59), vl 1, vi 0])), ((qx 56), zI dA 6), ((qx 57), zI dA 6), ((qx 58), zL dA 24), ((qx 59), zL dA 24), ((qx 60), .inr (7, [.ref (qx 61), .ref (qx 62), .ref (qx 63), .ref (qx 64), vl 1, vi 0])), ((qx 61), zI dA 6), ((qx 62), zI dA 6), ((qx 63), zL dA 24), ((qx 64), zL dA 24), ((qx 65), .inr (1, [.ref (qx 66), .ref (qx 67), vi 0, .ref (qx 68), .ref (qx 69), .ref (qx 70), .ref (qx 71)])), ((qx 66), zI dA 6), ((qx 67), zI dA 6), ((qx 68), zI dA 7), ((qx 69), zI dA 7), ((qx 70), zI dA 7), ((qx 71), zI dA 7), ((qx 72), .inr (7, [.ref (qx 73), .ref (qx 74), .ref (qx 75), .ref (qx 76), vl 1, vi 0])), ((qx 73), zI dA 6), ((qx 74), zI dA 6), ((qx 75), zL dA 24), ((qx 76), zL dA 24), ((qx 77), zI dA 5), ((qx 78), .inr (6, [.ref (qx 79), .ref (qx 84), vi 0, .ref (qx 85), vi 0, .ref (qx 86), vi 0])), ((qx 79), .inr (7, [.ref (qx 80), .ref (qx 81), .ref (qx 82), .ref (qx 83), vl 1, vi 0])), ((qx 80), zI dA 6), ((qx 81), zI dA 6), ((qx 82), zL dA 24), ((qx 83), zL dA 24), ((qx 84), zI dA 3), ((qx 85), zI dA 18), ((qx 86), zI dA 18), ((qx 87), .inr (6, [.ref (qx 88), .ref (qx 93), vi 0, .ref (qx 94), vi 0, .ref (qx 95), vi 0])), ((qx 88), .inr (7, [.ref (qx 89), .ref (qx 90), .ref (qx 91), .ref (qx 92), vl 1, vi 0])), ((qx 89), zI dA 6), ((qx 90), zI dA 6), ((qx 91), zL dA 24), ((qx 92), zL dA 24), ((qx 93), zI dA 3), ((qx 94), zI dA 18), ((qx 95), zI dA 18), (m0, .inr (10, [vi 0, vi 0, .ref (qm 0), .ref (qm 1), .ref (qm 2), .ref (qm 3), .ref (qm 4), .ref (qm 5), .ref (qm 6), .ref (qm 7), vi 0, .ref (qm 8), vi 0, vi 0, vi 0, vi 0, vl 0, vi (-1), vi 0, vi 0, .ref (qm 9), vi 0, .ref (qm 10), .ref (qm 11), vi 0, .ref (qm 12), .ref (qm 13), vi 0, vi 0, .ref (qm 14), vi 0, vl 0, vi 0, vi (-1), .ref (qm 15), .ref (qm 16), vi 0, vi 0, vi 0, vi 0, vi 0, .ref (qm 17), vl 0, .ref (qm 18), vi 0])), ((qm 0), zI dA 7), ((qm 1), zI dA 49), ((qm 2), zI dA 98), ((qm 3), .inl (dA 1, 25, .inr (.inl (fun j => Int64.ofInt (msL (fun _ => 0) 24 1 j))))), ((qm 4), zL dA 50), ((qm 5), zZ dA 2), ((qm 6), zL dA 300), ((qm 7), zL dA 4), ((qm 8), zI dA 400), ((qm 9), zI dA 96), ((qm 10), zI dA 400), ((qm 11), zI dA 400), ((qm 12), zI dA 400), ((qm 13), zI dA 400), ((qm 14), zL dA 400), ((qm 15), zI dA 3), ((qm 16), zI dA 3), ((qm 17), zI dA 294147), ((qm 18), zI dA 24)]) : va_D A (wd (l, adr x0 m0 qx qm, D, dA, sa, sb) M0) := by
  have h0 := hD.sub (ws' := [(x0, .inr (9, [.ref (qx 0), .ref (qx 9), .ref (qx 10), .ref (qx 11), .ref (qx 12), .ref (qx 34), .ref (qx 41), .ref (qx 65), .ref (qx 72), .ref (qx 77), vi 0, vi 0, vi (-1), vi (-1)])), ((qx 0), .inr (6, [.ref (qx 1), .ref (qx 6), vi 0, .ref (qx 7), vi 0, .ref (qx 8), vi 0])), ((qx 1), .inr (7, [.ref (qx 2), .ref (qx 3), .ref (qx 4), .ref (qx 5), vl 1, vi 0])), ((qx 2), zI dA 6), ((qx 3), zI dA 6), ((qx 4), zL dA 24), ((qx 5), zL dA 24), ((qx 6), zI dA 3), ((qx 7), zI dA 18), ((qx 8), zI dA 18), ((qx 78), .inr (6, [.ref (qx 79), .ref (qx 84), vi 0, .ref (qx 85), vi 0, .ref (qx 86), vi 0])), ((qx 79), .inr (7, [.ref (qx 80), .ref (qx 81), .ref (qx 82), .ref (qx 83), vl 1, vi 0])), ((qx 80), zI dA 6), ((qx 81), zI dA 6), ((qx 82), zL dA 24), ((qx 83), zL dA 24), ((qx 84), zI dA 3), ((qx 85), zI dA 18), ((qx 86), zI dA 18), ((qx 87), .inr (6, [.ref (qx 88), .ref (qx 93), vi 0, .ref (qx 94), vi 0, .ref (qx 95), vi 0])), ((qx 88), .inr (7, [.ref (qx 89), .ref (qx 90), .ref (qx 91), .ref (qx 92), vl 1, vi 0])), ((qx 89), zI dA 6), ((qx 90), zI dA 6), ((qx 91), zL dA 24), ((qx 92), zL dA 24), ((qx 93), zI dA 3), ((qx 94), zI dA 18), ((qx 95), zI dA 18), ((qx 9), zR dA 0 2 [some (qx 78), some (qx 87)]), ((qx 10), zZ dA 2), ((qx 11), .inr (2, [.ref (qx 12), .ref (qx 18), vi 0])), ((qx 12), .inr (8, [.ref (qx 13), vi 0, .ref (qx 14), .ref (qx 15), .ref (qx 16), .ref (qx 17), vi 0, vi 0])), ((qx 13), zI dA 400), ((qx 14), zI dA 401), ((qx 15), zI dA 401), ((qx 16), zI dA 401), ((qx 17), zI dA 401), ((qx 18), .inr (4, [.ref (qx 19), vi 0, .ref (qx 20), .ref (qx 21), vi 0])), ((qx 19), zR dA 1 12 [some (qx 22), some (qx 23), some (qx 24), some (qx 25), some (qx 26), some (qx 27), some (qx 28), some (qx 29), some (qx 30), some (qx 31), some (qx 32), some (qx 33)]), ((qx 20), zI dA 400), ((qx 21), zI dA 400), ((qx 22), .inr (0, [vi 0, vi 0, vi 0, vi 0, vi 0, vi 0, vi 0, vi 0])), ((qx 23), .inr (0, [vi 0, vi 0, vi 0, vi 0, vi 0, vi 0, vi 0, vi 0])), ((qx 24), .inr (0, [vi 0, vi 0, vi 0, vi 0, vi 0, vi 0, vi 0, vi 0])), ((qx 25), .inr (0, [vi 0, vi 0, vi 0, vi 0, vi 0, vi 0, vi 0, vi 0])), ((qx 26), .inr (0, [vi 0, vi 0, vi 0, vi 0, vi 0, vi 0, vi 0, vi 0])), ((qx 27), .inr (0, [vi 0, vi 0, vi 0, vi 0, vi 0, vi 0, vi 0, vi 0])), ((qx 28), .inr (0, [vi 0, vi 0, vi 0, vi 0, vi 0, vi 0, vi 0, vi 0])), ((qx 29), .inr (0, [vi 0, vi 0, vi 0, vi 0, vi 0, vi 0, vi 0, vi 0])), ((qx 30), .inr (0, [vi 0, vi 0, vi 0, vi 0, vi 0, vi 0, vi 0, vi 0])), ((qx 31), .inr (0, [vi 0, vi 0, vi 0, vi 0, vi 0, vi 0, vi 0, vi 0])), ((qx 32), .inr (0, [vi 0, vi 0, vi 0, vi 0, vi 0, vi 0, vi 0, vi 0])), ((qx 33), .inr (0, [vi 0, vi 0, vi 0, vi 0, vi 0, vi 0, vi 0, vi 0])), ((qx 34), .inr (3, [.ref (qx 35), .ref (qx 40), vi 0, vi 0, vi 0])), ((qx 35), .inr (7, [.ref (qx 36), .ref (qx 37), .ref (qx 38), .ref (qx 39), vl 1, vi 0])), ((qx 36), zI dA 6), ((qx 37), zI dA 6), ((qx 38), zL dA 24), ((qx 39), zL dA 24), ((qx 40), zL dA 50), ((qx 41), .inr (5, [.ref (qx 42), .ref (qx 43), .ref (qx 44), vi 0, vi 0, vi 0, vi 0, vi 0, vi 0])), ((qx 42), zR dA 2 4 [some (qx 45), some (qx 50), some (qx 55), some (qx 60)]), ((qx 45), .inr (7, [.ref (qx 46), .ref (qx 47), .ref (qx 48), .ref (qx 49), vl 1, vi 0])), ((qx 46), zI dA 6), ((qx 47), zI dA 6), ((qx 48), zL dA 24), ((qx 49), zL dA 24), ((qx 50), .inr (7, [.ref (qx 51), .ref (qx 52), .ref (qx 53), .ref (qx 54), vl 1, vi 0])), ((qx 51), zI dA 6), ((qx 52), zI dA 6), ((qx 53), zL dA 24), ((qx 54), zL dA 24), ((qx 55), .inr (7, [.ref (qx 56), .ref (qx 57), .ref (qx 58), .ref (qx 59), vl 1, vi 0])), ((qx 56), zI dA 6), ((qx 57), zI dA 6), ((qx 58), zL dA 24), ((qx 59), zL dA 24), ((qx 60), .inr (7, [.ref (qx 61), .ref (qx 62), .ref (qx 63), .ref (qx 64), vl 1, vi 0])), ((qx 61), zI dA 6), ((qx 62), zI dA 6), ((qx 63), zL dA 24), ((qx 64), zL dA 24), ((qx 43), zI dA 9), ((qx 44), zI dA 9), ((qx 65), .inr (1, [.ref (qx 66), .ref (qx 67), vi 0, .ref (qx 68), .ref (qx 69), .ref (qx 70), .ref (qx 71)])), ((qx 66), zI dA 6), ((qx 67), zI dA 6), ((qx 68), zI dA 7), ((qx 69), zI dA 7), ((qx 70), zI dA 7), ((qx 71), zI dA 7), ((qx 72), .inr (7, [.ref (qx 73), .ref (qx 74), .ref (qx 75), .ref (qx 76), vl 1, vi 0])), ((qx 73), zI dA 6), ((qx 74), zI dA 6), ((qx 75), zL dA 24), ((qx 76), zL dA 24), ((qx 77), zI dA 5), (m0, .inr (10, [vi 0, vi 0, .ref (qm 0), .ref (qm 1), .ref (qm 2), .ref (qm 3), .ref (qm 4), .ref (qm 5), .ref (qm 6), .ref (qm 7), vi 0, .ref (qm 8), vi 0, vi 0, vi 0, vi 0, vl 0, vi (-1), vi 0, vi 0, .ref (qm 9), vi 0, .ref (qm 10), .ref (qm 11), vi 0, .ref (qm 12), .ref (qm 13), vi 0, vi 0, .ref (qm 14), vi 0, vl 0, vi 0, vi (-1), .ref (qm 15), .ref (qm 16), vi 0, vi 0, vi 0, vi 0, vi 0, .ref (qm 17), vl 0, .ref (qm 18), vi 0])), ((qm 0), zI dA 7), ((qm 1), zI dA 49), ((qm 2), zI dA 98), ((qm 3), .inl (dA 1, 25, .inr (.inl (fun j => Int64.ofInt (msL (fun _ => 0) 24 1 j))))), ((qm 4), zL dA 50), ((qm 5), zZ dA 2), ((qm 6), zL dA 300), ((qm 7), zL dA 4), ((qm 8), zI dA 400), ((qm 9), zI dA 96), ((qm 10), zI dA 400), ((qm 11), zI dA 400), ((qm 12), zI dA 400), ((qm 13), zI dA 400), ((qm 14), zL dA 400), ((qm 15), zI dA 3), ((qm 16), zI dA 3), ((qm 17), zI dA 294147), ((qm 18), zI dA 24)]) [0, 1, 2, 3, 4, 5, 6, 7, 8, 9, 79, 80, 81, 82, 83, 84, 85, 86, 87, 88, 89, 90, 91, 92, 93, 94, 95, 96, 10, 11, 12, 13, 14, 15, 16, 17, 18, 19, 20, 21, 22, 23, 24, 25, 26, 27, 28, 29, 30, 31, 32, 33, 34, 35, 36, 37, 38, 39, 40, 41, 42, 43, 46, 47, 48, 49, 50, 51, 52, 53, 54, 55, 56, 57, 58, 59, 60, 61, 62, 63, 64, 65, 44, 45, 66, 67, 68, 69, 70, 71, 72, 73, 74, 75, 76, 77, 78, 97, 98, 99, 100, 101, 102, 103, 104, 105, 106, 107, 108, 109, 110, 111, 112, 113, 114, 115, 116] (by decide +kernel) rfl
  refine ad_D h0 ?_
  rw [wd0]
  rfl
set_option maxHeartbeats 4000000 in
set_option maxRecDepth 100000 in
theorem law_J (l : Launch) (D : va_G) (dA : Nat → ClassId) (sa sb : Nat → Nat) (b L : Nat) (xs : Nat → Int32) (hL : L ≤ 3584) : J l RL cL_law 4 ret (ES D dA sa sb b L xs []) 0 0 Zl 0 [(0, .ref b)] [] := by
  refine s_new (pc' := 3) (ci := 9) (q1 := (RX9, TX9, 14)) (n := 14) (ty := tyX9) (fs := [.null, .null, .null, .null, .null, .null, .null, .null, .null, .null, vi 0, vi 0, vi 0, vi 0]) (ws' := fun x0 => [(x0, .inr (9, [.null, .null, .null, .null, .null, .null, .null, .null, .null, .null, vi 0, vi 0, vi 0, vi 0]))]) dL_law_0 rfl rfl rfl tyX9_ok cl_L_7 in_X9 ii_X9 df_X9 (Nat.le_of_ble_eq_true rfl) (Nat.le_of_ble_eq_true rfl) (fun _ => rfl) (fun x0 => ?_)
  refine j_dup (pc' := 4) dL_law_3 rfl rfl ?_
  refine s_init (pc' := 7) (b1 := x0) (wr := []) (ws' := fun qx => [(x0, .inr (9, [.ref (qx 0), .ref (qx 9), .ref (qx 10), .ref (qx 11), .ref (qx 12), .ref (qx 34), .ref (qx 41), .ref (qx 65), .ref (qx 72), .ref (qx 77), vi 0, vi 0, vi (-1), vi (-1)])), ((qx 0), .inr (6, [.ref (qx 1), .ref (qx 6), vi 0, .ref (qx 7), vi 0, .ref (qx 8), vi 0])), ((qx 1), .inr (7, [.ref (qx 2), .ref (qx 3), .ref (qx 4), .ref (qx 5), vl 1, vi 0])), ((qx 2), zI dA 6), ((qx 3), zI dA 6), ((qx 4), zL dA 24), ((qx 5), zL dA 24), ((qx 6), zI dA 3), ((qx 7), zI dA 18), ((qx 8), zI dA 18), ((qx 9), zR dA 0 2 [some (qx 78), some (qx 87)]), ((qx 10), zZ dA 2), ((qx 11), .inr (2, [.ref (qx 12), .ref (qx 18), vi 0])), ((qx 12), .inr (8, [.ref (qx 13), vi 0, .ref (qx 14), .ref (qx 15), .ref (qx 16), .ref (qx 17), vi 0, vi 0])), ((qx 13), zI dA 400), ((qx 14), zI dA 401), ((qx 15), zI dA 401), ((qx 16), zI dA 401), ((qx 17), zI dA 401), ((qx 18), .inr (4, [.ref (qx 19), vi 0, .ref (qx 20), .ref (qx 21), vi 0])), ((qx 19), zR dA 1 12 [some (qx 22), some (qx 23), some (qx 24), some (qx 25), some (qx 26), some (qx 27), some (qx 28), some (qx 29), some (qx 30), some (qx 31), some (qx 32), some (qx 33)]), ((qx 20), zI dA 400), ((qx 21), zI dA 400), ((qx 22), .inr (0, [vi 0, vi 0, vi 0, vi 0, vi 0, vi 0, vi 0, vi 0])), ((qx 23), .inr (0, [vi 0, vi 0, vi 0, vi 0, vi 0, vi 0, vi 0, vi 0])), ((qx 24), .inr (0, [vi 0, vi 0, vi 0, vi 0, vi 0, vi 0, vi 0, vi 0])), ((qx 25), .inr (0, [vi 0, vi 0, vi 0, vi 0, vi 0, vi 0, vi 0, vi 0])), ((qx 26), .inr (0, [vi 0, vi 0, vi 0, vi 0, vi 0, vi 0, vi 0, vi 0])), ((qx 27), .inr (0, [vi 0, vi 0, vi 0, vi 0, vi 0, vi 0, vi 0, vi 0])), ((qx 28), .inr (0, [vi 0, vi 0, vi 0, vi 0, vi 0, vi 0, vi 0, vi 0])), ((qx 29), .inr (0, [vi 0, vi 0, vi 0, vi 0, vi 0, vi 0, vi 0, vi 0])), ((qx 30), .inr (0, [vi 0, vi 0, vi 0, vi 0, vi 0, vi 0, vi 0, vi 0])), ((qx 31), .inr (0, [vi 0, vi 0, vi 0, vi 0, vi 0, vi 0, vi 0, vi 0])), ((qx 32), .inr (0, [vi 0, vi 0, vi 0, vi 0, vi 0, vi 0, vi 0, vi 0])), ((qx 33), .inr (0, [vi 0, vi 0, vi 0, vi 0, vi 0, vi 0, vi 0, vi 0])), ((qx 34), .inr (3, [.ref (qx 35), .ref (qx 40), vi 0, vi 0, vi 0])), ((qx 35), .inr (7, [.ref (qx 36), .ref (qx 37), .ref (qx 38), .ref (qx 39), vl 1, vi 0])), ((qx 36), zI dA 6), ((qx 37), zI dA 6), ((qx 38), zL dA 24), ((qx 39), zL dA 24), ((qx 40), zL dA 50), ((qx 41), .inr (5, [.ref (qx 42), .ref (qx 43), .ref (qx 44), vi 0, vi 0, vi 0, vi 0, vi 0, vi 0])), ((qx 42), zR dA 2 4 [some (qx 45), some (qx 50), some (qx 55), some (qx 60)]), ((qx 43), zI dA 9), ((qx 44), zI dA 9), ((qx 45), .inr (7, [.ref (qx 46), .ref (qx 47), .ref (qx 48), .ref (qx 49), vl 1, vi 0])), ((qx 46), zI dA 6), ((qx 47), zI dA 6), ((qx 48), zL dA 24), ((qx 49), zL dA 24), ((qx 50), .inr (7, [.ref (qx 51), .ref (qx 52), .ref (qx 53), .ref (qx 54), vl 1, vi 0])), ((qx 51), zI dA 6), ((qx 52), zI dA 6), ((qx 53), zL dA 24), ((qx 54), zL dA 24), ((qx 55), .inr (7, [.ref (qx 56), .ref (qx 57), .ref (qx 58), .ref (qx 59), vl 1, vi 0])), ((qx 56), zI dA 6), ((qx 57), zI dA 6), ((qx 58), zL dA 24), ((qx 59), zL dA 24), ((qx 60), .inr (7, [.ref (qx 61), .ref (qx 62), .ref (qx 63), .ref (qx 64), vl 1, vi 0])), ((qx 61), zI dA 6), ((qx 62), zI dA 6), ((qx 63), zL dA 24), ((qx 64), zL dA 24), ((qx 65), .inr (1, [.ref (qx 66), .ref (qx 67), vi 0, .ref (qx 68), .ref (qx 69), .ref (qx 70), .ref (qx 71)])), ((qx 66), zI dA 6), ((qx 67), zI dA 6), ((qx 68), zI dA 7), ((qx 69), zI dA 7), ((qx 70), zI dA 7), ((qx 71), zI dA 7), ((qx 72), .inr (7, [.ref (qx 73), .ref (qx 74), .ref (qx 75), .ref (qx 76), vl 1, vi 0])), ((qx 73), zI dA 6), ((qx 74), zI dA 6), ((qx 75), zL dA 24), ((qx 76), zL dA 24), ((qx 77), zI dA 5), ((qx 78), .inr (6, [.ref (qx 79), .ref (qx 84), vi 0, .ref (qx 85), vi 0, .ref (qx 86), vi 0])), ((qx 79), .inr (7, [.ref (qx 80), .ref (qx 81), .ref (qx 82), .ref (qx 83), vl 1, vi 0])), ((qx 80), zI dA 6), ((qx 81), zI dA 6), ((qx 82), zL dA 24), ((qx 83), zL dA 24), ((qx 84), zI dA 3), ((qx 85), zI dA 18), ((qx 86), zI dA 18), ((qx 87), .inr (6, [.ref (qx 88), .ref (qx 93), vi 0, .ref (qx 94), vi 0, .ref (qx 95), vi 0])), ((qx 88), .inr (7, [.ref (qx 89), .ref (qx 90), .ref (qx 91), .ref (qx 92), vl 1, vi 0])), ((qx 89), zI dA 6), ((qx 90), zI dA 6), ((qx 91), zL dA 24), ((qx 92), zL dA 24), ((qx 93), zI dA 3), ((qx 94), zI dA 18), ((qx 95), zI dA 18)]) dL_law_4 rfl li_L_9 w_X9_init (k_X9 l D dA) (Nat.le_of_ble_eq_true rfl) (Nat.le_of_ble_eq_true rfl) (Nat.le_of_ble_eq_true rfl) (Nat.le_of_ble_eq_true rfl) (Nat.le_of_ble_eq_true rfl) rfl (fun _ => rfl) (fun qx => ?_)
  refine j_astore (pc' := 8) (i := 1) (L' := [(1, .ref x0), (0, .ref b)]) dL_law_7 rfl rfl (by decide) rfl ?_
  refine s_new (pc' := 11) (ci := 10) (q1 := (RX10, TX10, 45)) (n := 45) (ty := tyX10) (fs := [vi 0, vi 0, .null, .null, .null, .null, .null, .null, .null, .null, vi 0, .null, vi 0, vi 0, vi 0, vi 0, vl 0, vi 0, vi 0, vi 0, .null, vi 0, .null, .null, vi 0, .null, .null, vi 0, vi 0, .null, vi 0, vl 0, vi 0, vi 0, .null, .null, vi 0, vi 0, vi 0, vi 0, vi 0, .null, vl 0, .null, vi 0]) (ws' := fun m0 => [(x0, .inr (9, [.ref (qx 0), .ref (qx 9), .ref (qx 10), .ref (qx 11), .ref (qx 12), .ref (qx 34), .ref (qx 41), .ref (qx 65), .ref (qx 72), .ref (qx 77), vi 0, vi 0, vi (-1), vi (-1)])), ((qx 0), .inr (6, [.ref (qx 1), .ref (qx 6), vi 0, .ref (qx 7), vi 0, .ref (qx 8), vi 0])), ((qx 1), .inr (7, [.ref (qx 2), .ref (qx 3), .ref (qx 4), .ref (qx 5), vl 1, vi 0])), ((qx 2), zI dA 6), ((qx 3), zI dA 6), ((qx 4), zL dA 24), ((qx 5), zL dA 24), ((qx 6), zI dA 3), ((qx 7), zI dA 18), ((qx 8), zI dA 18), ((qx 9), zR dA 0 2 [some (qx 78), some (qx 87)]), ((qx 10), zZ dA 2), ((qx 11), .inr (2, [.ref (qx 12), .ref (qx 18), vi 0])), ((qx 12), .inr (8, [.ref (qx 13), vi 0, .ref (qx 14), .ref (qx 15), .ref (qx 16), .ref (qx 17), vi 0, vi 0])), ((qx 13), zI dA 400), ((qx 14), zI dA 401), ((qx 15), zI dA 401), ((qx 16), zI dA 401), ((qx 17), zI dA 401), ((qx 18), .inr (4, [.ref (qx 19), vi 0, .ref (qx 20), .ref (qx 21), vi 0])), ((qx 19), zR dA 1 12 [some (qx 22), some (qx 23), some (qx 24), some (qx 25), some (qx 26), some (qx 27), some (qx 28), some (qx 29), some (qx 30), some (qx 31), some (qx 32), some (qx 33)]), ((qx 20), zI dA 400), ((qx 21), zI dA 400), ((qx 22), .inr (0, [vi 0, vi 0, vi 0, vi 0, vi 0, vi 0, vi 0, vi 0])), ((qx 23), .inr (0, [vi 0, vi 0, vi 0, vi 0, vi 0, vi 0, vi 0, vi 0])), ((qx 24), .inr (0, [vi 0, vi 0, vi 0, vi 0, vi 0, vi 0, vi 0, vi 0])), ((qx 25), .inr (0, [vi 0, vi 0, vi 0, vi 0, vi 0, vi 0, vi 0, vi 0])), ((qx 26), .inr (0, [vi 0, vi 0, vi 0, vi 0, vi 0, vi 0, vi 0, vi 0])), ((qx 27), .inr (0, [vi 0, vi 0, vi 0, vi 0, vi 0, vi 0, vi 0, vi 0])), ((qx 28), .inr (0, [vi 0, vi 0, vi 0, vi 0, vi 0, vi 0, vi 0, vi 0])), ((qx 29), .inr (0, [vi 0, vi 0, vi 0, vi 0, vi 0, vi 0, vi 0, vi 0])), ((qx 30), .inr (0, [vi 0, vi 0, vi 0, vi 0, vi 0, vi 0, vi 0, vi 0])), ((qx 31), .inr (0, [vi 0, vi 0, vi 0, vi 0, vi 0, vi 0, vi 0, vi 0])), ((qx 32), .inr (0, [vi 0, vi 0, vi 0, vi 0, vi 0, vi 0, vi 0, vi 0])), ((qx 33), .inr (0, [vi 0, vi 0, vi 0, vi 0, vi 0, vi 0, vi 0, vi 0])), ((qx 34), .inr (3, [.ref (qx 35), .ref (qx 40), vi 0, vi 0, vi 0])), ((qx 35), .inr (7, [.ref (qx 36), .ref (qx 37), .ref (qx 38), .ref (qx 39), vl 1, vi 0])), ((qx 36), zI dA 6), ((qx 37), zI dA 6), ((qx 38), zL dA 24), ((qx 39), zL dA 24), ((qx 40), zL dA 50), ((qx 41), .inr (5, [.ref (qx 42), .ref (qx 43), .ref (qx 44), vi 0, vi 0, vi 0, vi 0, vi 0, vi 0])), ((qx 42), zR dA 2 4 [some (qx 45), some (qx 50), some (qx 55), some (qx 60)]), ((qx 43), zI dA 9), ((qx 44), zI dA 9), ((qx 45), .inr (7, [.ref (qx 46), .ref (qx 47), .ref (qx 48), .ref (qx 49), vl 1, vi 0])), ((qx 46), zI dA 6), ((qx 47), zI dA 6), ((qx 48), zL dA 24), ((qx 49), zL dA 24), ((qx 50), .inr (7, [.ref (qx 51), .ref (qx 52), .ref (qx 53), .ref (qx 54), vl 1, vi 0])), ((qx 51), zI dA 6), ((qx 52), zI dA 6), ((qx 53), zL dA 24), ((qx 54), zL dA 24), ((qx 55), .inr (7, [.ref (qx 56), .ref (qx 57), .ref (qx 58), .ref (qx 59), vl 1, vi 0])), ((qx 56), zI dA 6), ((qx 57), zI dA 6), ((qx 58), zL dA 24), ((qx 59), zL dA 24), ((qx 60), .inr (7, [.ref (qx 61), .ref (qx 62), .ref (qx 63), .ref (qx 64), vl 1, vi 0])), ((qx 61), zI dA 6), ((qx 62), zI dA 6), ((qx 63), zL dA 24), ((qx 64), zL dA 24), ((qx 65), .inr (1, [.ref (qx 66), .ref (qx 67), vi 0, .ref (qx 68), .ref (qx 69), .ref (qx 70), .ref (qx 71)])), ((qx 66), zI dA 6), ((qx 67), zI dA 6), ((qx 68), zI dA 7), ((qx 69), zI dA 7), ((qx 70), zI dA 7), ((qx 71), zI dA 7), ((qx 72), .inr (7, [.ref (qx 73), .ref (qx 74), .ref (qx 75), .ref (qx 76), vl 1, vi 0])), ((qx 73), zI dA 6), ((qx 74), zI dA 6), ((qx 75), zL dA 24), ((qx 76), zL dA 24), ((qx 77), zI dA 5), ((qx 78), .inr (6, [.ref (qx 79), .ref (qx 84), vi 0, .ref (qx 85), vi 0, .ref (qx 86), vi 0])), ((qx 79), .inr (7, [.ref (qx 80), .ref (qx 81), .ref (qx 82), .ref (qx 83), vl 1, vi 0])), ((qx 80), zI dA 6), ((qx 81), zI dA 6), ((qx 82), zL dA 24), ((qx 83), zL dA 24), ((qx 84), zI dA 3), ((qx 85), zI dA 18), ((qx 86), zI dA 18), ((qx 87), .inr (6, [.ref (qx 88), .ref (qx 93), vi 0, .ref (qx 94), vi 0, .ref (qx 95), vi 0])), ((qx 88), .inr (7, [.ref (qx 89), .ref (qx 90), .ref (qx 91), .ref (qx 92), vl 1, vi 0])), ((qx 89), zI dA 6), ((qx 90), zI dA 6), ((qx 91), zL dA 24), ((qx 92), zL dA 24), ((qx 93), zI dA 3), ((qx 94), zI dA 18), ((qx 95), zI dA 18), (m0, .inr (10, [vi 0, vi 0, .null, .null, .null, .null, .null, .null, .null, .null, vi 0, .null, vi 0, vi 0, vi 0, vi 0, vl 0, vi 0, vi 0, vi 0, .null, vi 0, .null, .null, vi 0, .null, .null, vi 0, vi 0, .null, vi 0, vl 0, vi 0, vi 0, .null, .null, vi 0, vi 0, vi 0, vi 0, vi 0, .null, vl 0, .null, vi 0]))]) dL_law_8 rfl rfl rfl tyX10_ok cl_L_10 in_X10 ii_X10 df_X10 (Nat.le_of_ble_eq_true rfl) (Nat.le_of_ble_eq_true rfl) (fun _ => rfl) (fun m0 => ?_)
  refine j_dup (pc' := 12) dL_law_11 rfl rfl ?_
  refine s_init (pc' := 15) (b1 := m0) (wr := [(x0, .inr (9, [.ref (qx 0), .ref (qx 9), .ref (qx 10), .ref (qx 11), .ref (qx 12), .ref (qx 34), .ref (qx 41), .ref (qx 65), .ref (qx 72), .ref (qx 77), vi 0, vi 0, vi (-1), vi (-1)])), ((qx 0), .inr (6, [.ref (qx 1), .ref (qx 6), vi 0, .ref (qx 7), vi 0, .ref (qx 8), vi 0])), ((qx 1), .inr (7, [.ref (qx 2), .ref (qx 3), .ref (qx 4), .ref (qx 5), vl 1, vi 0])), ((qx 2), zI dA 6), ((qx 3), zI dA 6), ((qx 4), zL dA 24), ((qx 5), zL dA 24), ((qx 6), zI dA 3), ((qx 7), zI dA 18), ((qx 8), zI dA 18), ((qx 9), zR dA 0 2 [some (qx 78), some (qx 87)]), ((qx 10), zZ dA 2), ((qx 11), .inr (2, [.ref (qx 12), .ref (qx 18), vi 0])), ((qx 12), .inr (8, [.ref (qx 13), vi 0, .ref (qx 14), .ref (qx 15), .ref (qx 16), .ref (qx 17), vi 0, vi 0])), ((qx 13), zI dA 400), ((qx 14), zI dA 401), ((qx 15), zI dA 401), ((qx 16), zI dA 401), ((qx 17), zI dA 401), ((qx 18), .inr (4, [.ref (qx 19), vi 0, .ref (qx 20), .ref (qx 21), vi 0])), ((qx 19), zR dA 1 12 [some (qx 22), some (qx 23), some (qx 24), some (qx 25), some (qx 26), some (qx 27), some (qx 28), some (qx 29), some (qx 30), some (qx 31), some (qx 32), some (qx 33)]), ((qx 20), zI dA 400), ((qx 21), zI dA 400), ((qx 22), .inr (0, [vi 0, vi 0, vi 0, vi 0, vi 0, vi 0, vi 0, vi 0])), ((qx 23), .inr (0, [vi 0, vi 0, vi 0, vi 0, vi 0, vi 0, vi 0, vi 0])), ((qx 24), .inr (0, [vi 0, vi 0, vi 0, vi 0, vi 0, vi 0, vi 0, vi 0])), ((qx 25), .inr (0, [vi 0, vi 0, vi 0, vi 0, vi 0, vi 0, vi 0, vi 0])), ((qx 26), .inr (0, [vi 0, vi 0, vi 0, vi 0, vi 0, vi 0, vi 0, vi 0])), ((qx 27), .inr (0, [vi 0, vi 0, vi 0, vi 0, vi 0, vi 0, vi 0, vi 0])), ((qx 28), .inr (0, [vi 0, vi 0, vi 0, vi 0, vi 0, vi 0, vi 0, vi 0])), ((qx 29), .inr (0, [vi 0, vi 0, vi 0, vi 0, vi 0, vi 0, vi 0, vi 0])), ((qx 30), .inr (0, [vi 0, vi 0, vi 0, vi 0, vi 0, vi 0, vi 0, vi 0])), ((qx 31), .inr (0, [vi 0, vi 0, vi 0, vi 0, vi 0, vi 0, vi 0, vi 0])), ((qx 32), .inr (0, [vi 0, vi 0, vi 0, vi 0, vi 0, vi 0, vi 0, vi 0])), ((qx 33), .inr (0, [vi 0, vi 0, vi 0, vi 0, vi 0, vi 0, vi 0, vi 0])), ((qx 34), .inr (3, [.ref (qx 35), .ref (qx 40), vi 0, vi 0, vi 0])), ((qx 35), .inr (7, [.ref (qx 36), .ref (qx 37), .ref (qx 38), .ref (qx 39), vl 1, vi 0])), ((qx 36), zI dA 6), ((qx 37), zI dA 6), ((qx 38), zL dA 24), ((qx 39), zL dA 24), ((qx 40), zL dA 50), ((qx 41), .inr (5, [.ref (qx 42), .ref (qx 43), .ref (qx 44), vi 0, vi 0, vi 0, vi 0, vi 0, vi 0])), ((qx 42), zR dA 2 4 [some (qx 45), some (qx 50), some (qx 55), some (qx 60)]), ((qx 43), zI dA 9), ((qx 44), zI dA 9), ((qx 45), .inr (7, [.ref (qx 46), .ref (qx 47), .ref (qx 48), .ref (qx 49), vl 1, vi 0])), ((qx 46), zI dA 6), ((qx 47), zI dA 6), ((qx 48), zL dA 24), ((qx 49), zL dA 24), ((qx 50), .inr (7, [.ref (qx 51), .ref (qx 52), .ref (qx 53), .ref (qx 54), vl 1, vi 0])), ((qx 51), zI dA 6), ((qx 52), zI dA 6), ((qx 53), zL dA 24), ((qx 54), zL dA 24), ((qx 55), .inr (7, [.ref (qx 56), .ref (qx 57), .ref (qx 58), .ref (qx 59), vl 1, vi 0])), ((qx 56), zI dA 6), ((qx 57), zI dA 6), ((qx 58), zL dA 24), ((qx 59), zL dA 24), ((qx 60), .inr (7, [.ref (qx 61), .ref (qx 62), .ref (qx 63), .ref (qx 64), vl 1, vi 0])), ((qx 61), zI dA 6), ((qx 62), zI dA 6), ((qx 63), zL dA 24), ((qx 64), zL dA 24), ((qx 65), .inr (1, [.ref (qx 66), .ref (qx 67), vi 0, .ref (qx 68), .ref (qx 69), .ref (qx 70), .ref (qx 71)])), ((qx 66), zI dA 6), ((qx 67), zI dA 6), ((qx 68), zI dA 7), ((qx 69), zI dA 7), ((qx 70), zI dA 7), ((qx 71), zI dA 7), ((qx 72), .inr (7, [.ref (qx 73), .ref (qx 74), .ref (qx 75), .ref (qx 76), vl 1, vi 0])), ((qx 73), zI dA 6), ((qx 74), zI dA 6), ((qx 75), zL dA 24), ((qx 76), zL dA 24), ((qx 77), zI dA 5), ((qx 78), .inr (6, [.ref (qx 79), .ref (qx 84), vi 0, .ref (qx 85), vi 0, .ref (qx 86), vi 0])), ((qx 79), .inr (7, [.ref (qx 80), .ref (qx 81), .ref (qx 82), .ref (qx 83), vl 1, vi 0])), ((qx 80), zI dA 6), ((qx 81), zI dA 6), ((qx 82), zL dA 24), ((qx 83), zL dA 24), ((qx 84), zI dA 3), ((qx 85), zI dA 18), ((qx 86), zI dA 18), ((qx 87), .inr (6, [.ref (qx 88), .ref (qx 93), vi 0, .ref (qx 94), vi 0, .ref (qx 95), vi 0])), ((qx 88), .inr (7, [.ref (qx 89), .ref (qx 90), .ref (qx 91), .ref (qx 92), vl 1, vi 0])), ((qx 89), zI dA 6), ((qx 90), zI dA 6), ((qx 91), zL dA 24), ((qx 92), zL dA 24), ((qx 93), zI dA 3), ((qx 94), zI dA 18), ((qx 95), zI dA 18)]) (ws' := fun qm => [(x0, .inr (9, [.ref (qx 0), .ref (qx 9), .ref (qx 10), .ref (qx 11), .ref (qx 12), .ref (qx 34), .ref (qx 41), .ref (qx 65), .ref (qx 72), .ref (qx 77), vi 0, vi 0, vi (-1), vi (-1)])), ((qx 0), .inr (6, [.ref (qx 1), .ref (qx 6), vi 0, .ref (qx 7), vi 0, .ref (qx 8), vi 0])), ((qx 1), .inr (7, [.ref (qx 2), .ref (qx 3), .ref (qx 4), .ref (qx 5), vl 1, vi 0])), ((qx 2), zI dA 6), ((qx 3), zI dA 6), ((qx 4), zL dA 24), ((qx 5), zL dA 24), ((qx 6), zI dA 3), ((qx 7), zI dA 18), ((qx 8), zI dA 18), ((qx 9), zR dA 0 2 [some (qx 78), some (qx 87)]), ((qx 10), zZ dA 2), ((qx 11), .inr (2, [.ref (qx 12), .ref (qx 18), vi 0])), ((qx 12), .inr (8, [.ref (qx 13), vi 0, .ref (qx 14), .ref (qx 15), .ref (qx 16), .ref (qx 17), vi 0, vi 0])), ((qx 13), zI dA 400), ((qx 14), zI dA 401), ((qx 15), zI dA 401), ((qx 16), zI dA 401), ((qx 17), zI dA 401), ((qx 18), .inr (4, [.ref (qx 19), vi 0, .ref (qx 20), .ref (qx 21), vi 0])), ((qx 19), zR dA 1 12 [some (qx 22), some (qx 23), some (qx 24), some (qx 25), some (qx 26), some (qx 27), some (qx 28), some (qx 29), some (qx 30), some (qx 31), some (qx 32), some (qx 33)]), ((qx 20), zI dA 400), ((qx 21), zI dA 400), ((qx 22), .inr (0, [vi 0, vi 0, vi 0, vi 0, vi 0, vi 0, vi 0, vi 0])), ((qx 23), .inr (0, [vi 0, vi 0, vi 0, vi 0, vi 0, vi 0, vi 0, vi 0])), ((qx 24), .inr (0, [vi 0, vi 0, vi 0, vi 0, vi 0, vi 0, vi 0, vi 0])), ((qx 25), .inr (0, [vi 0, vi 0, vi 0, vi 0, vi 0, vi 0, vi 0, vi 0])), ((qx 26), .inr (0, [vi 0, vi 0, vi 0, vi 0, vi 0, vi 0, vi 0, vi 0])), ((qx 27), .inr (0, [vi 0, vi 0, vi 0, vi 0, vi 0, vi 0, vi 0, vi 0])), ((qx 28), .inr (0, [vi 0, vi 0, vi 0, vi 0, vi 0, vi 0, vi 0, vi 0])), ((qx 29), .inr (0, [vi 0, vi 0, vi 0, vi 0, vi 0, vi 0, vi 0, vi 0])), ((qx 30), .inr (0, [vi 0, vi 0, vi 0, vi 0, vi 0, vi 0, vi 0, vi 0])), ((qx 31), .inr (0, [vi 0, vi 0, vi 0, vi 0, vi 0, vi 0, vi 0, vi 0])), ((qx 32), .inr (0, [vi 0, vi 0, vi 0, vi 0, vi 0, vi 0, vi 0, vi 0])), ((qx 33), .inr (0, [vi 0, vi 0, vi 0, vi 0, vi 0, vi 0, vi 0, vi 0])), ((qx 34), .inr (3, [.ref (qx 35), .ref (qx 40), vi 0, vi 0, vi 0])), ((qx 35), .inr (7, [.ref (qx 36), .ref (qx 37), .ref (qx 38), .ref (qx 39), vl 1, vi 0])), ((qx 36), zI dA 6), ((qx 37), zI dA 6), ((qx 38), zL dA 24), ((qx 39), zL dA 24), ((qx 40), zL dA 50), ((qx 41), .inr (5, [.ref (qx 42), .ref (qx 43), .ref (qx 44), vi 0, vi 0, vi 0, vi 0, vi 0, vi 0])), ((qx 42), zR dA 2 4 [some (qx 45), some (qx 50), some (qx 55), some (qx 60)]), ((qx 43), zI dA 9), ((qx 44), zI dA 9), ((qx 45), .inr (7, [.ref (qx 46), .ref (qx 47), .ref (qx 48), .ref (qx 49), vl 1, vi 0])), ((qx 46), zI dA 6), ((qx 47), zI dA 6), ((qx 48), zL dA 24), ((qx 49), zL dA 24), ((qx 50), .inr (7, [.ref (qx 51), .ref (qx 52), .ref (qx 53), .ref (qx 54), vl 1, vi 0])), ((qx 51), zI dA 6), ((qx 52), zI dA 6), ((qx 53), zL dA 24), ((qx 54), zL dA 24), ((qx 55), .inr (7, [.ref (qx 56), .ref (qx 57), .ref (qx 58), .ref (qx 59), vl 1, vi 0])), ((qx 56), zI dA 6), ((qx 57), zI dA 6), ((qx 58), zL dA 24), ((qx 59), zL dA 24), ((qx 60), .inr (7, [.ref (qx 61), .ref (qx 62), .ref (qx 63), .ref (qx 64), vl 1, vi 0])), ((qx 61), zI dA 6), ((qx 62), zI dA 6), ((qx 63), zL dA 24), ((qx 64), zL dA 24), ((qx 65), .inr (1, [.ref (qx 66), .ref (qx 67), vi 0, .ref (qx 68), .ref (qx 69), .ref (qx 70), .ref (qx 71)])), ((qx 66), zI dA 6), ((qx 67), zI dA 6), ((qx 68), zI dA 7), ((qx 69), zI dA 7), ((qx 70), zI dA 7), ((qx 71), zI dA 7), ((qx 72), .inr (7, [.ref (qx 73), .ref (qx 74), .ref (qx 75), .ref (qx 76), vl 1, vi 0])), ((qx 73), zI dA 6), ((qx 74), zI dA 6), ((qx 75), zL dA 24), ((qx 76), zL dA 24), ((qx 77), zI dA 5), ((qx 78), .inr (6, [.ref (qx 79), .ref (qx 84), vi 0, .ref (qx 85), vi 0, .ref (qx 86), vi 0])), ((qx 79), .inr (7, [.ref (qx 80), .ref (qx 81), .ref (qx 82), .ref (qx 83), vl 1, vi 0])), ((qx 80), zI dA 6), ((qx 81), zI dA 6), ((qx 82), zL dA 24), ((qx 83), zL dA 24), ((qx 84), zI dA 3), ((qx 85), zI dA 18), ((qx 86), zI dA 18), ((qx 87), .inr (6, [.ref (qx 88), .ref (qx 93), vi 0, .ref (qx 94), vi 0, .ref (qx 95), vi 0])), ((qx 88), .inr (7, [.ref (qx 89), .ref (qx 90), .ref (qx 91), .ref (qx 92), vl 1, vi 0])), ((qx 89), zI dA 6), ((qx 90), zI dA 6), ((qx 91), zL dA 24), ((qx 92), zL dA 24), ((qx 93), zI dA 3), ((qx 94), zI dA 18), ((qx 95), zI dA 18), (m0, .inr (10, [vi 0, vi 0, .ref (qm 0), .ref (qm 1), .ref (qm 2), .ref (qm 3), .ref (qm 4), .ref (qm 5), .ref (qm 6), .ref (qm 7), vi 0, .ref (qm 8), vi 0, vi 0, vi 0, vi 0, vl 0, vi (-1), vi 0, vi 0, .ref (qm 9), vi 0, .ref (qm 10), .ref (qm 11), vi 0, .ref (qm 12), .ref (qm 13), vi 0, vi 0, .ref (qm 14), vi 0, vl 0, vi 0, vi (-1), .ref (qm 15), .ref (qm 16), vi 0, vi 0, vi 0, vi 0, vi 0, .ref (qm 17), vl 0, .ref (qm 18), vi 0])), ((qm 0), zI dA 7), ((qm 1), zI dA 49), ((qm 2), zI dA 98), ((qm 3), .inl (dA 1, 25, .inr (.inl (fun j => Int64.ofInt (msL (fun _ => 0) 24 1 j))))), ((qm 4), zL dA 50), ((qm 5), zZ dA 2), ((qm 6), zL dA 300), ((qm 7), zL dA 4), ((qm 8), zI dA 400), ((qm 9), zI dA 96), ((qm 10), zI dA 400), ((qm 11), zI dA 400), ((qm 12), zI dA 400), ((qm 13), zI dA 400), ((qm 14), zL dA 400), ((qm 15), zI dA 3), ((qm 16), zI dA 3), ((qm 17), zI dA 294147), ((qm 18), zI dA 24)]) dL_law_12 rfl li_L_12 w_X10_init (k_X10 l D dA) (Nat.le_of_ble_eq_true rfl) (Nat.le_of_ble_eq_true rfl) (Nat.le_of_ble_eq_true rfl) (Nat.le_of_ble_eq_true rfl) (Nat.le_of_ble_eq_true rfl) rfl (fun _ => rfl) (fun qm => ?_)
  refine j_astore (pc' := 16) (i := 2) (L' := [(2, .ref m0), (1, .ref x0), (0, .ref b)]) dL_law_15 rfl rfl (by decide) rfl ?_
  refine j_iconst (pc' := 17) dL_law_16 rfl ?_
  refine j_istore_n (pc' := 18) (i := 3) (L' := [(3, vi 0), (2, .ref m0), (1, .ref x0), (0, .ref b)]) dL_law_17 rfl rfl (by decide) rfl ?_
  refine s_enter (ad := adr x0 m0 qx qm) (M := M0) (wdP l D dA sa sb x0 m0 qx qm) (wdD l D dA sa sb x0 m0 qx qm) ?_
  exact law_loop (l, adr x0 m0 qx qm, D, dA, sa, sb) b L xs _ _ (Nat.le_of_ble_eq_true rfl) (Nat.le_of_ble_eq_true rfl) hL _ 0 M0 Rg0 IC0 IM0 CX0 (by omega) (by omega) rfl
