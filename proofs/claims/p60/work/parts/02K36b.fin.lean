theorem fin_0 {w : Nat → Int64} {cy : Nat → ClassId} {z : Nat} : FINw w cy z 0 = .inr (10, [.ref (z + 1), .ref (z + 2), .ref (z + 3), .ref (z + 4), .ref (z + 5), .ref (z + 8), .ref (z + 12), .ref (z + 14), .ref (z + 19), .ref (z + 22), .ref (z + 23), .ref (z + 61), .ref (z + 99), .int 0, .int 0, .int 0, .int (-1), .int (-1), .long 0, .long (1)]) := by unfold FINw; rw [kt_0]; rfl
theorem fin_1 {w : Nat → Int64} {cy : Nat → ClassId} {z : Nat} : FINw w cy z 1 = .inl (cy 6, 4, .inr (.inr (.inr (.inr (fun q => some (z + (0 + (105 + 2 * q)))))))) := by
  unfold FINw
  rw [kt_1]
  have e : (fun q => some (z + (1 + 104 + 2 * q)) : Nat → Option Nat) = (fun q => some (z + (0 + (105 + 2 * q)))) := funext fun q => congrArg some (by omega)
  rw [← e]
  rfl
theorem fin_2 {w : Nat → Int64} {cy : Nat → ClassId} {z : Nat} : FINw w cy z 2 = .inl (cy 0, 900, .inl (fun _ => 0)) := by unfold FINw; rw [kt_2]; rfl
theorem fin_3 {w : Nat → Int64} {cy : Nat → ClassId} {z : Nat} : FINw w cy z 3 = .inl (cy 4, 3, .inr (.inr (.inr (.inr (fun q => some (z + (0 + (113 + 38 * q)))))))) := by
  unfold FINw
  rw [kt_3]
  have e : (fun q => some (z + (3 + 110 + 38 * q)) : Nat → Option Nat) = (fun q => some (z + (0 + (113 + 38 * q)))) := funext fun q => congrArg some (by omega)
  rw [← e]
  rfl
theorem fin_4 {w : Nat → Int64} {cy : Nat → ClassId} {z : Nat} : FINw w cy z 4 = .inl (cy 1, 5, .inl (upd (fun _ => 0) 0 (-1))) := by unfold FINw; rw [kt_4]; rfl
theorem fin_5 {w : Nat → Int64} {cy : Nat → ClassId} {z : Nat} : FINw w cy z 5 = .inr (3, [.ref (z + 6), .ref (z + 7), .int 0, .int 0, .int 0, .int (-1), .int 0, .int (-1), .int 0, .long 0, .int 0, .int 0, .int 0, .int 0]) := by unfold FINw; rw [kt_5]; rfl
theorem fin_6 {w : Nat → Int64} {cy : Nat → ClassId} {z : Nat} : FINw w cy z 6 = .inl (cy 2, 26, .inr (.inl w)) := by unfold FINw; rw [kt_6]; rfl
theorem fin_7 {w : Nat → Int64} {cy : Nat → ClassId} {z : Nat} : FINw w cy z 7 = .inl (cy 0, 0, .inl (fun _ => 0)) := by unfold FINw; rw [kt_7]; rfl
theorem fin_8 {w : Nat → Int64} {cy : Nat → ClassId} {z : Nat} : FINw w cy z 8 = .inr (0, [.ref (z + 9), .ref (z + 10), .int 0, .int 0, .int 0, .int (-1), .int 0, .int (-1), .int 0, .long 0, .int 0, .int 0, .ref (z + 11), .int 0]) := by unfold FINw; rw [kt_8]; rfl
theorem fin_9 {w : Nat → Int64} {cy : Nat → ClassId} {z : Nat} : FINw w cy z 9 = .inl (cy 2, 26, .inr (.inl w)) := by unfold FINw; rw [kt_9]; rfl
theorem fin_10 {w : Nat → Int64} {cy : Nat → ClassId} {z : Nat} : FINw w cy z 10 = .inl (cy 0, 0, .inl (fun _ => 0)) := by unfold FINw; rw [kt_10]; rfl
theorem fin_11 {w : Nat → Int64} {cy : Nat → ClassId} {z : Nat} : FINw w cy z 11 = .inl (cy 1, 3, .inl (fun _ => 0)) := by unfold FINw; rw [kt_11]; rfl
theorem fin_12 {w : Nat → Int64} {cy : Nat → ClassId} {z : Nat} : FINw w cy z 12 = .inr (4, [.ref (z + 13), .int 0, .int 0, .int 0, .int 0, .int 0, .int 0, .int 0]) := by unfold FINw; rw [kt_12]; rfl
theorem fin_13 {w : Nat → Int64} {cy : Nat → ClassId} {z : Nat} : FINw w cy z 13 = .inl (cy 1, 60, .inl (fun _ => 0)) := by unfold FINw; rw [kt_13]; rfl
theorem fin_14 {w : Nat → Int64} {cy : Nat → ClassId} {z : Nat} : FINw w cy z 14 = .inr (6, [.ref (z + 15), .ref (z + 16), .ref (z + 17), .ref (z + 18), .int 0, .int 0]) := by unfold FINw; rw [kt_14]; rfl
theorem fin_15 {w : Nat → Int64} {cy : Nat → ClassId} {z : Nat} : FINw w cy z 15 = .inl (cy 1, 8, .inl (fun _ => 0)) := by unfold FINw; rw [kt_15]; rfl
theorem fin_16 {w : Nat → Int64} {cy : Nat → ClassId} {z : Nat} : FINw w cy z 16 = .inl (cy 1, 8, .inl (fun _ => 0)) := by unfold FINw; rw [kt_16]; rfl
theorem fin_17 {w : Nat → Int64} {cy : Nat → ClassId} {z : Nat} : FINw w cy z 17 = .inl (cy 2, 8, .inr (.inl (fun _ => 0))) := by unfold FINw; rw [kt_17]; rfl
theorem fin_18 {w : Nat → Int64} {cy : Nat → ClassId} {z : Nat} : FINw w cy z 18 = .inl (cy 2, 8, .inr (.inl (fun _ => 0))) := by unfold FINw; rw [kt_18]; rfl
theorem fin_19 {w : Nat → Int64} {cy : Nat → ClassId} {z : Nat} : FINw w cy z 19 = .inr (5, [.ref (z + 20), .ref (z + 21)]) := by unfold FINw; rw [kt_19]; rfl
theorem fin_20 {w : Nat → Int64} {cy : Nat → ClassId} {z : Nat} : FINw w cy z 20 = .inl (cy 1, 8, .inl (fun _ => 0)) := by unfold FINw; rw [kt_20]; rfl
theorem fin_21 {w : Nat → Int64} {cy : Nat → ClassId} {z : Nat} : FINw w cy z 21 = .inl (cy 1, 8, .inl (fun _ => 0)) := by unfold FINw; rw [kt_21]; rfl
theorem fin_22 {w : Nat → Int64} {cy : Nat → ClassId} {z : Nat} : FINw w cy z 22 = .inr (1, [.int (10), .int (16), .int (360)]) := by unfold FINw; rw [kt_22]; rfl
theorem fin_23 {w : Nat → Int64} {cy : Nat → ClassId} {z : Nat} : FINw w cy z 23 = .inr (2, [.ref (z + 24), .ref (z + 25), .ref (z + 26), .ref (z + 27), .ref (z + 28), .ref (z + 29), .ref (z + 30), .ref (z + 31), .int 0, .int 0, .int 0, .int (480), .int (9), .int (3), .int (4), .int 0]) := by unfold FINw; rw [kt_23]; rfl
theorem fin_24 {w : Nat → Int64} {cy : Nat → ClassId} {z : Nat} : FINw w cy z 24 = .inl (cy 2, 8, .inr (.inl (fun _ => 0))) := by unfold FINw; rw [kt_24]; rfl
theorem fin_25 {w : Nat → Int64} {cy : Nat → ClassId} {z : Nat} : FINw w cy z 25 = .inl (cy 1, 12, .inl (fun _ => 0)) := by unfold FINw; rw [kt_25]; rfl
theorem fin_26 {w : Nat → Int64} {cy : Nat → ClassId} {z : Nat} : FINw w cy z 26 = .inl (cy 1, 12, .inl (fun _ => 0)) := by unfold FINw; rw [kt_26]; rfl
theorem fin_27 {w : Nat → Int64} {cy : Nat → ClassId} {z : Nat} : FINw w cy z 27 = .inl (cy 1, 12, .inl (fun _ => 0)) := by unfold FINw; rw [kt_27]; rfl
theorem fin_28 {w : Nat → Int64} {cy : Nat → ClassId} {z : Nat} : FINw w cy z 28 = .inl (cy 3, 12, .inl (fun _ => 0)) := by unfold FINw; rw [kt_28]; rfl
theorem fin_29 {w : Nat → Int64} {cy : Nat → ClassId} {z : Nat} : FINw w cy z 29 = .inl (cy 5, 8, .inr (.inr (.inr (.inr (fun q => some (z + (23 + (14 + 3 * q)))))))) := by
  unfold FINw
  rw [kt_29]
  have e : (fun q => some (z + (29 + 8 + 3 * q)) : Nat → Option Nat) = (fun q => some (z + (23 + (14 + 3 * q)))) := funext fun q => congrArg some (by omega)
  rw [← e]
  rfl
theorem fin_30 {w : Nat → Int64} {cy : Nat → ClassId} {z : Nat} : FINw w cy z 30 = .inr (1, [.int (10), .int (16), .int (360)]) := by unfold FINw; rw [kt_30]; rfl
theorem fin_31 {w : Nat → Int64} {cy : Nat → ClassId} {z : Nat} : FINw w cy z 31 = .inr (8, [.ref (z + 32), .ref (z + 33), .ref (z + 34), .ref (z + 35), .ref (z + 36), .int 0, .int 0, .int 0]) := by unfold FINw; rw [kt_31]; rfl
theorem fin_32 {w : Nat → Int64} {cy : Nat → ClassId} {z : Nat} : FINw w cy z 32 = .inl (cy 1, 60, .inl (fun _ => 0)) := by unfold FINw; rw [kt_32]; rfl
theorem fin_33 {w : Nat → Int64} {cy : Nat → ClassId} {z : Nat} : FINw w cy z 33 = .inl (cy 1, 60, .inl (fun _ => 0)) := by unfold FINw; rw [kt_33]; rfl
theorem fin_34 {w : Nat → Int64} {cy : Nat → ClassId} {z : Nat} : FINw w cy z 34 = .inl (cy 1, 60, .inl (fun _ => 0)) := by unfold FINw; rw [kt_34]; rfl
theorem fin_35 {w : Nat → Int64} {cy : Nat → ClassId} {z : Nat} : FINw w cy z 35 = .inl (cy 1, 60, .inl (fun _ => 0)) := by unfold FINw; rw [kt_35]; rfl
theorem fin_36 {w : Nat → Int64} {cy : Nat → ClassId} {z : Nat} : FINw w cy z 36 = .inl (cy 1, 60, .inl (fun _ => 0)) := by unfold FINw; rw [kt_36]; rfl
theorem fin_37 {w : Nat → Int64} {cy : Nat → ClassId} {z : Nat} : FINw w cy z 37 = .inr (7, [.ref (z + 38), .ref (z + 39), .long 0, .int 0, .int 0, .int (-1), .int (-1), .int (-1), .int (-1), .int (-1), .int 0, .int 0]) := by unfold FINw; rw [kt_37]; rfl
theorem fin_38 {w : Nat → Int64} {cy : Nat → ClassId} {z : Nat} : FINw w cy z 38 = .inl (cy 1, 12, .inl (fun _ => 0)) := by unfold FINw; rw [kt_38]; rfl
theorem fin_39 {w : Nat → Int64} {cy : Nat → ClassId} {z : Nat} : FINw w cy z 39 = .inl (cy 1, 8, .inl (fun _ => 0)) := by unfold FINw; rw [kt_39]; rfl
theorem fin_40 {w : Nat → Int64} {cy : Nat → ClassId} {z : Nat} : FINw w cy z 40 = .inr (7, [.ref (z + 41), .ref (z + 42), .long 0, .int 0, .int 0, .int (-1), .int (-1), .int (-1), .int (-1), .int (-1), .int 0, .int 0]) := by unfold FINw; rw [kt_40]; rfl
theorem fin_41 {w : Nat → Int64} {cy : Nat → ClassId} {z : Nat} : FINw w cy z 41 = .inl (cy 1, 12, .inl (fun _ => 0)) := by unfold FINw; rw [kt_41]; rfl
theorem fin_42 {w : Nat → Int64} {cy : Nat → ClassId} {z : Nat} : FINw w cy z 42 = .inl (cy 1, 8, .inl (fun _ => 0)) := by unfold FINw; rw [kt_42]; rfl
theorem fin_43 {w : Nat → Int64} {cy : Nat → ClassId} {z : Nat} : FINw w cy z 43 = .inr (7, [.ref (z + 44), .ref (z + 45), .long 0, .int 0, .int 0, .int (-1), .int (-1), .int (-1), .int (-1), .int (-1), .int 0, .int 0]) := by unfold FINw; rw [kt_43]; rfl
theorem fin_44 {w : Nat → Int64} {cy : Nat → ClassId} {z : Nat} : FINw w cy z 44 = .inl (cy 1, 12, .inl (fun _ => 0)) := by unfold FINw; rw [kt_44]; rfl
theorem fin_45 {w : Nat → Int64} {cy : Nat → ClassId} {z : Nat} : FINw w cy z 45 = .inl (cy 1, 8, .inl (fun _ => 0)) := by unfold FINw; rw [kt_45]; rfl
theorem fin_46 {w : Nat → Int64} {cy : Nat → ClassId} {z : Nat} : FINw w cy z 46 = .inr (7, [.ref (z + 47), .ref (z + 48), .long 0, .int 0, .int 0, .int (-1), .int (-1), .int (-1), .int (-1), .int (-1), .int 0, .int 0]) := by unfold FINw; rw [kt_46]; rfl
theorem fin_47 {w : Nat → Int64} {cy : Nat → ClassId} {z : Nat} : FINw w cy z 47 = .inl (cy 1, 12, .inl (fun _ => 0)) := by unfold FINw; rw [kt_47]; rfl
theorem fin_48 {w : Nat → Int64} {cy : Nat → ClassId} {z : Nat} : FINw w cy z 48 = .inl (cy 1, 8, .inl (fun _ => 0)) := by unfold FINw; rw [kt_48]; rfl
theorem fin_49 {w : Nat → Int64} {cy : Nat → ClassId} {z : Nat} : FINw w cy z 49 = .inr (7, [.ref (z + 50), .ref (z + 51), .long 0, .int 0, .int 0, .int (-1), .int (-1), .int (-1), .int (-1), .int (-1), .int 0, .int 0]) := by unfold FINw; rw [kt_49]; rfl
theorem fin_50 {w : Nat → Int64} {cy : Nat → ClassId} {z : Nat} : FINw w cy z 50 = .inl (cy 1, 12, .inl (fun _ => 0)) := by unfold FINw; rw [kt_50]; rfl
theorem fin_51 {w : Nat → Int64} {cy : Nat → ClassId} {z : Nat} : FINw w cy z 51 = .inl (cy 1, 8, .inl (fun _ => 0)) := by unfold FINw; rw [kt_51]; rfl
theorem fin_52 {w : Nat → Int64} {cy : Nat → ClassId} {z : Nat} : FINw w cy z 52 = .inr (7, [.ref (z + 53), .ref (z + 54), .long 0, .int 0, .int 0, .int (-1), .int (-1), .int (-1), .int (-1), .int (-1), .int 0, .int 0]) := by unfold FINw; rw [kt_52]; rfl
theorem fin_53 {w : Nat → Int64} {cy : Nat → ClassId} {z : Nat} : FINw w cy z 53 = .inl (cy 1, 12, .inl (fun _ => 0)) := by unfold FINw; rw [kt_53]; rfl
theorem fin_54 {w : Nat → Int64} {cy : Nat → ClassId} {z : Nat} : FINw w cy z 54 = .inl (cy 1, 8, .inl (fun _ => 0)) := by unfold FINw; rw [kt_54]; rfl
theorem fin_55 {w : Nat → Int64} {cy : Nat → ClassId} {z : Nat} : FINw w cy z 55 = .inr (7, [.ref (z + 56), .ref (z + 57), .long 0, .int 0, .int 0, .int (-1), .int (-1), .int (-1), .int (-1), .int (-1), .int 0, .int 0]) := by unfold FINw; rw [kt_55]; rfl
theorem fin_56 {w : Nat → Int64} {cy : Nat → ClassId} {z : Nat} : FINw w cy z 56 = .inl (cy 1, 12, .inl (fun _ => 0)) := by unfold FINw; rw [kt_56]; rfl
theorem fin_57 {w : Nat → Int64} {cy : Nat → ClassId} {z : Nat} : FINw w cy z 57 = .inl (cy 1, 8, .inl (fun _ => 0)) := by unfold FINw; rw [kt_57]; rfl
theorem fin_58 {w : Nat → Int64} {cy : Nat → ClassId} {z : Nat} : FINw w cy z 58 = .inr (7, [.ref (z + 59), .ref (z + 60), .long 0, .int 0, .int 0, .int (-1), .int (-1), .int (-1), .int (-1), .int (-1), .int 0, .int 0]) := by unfold FINw; rw [kt_58]; rfl
theorem fin_59 {w : Nat → Int64} {cy : Nat → ClassId} {z : Nat} : FINw w cy z 59 = .inl (cy 1, 12, .inl (fun _ => 0)) := by unfold FINw; rw [kt_59]; rfl
theorem fin_60 {w : Nat → Int64} {cy : Nat → ClassId} {z : Nat} : FINw w cy z 60 = .inl (cy 1, 8, .inl (fun _ => 0)) := by unfold FINw; rw [kt_60]; rfl
theorem fin_61 {w : Nat → Int64} {cy : Nat → ClassId} {z : Nat} : FINw w cy z 61 = .inr (2, [.ref (z + 62), .ref (z + 63), .ref (z + 64), .ref (z + 65), .ref (z + 66), .ref (z + 67), .ref (z + 68), .ref (z + 69), .int 0, .int 0, .int 0, .int (480), .int (9), .int (3), .int (4), .int 0]) := by unfold FINw; rw [kt_61]; rfl
theorem fin_62 {w : Nat → Int64} {cy : Nat → ClassId} {z : Nat} : FINw w cy z 62 = .inl (cy 2, 8, .inr (.inl (fun _ => 0))) := by unfold FINw; rw [kt_62]; rfl
theorem fin_63 {w : Nat → Int64} {cy : Nat → ClassId} {z : Nat} : FINw w cy z 63 = .inl (cy 1, 12, .inl (fun _ => 0)) := by unfold FINw; rw [kt_63]; rfl
theorem fin_64 {w : Nat → Int64} {cy : Nat → ClassId} {z : Nat} : FINw w cy z 64 = .inl (cy 1, 12, .inl (fun _ => 0)) := by unfold FINw; rw [kt_64]; rfl
theorem fin_65 {w : Nat → Int64} {cy : Nat → ClassId} {z : Nat} : FINw w cy z 65 = .inl (cy 1, 12, .inl (fun _ => 0)) := by unfold FINw; rw [kt_65]; rfl
theorem fin_66 {w : Nat → Int64} {cy : Nat → ClassId} {z : Nat} : FINw w cy z 66 = .inl (cy 3, 12, .inl (fun _ => 0)) := by unfold FINw; rw [kt_66]; rfl
theorem fin_67 {w : Nat → Int64} {cy : Nat → ClassId} {z : Nat} : FINw w cy z 67 = .inl (cy 5, 8, .inr (.inr (.inr (.inr (fun q => some (z + (61 + (14 + 3 * q)))))))) := by
  unfold FINw
  rw [kt_67]
  have e : (fun q => some (z + (67 + 8 + 3 * q)) : Nat → Option Nat) = (fun q => some (z + (61 + (14 + 3 * q)))) := funext fun q => congrArg some (by omega)
  rw [← e]
  rfl
theorem fin_68 {w : Nat → Int64} {cy : Nat → ClassId} {z : Nat} : FINw w cy z 68 = .inr (1, [.int (10), .int (16), .int (360)]) := by unfold FINw; rw [kt_68]; rfl
theorem fin_69 {w : Nat → Int64} {cy : Nat → ClassId} {z : Nat} : FINw w cy z 69 = .inr (8, [.ref (z + 70), .ref (z + 71), .ref (z + 72), .ref (z + 73), .ref (z + 74), .int 0, .int 0, .int 0]) := by unfold FINw; rw [kt_69]; rfl
theorem fin_70 {w : Nat → Int64} {cy : Nat → ClassId} {z : Nat} : FINw w cy z 70 = .inl (cy 1, 60, .inl (fun _ => 0)) := by unfold FINw; rw [kt_70]; rfl
theorem fin_71 {w : Nat → Int64} {cy : Nat → ClassId} {z : Nat} : FINw w cy z 71 = .inl (cy 1, 60, .inl (fun _ => 0)) := by unfold FINw; rw [kt_71]; rfl
theorem fin_72 {w : Nat → Int64} {cy : Nat → ClassId} {z : Nat} : FINw w cy z 72 = .inl (cy 1, 60, .inl (fun _ => 0)) := by unfold FINw; rw [kt_72]; rfl
theorem fin_73 {w : Nat → Int64} {cy : Nat → ClassId} {z : Nat} : FINw w cy z 73 = .inl (cy 1, 60, .inl (fun _ => 0)) := by unfold FINw; rw [kt_73]; rfl
theorem fin_74 {w : Nat → Int64} {cy : Nat → ClassId} {z : Nat} : FINw w cy z 74 = .inl (cy 1, 60, .inl (fun _ => 0)) := by unfold FINw; rw [kt_74]; rfl
theorem fin_75 {w : Nat → Int64} {cy : Nat → ClassId} {z : Nat} : FINw w cy z 75 = .inr (7, [.ref (z + 76), .ref (z + 77), .long 0, .int 0, .int 0, .int (-1), .int (-1), .int (-1), .int (-1), .int (-1), .int 0, .int 0]) := by unfold FINw; rw [kt_75]; rfl
theorem fin_76 {w : Nat → Int64} {cy : Nat → ClassId} {z : Nat} : FINw w cy z 76 = .inl (cy 1, 12, .inl (fun _ => 0)) := by unfold FINw; rw [kt_76]; rfl
theorem fin_77 {w : Nat → Int64} {cy : Nat → ClassId} {z : Nat} : FINw w cy z 77 = .inl (cy 1, 8, .inl (fun _ => 0)) := by unfold FINw; rw [kt_77]; rfl
theorem fin_78 {w : Nat → Int64} {cy : Nat → ClassId} {z : Nat} : FINw w cy z 78 = .inr (7, [.ref (z + 79), .ref (z + 80), .long 0, .int 0, .int 0, .int (-1), .int (-1), .int (-1), .int (-1), .int (-1), .int 0, .int 0]) := by unfold FINw; rw [kt_78]; rfl
theorem fin_79 {w : Nat → Int64} {cy : Nat → ClassId} {z : Nat} : FINw w cy z 79 = .inl (cy 1, 12, .inl (fun _ => 0)) := by unfold FINw; rw [kt_79]; rfl
theorem fin_80 {w : Nat → Int64} {cy : Nat → ClassId} {z : Nat} : FINw w cy z 80 = .inl (cy 1, 8, .inl (fun _ => 0)) := by unfold FINw; rw [kt_80]; rfl
theorem fin_81 {w : Nat → Int64} {cy : Nat → ClassId} {z : Nat} : FINw w cy z 81 = .inr (7, [.ref (z + 82), .ref (z + 83), .long 0, .int 0, .int 0, .int (-1), .int (-1), .int (-1), .int (-1), .int (-1), .int 0, .int 0]) := by unfold FINw; rw [kt_81]; rfl
theorem fin_82 {w : Nat → Int64} {cy : Nat → ClassId} {z : Nat} : FINw w cy z 82 = .inl (cy 1, 12, .inl (fun _ => 0)) := by unfold FINw; rw [kt_82]; rfl
theorem fin_83 {w : Nat → Int64} {cy : Nat → ClassId} {z : Nat} : FINw w cy z 83 = .inl (cy 1, 8, .inl (fun _ => 0)) := by unfold FINw; rw [kt_83]; rfl
theorem fin_84 {w : Nat → Int64} {cy : Nat → ClassId} {z : Nat} : FINw w cy z 84 = .inr (7, [.ref (z + 85), .ref (z + 86), .long 0, .int 0, .int 0, .int (-1), .int (-1), .int (-1), .int (-1), .int (-1), .int 0, .int 0]) := by unfold FINw; rw [kt_84]; rfl
theorem fin_85 {w : Nat → Int64} {cy : Nat → ClassId} {z : Nat} : FINw w cy z 85 = .inl (cy 1, 12, .inl (fun _ => 0)) := by unfold FINw; rw [kt_85]; rfl
theorem fin_86 {w : Nat → Int64} {cy : Nat → ClassId} {z : Nat} : FINw w cy z 86 = .inl (cy 1, 8, .inl (fun _ => 0)) := by unfold FINw; rw [kt_86]; rfl
theorem fin_87 {w : Nat → Int64} {cy : Nat → ClassId} {z : Nat} : FINw w cy z 87 = .inr (7, [.ref (z + 88), .ref (z + 89), .long 0, .int 0, .int 0, .int (-1), .int (-1), .int (-1), .int (-1), .int (-1), .int 0, .int 0]) := by unfold FINw; rw [kt_87]; rfl
theorem fin_88 {w : Nat → Int64} {cy : Nat → ClassId} {z : Nat} : FINw w cy z 88 = .inl (cy 1, 12, .inl (fun _ => 0)) := by unfold FINw; rw [kt_88]; rfl
theorem fin_89 {w : Nat → Int64} {cy : Nat → ClassId} {z : Nat} : FINw w cy z 89 = .inl (cy 1, 8, .inl (fun _ => 0)) := by unfold FINw; rw [kt_89]; rfl
theorem fin_90 {w : Nat → Int64} {cy : Nat → ClassId} {z : Nat} : FINw w cy z 90 = .inr (7, [.ref (z + 91), .ref (z + 92), .long 0, .int 0, .int 0, .int (-1), .int (-1), .int (-1), .int (-1), .int (-1), .int 0, .int 0]) := by unfold FINw; rw [kt_90]; rfl
theorem fin_91 {w : Nat → Int64} {cy : Nat → ClassId} {z : Nat} : FINw w cy z 91 = .inl (cy 1, 12, .inl (fun _ => 0)) := by unfold FINw; rw [kt_91]; rfl
theorem fin_92 {w : Nat → Int64} {cy : Nat → ClassId} {z : Nat} : FINw w cy z 92 = .inl (cy 1, 8, .inl (fun _ => 0)) := by unfold FINw; rw [kt_92]; rfl
theorem fin_93 {w : Nat → Int64} {cy : Nat → ClassId} {z : Nat} : FINw w cy z 93 = .inr (7, [.ref (z + 94), .ref (z + 95), .long 0, .int 0, .int 0, .int (-1), .int (-1), .int (-1), .int (-1), .int (-1), .int 0, .int 0]) := by unfold FINw; rw [kt_93]; rfl
theorem fin_94 {w : Nat → Int64} {cy : Nat → ClassId} {z : Nat} : FINw w cy z 94 = .inl (cy 1, 12, .inl (fun _ => 0)) := by unfold FINw; rw [kt_94]; rfl
theorem fin_95 {w : Nat → Int64} {cy : Nat → ClassId} {z : Nat} : FINw w cy z 95 = .inl (cy 1, 8, .inl (fun _ => 0)) := by unfold FINw; rw [kt_95]; rfl
theorem fin_96 {w : Nat → Int64} {cy : Nat → ClassId} {z : Nat} : FINw w cy z 96 = .inr (7, [.ref (z + 97), .ref (z + 98), .long 0, .int 0, .int 0, .int (-1), .int (-1), .int (-1), .int (-1), .int (-1), .int 0, .int 0]) := by unfold FINw; rw [kt_96]; rfl
theorem fin_97 {w : Nat → Int64} {cy : Nat → ClassId} {z : Nat} : FINw w cy z 97 = .inl (cy 1, 12, .inl (fun _ => 0)) := by unfold FINw; rw [kt_97]; rfl
theorem fin_98 {w : Nat → Int64} {cy : Nat → ClassId} {z : Nat} : FINw w cy z 98 = .inl (cy 1, 8, .inl (fun _ => 0)) := by unfold FINw; rw [kt_98]; rfl
theorem fin_99 {w : Nat → Int64} {cy : Nat → ClassId} {z : Nat} : FINw w cy z 99 = .inr (8, [.ref (z + 100), .ref (z + 101), .ref (z + 102), .ref (z + 103), .ref (z + 104), .int 0, .int 0, .int 0]) := by unfold FINw; rw [kt_99]; rfl
theorem fin_100 {w : Nat → Int64} {cy : Nat → ClassId} {z : Nat} : FINw w cy z 100 = .inl (cy 1, 60, .inl (fun _ => 0)) := by unfold FINw; rw [kt_100]; rfl
theorem fin_101 {w : Nat → Int64} {cy : Nat → ClassId} {z : Nat} : FINw w cy z 101 = .inl (cy 1, 60, .inl (fun _ => 0)) := by unfold FINw; rw [kt_101]; rfl
theorem fin_102 {w : Nat → Int64} {cy : Nat → ClassId} {z : Nat} : FINw w cy z 102 = .inl (cy 1, 60, .inl (fun _ => 0)) := by unfold FINw; rw [kt_102]; rfl
theorem fin_103 {w : Nat → Int64} {cy : Nat → ClassId} {z : Nat} : FINw w cy z 103 = .inl (cy 1, 60, .inl (fun _ => 0)) := by unfold FINw; rw [kt_103]; rfl
theorem fin_104 {w : Nat → Int64} {cy : Nat → ClassId} {z : Nat} : FINw w cy z 104 = .inl (cy 1, 60, .inl (fun _ => 0)) := by unfold FINw; rw [kt_104]; rfl
theorem fin_105 {w : Nat → Int64} {cy : Nat → ClassId} {z : Nat} : FINw w cy z 105 = .inr (9, [.ref (z + 106), .int 0, .int (-1)]) := by unfold FINw; rw [kt_105]; rfl
theorem fin_106 {w : Nat → Int64} {cy : Nat → ClassId} {z : Nat} : FINw w cy z 106 = .inl (cy 2, 60, .inr (.inl (fun _ => 0))) := by unfold FINw; rw [kt_106]; rfl
theorem fin_107 {w : Nat → Int64} {cy : Nat → ClassId} {z : Nat} : FINw w cy z 107 = .inr (9, [.ref (z + 108), .int 0, .int (-1)]) := by unfold FINw; rw [kt_107]; rfl
theorem fin_108 {w : Nat → Int64} {cy : Nat → ClassId} {z : Nat} : FINw w cy z 108 = .inl (cy 2, 60, .inr (.inl (fun _ => 0))) := by unfold FINw; rw [kt_108]; rfl
theorem fin_109 {w : Nat → Int64} {cy : Nat → ClassId} {z : Nat} : FINw w cy z 109 = .inr (9, [.ref (z + 110), .int 0, .int (-1)]) := by unfold FINw; rw [kt_109]; rfl
theorem fin_110 {w : Nat → Int64} {cy : Nat → ClassId} {z : Nat} : FINw w cy z 110 = .inl (cy 2, 60, .inr (.inl (fun _ => 0))) := by unfold FINw; rw [kt_110]; rfl
theorem fin_111 {w : Nat → Int64} {cy : Nat → ClassId} {z : Nat} : FINw w cy z 111 = .inr (9, [.ref (z + 112), .int 0, .int (-1)]) := by unfold FINw; rw [kt_111]; rfl
theorem fin_112 {w : Nat → Int64} {cy : Nat → ClassId} {z : Nat} : FINw w cy z 112 = .inl (cy 2, 60, .inr (.inl (fun _ => 0))) := by unfold FINw; rw [kt_112]; rfl
theorem fin_113 {w : Nat → Int64} {cy : Nat → ClassId} {z : Nat} : FINw w cy z 113 = .inr (2, [.ref (z + 114), .ref (z + 115), .ref (z + 116), .ref (z + 117), .ref (z + 118), .ref (z + 119), .ref (z + 120), .ref (z + 121), .int 0, .int 0, .int 0, .int (480), .int (9), .int (3), .int (4), .int 0]) := by unfold FINw; rw [kt_113]; rfl
theorem fin_114 {w : Nat → Int64} {cy : Nat → ClassId} {z : Nat} : FINw w cy z 114 = .inl (cy 2, 8, .inr (.inl (fun _ => 0))) := by unfold FINw; rw [kt_114]; rfl
theorem fin_115 {w : Nat → Int64} {cy : Nat → ClassId} {z : Nat} : FINw w cy z 115 = .inl (cy 1, 12, .inl (fun _ => 0)) := by unfold FINw; rw [kt_115]; rfl
theorem fin_116 {w : Nat → Int64} {cy : Nat → ClassId} {z : Nat} : FINw w cy z 116 = .inl (cy 1, 12, .inl (fun _ => 0)) := by unfold FINw; rw [kt_116]; rfl
theorem fin_117 {w : Nat → Int64} {cy : Nat → ClassId} {z : Nat} : FINw w cy z 117 = .inl (cy 1, 12, .inl (fun _ => 0)) := by unfold FINw; rw [kt_117]; rfl
theorem fin_118 {w : Nat → Int64} {cy : Nat → ClassId} {z : Nat} : FINw w cy z 118 = .inl (cy 3, 12, .inl (fun _ => 0)) := by unfold FINw; rw [kt_118]; rfl
theorem fin_119 {w : Nat → Int64} {cy : Nat → ClassId} {z : Nat} : FINw w cy z 119 = .inl (cy 5, 8, .inr (.inr (.inr (.inr (fun q => some (z + (113 + (14 + 3 * q)))))))) := by
  unfold FINw
  rw [kt_119]
  have e : (fun q => some (z + (119 + 8 + 3 * q)) : Nat → Option Nat) = (fun q => some (z + (113 + (14 + 3 * q)))) := funext fun q => congrArg some (by omega)
  rw [← e]
  rfl
theorem fin_120 {w : Nat → Int64} {cy : Nat → ClassId} {z : Nat} : FINw w cy z 120 = .inr (1, [.int (10), .int (16), .int (360)]) := by unfold FINw; rw [kt_120]; rfl
theorem fin_121 {w : Nat → Int64} {cy : Nat → ClassId} {z : Nat} : FINw w cy z 121 = .inr (8, [.ref (z + 122), .ref (z + 123), .ref (z + 124), .ref (z + 125), .ref (z + 126), .int 0, .int 0, .int 0]) := by unfold FINw; rw [kt_121]; rfl
theorem fin_122 {w : Nat → Int64} {cy : Nat → ClassId} {z : Nat} : FINw w cy z 122 = .inl (cy 1, 60, .inl (fun _ => 0)) := by unfold FINw; rw [kt_122]; rfl
theorem fin_123 {w : Nat → Int64} {cy : Nat → ClassId} {z : Nat} : FINw w cy z 123 = .inl (cy 1, 60, .inl (fun _ => 0)) := by unfold FINw; rw [kt_123]; rfl
theorem fin_124 {w : Nat → Int64} {cy : Nat → ClassId} {z : Nat} : FINw w cy z 124 = .inl (cy 1, 60, .inl (fun _ => 0)) := by unfold FINw; rw [kt_124]; rfl
theorem fin_125 {w : Nat → Int64} {cy : Nat → ClassId} {z : Nat} : FINw w cy z 125 = .inl (cy 1, 60, .inl (fun _ => 0)) := by unfold FINw; rw [kt_125]; rfl
theorem fin_126 {w : Nat → Int64} {cy : Nat → ClassId} {z : Nat} : FINw w cy z 126 = .inl (cy 1, 60, .inl (fun _ => 0)) := by unfold FINw; rw [kt_126]; rfl
theorem fin_127 {w : Nat → Int64} {cy : Nat → ClassId} {z : Nat} : FINw w cy z 127 = .inr (7, [.ref (z + 128), .ref (z + 129), .long 0, .int 0, .int 0, .int (-1), .int (-1), .int (-1), .int (-1), .int (-1), .int 0, .int 0]) := by unfold FINw; rw [kt_127]; rfl
theorem fin_128 {w : Nat → Int64} {cy : Nat → ClassId} {z : Nat} : FINw w cy z 128 = .inl (cy 1, 12, .inl (fun _ => 0)) := by unfold FINw; rw [kt_128]; rfl
theorem fin_129 {w : Nat → Int64} {cy : Nat → ClassId} {z : Nat} : FINw w cy z 129 = .inl (cy 1, 8, .inl (fun _ => 0)) := by unfold FINw; rw [kt_129]; rfl
theorem fin_130 {w : Nat → Int64} {cy : Nat → ClassId} {z : Nat} : FINw w cy z 130 = .inr (7, [.ref (z + 131), .ref (z + 132), .long 0, .int 0, .int 0, .int (-1), .int (-1), .int (-1), .int (-1), .int (-1), .int 0, .int 0]) := by unfold FINw; rw [kt_130]; rfl
theorem fin_131 {w : Nat → Int64} {cy : Nat → ClassId} {z : Nat} : FINw w cy z 131 = .inl (cy 1, 12, .inl (fun _ => 0)) := by unfold FINw; rw [kt_131]; rfl
theorem fin_132 {w : Nat → Int64} {cy : Nat → ClassId} {z : Nat} : FINw w cy z 132 = .inl (cy 1, 8, .inl (fun _ => 0)) := by unfold FINw; rw [kt_132]; rfl
theorem fin_133 {w : Nat → Int64} {cy : Nat → ClassId} {z : Nat} : FINw w cy z 133 = .inr (7, [.ref (z + 134), .ref (z + 135), .long 0, .int 0, .int 0, .int (-1), .int (-1), .int (-1), .int (-1), .int (-1), .int 0, .int 0]) := by unfold FINw; rw [kt_133]; rfl
theorem fin_134 {w : Nat → Int64} {cy : Nat → ClassId} {z : Nat} : FINw w cy z 134 = .inl (cy 1, 12, .inl (fun _ => 0)) := by unfold FINw; rw [kt_134]; rfl
theorem fin_135 {w : Nat → Int64} {cy : Nat → ClassId} {z : Nat} : FINw w cy z 135 = .inl (cy 1, 8, .inl (fun _ => 0)) := by unfold FINw; rw [kt_135]; rfl
theorem fin_136 {w : Nat → Int64} {cy : Nat → ClassId} {z : Nat} : FINw w cy z 136 = .inr (7, [.ref (z + 137), .ref (z + 138), .long 0, .int 0, .int 0, .int (-1), .int (-1), .int (-1), .int (-1), .int (-1), .int 0, .int 0]) := by unfold FINw; rw [kt_136]; rfl
theorem fin_137 {w : Nat → Int64} {cy : Nat → ClassId} {z : Nat} : FINw w cy z 137 = .inl (cy 1, 12, .inl (fun _ => 0)) := by unfold FINw; rw [kt_137]; rfl
theorem fin_138 {w : Nat → Int64} {cy : Nat → ClassId} {z : Nat} : FINw w cy z 138 = .inl (cy 1, 8, .inl (fun _ => 0)) := by unfold FINw; rw [kt_138]; rfl
theorem fin_139 {w : Nat → Int64} {cy : Nat → ClassId} {z : Nat} : FINw w cy z 139 = .inr (7, [.ref (z + 140), .ref (z + 141), .long 0, .int 0, .int 0, .int (-1), .int (-1), .int (-1), .int (-1), .int (-1), .int 0, .int 0]) := by unfold FINw; rw [kt_139]; rfl
theorem fin_140 {w : Nat → Int64} {cy : Nat → ClassId} {z : Nat} : FINw w cy z 140 = .inl (cy 1, 12, .inl (fun _ => 0)) := by unfold FINw; rw [kt_140]; rfl
theorem fin_141 {w : Nat → Int64} {cy : Nat → ClassId} {z : Nat} : FINw w cy z 141 = .inl (cy 1, 8, .inl (fun _ => 0)) := by unfold FINw; rw [kt_141]; rfl
theorem fin_142 {w : Nat → Int64} {cy : Nat → ClassId} {z : Nat} : FINw w cy z 142 = .inr (7, [.ref (z + 143), .ref (z + 144), .long 0, .int 0, .int 0, .int (-1), .int (-1), .int (-1), .int (-1), .int (-1), .int 0, .int 0]) := by unfold FINw; rw [kt_142]; rfl
theorem fin_143 {w : Nat → Int64} {cy : Nat → ClassId} {z : Nat} : FINw w cy z 143 = .inl (cy 1, 12, .inl (fun _ => 0)) := by unfold FINw; rw [kt_143]; rfl
theorem fin_144 {w : Nat → Int64} {cy : Nat → ClassId} {z : Nat} : FINw w cy z 144 = .inl (cy 1, 8, .inl (fun _ => 0)) := by unfold FINw; rw [kt_144]; rfl
theorem fin_145 {w : Nat → Int64} {cy : Nat → ClassId} {z : Nat} : FINw w cy z 145 = .inr (7, [.ref (z + 146), .ref (z + 147), .long 0, .int 0, .int 0, .int (-1), .int (-1), .int (-1), .int (-1), .int (-1), .int 0, .int 0]) := by unfold FINw; rw [kt_145]; rfl
theorem fin_146 {w : Nat → Int64} {cy : Nat → ClassId} {z : Nat} : FINw w cy z 146 = .inl (cy 1, 12, .inl (fun _ => 0)) := by unfold FINw; rw [kt_146]; rfl
theorem fin_147 {w : Nat → Int64} {cy : Nat → ClassId} {z : Nat} : FINw w cy z 147 = .inl (cy 1, 8, .inl (fun _ => 0)) := by unfold FINw; rw [kt_147]; rfl
theorem fin_148 {w : Nat → Int64} {cy : Nat → ClassId} {z : Nat} : FINw w cy z 148 = .inr (7, [.ref (z + 149), .ref (z + 150), .long 0, .int 0, .int 0, .int (-1), .int (-1), .int (-1), .int (-1), .int (-1), .int 0, .int 0]) := by unfold FINw; rw [kt_148]; rfl
theorem fin_149 {w : Nat → Int64} {cy : Nat → ClassId} {z : Nat} : FINw w cy z 149 = .inl (cy 1, 12, .inl (fun _ => 0)) := by unfold FINw; rw [kt_149]; rfl
theorem fin_150 {w : Nat → Int64} {cy : Nat → ClassId} {z : Nat} : FINw w cy z 150 = .inl (cy 1, 8, .inl (fun _ => 0)) := by unfold FINw; rw [kt_150]; rfl
theorem fin_151 {w : Nat → Int64} {cy : Nat → ClassId} {z : Nat} : FINw w cy z 151 = .inr (2, [.ref (z + 152), .ref (z + 153), .ref (z + 154), .ref (z + 155), .ref (z + 156), .ref (z + 157), .ref (z + 158), .ref (z + 159), .int 0, .int 0, .int 0, .int (480), .int (9), .int (3), .int (4), .int 0]) := by unfold FINw; rw [kt_151]; rfl
theorem fin_152 {w : Nat → Int64} {cy : Nat → ClassId} {z : Nat} : FINw w cy z 152 = .inl (cy 2, 8, .inr (.inl (fun _ => 0))) := by unfold FINw; rw [kt_152]; rfl
theorem fin_153 {w : Nat → Int64} {cy : Nat → ClassId} {z : Nat} : FINw w cy z 153 = .inl (cy 1, 12, .inl (fun _ => 0)) := by unfold FINw; rw [kt_153]; rfl
theorem fin_154 {w : Nat → Int64} {cy : Nat → ClassId} {z : Nat} : FINw w cy z 154 = .inl (cy 1, 12, .inl (fun _ => 0)) := by unfold FINw; rw [kt_154]; rfl
theorem fin_155 {w : Nat → Int64} {cy : Nat → ClassId} {z : Nat} : FINw w cy z 155 = .inl (cy 1, 12, .inl (fun _ => 0)) := by unfold FINw; rw [kt_155]; rfl
theorem fin_156 {w : Nat → Int64} {cy : Nat → ClassId} {z : Nat} : FINw w cy z 156 = .inl (cy 3, 12, .inl (fun _ => 0)) := by unfold FINw; rw [kt_156]; rfl
theorem fin_157 {w : Nat → Int64} {cy : Nat → ClassId} {z : Nat} : FINw w cy z 157 = .inl (cy 5, 8, .inr (.inr (.inr (.inr (fun q => some (z + (151 + (14 + 3 * q)))))))) := by
  unfold FINw
  rw [kt_157]
  have e : (fun q => some (z + (157 + 8 + 3 * q)) : Nat → Option Nat) = (fun q => some (z + (151 + (14 + 3 * q)))) := funext fun q => congrArg some (by omega)
  rw [← e]
  rfl
theorem fin_158 {w : Nat → Int64} {cy : Nat → ClassId} {z : Nat} : FINw w cy z 158 = .inr (1, [.int (10), .int (16), .int (360)]) := by unfold FINw; rw [kt_158]; rfl
theorem fin_159 {w : Nat → Int64} {cy : Nat → ClassId} {z : Nat} : FINw w cy z 159 = .inr (8, [.ref (z + 160), .ref (z + 161), .ref (z + 162), .ref (z + 163), .ref (z + 164), .int 0, .int 0, .int 0]) := by unfold FINw; rw [kt_159]; rfl
theorem fin_160 {w : Nat → Int64} {cy : Nat → ClassId} {z : Nat} : FINw w cy z 160 = .inl (cy 1, 60, .inl (fun _ => 0)) := by unfold FINw; rw [kt_160]; rfl
theorem fin_161 {w : Nat → Int64} {cy : Nat → ClassId} {z : Nat} : FINw w cy z 161 = .inl (cy 1, 60, .inl (fun _ => 0)) := by unfold FINw; rw [kt_161]; rfl
theorem fin_162 {w : Nat → Int64} {cy : Nat → ClassId} {z : Nat} : FINw w cy z 162 = .inl (cy 1, 60, .inl (fun _ => 0)) := by unfold FINw; rw [kt_162]; rfl
theorem fin_163 {w : Nat → Int64} {cy : Nat → ClassId} {z : Nat} : FINw w cy z 163 = .inl (cy 1, 60, .inl (fun _ => 0)) := by unfold FINw; rw [kt_163]; rfl
theorem fin_164 {w : Nat → Int64} {cy : Nat → ClassId} {z : Nat} : FINw w cy z 164 = .inl (cy 1, 60, .inl (fun _ => 0)) := by unfold FINw; rw [kt_164]; rfl
theorem fin_165 {w : Nat → Int64} {cy : Nat → ClassId} {z : Nat} : FINw w cy z 165 = .inr (7, [.ref (z + 166), .ref (z + 167), .long 0, .int 0, .int 0, .int (-1), .int (-1), .int (-1), .int (-1), .int (-1), .int 0, .int 0]) := by unfold FINw; rw [kt_165]; rfl
theorem fin_166 {w : Nat → Int64} {cy : Nat → ClassId} {z : Nat} : FINw w cy z 166 = .inl (cy 1, 12, .inl (fun _ => 0)) := by unfold FINw; rw [kt_166]; rfl
theorem fin_167 {w : Nat → Int64} {cy : Nat → ClassId} {z : Nat} : FINw w cy z 167 = .inl (cy 1, 8, .inl (fun _ => 0)) := by unfold FINw; rw [kt_167]; rfl
theorem fin_168 {w : Nat → Int64} {cy : Nat → ClassId} {z : Nat} : FINw w cy z 168 = .inr (7, [.ref (z + 169), .ref (z + 170), .long 0, .int 0, .int 0, .int (-1), .int (-1), .int (-1), .int (-1), .int (-1), .int 0, .int 0]) := by unfold FINw; rw [kt_168]; rfl
theorem fin_169 {w : Nat → Int64} {cy : Nat → ClassId} {z : Nat} : FINw w cy z 169 = .inl (cy 1, 12, .inl (fun _ => 0)) := by unfold FINw; rw [kt_169]; rfl
theorem fin_170 {w : Nat → Int64} {cy : Nat → ClassId} {z : Nat} : FINw w cy z 170 = .inl (cy 1, 8, .inl (fun _ => 0)) := by unfold FINw; rw [kt_170]; rfl
theorem fin_171 {w : Nat → Int64} {cy : Nat → ClassId} {z : Nat} : FINw w cy z 171 = .inr (7, [.ref (z + 172), .ref (z + 173), .long 0, .int 0, .int 0, .int (-1), .int (-1), .int (-1), .int (-1), .int (-1), .int 0, .int 0]) := by unfold FINw; rw [kt_171]; rfl
theorem fin_172 {w : Nat → Int64} {cy : Nat → ClassId} {z : Nat} : FINw w cy z 172 = .inl (cy 1, 12, .inl (fun _ => 0)) := by unfold FINw; rw [kt_172]; rfl
theorem fin_173 {w : Nat → Int64} {cy : Nat → ClassId} {z : Nat} : FINw w cy z 173 = .inl (cy 1, 8, .inl (fun _ => 0)) := by unfold FINw; rw [kt_173]; rfl
theorem fin_174 {w : Nat → Int64} {cy : Nat → ClassId} {z : Nat} : FINw w cy z 174 = .inr (7, [.ref (z + 175), .ref (z + 176), .long 0, .int 0, .int 0, .int (-1), .int (-1), .int (-1), .int (-1), .int (-1), .int 0, .int 0]) := by unfold FINw; rw [kt_174]; rfl
theorem fin_175 {w : Nat → Int64} {cy : Nat → ClassId} {z : Nat} : FINw w cy z 175 = .inl (cy 1, 12, .inl (fun _ => 0)) := by unfold FINw; rw [kt_175]; rfl
theorem fin_176 {w : Nat → Int64} {cy : Nat → ClassId} {z : Nat} : FINw w cy z 176 = .inl (cy 1, 8, .inl (fun _ => 0)) := by unfold FINw; rw [kt_176]; rfl
theorem fin_177 {w : Nat → Int64} {cy : Nat → ClassId} {z : Nat} : FINw w cy z 177 = .inr (7, [.ref (z + 178), .ref (z + 179), .long 0, .int 0, .int 0, .int (-1), .int (-1), .int (-1), .int (-1), .int (-1), .int 0, .int 0]) := by unfold FINw; rw [kt_177]; rfl
theorem fin_178 {w : Nat → Int64} {cy : Nat → ClassId} {z : Nat} : FINw w cy z 178 = .inl (cy 1, 12, .inl (fun _ => 0)) := by unfold FINw; rw [kt_178]; rfl
theorem fin_179 {w : Nat → Int64} {cy : Nat → ClassId} {z : Nat} : FINw w cy z 179 = .inl (cy 1, 8, .inl (fun _ => 0)) := by unfold FINw; rw [kt_179]; rfl
theorem fin_180 {w : Nat → Int64} {cy : Nat → ClassId} {z : Nat} : FINw w cy z 180 = .inr (7, [.ref (z + 181), .ref (z + 182), .long 0, .int 0, .int 0, .int (-1), .int (-1), .int (-1), .int (-1), .int (-1), .int 0, .int 0]) := by unfold FINw; rw [kt_180]; rfl
theorem fin_181 {w : Nat → Int64} {cy : Nat → ClassId} {z : Nat} : FINw w cy z 181 = .inl (cy 1, 12, .inl (fun _ => 0)) := by unfold FINw; rw [kt_181]; rfl
theorem fin_182 {w : Nat → Int64} {cy : Nat → ClassId} {z : Nat} : FINw w cy z 182 = .inl (cy 1, 8, .inl (fun _ => 0)) := by unfold FINw; rw [kt_182]; rfl
theorem fin_183 {w : Nat → Int64} {cy : Nat → ClassId} {z : Nat} : FINw w cy z 183 = .inr (7, [.ref (z + 184), .ref (z + 185), .long 0, .int 0, .int 0, .int (-1), .int (-1), .int (-1), .int (-1), .int (-1), .int 0, .int 0]) := by unfold FINw; rw [kt_183]; rfl
theorem fin_184 {w : Nat → Int64} {cy : Nat → ClassId} {z : Nat} : FINw w cy z 184 = .inl (cy 1, 12, .inl (fun _ => 0)) := by unfold FINw; rw [kt_184]; rfl
theorem fin_185 {w : Nat → Int64} {cy : Nat → ClassId} {z : Nat} : FINw w cy z 185 = .inl (cy 1, 8, .inl (fun _ => 0)) := by unfold FINw; rw [kt_185]; rfl
theorem fin_186 {w : Nat → Int64} {cy : Nat → ClassId} {z : Nat} : FINw w cy z 186 = .inr (7, [.ref (z + 187), .ref (z + 188), .long 0, .int 0, .int 0, .int (-1), .int (-1), .int (-1), .int (-1), .int (-1), .int 0, .int 0]) := by unfold FINw; rw [kt_186]; rfl
theorem fin_187 {w : Nat → Int64} {cy : Nat → ClassId} {z : Nat} : FINw w cy z 187 = .inl (cy 1, 12, .inl (fun _ => 0)) := by unfold FINw; rw [kt_187]; rfl
theorem fin_188 {w : Nat → Int64} {cy : Nat → ClassId} {z : Nat} : FINw w cy z 188 = .inl (cy 1, 8, .inl (fun _ => 0)) := by unfold FINw; rw [kt_188]; rfl
theorem fin_189 {w : Nat → Int64} {cy : Nat → ClassId} {z : Nat} : FINw w cy z 189 = .inr (2, [.ref (z + 190), .ref (z + 191), .ref (z + 192), .ref (z + 193), .ref (z + 194), .ref (z + 195), .ref (z + 196), .ref (z + 197), .int 0, .int 0, .int 0, .int (480), .int (9), .int (3), .int (4), .int 0]) := by unfold FINw; rw [kt_189]; rfl
theorem fin_190 {w : Nat → Int64} {cy : Nat → ClassId} {z : Nat} : FINw w cy z 190 = .inl (cy 2, 8, .inr (.inl (fun _ => 0))) := by unfold FINw; rw [kt_190]; rfl
theorem fin_191 {w : Nat → Int64} {cy : Nat → ClassId} {z : Nat} : FINw w cy z 191 = .inl (cy 1, 12, .inl (fun _ => 0)) := by unfold FINw; rw [kt_191]; rfl
theorem fin_192 {w : Nat → Int64} {cy : Nat → ClassId} {z : Nat} : FINw w cy z 192 = .inl (cy 1, 12, .inl (fun _ => 0)) := by unfold FINw; rw [kt_192]; rfl
theorem fin_193 {w : Nat → Int64} {cy : Nat → ClassId} {z : Nat} : FINw w cy z 193 = .inl (cy 1, 12, .inl (fun _ => 0)) := by unfold FINw; rw [kt_193]; rfl
theorem fin_194 {w : Nat → Int64} {cy : Nat → ClassId} {z : Nat} : FINw w cy z 194 = .inl (cy 3, 12, .inl (fun _ => 0)) := by unfold FINw; rw [kt_194]; rfl
theorem fin_195 {w : Nat → Int64} {cy : Nat → ClassId} {z : Nat} : FINw w cy z 195 = .inl (cy 5, 8, .inr (.inr (.inr (.inr (fun q => some (z + (189 + (14 + 3 * q)))))))) := by
  unfold FINw
  rw [kt_195]
  have e : (fun q => some (z + (195 + 8 + 3 * q)) : Nat → Option Nat) = (fun q => some (z + (189 + (14 + 3 * q)))) := funext fun q => congrArg some (by omega)
  rw [← e]
  rfl
theorem fin_196 {w : Nat → Int64} {cy : Nat → ClassId} {z : Nat} : FINw w cy z 196 = .inr (1, [.int (10), .int (16), .int (360)]) := by unfold FINw; rw [kt_196]; rfl
theorem fin_197 {w : Nat → Int64} {cy : Nat → ClassId} {z : Nat} : FINw w cy z 197 = .inr (8, [.ref (z + 198), .ref (z + 199), .ref (z + 200), .ref (z + 201), .ref (z + 202), .int 0, .int 0, .int 0]) := by unfold FINw; rw [kt_197]; rfl
theorem fin_198 {w : Nat → Int64} {cy : Nat → ClassId} {z : Nat} : FINw w cy z 198 = .inl (cy 1, 60, .inl (fun _ => 0)) := by unfold FINw; rw [kt_198]; rfl
theorem fin_199 {w : Nat → Int64} {cy : Nat → ClassId} {z : Nat} : FINw w cy z 199 = .inl (cy 1, 60, .inl (fun _ => 0)) := by unfold FINw; rw [kt_199]; rfl
theorem fin_200 {w : Nat → Int64} {cy : Nat → ClassId} {z : Nat} : FINw w cy z 200 = .inl (cy 1, 60, .inl (fun _ => 0)) := by unfold FINw; rw [kt_200]; rfl
theorem fin_201 {w : Nat → Int64} {cy : Nat → ClassId} {z : Nat} : FINw w cy z 201 = .inl (cy 1, 60, .inl (fun _ => 0)) := by unfold FINw; rw [kt_201]; rfl
theorem fin_202 {w : Nat → Int64} {cy : Nat → ClassId} {z : Nat} : FINw w cy z 202 = .inl (cy 1, 60, .inl (fun _ => 0)) := by unfold FINw; rw [kt_202]; rfl
theorem fin_203 {w : Nat → Int64} {cy : Nat → ClassId} {z : Nat} : FINw w cy z 203 = .inr (7, [.ref (z + 204), .ref (z + 205), .long 0, .int 0, .int 0, .int (-1), .int (-1), .int (-1), .int (-1), .int (-1), .int 0, .int 0]) := by unfold FINw; rw [kt_203]; rfl
theorem fin_204 {w : Nat → Int64} {cy : Nat → ClassId} {z : Nat} : FINw w cy z 204 = .inl (cy 1, 12, .inl (fun _ => 0)) := by unfold FINw; rw [kt_204]; rfl
theorem fin_205 {w : Nat → Int64} {cy : Nat → ClassId} {z : Nat} : FINw w cy z 205 = .inl (cy 1, 8, .inl (fun _ => 0)) := by unfold FINw; rw [kt_205]; rfl
theorem fin_206 {w : Nat → Int64} {cy : Nat → ClassId} {z : Nat} : FINw w cy z 206 = .inr (7, [.ref (z + 207), .ref (z + 208), .long 0, .int 0, .int 0, .int (-1), .int (-1), .int (-1), .int (-1), .int (-1), .int 0, .int 0]) := by unfold FINw; rw [kt_206]; rfl
theorem fin_207 {w : Nat → Int64} {cy : Nat → ClassId} {z : Nat} : FINw w cy z 207 = .inl (cy 1, 12, .inl (fun _ => 0)) := by unfold FINw; rw [kt_207]; rfl
theorem fin_208 {w : Nat → Int64} {cy : Nat → ClassId} {z : Nat} : FINw w cy z 208 = .inl (cy 1, 8, .inl (fun _ => 0)) := by unfold FINw; rw [kt_208]; rfl
theorem fin_209 {w : Nat → Int64} {cy : Nat → ClassId} {z : Nat} : FINw w cy z 209 = .inr (7, [.ref (z + 210), .ref (z + 211), .long 0, .int 0, .int 0, .int (-1), .int (-1), .int (-1), .int (-1), .int (-1), .int 0, .int 0]) := by unfold FINw; rw [kt_209]; rfl
theorem fin_210 {w : Nat → Int64} {cy : Nat → ClassId} {z : Nat} : FINw w cy z 210 = .inl (cy 1, 12, .inl (fun _ => 0)) := by unfold FINw; rw [kt_210]; rfl
theorem fin_211 {w : Nat → Int64} {cy : Nat → ClassId} {z : Nat} : FINw w cy z 211 = .inl (cy 1, 8, .inl (fun _ => 0)) := by unfold FINw; rw [kt_211]; rfl
theorem fin_212 {w : Nat → Int64} {cy : Nat → ClassId} {z : Nat} : FINw w cy z 212 = .inr (7, [.ref (z + 213), .ref (z + 214), .long 0, .int 0, .int 0, .int (-1), .int (-1), .int (-1), .int (-1), .int (-1), .int 0, .int 0]) := by unfold FINw; rw [kt_212]; rfl
theorem fin_213 {w : Nat → Int64} {cy : Nat → ClassId} {z : Nat} : FINw w cy z 213 = .inl (cy 1, 12, .inl (fun _ => 0)) := by unfold FINw; rw [kt_213]; rfl
theorem fin_214 {w : Nat → Int64} {cy : Nat → ClassId} {z : Nat} : FINw w cy z 214 = .inl (cy 1, 8, .inl (fun _ => 0)) := by unfold FINw; rw [kt_214]; rfl
theorem fin_215 {w : Nat → Int64} {cy : Nat → ClassId} {z : Nat} : FINw w cy z 215 = .inr (7, [.ref (z + 216), .ref (z + 217), .long 0, .int 0, .int 0, .int (-1), .int (-1), .int (-1), .int (-1), .int (-1), .int 0, .int 0]) := by unfold FINw; rw [kt_215]; rfl
theorem fin_216 {w : Nat → Int64} {cy : Nat → ClassId} {z : Nat} : FINw w cy z 216 = .inl (cy 1, 12, .inl (fun _ => 0)) := by unfold FINw; rw [kt_216]; rfl
theorem fin_217 {w : Nat → Int64} {cy : Nat → ClassId} {z : Nat} : FINw w cy z 217 = .inl (cy 1, 8, .inl (fun _ => 0)) := by unfold FINw; rw [kt_217]; rfl
theorem fin_218 {w : Nat → Int64} {cy : Nat → ClassId} {z : Nat} : FINw w cy z 218 = .inr (7, [.ref (z + 219), .ref (z + 220), .long 0, .int 0, .int 0, .int (-1), .int (-1), .int (-1), .int (-1), .int (-1), .int 0, .int 0]) := by unfold FINw; rw [kt_218]; rfl
theorem fin_219 {w : Nat → Int64} {cy : Nat → ClassId} {z : Nat} : FINw w cy z 219 = .inl (cy 1, 12, .inl (fun _ => 0)) := by unfold FINw; rw [kt_219]; rfl
theorem fin_220 {w : Nat → Int64} {cy : Nat → ClassId} {z : Nat} : FINw w cy z 220 = .inl (cy 1, 8, .inl (fun _ => 0)) := by unfold FINw; rw [kt_220]; rfl
theorem fin_221 {w : Nat → Int64} {cy : Nat → ClassId} {z : Nat} : FINw w cy z 221 = .inr (7, [.ref (z + 222), .ref (z + 223), .long 0, .int 0, .int 0, .int (-1), .int (-1), .int (-1), .int (-1), .int (-1), .int 0, .int 0]) := by unfold FINw; rw [kt_221]; rfl
theorem fin_222 {w : Nat → Int64} {cy : Nat → ClassId} {z : Nat} : FINw w cy z 222 = .inl (cy 1, 12, .inl (fun _ => 0)) := by unfold FINw; rw [kt_222]; rfl
theorem fin_223 {w : Nat → Int64} {cy : Nat → ClassId} {z : Nat} : FINw w cy z 223 = .inl (cy 1, 8, .inl (fun _ => 0)) := by unfold FINw; rw [kt_223]; rfl
theorem fin_224 {w : Nat → Int64} {cy : Nat → ClassId} {z : Nat} : FINw w cy z 224 = .inr (7, [.ref (z + 225), .ref (z + 226), .long 0, .int 0, .int 0, .int (-1), .int (-1), .int (-1), .int (-1), .int (-1), .int 0, .int 0]) := by unfold FINw; rw [kt_224]; rfl
theorem fin_225 {w : Nat → Int64} {cy : Nat → ClassId} {z : Nat} : FINw w cy z 225 = .inl (cy 1, 12, .inl (fun _ => 0)) := by unfold FINw; rw [kt_225]; rfl
theorem fin_226 {w : Nat → Int64} {cy : Nat → ClassId} {z : Nat} : FINw w cy z 226 = .inl (cy 1, 8, .inl (fun _ => 0)) := by unfold FINw; rw [kt_226]; rfl
theorem fin_227 {w : Nat → Int64} {cy : Nat → ClassId} {z : Nat} : FINw w cy z 227 = .inl (cy 1, 24, .inl (fun _ => 0)) := by unfold FINw; rw [kt_227]; rfl
theorem fin_228 {w : Nat → Int64} {cy : Nat → ClassId} {z : Nat} : FINw w cy z 228 = .inl (cy 1, 53, .inl (fun _ => 0)) := by unfold FINw; rw [kt_228]; rfl
