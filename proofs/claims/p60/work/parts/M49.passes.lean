/-! ===== passes: both alike ===== -/
theorem HL_cI {b : Int → Int} {N : Int} {L : Nat} {M : KM} {v : Int32} (hb : WB b) (hL : HL M L b) (hl : 23 ≤ L) : HL (uI (uI M L 11 (zI (b 5 + N))) 0 15 v) L (cI b N) := by
  have hh := hb.1
  unfold WH at hh
  have o : ∀ z, z < 58 → ¬ z = 5 → cI b N z = b z := fun z h h5 => cI_o (by omega) h5
  have i1 : b 1 ≤ 12 := by omega
  clear hh
  obtain ⟨q0, q1, q2, q5, q6, q7, q8, q9, q3, q4, qd, qa, qb, qc, qs⟩ := hL
  unfold HL
  rw [o 0 (by omega) (by omega), o 1 (by omega) (by omega), o 2 (by omega) (by omega), o 3 (by omega) (by omega), o 4 (by omega) (by omega), o 6 (by omega) (by omega), o 7 (by omega) (by omega), o 8 (by omega) (by omega), o 9 (by omega) (by omega), cI_5]
  refine ⟨?_, ?_, ?_, ?_, ?_, ?_, ?_, ?_, ?_, ?_, ?_, fun r u w => ?_, fun r u w => ?_, fun r u w => ?_, fun r u w => ?_⟩
  · rw [uI_o (by omega), uI_o (by omega)]; exact q0
  · rw [uI_o (by omega), uI_o (by omega)]; exact q1
  · rw [uI_o (by omega), uI_o (by omega)]; exact q2
  · rw [uI_o (by omega), uI_s]
  · rw [uI_o (by omega), uI_o (by omega)]; exact q6
  · rw [uI_o (by omega), uI_o (by omega)]; exact q7
  · rw [uI_o (by omega), uI_o (by omega)]; exact q8
  · rw [uI_o (by omega), uI_o (by omega)]; exact q9
  · rw [uI_o (by omega), uI_o (by omega)]; exact q3
  · rw [uI_o (by omega), uI_o (by omega)]; exact q4
  · rw [uI_o (by omega), uI_o (by omega)]; exact qd
  · rw [uI_o (by omega), uI_o (by omega), o (10 + r) (by omega) (by omega)]; exact qa r u w
  · rw [uI_o (by omega), uI_o (by omega), o (22 + r) (by omega) (by omega)]; exact qb r u w
  · rw [uI_o (by omega), uI_o (by omega), o (34 + r) (by omega) (by omega)]; exact qc r u w
  · rw [uI_o (by omega), uI_o (by omega), o (46 + r) (by omega) (by omega)]; exact qs r u w
theorem sb8_ne : ∀ p0 p1 p2 p3 p4 p5 p6 p7 : Bool, ¬ sb8 p0 p1 p2 p3 p4 p5 p6 p7 = -zI 1 := by decide +kernel
theorem aS_ne {b : Int → Int} {N : Int} : ¬ aS b N = -zI 1 := by
  unfold aS
  rw [sb8_of]
  exact sb8_ne _ _ _ _ _ _ _ _
