/-! ===== one minute of the reference, walked ===== -/
/-- who came, how many were lost: cells 28 and 29 of the reference -/
def cl2 (X : KM) (c : Int32) (l : Int) : KM := uI (uI X 227 28 c) 227 29 (zI l)
theorem cl2_c {X : KM} {c : Int32} {l : Int} : (cl2 X c l).1 227 28 = c := by unfold cl2; rw [uI_o (by omega), uI_s]
theorem cl2_l {X : KM} {c : Int32} {l : Int} : (cl2 X c l).1 227 29 = zI l := by unfold cl2; rw [uI_s]
theorem cl2_uc {X : KM} {c d : Int32} {l : Int} : uI (cl2 X c l) 227 28 d = cl2 X d l := by
  refine Prod.ext ?_ rfl
  funext a k
  unfold cl2
  by_cases h : a = 227 ∧ k = 28
  · rw [h.1, h.2, uI_s, uI_o (by omega), uI_s]
  · by_cases h2 : a = 227 ∧ k = 29
    · rw [h2.1, h2.2, uI_o (by omega), uI_s, uI_s]
    · rw [uI_o h, uI_o h2, uI_o h, uI_o h2, uI_o h]
theorem cl2_ul {X : KM} {c : Int32} {l m : Int} : uI (cl2 X c l) 227 29 (zI m) = cl2 X c m := by unfold cl2; rw [uI_tw]
