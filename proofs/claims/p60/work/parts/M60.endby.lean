def eI (b : Int → Int) (p r s : Int) : Int := if dnI (b 3) (b 4) (pcB b p r) s (b (34 + r)) < 1000000000 then dnI (b 3) (b 4) (pcB b p r) s (b (34 + r)) else -1
theorem eI_v {b : Int → Int} {p r s v : Int} (h : dnI (b 3) (b 4) (pcB b p r) s (b (34 + r)) = v) (hv : v < 1000000000) : eI b p r s = v := by
  unfold eI
  rw [h, if_pos hv]
theorem eI_n {b : Int → Int} {p r s : Int} (h : dnI (b 3) (b 4) (pcB b p r) s (b (34 + r)) = 1000000000) : eI b p r s = -1 := by
  unfold eI
  rw [h, if_neg (by decide)]
