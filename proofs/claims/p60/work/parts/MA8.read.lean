theorem rdK_sh {b : Int → Int} {x y : Int} (h0 : 0 ≤ sh b 2248 1) (h : sh b 2248 1 ≤ 12) : rdK b 2248 x y = rdB (sh b 2248) x y := by
  unfold rdK rdB
  rw [show b (2248 + 1) = sh b 2248 1 from (sh_at (by omega) (by omega)).symm]
  refine fst_c _ _ (fun r u v => ?_)
  rw [sh_at (by omega) (by omega), sh_at (by omega) (by omega), show 2248 + (10 + r) = 2248 + 10 + r by omega, show 2248 + (22 + r) = 2248 + 22 + r by omega]
