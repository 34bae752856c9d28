/-! CUTS, the reference: runs counted -/
theorem cuLn_16 {s : BdS} {net : Int} {l r al : Nat} (hw : bW s ≤ 16) (hh : bH s ≤ 16) : (cuLn s net l r al).length ≤ 17 := by
  have z := cuL_l (mk := cuMk net l r al) (h := cuHl s net l r al) (cuMx s al + 1)
  have z2 : cuMx s al ≤ 16 := by
    by_cases e : al = 1
    · rw [cuMx_1 e]; exact hw
    · rw [cuMx_0 e]; exact hh
  unfold cuLn
  omega
theorem cuRl_l {s : BdS} {net : Int} {l r al : Nat} (hw : bW s ≤ 16) (hh : bH s ≤ 16) (hr : r ≤ 16) : (cuC (fun r => cuLn s net l r al) r).length ≤ 272 := by
  have z := cuC_l (f := fun r => cuLn s net l r al) (m := 17) (n := r) (fun r _ => cuLn_16 hw hh)
  omega
