/-! A PAD PUT: the board with its net -/
theorem bRs_w {s : BdS} {sn : Int} : bW (bRs s sn) = bW s ∧ bH (bRs s sn) = bH s ∧ bD (bRs s sn) = bD s ∧ bnp (bRs s sn) = bnp s ∧ bnd (bRs s sn) = bnd s := by
  by_cases e : bRt s sn = -1
  · rw [(bRs_n e).1]
    exact ⟨rfl, rfl, rfl, rfl, rfl⟩
  · rw [(bRs_o e).1]
    exact ⟨rfl, rfl, rfl, rfl, rfl⟩
theorem bRs_k {s : BdS} {sn : Int} : bRn s sn < bnn (bRs s sn) ∧ (bRt s sn = -1 → bRn s sn = bnn s) ∧ (bRt s sn ≠ -1 → (bRn s sn : Int) = bRt s sn) := by
  rcases bRt_s s sn with w | w
  · rw [(bRs_n w.1).1, (bRs_n w.1).2]
    exact ⟨Nat.lt_succ_self (bnn s), fun _ => rfl, fun h => absurd w.1 h⟩
  · have e : bRt s sn ≠ -1 := by omega
    rw [(bRs_o e).1, (bRs_o e).2]
    exact ⟨by omega, fun h => absurd h e, fun _ => by omega⟩
