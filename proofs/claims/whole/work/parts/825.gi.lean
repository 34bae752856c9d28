/-! gi: SCRIPTS: the class's run: choices, loops, as the class goes through them -/
section
variable {n : Nat} {e : Nat → Int} {M : WkM} {d cl i j : Nat} {s s' : WkS} {I L I' L' : ZI}
theorem zWk_rk {l : CdL} {v p : Int} (hr : (evF s.1.1 l = 0 ∧ v = evV s.1.1 l ∧ ∀ j : Nat, 13 ≤ j → j ≤ 15 → I' 138 j = I 138 j) ∨ (¬ evF s.1.1 l = 0 ∧ I' 138 13 = (evF s.1.1 l : Nat) ∧ I' 138 14 = p ∧ I' 138 15 = 0)) (h : zWk n e M s I L) (hf : ∀ c j : Nat, ¬ (c = 138 ∧ 13 ≤ j ∧ j ≤ 17) → I' c j = I c j) : (evF s.1.1 l = 0 ∧ (zWk n e M s I' L ∧ v = evV s.1.1 l)) ∨ (¬ evF s.1.1 l = 0 ∧ zWk n e M (wkF s (evF s.1.1 l : Nat) p 0) I' L) := by
  have hV : zEv s.1.1 I' L := zEv_fr h.1 (fun c j w => hf c j (by omega)) (fun _ _ _ => rfl)
  rcases hr with ⟨q1, q2, q3⟩ | ⟨q1, q2, q3, q4⟩
  · refine Or.inl ⟨q1, zWk_fr h (fun c j w => ?_) (fun _ _ _ => rfl), q2⟩
    by_cases w2 : c = 138 ∧ 13 ≤ j
    · rw [w2.1]; exact q3 j w2.2 (by omega)
    · exact hf c j (by omega)
  · exact Or.inr ⟨q1, zWk_F h hV (fun c j w => hf c j (by omega)) (fun _ => rfl) q2 q3 q4⟩
theorem wkI_t {kd p tg : Int} {l : CdL} (hM : M.1 i = (kd, p, 0, [], l, tg)) (hk : kd = 5 ∨ kd = 6) (hg : wkGo s) (hi : i ≤ M.2.2.2) (hl : s.2.1 < M.2.2.1) (hf : evF s.1.1 l = 0) (hv : evV s.1.1 l ≠ 0) : wkZ M d cl i s (i + 1) (wkSp s) := wkZ_if_t hg (by rw [hM]; exact hk) hi hl (by rw [hM]; exact hf) (by rw [hM]; exact hv)
theorem wkI_f {kd p tg : Int} {l : CdL} (hM : M.1 i = (kd, p, 0, [], l, tg)) (hk : kd = 5 ∨ kd = 6) (hg : wkGo s) (hi : i ≤ M.2.2.2) (hl : s.2.1 < M.2.2.1) (hf : ¬ evF s.1.1 l = 0) : wkZ M d cl i s j (wkF (wkSp s) (evF s.1.1 l : Nat) p 0) := by
  have w := wkZ_if_f (M := M) (d := d) (cl := cl) (i := i) (j := j) (s := s) hg (by rw [hM]; exact hk) hi hl (by rw [hM]; exact hf)
  rw [hM] at w
  exact w
theorem wkI_e {kd p : Int} {k : Nat} {l : CdL} (hM : M.1 i = (kd, p, 0, [], l, (k : Int))) (hk : kd = 5 ∨ kd = 6) (hg : wkGo s) (hi : i ≤ M.2.2.2) (hl : s.2.1 < M.2.2.1) (hf : evF s.1.1 l = 0) (hv : evV s.1.1 l = 0) : wkZ M d cl i s k (wkSp s) := wkZ_if_e hg (by rw [hM]; exact hk) hi hl (by rw [hM]; exact hf) (by rw [hM]; exact hv) (by rw [hM])
/-- a block behind a head, and what comes behind it -/
theorem wkI_b {k j1 : Nat} {s1 s2 : WkS} (h : wkZ M d cl i s k s1) (hg : wkGo s1) (hB : wkZ M (d + 1) cl k s1 j1 s2) : wkZ M d cl i s j1 s2 := wkZ_t h hg (wkZ_d hB (Nat.le_succ d))
theorem wkI_j {k j1 : Nat} {s2 : WkS} (h : wkZ M d cl i s j1 s2) (hj : (M.1 j1).1 = 17) (ht : (M.1 j1).2.2.2.2.2 = (k : Int)) (hi : j1 ≤ M.2.2.2) : wkZ M d cl i s k s2 := by
  by_cases g : wkGo s2
  · exact wkZ_t h g (wkZ_g g hj ht hi)
  · exact wkZ_a h g
theorem wkF_no {k p v : Int} (h : k ≠ 0) : ¬ wkGo (wkF s k p v) := fun q => h (by have w := q.2; exact congrArg Prod.fst w)
end
