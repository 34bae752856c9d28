/-! gk: SCRIPTS: the class's run: calls, acts, closings, rows of statements, as the class goes through them -/
section
variable {n : Nat} {e : Nat → Int} {M : WkM} {d cl i j : Nat} {s s' s1 s2 : WkS} {I L I' L' : ZI}
theorem wkC_6 {p g tg : Int} {l m : CdL} (hM : M.1 i = (18, p, g, l, m, tg)) (hg : wkGo s) (hf : 0 ≤ g ∧ g < 26) (hi : i ≤ M.2.2.2) (hl : s.2.1 < M.2.2.1) (hu : M.2.1 g.toNat = -1) : wkZ M d cl i s j (wkF (wkSp s) 6 p 0) := wkZ_c6 hg (by rw [hM]) (by rw [hM]) (by rw [hM]; exact hf) hi hl (by rw [hM]; exact hu)
theorem wkC_5 {p g tg : Int} {k : Nat} {l m : CdL} (hM : M.1 i = (18, p, g, l, m, tg)) (hg : wkGo s) (hf : 0 ≤ g ∧ g < 26) (hi : i ≤ M.2.2.2) (hl : s.2.1 < M.2.2.1) (hu : M.2.1 g.toNat = (k : Int)) (hc : cl = 2) : wkZ M d cl i s j (wkF (wkSp s) 5 p 0) := wkZ_c5 hg (by rw [hM]) (by rw [hM]) (by rw [hM]; exact hf) hi hl (by rw [hM]; show ¬ M.2.1 g.toNat = -1; rw [hu]; omega) hc
theorem wkC_b {p g tg : Int} {k j1 : Nat} {l m : CdL} (hM : M.1 i = (18, p, g, l, m, tg)) (hg : wkGo s) (hf : 0 ≤ g ∧ g < 26) (hi : i ≤ M.2.2.2) (hl : s.2.1 < M.2.2.1) (hu : M.2.1 g.toNat = (k : Int)) (hc : cl < 2) (hB : wkZ M (d + 1) (cl + 1) k (wkSp s) j1 s1) (hr : (M.1 j1).1 = 19) (hj : j1 ≤ M.2.2.2) : wkZ M d cl i s (i + 1) s1 := wkZ_c hg (by rw [hM]) (by rw [hM]; exact hf) hi hl (by rw [hM]; exact hu) hc hB hr hj
/-- an act's end -/
theorem zWk_acn (h : zWk n e M s1 I L) (hn : I 138 13 = 0 ∨ ¬ I 138 12 = 0) : zWk n e M (wkAc s s1) I L := zWk_x h (if_neg (fun q => by
  rcases hn with z | z
  · exact q.1 (h.2.2.2.2.2.1.symm.trans z)
  · exact z (h.2.2.2.2.1.1.trans (by rw [q.2]; rfl)))).symm
theorem zWk_acy (h : zWk n e M s1 I L) (he : ¬ I 138 13 = 0) (hs : I 138 12 = 0) (hk : ∀ x : Nat, x < 72 → L' 140 x = s.1.1.2.2.1 x) (h3 : I' 138 3 = s.1.1.2.1) (hb : s.1.1.2.1 ≤ 12) (hf : ∀ c j : Nat, ¬ (c = 138 ∧ j = 3) → I' c j = I c j) (hl : ∀ c j : Nat, ¬ c = 140 → L' c j = L c j) : zWk n e M (wkAc s s1) I' L' := by
  have q : s1.2.2.2.1 ≠ 0 ∧ s1.2.2.1 = 0 := ⟨fun z => he (h.2.2.2.2.2.1.trans z), by have w := h.2.2.2.2.1.1; omega⟩
  refine zWk_x (zWk_E (E := evRs s1.1.1 s.1.1.2.1 s.1.1.2.2.1) h ?_ (fun c j z => hf c j (by omega)) (fun j => hl 143 j (by decide))) (if_pos q).symm
  exact ⟨fun v hv => (hl _ _ (by decide)).trans (h.1.1 v hv), ⟨h3, hb⟩, hk, ⟨(hf _ _ (by omega)).trans h.1.2.2.2.1.1, h.1.2.2.2.1.2⟩, fun j hj => (hl _ _ (by decide)).trans (h.1.2.2.2.2 j hj)⟩
/-- a closing's end -/
theorem zWk_tr0 {I2 : ZI} (h : zWk n e M s2 I2 L) (e0 : I2 138 13 = 0) (hf : ∀ c j : Nat, ¬ (c = 138 ∧ 13 ≤ j ∧ j ≤ 15) → I' c j = I2 c j) (h3 : I' 138 13 = s1.2.2.2.1) (h4 : I' 138 14 = s1.2.2.2.2.1) (h5 : I' 138 15 = s1.2.2.2.2.2) : zWk n e M (wkTr s1 s2) I' L := zWk_x (zWk_F (k := s1.2.2.2.1) (p := s1.2.2.2.2.1) (v := s1.2.2.2.2.2) h (zEv_fr h.1 (fun c j z => hf c j (by omega)) (fun _ _ _ => rfl)) (fun c j z => hf c j (by omega)) (fun _ => rfl) h3 h4 h5) (if_pos (h.2.2.2.2.2.1.symm.trans e0)).symm
theorem zWk_tr1 (h : zWk n e M s2 I L) (e0 : ¬ I 138 13 = 0) : zWk n e M (wkTr s1 s2) I L := zWk_x h (if_neg (fun q => e0 (h.2.2.2.2.2.1.trans q))).symm
theorem zWk_cl (h : zWk n e M s1 I L) (hf : ∀ c j : Nat, ¬ (c = 138 ∧ 13 ≤ j ∧ j ≤ 15) → I' c j = I c j) (h3 : I' 138 13 = 0) (h4 : I' 138 14 = -1) (h5 : I' 138 15 = 0) : zWk n e M (wkCl s1) I' L := zWk_F h (zEv_fr h.1 (fun c j z => hf c j (by omega)) (fun _ _ _ => rfl)) (fun c j z => hf c j (by omega)) (fun _ => rfl) h3 h4 h5
theorem zWk_tr2 (h : zWk n e M s1 I L) (hf : ∀ c j : Nat, ¬ (c = 138 ∧ 13 ≤ j ∧ j ≤ 15) → I' c j = I c j) (h3 : I' 138 13 = I 138 13) (h4 : I' 138 14 = I 138 14) (h5 : I' 138 15 = I 138 15) : zWk n e M (wkTr s1 (wkCl s1)) I' L := by
  have w := zWk_cl (I' := fun c j => if c = 138 ∧ j = 13 then 0 else if c = 138 ∧ j = 14 then -1 else if c = 138 ∧ j = 15 then 0 else I c j) h (fun c j z => by rw [if_neg (by omega), if_neg (by omega), if_neg (by omega)]) (if_pos ⟨rfl, rfl⟩) ((if_neg (by omega)).trans (if_pos ⟨rfl, rfl⟩)) ((if_neg (by omega)).trans ((if_neg (by omega)).trans (if_pos ⟨rfl, rfl⟩)))
  exact zWk_tr0 w (if_pos ⟨rfl, rfl⟩) (fun c j z => by rw [if_neg (by omega), if_neg (by omega), if_neg (by omega)]; exact hf c j z) (h3.trans h.2.2.2.2.2.1) (h4.trans h.2.2.2.2.2.2.1) (h5.trans h.2.2.2.2.2.2.2)

variable {c clo fn : Nat → Int} {G : WkG} {r p tq : Nat}
theorem wf_p (hA : wfA n c clo fn M G) (h : G r p i tq j) : p ≤ tq ∧ tq ≤ n := (hA.1 _ _ _ _ _ h).1
theorem wf_e (hA : wfA n c clo fn M G) (h : G r p i tq j) (hp : p = tq) : i = j := (hA.1 _ _ _ _ _ h).2.2.2.1 hp
theorem wf_n (hA : wfA n c clo fn M G) (h : G r p i tq j) (hp : p < tq) (h10 : c p = 10) : G r (p + 1) i tq j := ((hA.1 _ _ _ _ _ h).2.2.2.2 hp).elim (fun q => q.2) (fun q => absurd h10 q.1)
theorem wf_s (hA : wfA n c clo fn M G) (h : G r p i tq j) (hp : p < tq) (h10 : ¬ c p = 10) : wfSt n c clo M G r p i tq j := ((hA.1 _ _ _ _ _ h).2.2.2.2 hp).elim (fun q => absurd q.1 h10) (fun q => q.2)
theorem wf_i (hA : wfA n c clo fn M G) (h : G r p i tq j) : i ≤ j ∧ j ≤ M.2.2.2 := (hA.1 _ _ _ _ _ h).2.1
theorem wf_r (hA : wfA n c clo fn M G) (h : G r p i tq j) : r ≤ 2 := (hA.1 _ _ _ _ _ h).2.2.1
end
