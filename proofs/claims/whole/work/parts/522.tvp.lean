/-! AN OBJECT more in the reference's memory -/
theorem tCn_q {b : Int} (h : tCn 0 b) : b = -1 := by unfold tCn at h; omega
theorem zVK_1 {k : Nat} {c : Nat → Int} {op kf q fd : Nat} {mk : Int} {I : ZI} (h22 : I k 22 = (kf : Int) + (q - op : Nat)) (h89 : mk = 1 → I (k + 8) fd = ((0 : Nat) : Int) + (q - op : Nat) ∧ ∀ t, t < q - op → I (k + 9) (kf + t) = c (op + t)) : zVK k c op kf q mk fd I := ⟨h22, fun w => ⟨by have z := (h89 w).1; omega, (h89 w).2⟩⟩
theorem zVO_O {k : Nat} {c : Nat → Int} {n b : Nat} {mk : Int} {s : TyS} {I L I1 L1 I' L' : ZI} (h : zVO k c n b mk s I L) (hg : tyg c n b s) {p d q a_ : Nat} {a x : Int} (ha : a = a_) (ha8 : a_ ≤ 8) (hd : d ≤ tyd s)
    (h17 : I' k 17 = tyn s + 1) (h22 : I' k 22 = tyk s) (h16 : I' k 16 = x) (hst : I' (k + 10) d = tyn s ∧ I' (k + 11) d = a) (hst2 : ∀ e, e ≠ d → I' (k + 10) e = I (k + 10) e ∧ I' (k + 11) e = I (k + 11) e)
    (h1 : mk = 1 → I1 (k + 2) (tyn s) = a ∧ I1 (k + 3) (tyn s) = tyy s d) (hvs : mk = 1 → a_ ≠ 0 → tVs c n b a_ q (tFv a_ (tyx s)) k (tyn s) I1 L1) (hL : mk = 1 → ∀ w, oCi a_ 0 (tFv a_ (tyx s)) ≤ w → w < 5 → L1 (k + 4) (5 * tyn s + w) = tN1 a_ w) (h5 : mk = 1 → ∀ w, oCi a_ 1 (tFv a_ (tyx s)) ≤ w → w < 2 → I1 (k + 5) (2 * tyn s + w) = 0)
    (hf1 : ∀ x j : Nat, k + 2 ≤ x → x ≤ k + 9 → I' x j = I1 x j) (hl1 : ∀ j : Nat, L' (k + 4) j = L1 (k + 4) j)
    (hf : mk = 1 → ∀ x j : Nat, (x = k + 2 ∨ x = k + 3 ∨ x = k + 7 ∨ x = k + 8) → j < tyn s → I1 x j = I x j) (hf5 : mk = 1 → ∀ j : Nat, j < 2 * tyn s → I1 (k + 5) j = I (k + 5) j) (hf6 : mk = 1 → ∀ j : Nat, j < 80 * tyn s → I1 (k + 6) j = I (k + 6) j) (hf9 : mk = 1 → ∀ j : Nat, j < tyk s → I1 (k + 9) j = I (k + 9) j) (hfL : mk = 1 → ∀ j : Nat, j < 5 * tyn s → L1 (k + 4) j = L (k + 4) j) : zVO k c n b mk (tyO s p d a q x) I' L' := by
  refine zVO_up h rfl rfl (Nat.le_refl _) h17 h22 h16 (fun e he => ?_) (fun w => ?_) (fun w x j hx hj => (hf1 _ _ (by omega) (by omega)).trans (hf w x j hx hj)) (fun w j hj => (hf1 _ _ (by omega) (by omega)).trans (hf5 w j hj)) (fun w j hj => (hf1 _ _ (by omega) (by omega)).trans (hf6 w j hj)) (fun w j hj => (hf1 _ _ (by omega) (by omega)).trans (hf9 w j hj)) (fun w j hj => (hl1 _).trans (hfL w j hj))
  · have he2 : e < d + 1 := he
    by_cases ne : e = d
    · subst ne
      have y0 : tyo (tyO s p e a q x) e = tyn s := upF_at
      have y : tyr (tyO s p e a q x) (tyn s) = tyW s e a q 0 := upF_at
      rw [y0, y]
      exact hst
    · have z := h.2.1 e (by omega)
      have z2 := (hg.2.1 e (by omega)).1
      have y0 : tyo (tyO s p d a q x) e = tyo s e := upF_ne ne
      have y : tyr (tyO s p d a q x) (tyo s e) = tyr s (tyo s e) := upF_ne (by omega)
      rw [y0, y]
      exact ⟨(hst2 e ne).1.trans z.1, (hst2 e ne).2.trans z.2⟩
  · have hr : tVr c n b k (tyW s d a q 0) (tyn s) (tyk s) I1 L1 := tVr_v ha8 (show tyW s d a q 0 0 = a_ from ha) rfl rfl ⟨(h1 w).1.trans ha, (h1 w).2⟩ (hvs w) (hL w) (h5 w)
    exact tVr_fr hr (Int.le_refl _) ⟨hf1 _ _ (by omega) (by omega), hf1 _ _ (by omega) (by omega), hf1 _ _ (by omega) (by omega), hf1 _ _ (by omega) (by omega)⟩ (fun w _ => hl1 _) (fun w _ => hf1 _ _ (by omega) (by omega)) (fun t _ => hf1 _ _ (by omega) (by omega)) (fun t _ => hf1 _ _ (by omega) (by omega)) (fun q w _ => tOl_b q)
theorem zVO_U {k : Nat} {c : Nat → Int} {n b : Nat} {mk : Int} {s : TyS} {I L I' L' : ZI} (h : zVO k c n b mk s I L) (hg : tyg c n b s) {p d q e : Nat} (hqe : q ≤ e) (hn : tyn s ≠ 0)
    (h17 : I' k 17 = tyn s + 1) (hk : zVK k c q (tyk s) e mk (tyn s) I') (h16 : I' k 16 = I k 16) (hst2 : ∀ e, I' (k + 10) e = I (k + 10) e ∧ I' (k + 11) e = I (k + 11) e)
    (h1 : mk = 1 → I' (k + 2) (tyn s) = 9 ∧ I' (k + 3) (tyn s) = tyy s d) (h7 : mk = 1 → I' (k + 7) (tyn s) = tyk s) (hL : mk = 1 → ∀ w, w < 5 → L' (k + 4) (5 * tyn s + w) = tN1 9 w)
    (hf : mk = 1 → ∀ x j : Nat, (x = k + 2 ∨ x = k + 3 ∨ x = k + 7 ∨ x = k + 8) → j < tyn s → I' x j = I x j) (hf5 : mk = 1 → ∀ j : Nat, j < 2 * tyn s → I' (k + 5) j = I (k + 5) j) (hf6 : mk = 1 → ∀ j : Nat, j < 80 * tyn s → I' (k + 6) j = I (k + 6) j) (hf9 : mk = 1 → ∀ j : Nat, j < tyk s → I' (k + 9) j = I (k + 9) j) (hfL : mk = 1 → ∀ j : Nat, j < 5 * tyn s → L' (k + 4) j = L (k + 4) j) : zVO k c n b mk (tyU s p d q e) I' L' := by
  refine zVO_up h rfl rfl (Nat.le_add_right _ _) h17 ?_ (h16.trans (h.1.2.2 hn)) (fun e' he => ?_) (fun w => ?_) hf hf5 hf6 hf9 hfL
  · rw [hk.1]
    show _ = ((tyk s + (e - q) : Nat) : Int)
    omega
  · have he2 : e' < tyd s := he
    have z := h.2.1 e' he2
    have z2 := (hg.2.1 e' he2).1
    have y : tyr (tyU s p d q e) (tyo (tyU s p d q e) e') = tyr s (tyo s e') := upF_ne (show tyo s e' ≠ tyn s by omega)
    rw [y]
    exact ⟨(hst2 e').1.trans z.1, (hst2 e').2.trans z.2⟩
  · exact tVr_u (q := q) (e := e) (kf := tyk s) rfl rfl rfl hqe (h1 w) (h7 w) (by show _ ≤ ((tyk s + (e - q) : Nat) : Int); omega) (hL w) (hk.2 w).1 (hk.2 w).2
theorem zVO_C {k : Nat} {c : Nat → Int} {n b : Nat} {mk : Int} {s : TyS} {I L : ZI} (h : zVO k c n b mk s I L) {p : Nat} : zVO k c n b mk (tyC s p) I L := ⟨h.1, fun d hd => h.2.1 d (by have hd2 : d < tyd s - 1 := hd; omega), h.2.2⟩
theorem zVO_0 {k : Nat} {c : Nat → Int} {n b : Nat} {mk : Int} {I L : ZI} (h17 : I k 17 = 0) (h22 : I k 22 = 0) : zVO k c n b mk ty0 I L := ⟨⟨h17, h22, fun w => absurd rfl w⟩, fun d hd => absurd hd (Nat.not_lt_zero d), fun _ j hj => absurd hj (Nat.not_lt_zero j)⟩
theorem tyy_p {s : TyS} {d : Nat} (h : d ≠ 0) : tyz s d = tyr s (tyo s (d - 1)) 0 ∧ tyy s d = tyo s (d - 1) := ⟨if_neg h, if_neg h⟩
/-- the state at the end, in the reference's memory -/
def zVF (k : Nat) (c : Nat → Int) (n b : Nat) (mk : Int) (I L : ZI) : Prop := ∃ t, tRe c n b t ∧ tyE n b t ∧ I k 18 = tyZ c n b t ∧ (tyZ c n b t = -1 → zVO k c n b mk t I L)
