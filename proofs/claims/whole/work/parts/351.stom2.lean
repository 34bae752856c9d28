/-! stom2 -/
def T_B_sweep : ZT := fun args I L R S Q => ∃ (g : Nat → Int) (m : Nat) (s : StS) (z : Nat), args = [zvr 268] ∧ (zSh S) ∧ (zRs R) ∧ (zML g m s z 0 I) ∧ (z < 400) ∧ ∀ (v : Int) (I' : ZI), (v = stSwN s (sB s)) → (zML (lg2 g z 5 (-1)) (m + 1) (stSwp s) (z + 1) 0 I') → (∀ c j : Nat, ¬ c = 274 → ¬ c = 275 → ¬ c = 276 → ¬ c = 277 → ¬ c = 278 → ¬ c = 279 → ¬ (c = 268 ∧ j = 11) → ¬ (c = 268 ∧ j = 15) → ¬ (c = 268 ∧ j = 20) → ¬ (c = 268 ∧ j = 19) → ¬ (c = 268 ∧ j = 0) → ¬ c = 270 → ¬ (c = 268 ∧ j = 5) → I' c j = I c j) → Q (some (zvi (v))) I' L R S
theorem sn_B_sweep : ZSnd 6 13 13 T_B_sweep := ZSnd.of (zT13_13 5) (by
  rintro args I L R S Q hz ⟨g, m, s, z, rfl, hS, hR, hML, hz4, hQ⟩
  obtain ⟨hzl, hcr, hlg, ⟨hc1, hsm, hLg⟩, h6⟩ := id hML
  have hz40 := hLg.2.2.1
  have hGm := stN_G hLg.1
  have hG9 : stG (stN g m).1 s := by rw [hsm]; exact hGm.1
  have he9 : (stN g m).1 = z := h6 rfl
  have hsn := stSwN_le s (sB s)
  have hsb9 := hG9.1
  refine And.intro rfl ?_
  refine And.intro (zA_268 hS) (Exists.intro _ (And.intro (zinl_ok (zT13_8 4)) (And.intro rfl ?_)))
  refine And.intro (zA_268 hS) (zrd (v := 0) hcr ?_)
  refine And.intro (zRb rfl) (zbt rfl ?_)
  refine And.intro (zA_268 hS) ⟨_, (zWi (zRb rfl)), ?_⟩
  refine And.intro (zA_268 hS) (zrd (v := 0) hcr ?_)
  refine And.intro (zRb rfl) (zbf rfl ?_)
  refine And.intro (zA_268 hS) ⟨_, sn_B_walk.up (by decide), ?_⟩
  refine ⟨g, m, s, z, rfl, hS, hR, hzl, (by first | exact hlg | exact (fun j h1 => (zxu (by omega) rfl).trans (hlg j h1)) | (clear hQ; grind [xu])), hsm, hLg, ?_⟩
  intro I24_2o p24_2hST2 p24_2bhMF2 p24_2bbhe2 p24_2bbbhG2 p24_2bbbbfr
  refine And.intro (zA_268 hS) (zrd (v := 0) ((p24_2bbbbfr 268 2 (by omega) (by omega) (by omega) (by omega) (by omega) (by omega) (by omega) (by omega) (by omega) (by omega)).trans hcr) ?_)
  refine And.intro (zRb rfl) (zbf rfl ?_)
  refine And.intro (Or.inr rfl) ?_
  refine And.intro (zRb rfl) (zbf rfl ?_)
  refine And.intro (zA_268 hS) (zrd (v := z) ((p24_2bbbbfr 268 5 (by omega) (by omega) (by omega) (by omega) (by omega) (by omega) (by omega) (by omega) (by omega) (by omega)).trans hzl) ?_)
  refine And.intro ⟨(by omega), (zRb rfl)⟩ ⟨fun h15 => ?_, (fun h15 => False.elim (by omega))⟩
  refine And.intro (zA_268 hS) ⟨_, sn_B_swp.up (by decide), ?_⟩
  refine ⟨s, (stN g m).1, rfl, hS, hR, hG9, p24_2hST2, ?_⟩
  intro I21o p21hST2 p21bhv p21bbfr
  refine And.intro (zA_268 hS) (zrd (v := (stSwN s (sB s))) p21bhv ?_)
  refine And.intro (zA_268 hS) (Exists.intro _ (And.intro (zinl_ok (zT13_18 4)) (And.intro rfl ?_)))
  refine And.intro (zA_268 hS) (zrdR (v := some 270) (zR_268_6 hR) ?_)
  refine And.intro (zA_268 hS) (zrd (v := z) ((p21bbfr 268 5 (by omega) (by omega)).trans ((p24_2bbbbfr 268 5 (by omega) (by omega) (by omega) (by omega) (by omega) (by omega) (by omega) (by omega) (by omega) (by omega)).trans hzl)) ?_)
  refine And.intro ⟨(zx0 rfl), (zP_270 hS (by omega) (by omega))⟩ ⟨_, (zWi (zRb rfl)), ?_⟩
  refine And.intro (zA_268 hS) (zrd (v := z) ((p21bbfr 268 5 (by omega) (by omega)).trans ((p24_2bbbbfr 268 5 (by omega) (by omega) (by omega) (by omega) (by omega) (by omega) (by omega) (by omega) (by omega) (by omega)).trans hzl)) ?_)
  refine And.intro (zA_268 hS) ⟨_, (zWi (by omega)), ?_⟩
  refine hQ _ _ (by omega) ?_ (fun c j h0 h1 h2 h3 h4 h5 h6 h7 h8 h9 h10 h11 h12 => (zxcj h12 (zxu h11 ((p21bbfr c j (by omega) (by omega)).trans ((p24_2bbbbfr c j (by omega) (by omega) (by omega) (by omega) (by omega) (by omega) (by omega) (by omega) (by omega) (by omega)).trans (zxcj h10 rfl))))))
  · have e5 : lg2 g z 5 (-1) z = 5 := lg2_at
    have eS : stSz (lg2 g z 5 (-1)) z = 1 := stSz_3 (Or.inr e5)
    rw [← stAct_5 (s := s) e5]
    refine zML_add hML lg2_lo ⟨by rw [eS]; omega, Or.inr (Or.inr (Or.inr (Or.inr e5)))⟩ (by rw [eS]) rfl (zxcj (by omega) (zxcj (by omega) ((p21bbfr 268 _ (by omega) (by omega)).trans ((p24_2bbbbfr 268 _ (by omega) (by omega) (by omega) (by omega) (by omega) (by omega) (by omega) (by omega) (by omega) (by omega)).trans (zxcj (by omega) rfl))))) (fun j hj => ?_)
    unfold lg2
    by_cases e : j = z
    · subst e
      rw [if_pos rfl]
      exact zxu (by decide) zxe
    · rw [if_neg e, if_neg (by omega)]
      exact zxu (by decide) (zxs (by omega) ((p21bbfr 270 j (by omega) (by omega)).trans ((p24_2bbbbfr 270 j (by omega) (by omega) (by omega) (by omega) (by omega) (by omega) (by omega) (by omega) (by omega) (by omega)).trans (hlg j hj)))))
def T_B_vers : ZT := fun args I L R S Q => ∃ (g : Nat → Int) (m : Nat) (s : StS) (z : Nat), args = [zvr 268] ∧ (zSh S) ∧ (zRs R) ∧ (zML g m s z 0 I) ∧ (z < 400) ∧ (sV s < 12) ∧ ∀ (v : Int) (I' : ZI), (v = sV s) → (zML (lg2 g z 3 (-1)) (m + 1) (stClo s) (z + 1) 0 I') → (∀ c j : Nat, ¬ c = 274 → ¬ c = 275 → ¬ c = 276 → ¬ c = 277 → ¬ c = 278 → ¬ c = 279 → ¬ (c = 268 ∧ j = 11) → ¬ (c = 268 ∧ j = 15) → ¬ (c = 268 ∧ j = 20) → ¬ (c = 268 ∧ j = 19) → ¬ (c = 268 ∧ j = 0) → ¬ c = 270 → ¬ (c = 268 ∧ j = 5) → I' c j = I c j) → Q (some (zvi (v))) I' L R S
theorem sn_B_vers : ZSnd 6 13 16 T_B_vers := ZSnd.of (zT13_16 5) (by
  rintro args I L R S Q hz ⟨g, m, s, z, rfl, hS, hR, hML, hz4, hv12, hQ⟩
  obtain ⟨hzl, hcr, hlg, ⟨hc1, hsm, hLg⟩, h6⟩ := id hML
  have hz40 := hLg.2.2.1
  have hGm := stN_G hLg.1
  have hG9 : stG (stN g m).1 s := by rw [hsm]; exact hGm.1
  have he9 : (stN g m).1 = z := h6 rfl
  refine And.intro rfl ?_
  refine And.intro (zA_268 hS) (Exists.intro _ (And.intro (zinl_ok (zT13_8 4)) (And.intro rfl ?_)))
  refine And.intro (zA_268 hS) (zrd (v := 0) hcr ?_)
  refine And.intro (zRb rfl) (zbt rfl ?_)
  refine And.intro (zA_268 hS) ⟨_, (zWi (zRb rfl)), ?_⟩
  refine And.intro (zA_268 hS) (zrd (v := 0) hcr ?_)
  refine And.intro (zRb rfl) (zbf rfl ?_)
  refine And.intro (zA_268 hS) ⟨_, sn_B_walk.up (by decide), ?_⟩
  refine ⟨g, m, s, z, rfl, hS, hR, hzl, (by first | exact hlg | exact (fun j h1 => (zxu (by omega) rfl).trans (hlg j h1)) | (clear hQ; grind [xu])), hsm, hLg, ?_⟩
  intro I24_2o p24_2hST2 p24_2bhMF2 p24_2bbhe2 p24_2bbbhG2 p24_2bbbbfr
  have g24_2 : I24_2o 268 15 = sV s := p24_2hST2.2.1
  refine And.intro (zA_268 hS) (zrd (v := 0) ((p24_2bbbbfr 268 2 (by omega) (by omega) (by omega) (by omega) (by omega) (by omega) (by omega) (by omega) (by omega) (by omega)).trans hcr) ?_)
  refine And.intro (zRb rfl) (zbf rfl ?_)
  refine And.intro (Or.inr rfl) ?_
  refine And.intro (zRb rfl) (zbt rfl ?_)
  refine And.intro (zA_268 hS) (fun v11 e11 r11 => ?_)
  have f11 : v11 = sV s := (e11.trans p24_2hST2.2.1)
  refine And.intro ⟨r11, (zRb rfl)⟩ ⟨(fun h16 => False.elim (by omega)), fun h16 => ?_⟩
  refine And.intro (zA_268 hS) (zrd (v := z) ((p24_2bbbbfr 268 5 (by omega) (by omega) (by omega) (by omega) (by omega) (by omega) (by omega) (by omega) (by omega) (by omega)).trans hzl) ?_)
  refine And.intro ⟨(by omega), (zRb rfl)⟩ ⟨fun h26 => ?_, (fun h26 => False.elim (by omega))⟩
  refine And.intro (zA_268 hS) (Exists.intro _ (And.intro (zinl_ok (zT13_18 4)) (And.intro rfl ?_)))
  refine And.intro (zA_268 hS) (zrdR (v := some 270) (zR_268_6 hR) ?_)
  refine And.intro (zA_268 hS) (zrd (v := z) ((p24_2bbbbfr 268 5 (by omega) (by omega) (by omega) (by omega) (by omega) (by omega) (by omega) (by omega) (by omega) (by omega)).trans hzl) ?_)
  refine And.intro ⟨(zx0 rfl), (zP_270 hS (by omega) (by omega))⟩ ⟨_, (zWi (zRb rfl)), ?_⟩
  refine And.intro (zA_268 hS) (zrd (v := z) ((p24_2bbbbfr 268 5 (by omega) (by omega) (by omega) (by omega) (by omega) (by omega) (by omega) (by omega) (by omega) (by omega)).trans hzl) ?_)
  refine And.intro (zA_268 hS) ⟨_, (zWi (by omega)), ?_⟩
  refine And.intro (zA_268 hS) (fun v37 e37 r37 => ?_)
  have f37 : v37 = sV s := (e37.trans p24_2hST2.2.1)
  refine hQ _ _ (by omega) ?_ (fun c j h0 h1 h2 h3 h4 h5 h6 h7 h8 h9 h10 h11 h12 => (zxcj h12 (zxu h11 ((p24_2bbbbfr c j (by omega) (by omega) (by omega) (by omega) (by omega) (by omega) (by omega) (by omega) (by omega) (by omega)).trans (zxcj h10 rfl)))))
  · have e5 : lg2 g z 3 (-1) z = 3 := lg2_at
    have eS : stSz (lg2 g z 3 (-1)) z = 1 := stSz_3 (Or.inl e5)
    rw [← stAct_3 (s := s) e5]
    refine zML_add hML lg2_lo ⟨by rw [eS]; omega, Or.inr (Or.inr (Or.inl ⟨e5, hv12⟩))⟩ (by rw [eS]) rfl (zxcj (by omega) (zxcj (by omega) ((p24_2bbbbfr 268 _ (by omega) (by omega) (by omega) (by omega) (by omega) (by omega) (by omega) (by omega) (by omega) (by omega)).trans (zxcj (by omega) rfl)))) (fun j hj => ?_)
    unfold lg2
    by_cases e : j = z
    · subst e
      rw [if_pos rfl]
      exact zxu (by decide) zxe
    · rw [if_neg e, if_neg (by omega)]
      exact zxu (by decide) (zxs (by omega) ((p24_2bbbbfr 270 j (by omega) (by omega) (by omega) (by omega) (by omega) (by omega) (by omega) (by omega) (by omega) (by omega)).trans (hlg j hj))))
def T_B_drop : ZT := fun args I L R S Q => ∃ (g : Nat → Int) (m : Nat) (s : StS) (z : Nat) (e : Int), args = [zvr 268, zvi e] ∧ (zSh S) ∧ (zRs R) ∧ (zML g m s z 0 I) ∧ (0 ≤ e ∧ e < sV s) ∧ (sD s e.toNat = 0) ∧ ∀ (v : Int) (I' : ZI), ((v = 1 ∧ z + 2 ≤ 400) ∨ (v = 0 ∧ 400 < z + 2)) → (if z + 2 ≤ 400 then zML (lg2 g z 4 e) (m + 1) (stDrp e.toNat s) (z + 2) 0 I' else zML g m s z 0 I') → (∀ c j : Nat, ¬ c = 274 → ¬ c = 275 → ¬ c = 276 → ¬ c = 277 → ¬ c = 278 → ¬ c = 279 → ¬ (c = 268 ∧ j = 11) → ¬ (c = 268 ∧ j = 15) → ¬ (c = 268 ∧ j = 20) → ¬ (c = 268 ∧ j = 19) → ¬ (c = 268 ∧ j = 0) → ¬ c = 270 → ¬ (c = 268 ∧ j = 5) → I' c j = I c j) → Q (some (zvi (v))) I' L R S
theorem sn_B_drop : ZSnd 6 13 4 T_B_drop := ZSnd.of (zT13_4 5) (by
  rintro args I L R S Q hz ⟨g, m, s, z, e, rfl, hS, hR, hML, he, hd0, hQ⟩
  obtain ⟨hzl, hcr, hlg, ⟨hc1, hsm, hLg⟩, h6⟩ := id hML
  have hz40 := hLg.2.2.1
  have hGm := stN_G hLg.1
  have hG9 : stG (stN g m).1 s := by rw [hsm]; exact hGm.1
  have he9 : (stN g m).1 = z := h6 rfl
  have hv9 := hG9.2.1
  refine And.intro rfl ?_
  refine And.intro (zA_268 hS) (Exists.intro _ (And.intro (zinl_ok (zT13_8 4)) (And.intro rfl ?_)))
  refine And.intro (zA_268 hS) (zrd (v := 0) hcr ?_)
  refine And.intro (zRb rfl) (zbt rfl ?_)
  refine And.intro (zA_268 hS) ⟨_, (zWi (zRb rfl)), ?_⟩
  refine And.intro (zA_268 hS) (zrd (v := 0) hcr ?_)
  refine And.intro (zRb rfl) (zbf rfl ?_)
  refine And.intro (zA_268 hS) ⟨_, sn_B_walk.up (by decide), ?_⟩
  refine ⟨g, m, s, z, rfl, hS, hR, hzl, (by first | exact hlg | exact (fun j h1 => (zxu (by omega) rfl).trans (hlg j h1)) | (clear hQ; grind [xu])), hsm, hLg, ?_⟩
  intro I24_2o p24_2hST2 p24_2bhMF2 p24_2bbhe2 p24_2bbbhG2 p24_2bbbbfr
  refine And.intro (zA_268 hS) (zrd (v := 0) ((p24_2bbbbfr 268 2 (by omega) (by omega) (by omega) (by omega) (by omega) (by omega) (by omega) (by omega) (by omega) (by omega)).trans hcr) ?_)
  refine And.intro (zRb rfl) (zbf rfl ?_)
  refine And.intro (Or.inr rfl) ?_
  refine And.intro (zRb rfl) (zbt rfl ?_)
  refine And.intro (zA_268 hS) (Exists.intro _ (And.intro (zinl_ok (zT13_9 4)) (And.intro rfl ?_)))
  refine And.intro (by omega) ⟨(fun h1_13 => False.elim (by omega)), fun h1_13 => ?_⟩
  refine And.intro (zA_268 hS) (fun v6_13 e6_13 r6_13 => ?_)
  have f6_13 : v6_13 = sV s := (e6_13.trans p24_2hST2.2.1)
  refine And.intro ⟨(by omega), r6_13⟩ ⟨(fun h9_13 => False.elim (by omega)), fun h9_13 => ?_⟩
  refine And.intro (Or.inr rfl) ?_
  refine And.intro (zRb rfl) (zbf rfl ?_)
  refine And.intro (zA_268 hS) ⟨_, (zWi (zRb rfl)), ?_⟩
  refine And.intro (zA_268 hS) (zrd (v := 0) rfl ?_)
  refine And.intro (zRb rfl) (zbf rfl ?_)
  refine And.intro (zA_268 hS) (zrdR (v := some 279) (zR_268_18 hR) ?_)
  refine And.intro (Or.inr (zP_279 hS (by omega) (by omega))) (fun v39 e39 r39 => ?_)
  have f39 : v39 = sD s e.toNat := (e39.trans ((p24_2hST2.2.2.2 e.toNat (by omega)).2.1))
  have f39b : v39 = 0 := (by omega)
  refine And.intro r39 ⟨(fun h40 => False.elim (by omega)), fun h40 => ?_⟩
  refine And.intro (zA_268 hS) (zrd (v := z) ((p24_2bbbbfr 268 5 (by omega) (by omega) (by omega) (by omega) (by omega) (by omega) (by omega) (by omega) (by omega) (by omega)).trans hzl) ?_)
  refine And.intro ⟨(by omega), (zRb rfl)⟩ ⟨fun h52 => ?_, fun h52 => ?_⟩
  · refine And.intro (zA_268 hS) (Exists.intro _ (And.intro (zinl_ok (zT13_18 4)) (And.intro rfl ?_)))
    refine And.intro (zA_268 hS) (zrdR (v := some 270) (zR_268_6 hR) ?_)
    refine And.intro (zA_268 hS) (zrd (v := z) ((p24_2bbbbfr 268 5 (by omega) (by omega) (by omega) (by omega) (by omega) (by omega) (by omega) (by omega) (by omega) (by omega)).trans hzl) ?_)
    refine And.intro ⟨(zx0 rfl), (zP_270 hS (by omega) (by omega))⟩ ⟨_, (zWi (zRb rfl)), ?_⟩
    refine And.intro (zA_268 hS) (zrd (v := z) ((p24_2bbbbfr 268 5 (by omega) (by omega) (by omega) (by omega) (by omega) (by omega) (by omega) (by omega) (by omega) (by omega)).trans hzl) ?_)
    refine And.intro (zA_268 hS) ⟨_, (zWi (by omega)), ?_⟩
    refine And.intro (zA_268 hS) (Exists.intro _ (And.intro (zinl_ok (zT13_18 4)) (And.intro rfl ?_)))
    refine And.intro (zA_268 hS) (zrdR (v := some 270) (zR_268_6 hR) ?_)
    refine And.intro (zA_268 hS) (zrd (v := (z + 1)) rfl ?_)
    refine And.intro ⟨(zx0 rfl), (zP_270 hS (by omega) (by omega))⟩ ⟨_, (zWi (by omega)), ?_⟩
    refine And.intro (zA_268 hS) (zrd (v := (z + 1)) rfl ?_)
    refine And.intro (zA_268 hS) ⟨_, (zWi (by omega)), ?_⟩
    refine And.intro (Or.inr rfl) ?_
    refine hQ _ _ (by clear hQ; grind [xu]) ?_ (fun c j h0 h1 h2 h3 h4 h5 h6 h7 h8 h9 h10 h11 h12 => (zxcj h12 (zxu h11 (zxcj h12 (zxu h11 (zxcj h10 ((p24_2bbbbfr c j (by omega) (by omega) (by omega) (by omega) (by omega) (by omega) (by omega) (by omega) (by omega) (by omega)).trans (zxcj h10 rfl))))))))
    · first
      | (rw [if_neg (by omega)]
         exact zML_fr hML (fun c j h => (zxcj (by omega) ((p24_2bbbbfr c j (by omega) (by omega) (by omega) (by omega) (by omega) (by omega) (by omega) (by omega) (by omega) (by omega)).trans (zxcj (by omega) rfl)))))
      | (rw [if_pos (by omega)]
         have e5 : lg2 g z 4 e z = 4 := lg2_at
         have e6 : lg2 g z 4 e (z + 1) = e := lg2_at1 (by omega)
         have eS : stSz (lg2 g z 4 e) z = 2 := stSz_2 (Or.inr e5)
         have eA := stAct_4 (s := s) e5
         rw [e6] at eA
         rw [← eA]
         refine zML_add hML lg2_lo ⟨by rw [eS]; omega, Or.inr (Or.inr (Or.inr (Or.inl ⟨e5, by omega, by omega⟩)))⟩ (by rw [eS]) (show (z : Int) + 1 + 1 = ((z + 2 : Nat) : Int) by omega) (zxcj (by omega) (zxcj (by omega) (zxcj (by omega) (zxcj (by omega) (zxcj (by omega) ((p24_2bbbbfr 268 _ (by omega) (by omega) (by omega) (by omega) (by omega) (by omega) (by omega) (by omega) (by omega) (by omega)).trans (zxcj (by omega) rfl))))))) (fun j hj => ?_)
         unfold lg2
         by_cases e8 : j = z
         · subst e8
           rw [if_pos rfl]
           exact zxu (by decide) (zxs (by omega) (zxu (by decide) zxe))
         · rw [if_neg e8]
           by_cases e2 : j = z + 1 ∧ e ≠ -1
           · rw [if_pos e2, show j = ((z : Int) + 1).toNat by omega]
             exact zxu (by decide) zxe
           · rw [if_neg e2]
             exact zxu (by decide) (zxs (by omega) (zxu (by decide) (zxs (by omega) (zxu (by decide) ((p24_2bbbbfr 270 j (by omega) (by omega) (by omega) (by omega) (by omega) (by omega) (by omega) (by omega) (by omega) (by omega)).trans (hlg j hj)))))))
  · refine And.intro (Or.inl rfl) ?_
    refine hQ _ _ (by clear hQ; grind [xu]) ?_ (fun c j h0 h1 h2 h3 h4 h5 h6 h7 h8 h9 h10 h11 h12 => (zxcj h10 ((p24_2bbbbfr c j (by omega) (by omega) (by omega) (by omega) (by omega) (by omega) (by omega) (by omega) (by omega) (by omega)).trans (zxcj h10 rfl))))
    · first
      | (rw [if_neg (by omega)]
         exact zML_fr hML (fun c j h => (zxcj (by omega) ((p24_2bbbbfr c j (by omega) (by omega) (by omega) (by omega) (by omega) (by omega) (by omega) (by omega) (by omega) (by omega)).trans (zxcj (by omega) rfl)))))
      | (rw [if_pos (by omega)]
         have e5 : lg2 g z 4 e z = 4 := lg2_at
         have e6 : lg2 g z 4 e (z + 1) = e := lg2_at1 (by omega)
         have eS : stSz (lg2 g z 4 e) z = 2 := stSz_2 (Or.inr e5)
         have eA := stAct_4 (s := s) e5
         rw [e6] at eA
         rw [← eA]
         refine zML_add hML lg2_lo ⟨by rw [eS]; omega, Or.inr (Or.inr (Or.inr (Or.inl ⟨e5, by omega, by omega⟩)))⟩ (by rw [eS]) (show (z : Int) + 1 + 1 = ((z + 2 : Nat) : Int) by omega) (zxcj (by omega) ((p24_2bbbbfr 268 _ (by omega) (by omega) (by omega) (by omega) (by omega) (by omega) (by omega) (by omega) (by omega) (by omega)).trans (zxcj (by omega) rfl))) (fun j hj => ?_)
         unfold lg2
         by_cases e8 : j = z
         · subst e8
           rw [if_pos rfl]
           exact zxu (by decide) (zxs (by omega) (zxu (by decide) zxe))
         · rw [if_neg e8]
           by_cases e2 : j = z + 1 ∧ e ≠ -1
           · rw [if_pos e2, show j = ((z : Int) + 1).toNat by omega]
             exact zxu (by decide) zxe
           · rw [if_neg e2]
             exact zxu (by decide) (zxs (by omega) (zxu (by decide) (zxs (by omega) (zxu (by decide) ((p24_2bbbbfr 270 j (by omega) (by omega) (by omega) (by omega) (by omega) (by omega) (by omega) (by omega) (by omega) (by omega)).trans (hlg j hj))))))))
def T_B_crash : ZT := fun args I L R S Q => ∃ (g : Nat → Int) (m : Nat) (s : StS) (z : Nat) (k : Int), args = [zvr 268, zvi k] ∧ (zSh S) ∧ (zRs R) ∧ (zML g m s z 0 I) ∧ (0 ≤ k ∧ k ≤ z) ∧ ∀ (v : Int) (I' : ZI), (zex (fun m' => zML g m' (stN g m').2 k.toNat 1 I')) → (∀ c j : Nat, ¬ c = 274 → ¬ c = 275 → ¬ c = 276 → ¬ c = 277 → ¬ c = 278 → ¬ c = 279 → ¬ (c = 268 ∧ j = 11) → ¬ (c = 268 ∧ j = 15) → ¬ (c = 268 ∧ j = 20) → ¬ (c = 268 ∧ j = 19) → ¬ (c = 268 ∧ j = 0) → ¬ c = 270 → ¬ (c = 268 ∧ j = 5) → ¬ c = 273 → ¬ (c = 268 ∧ j = 2) → ¬ (c = 268 ∧ j = 3) → ¬ (c = 268 ∧ j = 7) → I' c j = I c j) → Q (some (zvi (v))) I' L R S
theorem sn_B_crash : ZSnd 6 13 3 T_B_crash := ZSnd.loops (zT13_3 5) (by
  rintro args I L R S Q hz ⟨g, m, s, z, k, rfl, hS, hR, hML, hk, hQ⟩
  obtain ⟨hzl, hcr, hlg, ⟨hc1, hsm, hLg⟩, h6⟩ := id hML
  have hz40 := hLg.2.2.1
  have hGm := stN_G hLg.1
  have hG9 : stG (stN g m).1 s := by rw [hsm]; exact hGm.1
  refine ⟨[71], fun nM tM lsM stM I1 L1 R1 S1 => match tM with
      | 71 => ∃ (u : Int) (x : Nat), nM = ((24 - x), 0, 0) ∧ lsM = [some (zvr (268)), some (zvi (k)), some (zvi (u)), some (zvi (x))] ∧ stM = [] ∧ L1 = L ∧ R1 = R ∧ S1 = S ∧ (x ≤ 24) ∧ (u = 0 ∨ u = 1) ∧ (I1 268 5 = k) ∧ (I1 268 0 = 0) ∧ (∀ c j : Nat, ¬ c = 274 → ¬ c = 275 → ¬ c = 276 → ¬ c = 277 → ¬ c = 278 → ¬ c = 279 → ¬ (c = 268 ∧ j = 11) → ¬ (c = 268 ∧ j = 15) → ¬ (c = 268 ∧ j = 20) → ¬ (c = 268 ∧ j = 19) → ¬ (c = 268 ∧ j = 0) → ¬ c = 270 → ¬ (c = 268 ∧ j = 5) → ¬ c = 273 → ¬ (c = 268 ∧ j = 3) → ¬ (c = 268 ∧ j = 7) → I1 c j = I c j) ∧ (∀ j : Nat, j < 400 → I1 270 j = g j)
      | _ => False, rfl, ?_, ⟨?_, True.intro⟩⟩
  · refine And.intro (zA_268 hS) (Exists.intro _ (And.intro (zinl_ok (zT13_8 4)) (And.intro rfl ?_)))
    refine And.intro (zA_268 hS) (zrd (v := 0) hcr ?_)
    refine And.intro (zRb rfl) (zbt rfl ?_)
    refine And.intro (zA_268 hS) ⟨_, (zWi (zRb rfl)), ?_⟩
    refine And.intro (zA_268 hS) (zrd (v := 0) hcr ?_)
    refine And.intro (zRb rfl) (zbf rfl ?_)
    refine And.intro (zA_268 hS) ⟨_, sn_B_walk.up (by decide), ?_⟩
    refine ⟨g, m, s, z, rfl, hS, hR, hzl, (by first | exact hlg | exact (fun j h1 => (zxu (by omega) rfl).trans (hlg j h1)) | (clear hQ; grind [xu])), hsm, hLg, ?_⟩
    intro I24_2o p24_2hST2 p24_2bhMF2 p24_2bbhe2 p24_2bbbhG2 p24_2bbbbfr
    refine And.intro (zA_268 hS) (zrd (v := 0) ((p24_2bbbbfr 268 2 (by omega) (by omega) (by omega) (by omega) (by omega) (by omega) (by omega) (by omega) (by omega) (by omega)).trans hcr) ?_)
    refine And.intro (zRb rfl) (zbf rfl ?_)
    refine And.intro (Or.inr rfl) ?_
    refine And.intro (zRb rfl) (zbt rfl ?_)
    refine And.intro (by omega) ⟨(fun h12 => False.elim (by omega)), fun h12 => ?_⟩
    refine And.intro (zA_268 hS) (zrd (v := z) ((p24_2bbbbfr 268 5 (by omega) (by omega) (by omega) (by omega) (by omega) (by omega) (by omega) (by omega) (by omega) (by omega)).trans hzl) ?_)
    refine And.intro ⟨(by omega), (by omega)⟩ ⟨(fun h20 => False.elim (by omega)), fun h20 => ?_⟩
    refine And.intro (zA_268 hS) ⟨_, (zWi (zRb rfl)), ?_⟩
    refine And.intro (zA_268 hS) (zrd (v := 0) rfl ?_)
    refine And.intro (zRb rfl) (zbt rfl ?_)
    refine And.intro (zA_268 hS) (zrd (v := z) ((p24_2bbbbfr 268 5 (by omega) (by omega) (by omega) (by omega) (by omega) (by omega) (by omega) (by omega) (by omega) (by omega)).trans hzl) ?_)
    refine And.intro ⟨(by omega), (by omega)⟩ ⟨fun h45 => ?_, fun h45 => ?_⟩
    · refine And.intro (zA_268 hS) ⟨_, (zWi (by omega)), ?_⟩
      refine And.intro (zA_268 hS) ⟨_, (zWi (zRb rfl)), ?_⟩
      refine And.intro (zA_268 hS) ⟨_, (zWi (zRb rfl)), ?_⟩
      refine ⟨((24 - (0 : Nat)), 0, 0), [some (zvr (268)), some (zvi (k)), some (zvi ((0 : Int))), some (zvi ((0 : Nat)))], ⟨rfl, rfl, rfl, rfl, rfl⟩, 0, 0, rfl, rfl, rfl, rfl, rfl, rfl, (by omega), (by first | exact Or.inl rfl | exact Or.inr rfl), rfl, rfl, (fun c j h0 h1 h2 h3 h4 h5 h6 h7 h8 h9 h10 h11 h12 h13 h14 h15 => (zxcj h15 (zxcj h14 (zxcj h12 (zxcj h10 ((p24_2bbbbfr c j (by omega) (by omega) (by omega) (by omega) (by omega) (by omega) (by omega) (by omega) (by omega) (by omega)).trans (zxcj h10 rfl))))))), (fun j hj => (zxcj (by omega) (zxcj (by omega) (zxcj (by omega) (zxcj (by omega) ((p24_2bbbbfr 270 _ (by omega) (by omega) (by omega) (by omega) (by omega) (by omega) (by omega) (by omega) (by omega) (by omega)).trans (zxcj (by omega) rfl)))))).trans (hlg j hj))⟩
    · refine And.intro (zA_268 hS) ⟨_, (zWi (by omega)), ?_⟩
      refine And.intro (zA_268 hS) ⟨_, (zWi (zRb rfl)), ?_⟩
      refine And.intro (zA_268 hS) ⟨_, (zWi (zRb rfl)), ?_⟩
      refine ⟨((24 - (0 : Nat)), 0, 0), [some (zvr (268)), some (zvi (k)), some (zvi ((1 : Int))), some (zvi ((0 : Nat)))], ⟨rfl, rfl, rfl, rfl, rfl⟩, 1, 0, rfl, rfl, rfl, rfl, rfl, rfl, (by omega), (by first | exact Or.inl rfl | exact Or.inr rfl), rfl, rfl, (fun c j h0 h1 h2 h3 h4 h5 h6 h7 h8 h9 h10 h11 h12 h13 h14 h15 => (zxcj h15 (zxcj h14 (zxcj h12 (zxcj h10 ((p24_2bbbbfr c j (by omega) (by omega) (by omega) (by omega) (by omega) (by omega) (by omega) (by omega) (by omega) (by omega)).trans (zxcj h10 rfl))))))), (fun j hj => (zxcj (by omega) (zxcj (by omega) (zxcj (by omega) (zxcj (by omega) ((p24_2bbbbfr 270 _ (by omega) (by omega) (by omega) (by omega) (by omega) (by omega) (by omega) (by omega) (by omega) (by omega)).trans (zxcj (by omega) rfl)))))).trans (hlg j hj))⟩
  · rintro nM lsM stM I1 L1 R1 S1 hz1 ⟨u, x, rfl, rfl, rfl, rfl, rfl, rfl, hx, hu, hkz, hth9, fr, hlg9⟩
    refine And.intro ⟨(by omega), (zRb rfl)⟩ ⟨fun h74 => ?_, fun h74 => ?_⟩
    · refine And.intro ⟨(zA_268 hS), (Or.inr rfl)⟩ ?_
      refine And.intro (by omega) ?_
      refine hQ _ _ ?_ (fun c j h0 h1 h2 h3 h4 h5 h6 h7 h8 h9 h10 h11 h12 h13 h14 h15 h16 => (zxcj h14 ((fr c j (by omega) (by omega) (by omega) (by omega) (by omega) (by omega) (by omega) (by omega) (by omega) (by omega) (by omega) (by omega) (by omega) (by omega) (by omega) (by omega)).trans rfl)))
      · obtain ⟨q, hq⟩ := stLg_cut (z' := k.toNat) hLg (by omega)
        exact Exists.intro q ⟨(show I1 268 5 = ((k.toNat : Nat) : Int) by omega), rfl, hlg9, ⟨Nat.le_refl _, rfl, hq⟩, fun h => absurd h (by decide)⟩
    · refine And.intro (zA_268 hS) (zrdR (v := some 273) (zR_268_10 hR) ?_)
      refine And.intro ⟨(zx0 rfl), Or.inr ⟨(zP_273 hS (by omega) (by omega)), (Or.inl rfl)⟩⟩ ?_
      refine ⟨((24 - (x + 1)), 0, 0), zlt6 (by omega), [some (zvr (268)), some (zvi (k)), some (zvi (u)), some (zvi ((x + 1)))], ⟨rfl, rfl, rfl, rfl, rfl⟩, u, (x + 1), rfl, rfl, rfl, rfl, rfl, rfl, (by omega), (by first | exact hu | (clear hQ; grind [xu])), hkz, hth9, (fun c j h0 h1 h2 h3 h4 h5 h6 h7 h8 h9 h10 h11 h12 h13 h14 h15 => (zxu h13 ((fr c j (by omega) (by omega) (by omega) (by omega) (by omega) (by omega) (by omega) (by omega) (by omega) (by omega) (by omega) (by omega) (by omega) (by omega) (by omega) (by omega)).trans rfl))), (by first | exact hlg | exact (fun j h1 => (zxu (by omega) ((fr 270 _ (by omega) (by omega) (by omega) (by omega) (by omega) (by omega) (by omega) (by omega) (by omega) (by omega) (by omega) (by omega) (by omega) (by omega) (by omega) (by omega)).trans rfl)).trans (hlg j h1)) | exact hlg9 | exact (fun j h1 => (zxu (by omega) rfl).trans (hlg9 j h1)) | (clear hQ; grind [xu]))⟩)
def T_B_out : ZT := fun args I L R S Q => ∃ (g : Nat → Int) (m : Nat) (s : StS) (z : Nat) (cr : Nat) (e : Int) (i : Int), args = [zvr 268, zvi e, zvi i] ∧ (zSh S) ∧ (zRs R) ∧ (zML g m s z cr I) ∧ (r32 e ∧ r32 i) ∧ ∀ (v : Int) (I' : ZI), ((I' 268 0 = 0 ∧ v = stQ g s cr e i) ∨ (¬ I' 268 0 = 0 ∧ stQ g s cr e i = -1)) → (∀ c j : Nat, ¬ c = 274 → ¬ c = 275 → ¬ c = 276 → ¬ c = 277 → ¬ c = 278 → ¬ c = 279 → ¬ (c = 268 ∧ j = 11) → ¬ (c = 268 ∧ j = 15) → ¬ (c = 268 ∧ j = 20) → ¬ (c = 268 ∧ j = 19) → ¬ (c = 268 ∧ j = 0) → I' c j = I c j) → Q (some (zvi (v))) I' L R S
theorem sn_B_out : ZSnd 6 13 10 T_B_out := ZSnd.loops (zT13_10 5) (by
  rintro args I L R S Q hz ⟨g, m, s, z, cr, e, i, rfl, hS, hR, hML, re, hQ⟩
  obtain ⟨hzl, hcr, hlg, ⟨hc1, hsm, hLg⟩, h6⟩ := id hML
  have hz40 := hLg.2.2.1
  have hGm := stN_G hLg.1
  have hG9 : stG (stN g m).1 s := by rw [hsm]; exact hGm.1
  have hv9 := hG9.2.1
  refine ⟨[45], fun nM tM lsM stM I1 L1 R1 S1 => match tM with
      | 45 => ∃ (x : Int) (k : Nat) (q : Nat), nM = ((9 - k), 0, 0) ∧ lsM = [some (zvr (268)), some (zvi (q)), some (zvi (i)), some (zvi (x)), some (zvi (k)), none] ∧ stM = [] ∧ L1 = L ∧ R1 = R ∧ S1 = S ∧ (cr = 0) ∧ (e = q ∧ 0 ≤ i) ∧ (q ≤ sV s) ∧ (q < sV s) ∧ (k ≤ sC s q) ∧ (0 ≤ x ∧ x ≤ i) ∧ (stQ g s cr e i = stOut g s q (sC s q - k) k x) ∧ (zMS s I1) ∧ (zMF s I1) ∧ (∀ j : Nat, j < 400 → I1 270 j = g j) ∧ (I1 268 0 = 0) ∧ (∀ c j : Nat, ¬ c = 274 → ¬ c = 275 → ¬ c = 276 → ¬ c = 277 → ¬ c = 278 → ¬ c = 279 → ¬ (c = 268 ∧ j = 11) → ¬ (c = 268 ∧ j = 15) → ¬ (c = 268 ∧ j = 20) → ¬ (c = 268 ∧ j = 19) → ¬ (c = 268 ∧ j = 0) → I1 c j = I c j)
      | _ => False, rfl, ?_, ⟨?_, True.intro⟩⟩
  · refine And.intro (zA_268 hS) (Exists.intro _ (And.intro (zinl_ok (zT13_8 4)) (And.intro rfl ?_)))
    refine And.intro (zA_268 hS) (zrd (v := cr) hcr ?_)
    refine And.intro (by omega) ⟨fun h5_2 => ?_, fun h5_2 => ?_⟩
    · refine And.intro (zA_268 hS) ⟨_, (zWi (zRb rfl)), ?_⟩
      refine And.intro (zA_268 hS) (zrd (v := cr) hcr ?_)
      refine And.intro (by omega) ⟨(fun h20_2 => False.elim (by omega)), fun h20_2 => ?_⟩
      refine And.intro (zA_268 hS) ⟨_, sn_B_walk.up (by decide), ?_⟩
      refine ⟨g, m, s, z, rfl, hS, hR, hzl, (by first | exact hlg | exact (fun j h1 => (zxu (by omega) rfl).trans (hlg j h1)) | (clear hQ; grind [xu])), hsm, hLg, ?_⟩
      intro I24_2o p24_2hST2 p24_2bhMF2 p24_2bbhe2 p24_2bbbhG2 p24_2bbbbfr
      refine And.intro (zA_268 hS) (zrd (v := cr) ((p24_2bbbbfr 268 2 (by omega) (by omega) (by omega) (by omega) (by omega) (by omega) (by omega) (by omega) (by omega) (by omega)).trans hcr) ?_)
      refine And.intro (by omega) ⟨(fun h31_2 => False.elim (by omega)), fun h31_2 => ?_⟩
      refine And.intro (Or.inr rfl) ?_
      refine And.intro (zRb rfl) (zbt rfl ?_)
      refine And.intro (zA_268 hS) (Exists.intro _ (And.intro (zinl_ok (zT13_9 4)) (And.intro rfl ?_)))
      refine And.intro (by omega) ⟨fun h1_13 => ?_, fun h1_13 => ?_⟩
      · refine And.intro (Or.inl rfl) ?_
        refine And.intro (zRb rfl) (zbt rfl ?_)
        refine And.intro (zA_268 hS) ⟨_, (zWi (zRb rfl)), ?_⟩
        refine And.intro (zA_268 hS) (zrd (v := 1) rfl ?_)
        refine And.intro (zRb rfl) (zbf rfl ?_)
        refine hQ _ _ ?_ (fun c j h0 h1 h2 h3 h4 h5 h6 h7 h8 h9 h10 => (zxcj h10 ((p24_2bbbbfr c j (by omega) (by omega) (by omega) (by omega) (by omega) (by omega) (by omega) (by omega) (by omega) (by omega)).trans (zxcj h10 rfl))))
        · first
          | (refine Or.inl ⟨hth, (hQ9.trans ?_).symm⟩
             rw [show sC s q - k = sC s q - (k + 1) + 1 by omega]
             refine (if_pos (by omega)).trans ?_
             exact f94.symm)
          | (refine Or.inl ⟨hth, (hQ9.trans ?_).symm⟩
             rw [show sC s q - k = 0 by omega]
             rfl)
          | (refine Or.inr ⟨?_, ?_⟩
             · first
               | (show ¬ (1 : Int) = 0; decide)
               | (show ¬ (2 : Int) = 0; decide)
             · unfold stQ
               rw [if_neg (by omega)])
      · refine And.intro (zA_268 hS) (fun v6_13 e6_13 r6_13 => ?_)
        have f6_13 : v6_13 = sV s := (e6_13.trans p24_2hST2.2.1)
        refine And.intro ⟨(by omega), r6_13⟩ ⟨fun h9_13 => ?_, fun h9_13 => ?_⟩
        · refine And.intro (Or.inl rfl) ?_
          refine And.intro (zRb rfl) (zbt rfl ?_)
          refine And.intro (zA_268 hS) ⟨_, (zWi (zRb rfl)), ?_⟩
          refine And.intro (zA_268 hS) (zrd (v := 1) rfl ?_)
          refine And.intro (zRb rfl) (zbf rfl ?_)
          refine hQ _ _ ?_ (fun c j h0 h1 h2 h3 h4 h5 h6 h7 h8 h9 h10 => (zxcj h10 ((p24_2bbbbfr c j (by omega) (by omega) (by omega) (by omega) (by omega) (by omega) (by omega) (by omega) (by omega) (by omega)).trans (zxcj h10 rfl))))
          · first
            | (refine Or.inl ⟨hth, (hQ9.trans ?_).symm⟩
               rw [show sC s q - k = sC s q - (k + 1) + 1 by omega]
               refine (if_pos (by omega)).trans ?_
               exact f94.symm)
            | (refine Or.inl ⟨hth, (hQ9.trans ?_).symm⟩
               rw [show sC s q - k = 0 by omega]
               rfl)
            | (refine Or.inr ⟨?_, ?_⟩
               · first
                 | (show ¬ (1 : Int) = 0; decide)
                 | (show ¬ (2 : Int) = 0; decide)
               · unfold stQ
                 rw [if_neg (by omega)])
        · refine And.intro (Or.inr rfl) ?_
          refine And.intro (zRb rfl) (zbf rfl ?_)
          refine And.intro (by omega) ⟨fun h20 => ?_, fun h20 => ?_⟩
          · refine And.intro (zA_268 hS) ⟨_, (zWi (zRb rfl)), ?_⟩
            refine And.intro (zA_268 hS) (zrd (v := 1) rfl ?_)
            refine And.intro (zRb rfl) (zbf rfl ?_)
            refine hQ _ _ ?_ (fun c j h0 h1 h2 h3 h4 h5 h6 h7 h8 h9 h10 => (zxcj h10 ((p24_2bbbbfr c j (by omega) (by omega) (by omega) (by omega) (by omega) (by omega) (by omega) (by omega) (by omega) (by omega)).trans (zxcj h10 rfl))))
            · first
              | (refine Or.inl ⟨hth, (hQ9.trans ?_).symm⟩
                 rw [show sC s q - k = sC s q - (k + 1) + 1 by omega]
                 refine (if_pos (by omega)).trans ?_
                 exact f94.symm)
              | (refine Or.inl ⟨hth, (hQ9.trans ?_).symm⟩
                 rw [show sC s q - k = 0 by omega]
                 rfl)
              | (refine Or.inr ⟨?_, ?_⟩
                 · first
                   | (show ¬ (1 : Int) = 0; decide)
                   | (show ¬ (2 : Int) = 0; decide)
                 · unfold stQ
                   rw [if_neg (by omega)])
          · refine And.intro (zA_268 hS) ⟨_, (zWi (zRb rfl)), ?_⟩
            refine And.intro (zA_268 hS) (zrd (v := 0) rfl ?_)
            refine And.intro (zRb rfl) (zbt rfl ?_)
            refine ⟨((9 - (0 : Nat)), 0, 0), [some (zvr (268)), some (zvi (e.toNat)), some (zvi (i)), some (zvi (i)), some (zvi ((0 : Nat))), none], ⟨rfl, (congrArg (fun z => some (zvi z)) (by omega)), rfl, rfl, rfl, rfl⟩, i, 0, e.toNat, rfl, rfl, rfl, rfl, rfl, rfl, (by omega), (by omega), (by omega), (by omega), (by omega), (by omega), ?_, (zMS_fr p24_2hST2 (fun c j h => zxcj (by omega) rfl)), (zMF_fr p24_2bhMF2 (fun c j h => zxcj (by omega) rfl)), (fun j hj => (zxcj (by omega) ((p24_2bbbbfr 270 _ (by omega) (by omega) (by omega) (by omega) (by omega) (by omega) (by omega) (by omega) (by omega) (by omega)).trans (zxcj (by omega) rfl))).trans (hlg j hj)), rfl, (fun c j h0 h1 h2 h3 h4 h5 h6 h7 h8 h9 h10 => (zxcj h10 ((p24_2bbbbfr c j (by omega) (by omega) (by omega) (by omega) (by omega) (by omega) (by omega) (by omega) (by omega) (by omega)).trans (zxcj h10 rfl))))⟩
            · unfold stQ
              rw [if_pos (by omega), Nat.sub_zero]
    · refine And.intro (zA_268 hS) ⟨_, (zWi (zRb rfl)), ?_⟩
      refine And.intro (zA_268 hS) (zrd (v := cr) hcr ?_)
      refine And.intro (by omega) ⟨fun h20_2 => ?_, (fun h20_2 => False.elim (by omega))⟩
      refine And.intro (zA_268 hS) (zrd (v := cr) hcr ?_)
      refine And.intro (by omega) ⟨fun h31_2 => ?_, (fun h31_2 => False.elim (by omega))⟩
      refine And.intro (Or.inl rfl) ?_
      refine And.intro (zRb rfl) (zbf rfl ?_)
      refine hQ _ _ ?_ (fun c j h0 h1 h2 h3 h4 h5 h6 h7 h8 h9 h10 => (zxcj h10 rfl))
      · first
        | (refine Or.inl ⟨hth, (hQ9.trans ?_).symm⟩
           rw [show sC s q - k = sC s q - (k + 1) + 1 by omega]
           refine (if_pos (by omega)).trans ?_
           exact f94.symm)
        | (refine Or.inl ⟨hth, (hQ9.trans ?_).symm⟩
           rw [show sC s q - k = 0 by omega]
           rfl)
        | (refine Or.inr ⟨?_, ?_⟩
           · first
             | (show ¬ (1 : Int) = 0; decide)
             | (show ¬ (2 : Int) = 0; decide)
           · unfold stQ
             rw [if_neg (by omega)])
  · rintro nM lsM stM I1 L1 R1 S1 hz1 ⟨x, k, q, rfl, rfl, rfl, rfl, rfl, rfl, hcr0, hq0, hq, hq9, hk, hx, hQ9, hST, hMF, hlg9, hth, fr⟩
    have gq := hG9.2.2.1 q hq
    have sq := hST.2.2.2 q hq
    have gb9 := hG9.1
    refine And.intro (zA_268 hS) (zrdR (v := some 277) (zR_268_16 hR) ?_)
    refine And.intro (zP_277 hS (by omega) (by omega)) (fun v52 e52 r52 => ?_)
    have f52 : v52 = sC s q := (e52.trans sq.1)
    have f52b : v52 ≤ 8 := (by have := gq.1; omega)
    refine And.intro ⟨(by omega), r52⟩ ⟨fun h53 => ?_, fun h53 => ?_⟩
    · refine hQ _ _ ?_ (fun c j h0 h1 h2 h3 h4 h5 h6 h7 h8 h9 h10 => ((fr c j (by omega) (by omega) (by omega) (by omega) (by omega) (by omega) (by omega) (by omega) (by omega) (by omega) (by omega)).trans rfl))
      · first
        | (refine Or.inl ⟨hth, (hQ9.trans ?_).symm⟩
           rw [show sC s q - k = sC s q - (k + 1) + 1 by omega]
           refine (if_pos (by omega)).trans ?_
           exact f94.symm)
        | (refine Or.inl ⟨hth, (hQ9.trans ?_).symm⟩
           rw [show sC s q - k = 0 by omega]
           rfl)
        | (refine Or.inr ⟨?_, ?_⟩
           · first
             | (show ¬ (1 : Int) = 0; decide)
             | (show ¬ (2 : Int) = 0; decide)
           · unfold stQ
             rw [if_neg (by omega)])
    · refine And.intro (zA_268 hS) (zrdR (v := some 278) (zR_268_17 hR) ?_)
      refine And.intro (zP_278 hS (by omega) (by omega)) (fun v67 e67 r67 => ?_)
      have f67 : v67 = sR s q k := (e67.trans ((congrArg (I1 278) (by omega)).trans (sq.2.2 k (by omega))))
      have f67b : v67 < sB s := (by have := gq.2.2 k (by omega); omega)
      have f67bb : v67 ≤ 23 := (by omega)
      refine And.intro (zA_268 hS) (zrdR (v := some 275) (zR_268_13 hR) ?_)
      refine And.intro (zP_275 hS (by omega) (by omega)) (fun v77 e77 r77 => ?_)
      have f77 : v77 = sL s (sR s q k) := (e77.trans ((congrArg (I1 275) (by omega)).trans (hST.2.2.1 (sR s q k) (gq.2.2 k (by omega))).1))
      have f77b : v77 ≤ 24 := (by have := (hG9.2.2.2 _ (gq.2.2 k (by omega))).1; omega)
      refine And.intro ⟨(by omega), r77⟩ ⟨fun h78 => ?_, fun h78 => ?_⟩
      · refine And.intro (zA_268 hS) (zrdR (v := some 275) (zR_268_13 hR) ?_)
        refine And.intro (zP_275 hS (by omega) (by omega)) (fun v103 e103 r103 => ?_)
        have f103 : v103 = sL s (sR s q k) := (e103.trans ((congrArg (I1 275) (by omega)).trans (hST.2.2.1 (sR s q k) (gq.2.2 k (by omega))).1))
        refine ⟨((9 - (k + 1)), 0, 0), zlt6 (by omega), [some (zvr (268)), some (zvi (q)), some (zvi (i)), some (zvi ((x - v103))), some (zvi ((k + 1))), none], ⟨rfl, rfl, rfl, rfl, rfl, rfl⟩, (x - v103), (k + 1), q, rfl, rfl, rfl, rfl, rfl, rfl, (by omega), (by omega), (by omega), (by omega), (by omega), (by omega), ?_, (by first | exact (zMS_fr hST (fun c j h => rfl)) | (clear hQ; grind [xu])), (by first | exact (zMF_fr hMF (fun c j h => rfl)) | (clear hQ; grind [xu])), (by first | exact hlg | exact (fun j h1 => ((fr 270 _ (by omega) (by omega) (by omega) (by omega) (by omega) (by omega) (by omega) (by omega) (by omega) (by omega) (by omega)).trans rfl).trans (hlg j h1)) | exact hlg9 | exact (fun j h1 => rfl.trans (hlg9 j h1)) | (clear hQ; grind [xu])), hth, (fun c j h0 h1 h2 h3 h4 h5 h6 h7 h8 h9 h10 => ((fr c j (by omega) (by omega) (by omega) (by omega) (by omega) (by omega) (by omega) (by omega) (by omega) (by omega) (by omega)).trans rfl))⟩
        · refine hQ9.trans ?_
          rw [show sC s q - k = sC s q - (k + 1) + 1 by omega]
          refine (if_neg (by omega)).trans ?_
          rw [f103]
      · refine And.intro (zA_268 hS) (zrdR (v := some 270) (zR_268_6 hR) ?_)
        refine And.intro (zA_268 hS) (zrdR (v := some 274) (zR_268_12 hR) ?_)
        refine And.intro (zP_274 hS (by omega) (by omega)) (fun v91 e91 r91 => ?_)
        have f91 : v91 = sF s (sR s q k) := (e91.trans ((congrArg (I1 274) (by omega)).trans (hMF (sR s q k) (gq.2.2 k (by omega)))))
        have f91b : v91 + sL s (sR s q k) ≤ 400 := (by have := (hG9.2.2.2 _ (gq.2.2 k (by omega))).2.2; omega)
        refine And.intro (zP_270 hS (by omega) (by omega)) (fun v94 e94 r94 => ?_)
        have f94 : v94 = g (sF s (sR s q k) + x.toNat) := (e94.trans ((congrArg (I1 270) (by omega)).trans (hlg9 (sF s (sR s q k) + x.toNat) (by omega))))
        refine hQ _ _ ?_ (fun c j h0 h1 h2 h3 h4 h5 h6 h7 h8 h9 h10 => ((fr c j (by omega) (by omega) (by omega) (by omega) (by omega) (by omega) (by omega) (by omega) (by omega) (by omega) (by omega)).trans rfl))
        · first
          | (refine Or.inl ⟨hth, (hQ9.trans ?_).symm⟩
             rw [show sC s q - k = sC s q - (k + 1) + 1 by omega]
             refine (if_pos (by omega)).trans ?_
             exact f94.symm)
          | (refine Or.inl ⟨hth, (hQ9.trans ?_).symm⟩
             rw [show sC s q - k = 0 by omega]
             rfl)
          | (refine Or.inr ⟨?_, ?_⟩
             · first
               | (show ¬ (1 : Int) = 0; decide)
               | (show ¬ (2 : Int) = 0; decide)
             · unfold stQ
               rw [if_neg (by omega)]))
