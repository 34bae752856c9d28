/-! relb -/
def T_B_block : ZT := fun args I L R S Q => ∃ (f : Int) (m : Nat → Int) (s : Nat → Int), args = [zvr 280, zvi f] ∧ (zSh S) ∧ (zRs R) ∧ (∀ j : Nat, j < 64 → I 281 j = shK j) ∧ (0 ≤ f ∧ f ≤ 448) ∧ (∀ j : Nat, j < 512 → I 282 j = m j) ∧ (∀ j : Nat, j < 8 → I 284 j = s j) ∧ ∀ (I' : ZI), (∀ j : Nat, j < 8 → I' 284 j = shB m f.toNat s j) → (∀ c j : Nat, ¬ c = 283 → ¬ c = 284 → ¬ c = 285 → I' c j = I c j) → Q none I' L R S
theorem sn_B_block : ZSnd 2 19 2 T_B_block := ZSnd.loops (zT19_2 1) (by
  rintro args I L R S Q hz ⟨f, m, s, rfl, hS, hR, hK, h0, hm, hs, hQ⟩
  refine ⟨[2, 71, 204], fun nM tM lsM stM I1 L1 R1 S1 => match tM with
      | 2 => ∃ (w : Int), nM = (3, (16 - w).toNat, 0) ∧ lsM = [some (zvr (280)), some (zvi (f)), some (zvi (w)), none, none, none, none, none, none, none, none] ∧ stM = [] ∧ L1 = L ∧ R1 = R ∧ S1 = S ∧ (0 ≤ w ∧ w ≤ 16) ∧ (∀ j : Nat, (j : Int) < w → I1 283 j = shW m f.toNat 0 j) ∧ (∀ j : Nat, j < 8 → I1 284 j = s j) ∧ (∀ c j : Nat, ¬ c = 283 → ¬ c = 284 → ¬ c = 285 → I1 c j = I c j)
      | 71 => ∃ (w : Int), nM = (2, (64 - w).toNat, 0) ∧ lsM = [some (zvr (280)), some (zvi (f)), some (zvi (w)), none, none, none, none, none, none, none, none] ∧ stM = [] ∧ L1 = L ∧ R1 = R ∧ S1 = S ∧ (16 ≤ w ∧ w ≤ 64) ∧ (∀ j : Nat, (j : Int) < w → I1 283 j = shW m f.toNat (w - 16).toNat j) ∧ (∀ j : Nat, j < 8 → I1 284 j = s j) ∧ (∀ c j : Nat, ¬ c = 283 → ¬ c = 284 → ¬ c = 285 → I1 c j = I c j)
      | 204 => ∃ (k : Int), nM = (1, (64 - k).toNat, 0) ∧ lsM = [some (zvr (280)), some (zvi (f)), some (zvi (k)), none, none, none, none, none, none, none, none] ∧ stM = [] ∧ L1 = L ∧ R1 = R ∧ S1 = S ∧ (0 ≤ k ∧ k ≤ 64) ∧ (∀ j : Nat, j < 64 → I1 283 j = shW m f.toNat 48 j) ∧ (∀ j : Nat, j < 8 → I1 284 j = s j) ∧ (∀ j : Nat, j < 8 → I1 285 j = shR (shW m f.toNat 48) s k.toNat j) ∧ (∀ c j : Nat, ¬ c = 283 → ¬ c = 284 → ¬ c = 285 → I1 c j = I c j)
      | _ => False, rfl, ?_, ⟨?_, ?_, ?_, True.intro⟩⟩
  · refine ⟨(3, (16 - (0 : Int)).toNat, 0), [some (zvr (280)), some (zvi (f)), some (zvi ((0 : Int))), none, none, none, none, none, none, none, none], ⟨rfl, rfl, rfl, rfl⟩, 0, rfl, rfl, rfl, rfl, rfl, rfl, (by omega), (fun j hj => absurd hj (by omega)), hs, (fun c j h0 h1 h2 => rfl)⟩
  · rintro nM lsM stM I1 L1 R1 S1 hz1 ⟨w, rfl, rfl, rfl, rfl, rfl, rfl, hw0, hw, hs1, fr⟩
    refine And.intro ⟨(by omega), (zRb rfl)⟩ ⟨fun h5 => ?_, fun h5 => ?_⟩
    · refine ⟨(2, (64 - (16 : Int)).toNat, 0), zlt6 (by omega), [some (zvr (280)), some (zvi (f)), some (zvi ((16 : Int))), none, none, none, none, none, none, none, none], ⟨rfl, rfl, rfl, rfl⟩, 16, rfl, rfl, rfl, rfl, rfl, rfl, (by omega), (fun j hj => hw j (by omega)), hs1, (fun c j h0 h1 h2 => ((fr c j (by omega) (by omega) (by omega)).trans rfl))⟩
    · refine And.intro (zA_280 hS) (zrdR (v := some 283) (zR_280_4 hR) ?_)
      refine And.intro (zA_280 hS) (zrdR (v := some 282) (zR_280_3 hR) ?_)
      refine And.intro (zP_282 hS (by omega) (by omega)) (fun v24 e24 r24 => ?_)
      refine And.intro (zA_280 hS) (zrdR (v := some 282) (zR_280_3 hR) ?_)
      refine And.intro (zP_282 hS (by omega) (by omega)) (fun v35 e35 r35 => ?_)
      refine And.intro (zA_280 hS) (zrdR (v := some 282) (zR_280_3 hR) ?_)
      refine And.intro (zP_282 hS (by omega) (by omega)) (fun v47 e47 r47 => ?_)
      refine And.intro (zA_280 hS) (zrdR (v := some 282) (zR_280_3 hR) ?_)
      refine And.intro (zP_282 hS (by omega) (by omega)) (fun v59 e59 r59 => ?_)
      refine And.intro ⟨(zx0 rfl), (zP_283 hS (by omega) (by omega))⟩ ⟨_, zWt _, ?_⟩
      refine ⟨(3, (16 - (w + 1)).toNat, 0), zlt6 (by omega), [some (zvr (280)), some (zvi (f)), some (zvi ((w + 1))), none, none, none, none, none, none, none, none], ⟨rfl, rfl, rfl, rfl⟩, (w + 1), rfl, rfl, rfl, rfl, rfl, rfl, (by omega), ?_, (fun j hj => (zxu (by omega) rfl).trans (hs1 j hj)), (fun c j h0 h1 h2 => (zxu h0 ((fr c j (by omega) (by omega) (by omega)).trans rfl)))⟩
      · intro j hj
        have m1 := e24.trans ((fr 282 _ (by decide) (by decide) (by decide)).trans (hm _ (by omega)))
        have m2 := e35.trans ((fr 282 _ (by decide) (by decide) (by decide)).trans (hm _ (by omega)))
        have m3 := e47.trans ((fr 282 _ (by decide) (by decide) (by decide)).trans (hm _ (by omega)))
        have m4 := e59.trans ((fr 282 _ (by decide) (by decide) (by decide)).trans (hm _ (by omega)))
        rw [show (f + 4 * w).toNat = f.toNat + 4 * w.toNat by omega] at m1
        rw [show (f + 4 * w + 1).toNat = f.toNat + 4 * w.toNat + 1 by omega] at m2
        rw [show (f + 4 * w + 2).toNat = f.toNat + 4 * w.toNat + 2 by omega] at m3
        rw [show (f + 4 * w + 3).toNat = f.toNat + 4 * w.toNat + 3 by omega] at m4
        by_cases h : j = w.toNat
        · subst h
          rw [zxe, zn_id zr_or, m1, m2, m3, m4]
          rfl
        · exact zxs h (hw j (by omega))
  · rintro nM lsM stM I1 L1 R1 S1 hz1 ⟨w, rfl, rfl, rfl, rfl, rfl, rfl, hw0, hw, hs1, fr⟩
    refine And.intro ⟨(by omega), (zRb rfl)⟩ ⟨fun h74 => ?_, fun h74 => ?_⟩
    · refine And.intro ⟨(zRb rfl), (zRb rfl)⟩ (zbf rfl ?_)
      refine And.intro (zA_280 hS) (zrdR (v := some 285) (zR_280_6 hR) ?_)
      refine And.intro (zA_280 hS) (zrdR (v := some 284) (zR_280_5 hR) ?_)
      refine And.intro (zP_284 hS (by omega) (by omega)) (fun v194 e194 r194 => ?_)
      refine And.intro ⟨(zx0 rfl), (zP_285 hS (by omega) (by omega))⟩ ⟨_, (zWi r194), ?_⟩
      refine And.intro ⟨(zRb rfl), (zRb rfl)⟩ (zbf rfl ?_)
      refine And.intro (zA_280 hS) (zrdR (v := some 285) (zR_280_6 hR) ?_)
      refine And.intro (zA_280 hS) (zrdR (v := some 284) (zR_280_5 hR) ?_)
      refine And.intro (zP_284 hS (by omega) (by omega)) (fun v194b e194b r194b => ?_)
      refine And.intro ⟨(zx0 rfl), (zP_285 hS (by omega) (by omega))⟩ ⟨_, (zWi r194b), ?_⟩
      refine And.intro ⟨(zRb rfl), (zRb rfl)⟩ (zbf rfl ?_)
      refine And.intro (zA_280 hS) (zrdR (v := some 285) (zR_280_6 hR) ?_)
      refine And.intro (zA_280 hS) (zrdR (v := some 284) (zR_280_5 hR) ?_)
      refine And.intro (zP_284 hS (by omega) (by omega)) (fun v194bb e194bb r194bb => ?_)
      refine And.intro ⟨(zx0 rfl), (zP_285 hS (by omega) (by omega))⟩ ⟨_, (zWi r194bb), ?_⟩
      refine And.intro ⟨(zRb rfl), (zRb rfl)⟩ (zbf rfl ?_)
      refine And.intro (zA_280 hS) (zrdR (v := some 285) (zR_280_6 hR) ?_)
      refine And.intro (zA_280 hS) (zrdR (v := some 284) (zR_280_5 hR) ?_)
      refine And.intro (zP_284 hS (by omega) (by omega)) (fun v194bbb e194bbb r194bbb => ?_)
      refine And.intro ⟨(zx0 rfl), (zP_285 hS (by omega) (by omega))⟩ ⟨_, (zWi r194bbb), ?_⟩
      refine And.intro ⟨(zRb rfl), (zRb rfl)⟩ (zbf rfl ?_)
      refine And.intro (zA_280 hS) (zrdR (v := some 285) (zR_280_6 hR) ?_)
      refine And.intro (zA_280 hS) (zrdR (v := some 284) (zR_280_5 hR) ?_)
      refine And.intro (zP_284 hS (by omega) (by omega)) (fun v194bbbb e194bbbb r194bbbb => ?_)
      refine And.intro ⟨(zx0 rfl), (zP_285 hS (by omega) (by omega))⟩ ⟨_, (zWi r194bbbb), ?_⟩
      refine And.intro ⟨(zRb rfl), (zRb rfl)⟩ (zbf rfl ?_)
      refine And.intro (zA_280 hS) (zrdR (v := some 285) (zR_280_6 hR) ?_)
      refine And.intro (zA_280 hS) (zrdR (v := some 284) (zR_280_5 hR) ?_)
      refine And.intro (zP_284 hS (by omega) (by omega)) (fun v194bbbbb e194bbbbb r194bbbbb => ?_)
      refine And.intro ⟨(zx0 rfl), (zP_285 hS (by omega) (by omega))⟩ ⟨_, (zWi r194bbbbb), ?_⟩
      refine And.intro ⟨(zRb rfl), (zRb rfl)⟩ (zbf rfl ?_)
      refine And.intro (zA_280 hS) (zrdR (v := some 285) (zR_280_6 hR) ?_)
      refine And.intro (zA_280 hS) (zrdR (v := some 284) (zR_280_5 hR) ?_)
      refine And.intro (zP_284 hS (by omega) (by omega)) (fun v194bbbbbb e194bbbbbb r194bbbbbb => ?_)
      refine And.intro ⟨(zx0 rfl), (zP_285 hS (by omega) (by omega))⟩ ⟨_, (zWi r194bbbbbb), ?_⟩
      refine And.intro ⟨(zRb rfl), (zRb rfl)⟩ (zbf rfl ?_)
      refine And.intro (zA_280 hS) (zrdR (v := some 285) (zR_280_6 hR) ?_)
      refine And.intro (zA_280 hS) (zrdR (v := some 284) (zR_280_5 hR) ?_)
      refine And.intro (zP_284 hS (by omega) (by omega)) (fun v194bbbbbbb e194bbbbbbb r194bbbbbbb => ?_)
      refine And.intro ⟨(zx0 rfl), (zP_285 hS (by omega) (by omega))⟩ ⟨_, (zWi r194bbbbbbb), ?_⟩
      refine And.intro ⟨(zRb rfl), (zRb rfl)⟩ (zbt rfl ?_)
      refine ⟨(1, (64 - (0 : Int)).toNat, 0), zlt6 (by omega), [some (zvr (280)), some (zvi (f)), some (zvi ((0 : Int))), none, none, none, none, none, none, none, none], ⟨rfl, rfl, rfl, rfl⟩, 0, rfl, rfl, rfl, rfl, rfl, rfl, (by omega), (fun j hj => (zxu (by omega) (zxu (by omega) (zxu (by omega) (zxu (by omega) (zxu (by omega) (zxu (by omega) (zxu (by omega) (zxu (by omega) rfl)))))))).trans (by rw [hw j (by omega), show (w - 16).toNat = 48 by omega])), (fun j hj => (zxu (by omega) (zxu (by omega) (zxu (by omega) (zxu (by omega) (zxu (by omega) (zxu (by omega) (zxu (by omega) (zxu (by omega) rfl)))))))).trans (hs1 j hj)), ?_, (fun c j h0 h1 h2 => (zxu h2 (zxu h2 (zxu h2 (zxu h2 (zxu h2 (zxu h2 (zxu h2 (zxu h2 ((fr c j (by omega) (by omega) (by omega)).trans rfl))))))))))⟩
      · intro j hj
        have z : j = 0 ∨ j = 1 ∨ j = 2 ∨ j = 3 ∨ j = 4 ∨ j = 5 ∨ j = 6 ∨ j = 7 := by omega
        rcases z with rfl | rfl | rfl | rfl | rfl | rfl | rfl | rfl
        · exact (show v194 = s 0 from e194.trans (hs1 0 (by decide)))
        · exact (show v194b = s 1 from e194b.trans (hs1 1 (by decide)))
        · exact (show v194bb = s 2 from e194bb.trans (hs1 2 (by decide)))
        · exact (show v194bbb = s 3 from e194bbb.trans (hs1 3 (by decide)))
        · exact (show v194bbbb = s 4 from e194bbbb.trans (hs1 4 (by decide)))
        · exact (show v194bbbbb = s 5 from e194bbbbb.trans (hs1 5 (by decide)))
        · exact (show v194bbbbbb = s 6 from e194bbbbbb.trans (hs1 6 (by decide)))
        · exact (show v194bbbbbbb = s 7 from e194bbbbbbb.trans (hs1 7 (by decide)))
    · refine And.intro (zA_280 hS) (zrdR (v := some 283) (zR_280_4 hR) ?_)
      refine And.intro (zP_283 hS (by omega) (by omega)) (fun v85 e85 r85 => ?_)
      refine And.intro (zA_280 hS) (zrdR (v := some 283) (zR_280_4 hR) ?_)
      refine And.intro (zP_283 hS (by omega) (by omega)) (fun v94 e94 r94 => ?_)
      refine Exists.intro _ (And.intro (zinl_ok (zT19_34 0)) (And.intro rfl ?_))
      have b2_100 : (zushr v85 7) = v85 % 4294967296 / 128 := zushr_d _ 7 (by decide) (by decide)
      refine Exists.intro _ (And.intro (zinl_ok (zT19_34 0)) (And.intro rfl ?_))
      have b2_106 : (zushr v85 18) = v85 % 4294967296 / 262144 := zushr_d _ 18 (by decide) (by decide)
      have b112 : (zushr v85 3) = v85 % 4294967296 / 8 := zushr_d _ 3 (by decide) (by decide)
      refine Exists.intro _ (And.intro (zinl_ok (zT19_34 0)) (And.intro rfl ?_))
      have b2_120 : (zushr v94 17) = v94 % 4294967296 / 131072 := zushr_d _ 17 (by decide) (by decide)
      refine Exists.intro _ (And.intro (zinl_ok (zT19_34 0)) (And.intro rfl ?_))
      have b2_127 : (zushr v94 19) = v94 % 4294967296 / 524288 := zushr_d _ 19 (by decide) (by decide)
      have b135 : (zushr v94 10) = v94 % 4294967296 / 1024 := zushr_d _ 10 (by decide) (by decide)
      refine And.intro (zA_280 hS) (zrdR (v := some 283) (zR_280_4 hR) ?_)
      refine And.intro (zA_280 hS) (zrdR (v := some 283) (zR_280_4 hR) ?_)
      refine And.intro (zP_283 hS (by omega) (by omega)) (fun v152 e152 r152 => ?_)
      refine And.intro (zA_280 hS) (zrdR (v := some 283) (zR_280_4 hR) ?_)
      refine And.intro (zP_283 hS (by omega) (by omega)) (fun v164 e164 r164 => ?_)
      refine And.intro ⟨(zx0 rfl), (zP_283 hS (by omega) (by omega))⟩ ⟨_, zWt _, ?_⟩
      refine ⟨(2, (64 - (w + 1)).toNat, 0), zlt6 (by omega), [some (zvr (280)), some (zvi (f)), some (zvi ((w + 1))), none, none, none, none, none, none, none, none], ⟨rfl, rfl, rfl, rfl⟩, (w + 1), rfl, rfl, rfl, rfl, rfl, rfl, (by omega), ?_, (fun j hj => (zxu (by omega) rfl).trans (hs1 j hj)), (fun c j h0 h1 h2 => (zxu h0 ((fr c j (by omega) (by omega) (by omega)).trans rfl)))⟩
      · intro j hj
        have k0 : 0 ≤ w - 16 := by omega
        generalize hk : (w - 16).toNat = k at hw
        have hw2 := hw (k + 1) (by omega)
        have hw3 := hw (k + 14) (by omega)
        have hw4 := hw k (by omega)
        have hw5 := hw (k + 9) (by omega)
        rw [show (w - 15).toNat = k + 1 by omega, hw2] at e85
        rw [show (w - 2).toNat = k + 14 by omega, hw3] at e94
        rw [show (w - 16).toNat = k by omega, hw4] at e152
        rw [show (w - 7).toNat = k + 9 by omega, hw5] at e164
        rw [show (w + 1 - 16).toNat = k + 1 by omega]
        by_cases h : j = w.toNat
        · subst h
          rw [zxe, e85, e94, e152, e164, show w.toNat = 16 + k by omega]
          exact (if_pos rfl).symm
        · refine (zxs h (hw j (by omega))).trans ?_
          exact (if_neg (by omega)).symm
  · rintro nM lsM stM I1 L1 R1 S1 hz1 ⟨k, rfl, rfl, rfl, rfl, rfl, rfl, hk0, hw, hs1, hq, fr⟩
    refine And.intro ⟨(by omega), (zRb rfl)⟩ ⟨fun h207 => ?_, fun h207 => ?_⟩
    · refine And.intro ⟨(zRb rfl), (zRb rfl)⟩ (zbf rfl ?_)
      refine And.intro (zA_280 hS) (zrdR (v := some 284) (zR_280_5 hR) ?_)
      refine And.intro (zP_284 hS (by omega) (by omega)) (fun v433 e433 r433 => ?_)
      refine And.intro (zA_280 hS) (zrdR (v := some 285) (zR_280_6 hR) ?_)
      refine And.intro (zP_285 hS (by omega) (by omega)) (fun v439 e439 r439 => ?_)
      refine And.intro ⟨(zx0 rfl), (zP_284 hS (by omega) (by omega))⟩ ⟨_, zWt _, ?_⟩
      refine And.intro ⟨(zRb rfl), (zRb rfl)⟩ (zbf rfl ?_)
      refine And.intro (zA_280 hS) (zrdR (v := some 284) (zR_280_5 hR) ?_)
      refine And.intro (zP_284 hS (by omega) (by omega)) (fun v433b e433b r433b => ?_)
      refine And.intro (zA_280 hS) (zrdR (v := some 285) (zR_280_6 hR) ?_)
      refine And.intro (zP_285 hS (by omega) (by omega)) (fun v439b e439b r439b => ?_)
      refine And.intro ⟨(zx0 rfl), (zP_284 hS (by omega) (by omega))⟩ ⟨_, zWt _, ?_⟩
      refine And.intro ⟨(zRb rfl), (zRb rfl)⟩ (zbf rfl ?_)
      refine And.intro (zA_280 hS) (zrdR (v := some 284) (zR_280_5 hR) ?_)
      refine And.intro (zP_284 hS (by omega) (by omega)) (fun v433bb e433bb r433bb => ?_)
      refine And.intro (zA_280 hS) (zrdR (v := some 285) (zR_280_6 hR) ?_)
      refine And.intro (zP_285 hS (by omega) (by omega)) (fun v439bb e439bb r439bb => ?_)
      refine And.intro ⟨(zx0 rfl), (zP_284 hS (by omega) (by omega))⟩ ⟨_, zWt _, ?_⟩
      refine And.intro ⟨(zRb rfl), (zRb rfl)⟩ (zbf rfl ?_)
      refine And.intro (zA_280 hS) (zrdR (v := some 284) (zR_280_5 hR) ?_)
      refine And.intro (zP_284 hS (by omega) (by omega)) (fun v433bbb e433bbb r433bbb => ?_)
      refine And.intro (zA_280 hS) (zrdR (v := some 285) (zR_280_6 hR) ?_)
      refine And.intro (zP_285 hS (by omega) (by omega)) (fun v439bbb e439bbb r439bbb => ?_)
      refine And.intro ⟨(zx0 rfl), (zP_284 hS (by omega) (by omega))⟩ ⟨_, zWt _, ?_⟩
      refine And.intro ⟨(zRb rfl), (zRb rfl)⟩ (zbf rfl ?_)
      refine And.intro (zA_280 hS) (zrdR (v := some 284) (zR_280_5 hR) ?_)
      refine And.intro (zP_284 hS (by omega) (by omega)) (fun v433bbbb e433bbbb r433bbbb => ?_)
      refine And.intro (zA_280 hS) (zrdR (v := some 285) (zR_280_6 hR) ?_)
      refine And.intro (zP_285 hS (by omega) (by omega)) (fun v439bbbb e439bbbb r439bbbb => ?_)
      refine And.intro ⟨(zx0 rfl), (zP_284 hS (by omega) (by omega))⟩ ⟨_, zWt _, ?_⟩
      refine And.intro ⟨(zRb rfl), (zRb rfl)⟩ (zbf rfl ?_)
      refine And.intro (zA_280 hS) (zrdR (v := some 284) (zR_280_5 hR) ?_)
      refine And.intro (zP_284 hS (by omega) (by omega)) (fun v433bbbbb e433bbbbb r433bbbbb => ?_)
      refine And.intro (zA_280 hS) (zrdR (v := some 285) (zR_280_6 hR) ?_)
      refine And.intro (zP_285 hS (by omega) (by omega)) (fun v439bbbbb e439bbbbb r439bbbbb => ?_)
      refine And.intro ⟨(zx0 rfl), (zP_284 hS (by omega) (by omega))⟩ ⟨_, zWt _, ?_⟩
      refine And.intro ⟨(zRb rfl), (zRb rfl)⟩ (zbf rfl ?_)
      refine And.intro (zA_280 hS) (zrdR (v := some 284) (zR_280_5 hR) ?_)
      refine And.intro (zP_284 hS (by omega) (by omega)) (fun v433bbbbbb e433bbbbbb r433bbbbbb => ?_)
      refine And.intro (zA_280 hS) (zrdR (v := some 285) (zR_280_6 hR) ?_)
      refine And.intro (zP_285 hS (by omega) (by omega)) (fun v439bbbbbb e439bbbbbb r439bbbbbb => ?_)
      refine And.intro ⟨(zx0 rfl), (zP_284 hS (by omega) (by omega))⟩ ⟨_, zWt _, ?_⟩
      refine And.intro ⟨(zRb rfl), (zRb rfl)⟩ (zbf rfl ?_)
      refine And.intro (zA_280 hS) (zrdR (v := some 284) (zR_280_5 hR) ?_)
      refine And.intro (zP_284 hS (by omega) (by omega)) (fun v433bbbbbbb e433bbbbbbb r433bbbbbbb => ?_)
      refine And.intro (zA_280 hS) (zrdR (v := some 285) (zR_280_6 hR) ?_)
      refine And.intro (zP_285 hS (by omega) (by omega)) (fun v439bbbbbbb e439bbbbbbb r439bbbbbbb => ?_)
      refine And.intro ⟨(zx0 rfl), (zP_284 hS (by omega) (by omega))⟩ ⟨_, zWt _, ?_⟩
      refine And.intro ⟨(zRb rfl), (zRb rfl)⟩ (zbt rfl ?_)
      refine hQ _ ?_ (fun c j h0 h1 h2 => (zxu h1 (zxu h1 (zxu h1 (zxu h1 (zxu h1 (zxu h1 (zxu h1 (zxu h1 ((fr c j (by omega) (by omega) (by omega)).trans rfl))))))))))
      · intro j hj
        have hk : k.toNat = 64 := by omega
        rw [hk] at hq
        have z : j = 0 ∨ j = 1 ∨ j = 2 ∨ j = 3 ∨ j = 4 ∨ j = 5 ∨ j = 6 ∨ j = 7 := by omega
        rcases z with rfl | rfl | rfl | rfl | rfl | rfl | rfl | rfl
        · exact (show zn (v433 + v439) = shB m f.toNat s 0 by rw [show v433 = s 0 from e433.trans (hs1 0 (by decide)), show v439 = _ from e439.trans (hq 0 (by decide))]; rfl)
        · exact (show zn (v433b + v439b) = shB m f.toNat s 1 by rw [show v433b = s 1 from e433b.trans (hs1 1 (by decide)), show v439b = _ from e439b.trans (hq 1 (by decide))]; rfl)
        · exact (show zn (v433bb + v439bb) = shB m f.toNat s 2 by rw [show v433bb = s 2 from e433bb.trans (hs1 2 (by decide)), show v439bb = _ from e439bb.trans (hq 2 (by decide))]; rfl)
        · exact (show zn (v433bbb + v439bbb) = shB m f.toNat s 3 by rw [show v433bbb = s 3 from e433bbb.trans (hs1 3 (by decide)), show v439bbb = _ from e439bbb.trans (hq 3 (by decide))]; rfl)
        · exact (show zn (v433bbbb + v439bbbb) = shB m f.toNat s 4 by rw [show v433bbbb = s 4 from e433bbbb.trans (hs1 4 (by decide)), show v439bbbb = _ from e439bbbb.trans (hq 4 (by decide))]; rfl)
        · exact (show zn (v433bbbbb + v439bbbbb) = shB m f.toNat s 5 by rw [show v433bbbbb = s 5 from e433bbbbb.trans (hs1 5 (by decide)), show v439bbbbb = _ from e439bbbbb.trans (hq 5 (by decide))]; rfl)
        · exact (show zn (v433bbbbbb + v439bbbbbb) = shB m f.toNat s 6 by rw [show v433bbbbbb = s 6 from e433bbbbbb.trans (hs1 6 (by decide)), show v439bbbbbb = _ from e439bbbbbb.trans (hq 6 (by decide))]; rfl)
        · exact (show zn (v433bbbbbbb + v439bbbbbbb) = shB m f.toNat s 7 by rw [show v433bbbbbbb = s 7 from e433bbbbbbb.trans (hs1 7 (by decide)), show v439bbbbbbb = _ from e439bbbbbbb.trans (hq 7 (by decide))]; rfl)
    · refine And.intro (zA_280 hS) (zrdR (v := some 285) (zR_280_6 hR) ?_)
      refine And.intro (zP_285 hS (by omega) (by omega)) (fun v215 e215 r215 => ?_)
      refine And.intro (zA_280 hS) (zrdR (v := some 285) (zR_280_6 hR) ?_)
      refine And.intro (zP_285 hS (by omega) (by omega)) (fun v222 e222 r222 => ?_)
      refine Exists.intro _ (And.intro (zinl_ok (zT19_34 0)) (And.intro rfl ?_))
      have b2_228 : (zushr v215 6) = v215 % 4294967296 / 64 := zushr_d _ 6 (by decide) (by decide)
      refine Exists.intro _ (And.intro (zinl_ok (zT19_34 0)) (And.intro rfl ?_))
      have b2_234 : (zushr v215 11) = v215 % 4294967296 / 2048 := zushr_d _ 11 (by decide) (by decide)
      refine Exists.intro _ (And.intro (zinl_ok (zT19_34 0)) (And.intro rfl ?_))
      have b2_241 : (zushr v215 25) = v215 % 4294967296 / 33554432 := zushr_d _ 25 (by decide) (by decide)
      refine And.intro (zA_280 hS) (zrdR (v := some 285) (zR_280_6 hR) ?_)
      refine And.intro (zP_285 hS (by omega) (by omega)) (fun v253 e253 r253 => ?_)
      refine And.intro (zA_280 hS) (zrdR (v := some 285) (zR_280_6 hR) ?_)
      refine And.intro (zP_285 hS (by omega) (by omega)) (fun v264 e264 r264 => ?_)
      refine And.intro (zA_280 hS) (zrdR (v := some 285) (zR_280_6 hR) ?_)
      refine And.intro (zP_285 hS (by omega) (by omega)) (fun v275 e275 r275 => ?_)
      refine And.intro (zA_280 hS) (zrdR (v := some 281) (zR_280_1 hR) ?_)
      refine And.intro (zP_281 hS (by omega) (by omega)) (fun v287 e287 r287 => ?_)
      refine And.intro (zA_280 hS) (zrdR (v := some 283) (zR_280_4 hR) ?_)
      refine And.intro (zP_283 hS (by omega) (by omega)) (fun v294 e294 r294 => ?_)
      refine Exists.intro _ (And.intro (zinl_ok (zT19_34 0)) (And.intro rfl ?_))
      have b2_301 : (zushr v222 2) = v222 % 4294967296 / 4 := zushr_d _ 2 (by decide) (by decide)
      refine Exists.intro _ (And.intro (zinl_ok (zT19_34 0)) (And.intro rfl ?_))
      have b2_308 : (zushr v222 13) = v222 % 4294967296 / 8192 := zushr_d _ 13 (by decide) (by decide)
      refine Exists.intro _ (And.intro (zinl_ok (zT19_34 0)) (And.intro rfl ?_))
      have b2_316 : (zushr v222 22) = v222 % 4294967296 / 4194304 := zushr_d _ 22 (by decide) (by decide)
      refine And.intro (zA_280 hS) (zrdR (v := some 285) (zR_280_6 hR) ?_)
      refine And.intro (zP_285 hS (by omega) (by omega)) (fun v329 e329 r329 => ?_)
      refine And.intro (zA_280 hS) (zrdR (v := some 285) (zR_280_6 hR) ?_)
      refine And.intro (zP_285 hS (by omega) (by omega)) (fun v338 e338 r338 => ?_)
      refine And.intro (zA_280 hS) (zrdR (v := some 285) (zR_280_6 hR) ?_)
      refine And.intro (zP_285 hS (by omega) (by omega)) (fun v346 e346 r346 => ?_)
      refine And.intro (zA_280 hS) (zrdR (v := some 285) (zR_280_6 hR) ?_)
      refine And.intro (zP_285 hS (by omega) (by omega)) (fun v352 e352 r352 => ?_)
      refine And.intro (zRb rfl) (zbf rfl ?_)
      refine And.intro (zA_280 hS) (zrdR (v := some 285) (zR_280_6 hR) ?_)
      refine And.intro (zA_280 hS) (zrdR (v := some 285) (zR_280_6 hR) ?_)
      refine And.intro (zP_285 hS (by omega) (by omega)) (fun v380 e380 r380 => ?_)
      refine And.intro ⟨(zx0 rfl), (zP_285 hS (by omega) (by omega))⟩ ⟨_, (zWi r380), ?_⟩
      refine And.intro (zRb rfl) (zbf rfl ?_)
      refine And.intro (zA_280 hS) (zrdR (v := some 285) (zR_280_6 hR) ?_)
      refine And.intro (zA_280 hS) (zrdR (v := some 285) (zR_280_6 hR) ?_)
      refine And.intro (zP_285 hS (by omega) (by omega)) (fun v380b e380b r380b => ?_)
      refine And.intro ⟨(zx0 rfl), (zP_285 hS (by omega) (by omega))⟩ ⟨_, (zWi r380b), ?_⟩
      refine And.intro (zRb rfl) (zbf rfl ?_)
      refine And.intro (zA_280 hS) (zrdR (v := some 285) (zR_280_6 hR) ?_)
      refine And.intro (zA_280 hS) (zrdR (v := some 285) (zR_280_6 hR) ?_)
      refine And.intro (zP_285 hS (by omega) (by omega)) (fun v380bb e380bb r380bb => ?_)
      refine And.intro ⟨(zx0 rfl), (zP_285 hS (by omega) (by omega))⟩ ⟨_, (zWi r380bb), ?_⟩
      refine And.intro (zRb rfl) (zbf rfl ?_)
      refine And.intro (zA_280 hS) (zrdR (v := some 285) (zR_280_6 hR) ?_)
      refine And.intro (zA_280 hS) (zrdR (v := some 285) (zR_280_6 hR) ?_)
      refine And.intro (zP_285 hS (by omega) (by omega)) (fun v380bbb e380bbb r380bbb => ?_)
      refine And.intro ⟨(zx0 rfl), (zP_285 hS (by omega) (by omega))⟩ ⟨_, (zWi r380bbb), ?_⟩
      refine And.intro (zRb rfl) (zbf rfl ?_)
      refine And.intro (zA_280 hS) (zrdR (v := some 285) (zR_280_6 hR) ?_)
      refine And.intro (zA_280 hS) (zrdR (v := some 285) (zR_280_6 hR) ?_)
      refine And.intro (zP_285 hS (by omega) (by omega)) (fun v380bbbb e380bbbb r380bbbb => ?_)
      refine And.intro ⟨(zx0 rfl), (zP_285 hS (by omega) (by omega))⟩ ⟨_, (zWi r380bbbb), ?_⟩
      refine And.intro (zRb rfl) (zbf rfl ?_)
      refine And.intro (zA_280 hS) (zrdR (v := some 285) (zR_280_6 hR) ?_)
      refine And.intro (zA_280 hS) (zrdR (v := some 285) (zR_280_6 hR) ?_)
      refine And.intro (zP_285 hS (by omega) (by omega)) (fun v380bbbbb e380bbbbb r380bbbbb => ?_)
      refine And.intro ⟨(zx0 rfl), (zP_285 hS (by omega) (by omega))⟩ ⟨_, (zWi r380bbbbb), ?_⟩
      refine And.intro (zRb rfl) (zbf rfl ?_)
      refine And.intro (zA_280 hS) (zrdR (v := some 285) (zR_280_6 hR) ?_)
      refine And.intro (zA_280 hS) (zrdR (v := some 285) (zR_280_6 hR) ?_)
      refine And.intro (zP_285 hS (by omega) (by omega)) (fun v380bbbbbb e380bbbbbb r380bbbbbb => ?_)
      refine And.intro ⟨(zx0 rfl), (zP_285 hS (by omega) (by omega))⟩ ⟨_, (zWi r380bbbbbb), ?_⟩
      refine And.intro (zRb rfl) (zbt rfl ?_)
      refine And.intro (zA_280 hS) (zrdR (v := some 285) (zR_280_6 hR) ?_)
      refine And.intro (zP_285 hS (by omega) (by omega)) (zrd (v := v380bbb) rfl ?_)
      refine And.intro ⟨(zx0 rfl), (zP_285 hS (by omega) (by omega))⟩ ⟨_, zWt _, ?_⟩
      refine And.intro (zA_280 hS) (zrdR (v := some 285) (zR_280_6 hR) ?_)
      refine And.intro ⟨(zx0 rfl), (zP_285 hS (by omega) (by omega))⟩ ⟨_, zWt _, ?_⟩
      refine ⟨(1, (64 - (k + 1)).toNat, 0), zlt6 (by omega), [some (zvr (280)), some (zvi (f)), some (zvi ((k + 1))), none, none, none, none, none, none, none, none], ⟨rfl, rfl, rfl, rfl⟩, (k + 1), rfl, rfl, rfl, rfl, rfl, rfl, (by omega), (fun j hj => (zxu (by omega) (zxu (by omega) (zxu (by omega) (zxu (by omega) (zxu (by omega) (zxu (by omega) (zxu (by omega) (zxu (by omega) (zxu (by omega) rfl))))))))).trans (hw j hj)), (fun j hj => (zxu (by omega) (zxu (by omega) (zxu (by omega) (zxu (by omega) (zxu (by omega) (zxu (by omega) (zxu (by omega) (zxu (by omega) (zxu (by omega) rfl))))))))).trans (hs1 j hj)), ?_, (fun c j h0 h1 h2 => (zxu h2 (zxu h2 (zxu h2 (zxu h2 (zxu h2 (zxu h2 (zxu h2 (zxu h2 (zxu h2 ((fr c j (by omega) (by omega) (by omega)).trans rfl)))))))))))⟩
      · intro j hj
        rw [show (k + 1).toNat = k.toNat + 1 by omega]
        have q := fun i hi => hq i hi
        generalize hg : shR (shW m f.toNat 48) s k.toNat = g at q
        have k1 : v294 = shW m f.toNat 48 k.toNat := e294.trans (hw _ (by omega))
        have k2 : v287 = shK k.toNat := e287.trans ((fr 281 _ (by decide) (by decide) (by decide)).trans (hK _ (by omega)))
        have a0 : v222 = g 0 := e222.trans (q 0 (by decide))
        have a1 : v329 = g 1 := e329.trans (q 1 (by decide))
        have a1' : v346 = g 1 := e346.trans (q 1 (by decide))
        have a2 : v338 = g 2 := e338.trans (q 2 (by decide))
        have a2' : v352 = g 2 := e352.trans (q 2 (by decide))
        have a4 : v215 = g 4 := e215.trans (q 4 (by decide))
        have a5 : v253 = g 5 := e253.trans (q 5 (by decide))
        have a6 : v264 = g 6 := e264.trans (q 6 (by decide))
        have a7 : v275 = g 7 := e275.trans (q 7 (by decide))
        have one : v275 + zxor (zxor (zor (zushr v215 6) (zshl v215 (32 - 6))) (zor (zushr v215 11) (zshl v215 (32 - 11)))) (zor (zushr v215 25) (zshl v215 (32 - 25))) + zxor (zand v215 v253) (zand (zxor v215 (-1)) v264) + v287 + v294 = sh1 (shW m f.toNat 48) k.toNat g := by rw [a7, a4, a5, a6, k2, k1]; rfl
        have two : zxor (zxor (zor (zushr v222 2) (zshl v222 (32 - 2))) (zor (zushr v222 13) (zshl v222 (32 - 13)))) (zor (zushr v222 22) (zshl v222 (32 - 22))) + zxor (zxor (zand v222 v329) (zand v222 v338)) (zand v346 v352) = sh2 g := by rw [a0, a1, a2, a1', a2']; rfl
        have z : j = 0 ∨ j = 1 ∨ j = 2 ∨ j = 3 ∨ j = 4 ∨ j = 5 ∨ j = 6 ∨ j = 7 := by omega
        rcases z with rfl | rfl | rfl | rfl | rfl | rfl | rfl | rfl
        · rw [shR_s.2.1, hg, ← one, ← two]; exact congrArg zn (Int.add_assoc _ _ _)
        · rw [shR_s.1 1 (by decide) (by decide), hg]; exact (show v380bbbbbb = g 0 from e380bbbbbb.trans (q 0 (by decide)))
        · rw [shR_s.1 2 (by decide) (by decide), hg]; exact (show v380bbbbb = g 1 from e380bbbbb.trans (q 1 (by decide)))
        · rw [shR_s.1 3 (by decide) (by decide), hg]; exact (show v380bbbb = g 2 from e380bbbb.trans (q 2 (by decide)))
        · rw [shR_s.2.2, hg, ← one, ← (show v380bbb = g 3 from e380bbb.trans (q 3 (by decide)))]; rfl
        · rw [shR_s.1 5 (by decide) (by decide), hg]; exact (show v380bb = g 4 from e380bb.trans (q 4 (by decide)))
        · rw [shR_s.1 6 (by decide) (by decide), hg]; exact (show v380b = g 5 from e380b.trans (q 5 (by decide)))
        · rw [shR_s.1 7 (by decide) (by decide), hg]; exact (show v380 = g 6 from e380.trans (q 6 (by decide))))
def T_B_dig : ZT := fun args I L R S Q => ∃ (n : Int) (m : Nat → Int), args = [zvr 280] ∧ (zSh S) ∧ (zRs R) ∧ (∀ j : Nat, j < 64 → I 281 j = shK j) ∧ (I 280 2 = n) ∧ (0 ≤ n ∧ n ≤ 119) ∧ (∀ j : Nat, (j : Int) < n → I 282 j = m j) ∧ ∀ (I' : ZI), (I' 280 2 = 0) → (∀ j : Nat, j < 32 → I' 286 j = shD m n.toNat j) → (∀ c j : Nat, ¬ c = 282 → ¬ c = 283 → ¬ c = 284 → ¬ c = 285 → ¬ c = 286 → ¬ (c = 280 ∧ j = 2) → I' c j = I c j) → Q none I' L R S
theorem sn_B_dig : ZSnd 3 19 8 T_B_dig := ZSnd.loops (zT19_8 2) (by
  rintro args I L R S Q hz ⟨n, m, rfl, hS, hR, hK, hn, h0, hm, hQ⟩
  obtain ⟨N, hN⟩ : ∃ N : Nat, N = shN n.toNat := ⟨_, rfl⟩
  have hN2 : (N : Int) = (n + 8) / 64 + 1 := by rw [hN]; unfold shN; omega
  refine ⟨[12, 145, 166], fun nM tM lsM stM I1 L1 R1 S1 => match tM with
      | 12 => ∃ (p : Int), nM = (3, (130 - p).toNat, 0) ∧ lsM = [some (zvr (280)), some (zvi (n)), none] ∧ stM = [] ∧ L1 = L ∧ R1 = R ∧ S1 = S ∧ (I1 280 2 = p) ∧ (n + 1 ≤ p ∧ p ≤ 64 * N - 8) ∧ (∀ j : Nat, (j : Int) < p → I1 282 j = shP m n.toNat j) ∧ (∀ c j : Nat, ¬ c = 282 → ¬ (c = 280 ∧ j = 2) → I1 c j = I c j)
      | 145 => ∃ (f : Int), nM = (2, (64 * N - f).toNat, 0) ∧ lsM = [some (zvr (280)), none, some (zvi (f))] ∧ stM = [] ∧ L1 = L ∧ R1 = R ∧ S1 = S ∧ (I1 280 2 = 64 * N) ∧ (0 ≤ f ∧ f ≤ 64 * N) ∧ (f % 64 = 0) ∧ (∀ j : Nat, j < 64 * N → I1 282 j = shP m n.toNat j) ∧ (∀ j : Nat, j < 8 → I1 284 j = shS m n.toNat (f / 64).toNat j) ∧ (∀ c j : Nat, ¬ c = 282 → ¬ c = 283 → ¬ c = 284 → ¬ c = 285 → ¬ (c = 280 ∧ j = 2) → I1 c j = I c j)
      | 166 => ∃ (i : Int), nM = (1, (32 - i).toNat, 0) ∧ lsM = [some (zvr (280)), none, some (zvi (i))] ∧ stM = [] ∧ L1 = L ∧ R1 = R ∧ S1 = S ∧ (0 ≤ i ∧ i ≤ 32) ∧ (∀ j : Nat, j < 8 → I1 284 j = shS m n.toNat N j) ∧ (∀ j : Nat, (j : Int) < i → I1 286 j = shD m n.toNat j) ∧ (∀ c j : Nat, ¬ c = 282 → ¬ c = 283 → ¬ c = 284 → ¬ c = 285 → ¬ c = 286 → ¬ (c = 280 ∧ j = 2) → I1 c j = I c j)
      | _ => False, rfl, ?_, ⟨?_, ?_, ?_, True.intro⟩⟩
  · refine And.intro (zA_280 hS) (zrd (v := n) hn ?_)
    refine And.intro (zA_280 hS) (Exists.intro _ (And.intro (zinl_ok (zT19_25 1)) (And.intro rfl ?_)))
    refine And.intro (zA_280 hS) (zrdR (v := some 282) (zR_280_3 hR) ?_)
    refine And.intro (zA_280 hS) (zrd (v := n) hn ?_)
    refine And.intro ⟨(zx0 rfl), (zP_282 hS (by omega) (by omega))⟩ ⟨_, (zWi (zRb rfl)), ?_⟩
    refine And.intro (zA_280 hS) (zrd (v := n) hn ?_)
    refine And.intro (zA_280 hS) ⟨_, (zWi (by omega)), ?_⟩
    refine ⟨(3, (130 - (n + 1)).toNat, 0), [some (zvr (280)), some (zvi (n)), none], ⟨rfl, rfl, rfl⟩, (n + 1), rfl, rfl, rfl, rfl, rfl, rfl, rfl, (by omega), ?_, (fun c j h0 h1 => (zxcj h1 (zxu h0 rfl)))⟩
    · intro j hj
      refine zxu (by decide) ?_
      by_cases h : j = n.toNat
      · subst h
        exact zxe.trans ((if_neg (by omega)).trans (if_pos rfl)).symm
      · exact (zxs h (hm j (by omega))).trans (if_pos (by omega)).symm
  · rintro nM lsM stM I1 L1 R1 S1 hz1 ⟨p, rfl, rfl, rfl, rfl, rfl, rfl, hp, hi, hm1, fr⟩
    refine And.intro (zA_280 hS) (zrd (v := p) hp ?_)
    refine And.intro ⟨(by omega), (zRb rfl), (by decide)⟩ (zdv (by omega) (fun q18 e18 => ?_))
    refine And.intro ⟨(by omega), (zRb rfl)⟩ ⟨fun h21 => ?_, fun h21 => ?_⟩
    · have t21 : p = 64 * N - 8 := by omega
      refine And.intro ⟨(zRb rfl), (zRb rfl)⟩ (zbf rfl ?_)
      refine And.intro (zA_280 hS) (Exists.intro _ (And.intro (zinl_ok (zT19_25 1)) (And.intro rfl ?_)))
      refine And.intro (zA_280 hS) (zrdR (v := some 282) (zR_280_3 hR) ?_)
      refine And.intro (zA_280 hS) (zrd (v := p) hp ?_)
      refine And.intro ⟨(zx0 rfl), (zP_282 hS (by omega) (by omega))⟩ ⟨_, (zWi (zRb rfl)), ?_⟩
      refine And.intro (zA_280 hS) (zrd (v := p) hp ?_)
      refine And.intro (zA_280 hS) ⟨_, (zWi (by omega)), ?_⟩
      refine And.intro ⟨(zRb rfl), (zRb rfl)⟩ (zbf rfl ?_)
      refine And.intro (zA_280 hS) (Exists.intro _ (And.intro (zinl_ok (zT19_25 1)) (And.intro rfl ?_)))
      refine And.intro (zA_280 hS) (zrdR (v := some 282) (zR_280_3 hR) ?_)
      refine And.intro (zA_280 hS) (zrd (v := (p + 1)) rfl ?_)
      refine And.intro ⟨(zx0 rfl), (zP_282 hS (by omega) (by omega))⟩ ⟨_, (zWi (zRb rfl)), ?_⟩
      refine And.intro (zA_280 hS) (zrd (v := (p + 1)) rfl ?_)
      refine And.intro (zA_280 hS) ⟨_, (zWi (by omega)), ?_⟩
      refine And.intro ⟨(zRb rfl), (zRb rfl)⟩ (zbf rfl ?_)
      refine And.intro (zA_280 hS) (Exists.intro _ (And.intro (zinl_ok (zT19_25 1)) (And.intro rfl ?_)))
      refine And.intro (zA_280 hS) (zrdR (v := some 282) (zR_280_3 hR) ?_)
      refine And.intro (zA_280 hS) (zrd (v := ((p + 1) + 1)) rfl ?_)
      refine And.intro ⟨(zx0 rfl), (zP_282 hS (by omega) (by omega))⟩ ⟨_, (zWi (zRb rfl)), ?_⟩
      refine And.intro (zA_280 hS) (zrd (v := ((p + 1) + 1)) rfl ?_)
      refine And.intro (zA_280 hS) ⟨_, (zWi (by omega)), ?_⟩
      refine And.intro ⟨(zRb rfl), (zRb rfl)⟩ (zbf rfl ?_)
      refine And.intro (zA_280 hS) (Exists.intro _ (And.intro (zinl_ok (zT19_25 1)) (And.intro rfl ?_)))
      refine And.intro (zA_280 hS) (zrdR (v := some 282) (zR_280_3 hR) ?_)
      refine And.intro (zA_280 hS) (zrd (v := (((p + 1) + 1) + 1)) rfl ?_)
      refine And.intro ⟨(zx0 rfl), (zP_282 hS (by omega) (by omega))⟩ ⟨_, (zWi (zRb rfl)), ?_⟩
      refine And.intro (zA_280 hS) (zrd (v := (((p + 1) + 1) + 1)) rfl ?_)
      refine And.intro (zA_280 hS) ⟨_, (zWi (by omega)), ?_⟩
      refine And.intro ⟨(zRb rfl), (zRb rfl)⟩ (zbt rfl ?_)
      refine And.intro (zRb rfl) (zbf rfl ?_)
      have b63 : (zshr (8 * n) 24) = (8 * n) / 16777216 := zshr_d _ (by omega) 24 (by decide)
      have b67 : (zand (zshr (8 * n) 24) 255) = (zshr (8 * n) 24) % 256 := zand255 _
      refine And.intro (zA_280 hS) (Exists.intro _ (And.intro (zinl_ok (zT19_25 1)) (And.intro rfl ?_)))
      refine And.intro (zA_280 hS) (zrdR (v := some 282) (zR_280_3 hR) ?_)
      refine And.intro (zA_280 hS) (zrd (v := ((((p + 1) + 1) + 1) + 1)) rfl ?_)
      refine And.intro ⟨(zx0 rfl), (zP_282 hS (by omega) (by omega))⟩ ⟨_, (zWi zr_and), ?_⟩
      refine And.intro (zA_280 hS) (zrd (v := ((((p + 1) + 1) + 1) + 1)) rfl ?_)
      refine And.intro (zA_280 hS) ⟨_, (zWi (by omega)), ?_⟩
      refine And.intro (zRb rfl) (zbf rfl ?_)
      have b63b : (zshr (8 * n) (24 + (-8))) = (8 * n) / 65536 := zshr_d _ (by omega) 16 (by decide)
      have b67b : (zand (zshr (8 * n) (24 + (-8))) 255) = (zshr (8 * n) (24 + (-8))) % 256 := zand255 _
      refine And.intro (zA_280 hS) (Exists.intro _ (And.intro (zinl_ok (zT19_25 1)) (And.intro rfl ?_)))
      refine And.intro (zA_280 hS) (zrdR (v := some 282) (zR_280_3 hR) ?_)
      refine And.intro (zA_280 hS) (zrd (v := (((((p + 1) + 1) + 1) + 1) + 1)) rfl ?_)
      refine And.intro ⟨(zx0 rfl), (zP_282 hS (by omega) (by omega))⟩ ⟨_, (zWi zr_and), ?_⟩
      refine And.intro (zA_280 hS) (zrd (v := (((((p + 1) + 1) + 1) + 1) + 1)) rfl ?_)
      refine And.intro (zA_280 hS) ⟨_, (zWi (by omega)), ?_⟩
      refine And.intro (zRb rfl) (zbf rfl ?_)
      have b63bb : (zshr (8 * n) ((24 + (-8)) + (-8))) = (8 * n) / 256 := zshr_d _ (by omega) 8 (by decide)
      have b67bb : (zand (zshr (8 * n) ((24 + (-8)) + (-8))) 255) = (zshr (8 * n) ((24 + (-8)) + (-8))) % 256 := zand255 _
      refine And.intro (zA_280 hS) (Exists.intro _ (And.intro (zinl_ok (zT19_25 1)) (And.intro rfl ?_)))
      refine And.intro (zA_280 hS) (zrdR (v := some 282) (zR_280_3 hR) ?_)
      refine And.intro (zA_280 hS) (zrd (v := ((((((p + 1) + 1) + 1) + 1) + 1) + 1)) rfl ?_)
      refine And.intro ⟨(zx0 rfl), (zP_282 hS (by omega) (by omega))⟩ ⟨_, (zWi zr_and), ?_⟩
      refine And.intro (zA_280 hS) (zrd (v := ((((((p + 1) + 1) + 1) + 1) + 1) + 1)) rfl ?_)
      refine And.intro (zA_280 hS) ⟨_, (zWi (by omega)), ?_⟩
      refine And.intro (zRb rfl) (zbf rfl ?_)
      have b63bbb : (zshr (8 * n) (((24 + (-8)) + (-8)) + (-8))) = (8 * n) / 1 := zshr_d _ (by omega) 0 (by decide)
      have b67bbb : (zand (zshr (8 * n) (((24 + (-8)) + (-8)) + (-8))) 255) = (zshr (8 * n) (((24 + (-8)) + (-8)) + (-8))) % 256 := zand255 _
      refine And.intro (zA_280 hS) (Exists.intro _ (And.intro (zinl_ok (zT19_25 1)) (And.intro rfl ?_)))
      refine And.intro (zA_280 hS) (zrdR (v := some 282) (zR_280_3 hR) ?_)
      refine And.intro (zA_280 hS) (zrd (v := (((((((p + 1) + 1) + 1) + 1) + 1) + 1) + 1)) rfl ?_)
      refine And.intro ⟨(zx0 rfl), (zP_282 hS (by omega) (by omega))⟩ ⟨_, (zWi zr_and), ?_⟩
      refine And.intro (zA_280 hS) (zrd (v := (((((((p + 1) + 1) + 1) + 1) + 1) + 1) + 1)) rfl ?_)
      refine And.intro (zA_280 hS) ⟨_, (zWi (by omega)), ?_⟩
      refine And.intro (zRb rfl) (zbt rfl ?_)
      refine And.intro (zA_280 hS) (zrdR (v := some 284) (zR_280_5 hR) ?_)
      refine And.intro ⟨(zx0 rfl), (zP_284 hS (by omega) (by omega))⟩ ⟨_, (zWi (zRb rfl)), ?_⟩
      refine And.intro (zA_280 hS) (zrdR (v := some 284) (zR_280_5 hR) ?_)
      refine And.intro ⟨(zx0 rfl), (zP_284 hS (by omega) (by omega))⟩ ⟨_, (zWi (zRb rfl)), ?_⟩
      refine And.intro (zA_280 hS) (zrdR (v := some 284) (zR_280_5 hR) ?_)
      refine And.intro ⟨(zx0 rfl), (zP_284 hS (by omega) (by omega))⟩ ⟨_, (zWi (zRb rfl)), ?_⟩
      refine And.intro (zA_280 hS) (zrdR (v := some 284) (zR_280_5 hR) ?_)
      refine And.intro ⟨(zx0 rfl), (zP_284 hS (by omega) (by omega))⟩ ⟨_, (zWi (zRb rfl)), ?_⟩
      refine And.intro (zA_280 hS) (zrdR (v := some 284) (zR_280_5 hR) ?_)
      refine And.intro ⟨(zx0 rfl), (zP_284 hS (by omega) (by omega))⟩ ⟨_, (zWi (zRb rfl)), ?_⟩
      refine And.intro (zA_280 hS) (zrdR (v := some 284) (zR_280_5 hR) ?_)
      refine And.intro ⟨(zx0 rfl), (zP_284 hS (by omega) (by omega))⟩ ⟨_, (zWi (zRb rfl)), ?_⟩
      refine And.intro (zA_280 hS) (zrdR (v := some 284) (zR_280_5 hR) ?_)
      refine And.intro ⟨(zx0 rfl), (zP_284 hS (by omega) (by omega))⟩ ⟨_, (zWi (zRb rfl)), ?_⟩
      refine And.intro (zA_280 hS) (zrdR (v := some 284) (zR_280_5 hR) ?_)
      refine And.intro ⟨(zx0 rfl), (zP_284 hS (by omega) (by omega))⟩ ⟨_, (zWi (zRb rfl)), ?_⟩
      refine ⟨(2, (64 * N - (0 : Int)).toNat, 0), zlt6 (by omega), [some (zvr (280)), none, some (zvi ((0 : Int)))], ⟨rfl, rfl, rfl⟩, 0, rfl, rfl, rfl, rfl, rfl, rfl, (Eq.trans (b := (((((((((p + 1) + 1) + 1) + 1) + 1) + 1) + 1) + 1) : Int)) rfl (by omega)), (by omega), (by omega), ?_, ?_, (fun c j h0 h1 h2 h3 h4 => (zxu h2 (zxu h2 (zxu h2 (zxu h2 (zxu h2 (zxu h2 (zxu h2 (zxu h2 (zxcj h4 (zxu h0 (zxcj h4 (zxu h0 (zxcj h4 (zxu h0 (zxcj h4 (zxu h0 (zxcj h4 (zxu h0 (zxcj h4 (zxu h0 (zxcj h4 (zxu h0 (zxcj h4 (zxu h0 ((fr c j (by omega) (by omega)).trans rfl))))))))))))))))))))))))))⟩
      · intro j hj
        have y : n.toNat < p.toNat ∧ p.toNat = 64 * shN n.toNat - 8 ∧ 8 ≤ 64 * shN n.toNat := by rw [← hN]; omega
        have sp : ∀ k : Nat, n.toNat < k → shP m n.toNat k = if k < 64 * shN n.toNat - 4 then 0 else if k = 64 * shN n.toNat - 4 then (8 * (n.toNat : Int) / 16777216 % 256) else if k = 64 * shN n.toNat - 3 then (8 * (n.toNat : Int) / 65536 % 256) else if k = 64 * shN n.toNat - 2 then (8 * (n.toNat : Int) / 256 % 256) else (8 * (n.toNat : Int) % 256) := fun k hk => (if_neg (by omega)).trans (if_neg (by omega))
        have z : j < p.toNat ∨ j = p.toNat ∨ j = (p + 1).toNat ∨ j = (p + 1 + 1).toNat ∨ j = (p + 1 + 1 + 1).toNat ∨ j = (p + 1 + 1 + 1 + 1).toNat ∨ j = (p + 1 + 1 + 1 + 1 + 1).toNat ∨ j = (p + 1 + 1 + 1 + 1 + 1 + 1).toNat ∨ j = (p + 1 + 1 + 1 + 1 + 1 + 1 + 1).toNat := by omega
        refine zxu (by decide) (zxu (by decide) (zxu (by decide) (zxu (by decide) (zxu (by decide) (zxu (by decide) (zxu (by decide) (zxu (by decide) ?_)))))))
        rcases z with z | z | z | z | z | z | z | z | z
        · exact zxu (by decide) (zxs (by omega) (zxu (by decide) (zxs (by omega) (zxu (by decide) (zxs (by omega) (zxu (by decide) (zxs (by omega) (zxu (by decide) (zxs (by omega) (zxu (by decide) (zxs (by omega) (zxu (by decide) (zxs (by omega) (zxu (by decide) (zxs (by omega) (hm1 j (by omega)))))))))))))))))
        · rw [sp j (by omega), if_pos (by omega)]
          exact zxu (by decide) (zxs (by omega) (zxu (by decide) (zxs (by omega) (zxu (by decide) (zxs (by omega) (zxu (by decide) (zxs (by omega) (zxu (by decide) (zxs (by omega) (zxu (by decide) (zxs (by omega) (zxu (by decide) (zxs (by omega) (zxu (by decide) (by rw [z]; exact zxe)))))))))))))))
        · rw [sp j (by omega), if_pos (by omega)]
          exact zxu (by decide) (zxs (by omega) (zxu (by decide) (zxs (by omega) (zxu (by decide) (zxs (by omega) (zxu (by decide) (zxs (by omega) (zxu (by decide) (zxs (by omega) (zxu (by decide) (zxs (by omega) (zxu (by decide) (by rw [z]; exact zxe)))))))))))))
        · rw [sp j (by omega), if_pos (by omega)]
          exact zxu (by decide) (zxs (by omega) (zxu (by decide) (zxs (by omega) (zxu (by decide) (zxs (by omega) (zxu (by decide) (zxs (by omega) (zxu (by decide) (zxs (by omega) (zxu (by decide) (by rw [z]; exact zxe)))))))))))
        · rw [sp j (by omega), if_pos (by omega)]
          exact zxu (by decide) (zxs (by omega) (zxu (by decide) (zxs (by omega) (zxu (by decide) (zxs (by omega) (zxu (by decide) (zxs (by omega) (zxu (by decide) (by rw [z]; exact zxe)))))))))
        · rw [sp j (by omega), if_neg (by omega), if_pos (by omega)]
          exact zxu (by decide) (zxs (by omega) (zxu (by decide) (zxs (by omega) (zxu (by decide) (zxs (by omega) (zxu (by decide) (by rw [z]; exact zxe.trans (by omega))))))))
        · rw [sp j (by omega), if_neg (by omega), if_neg (by omega), if_pos (by omega)]
          exact zxu (by decide) (zxs (by omega) (zxu (by decide) (zxs (by omega) (zxu (by decide) (by rw [z]; exact zxe.trans (by omega))))))
        · rw [sp j (by omega), if_neg (by omega), if_neg (by omega), if_neg (by omega), if_pos (by omega)]
          exact zxu (by decide) (zxs (by omega) (zxu (by decide) (by rw [z]; exact zxe.trans (by omega))))
        · rw [sp j (by omega), if_neg (by omega), if_neg (by omega), if_neg (by omega), if_neg (by omega)]
          exact zxu (by decide) (by rw [z]; exact zxe.trans (by omega))
      · intro j hj
        have z : j = 0 ∨ j = 1 ∨ j = 2 ∨ j = 3 ∨ j = 4 ∨ j = 5 ∨ j = 6 ∨ j = 7 := by omega
        rcases z with rfl | rfl | rfl | rfl | rfl | rfl | rfl | rfl <;> rfl
    · refine And.intro (zA_280 hS) (Exists.intro _ (And.intro (zinl_ok (zT19_25 1)) (And.intro rfl ?_)))
      refine And.intro (zA_280 hS) (zrdR (v := some 282) (zR_280_3 hR) ?_)
      refine And.intro (zA_280 hS) (zrd (v := p) hp ?_)
      refine And.intro ⟨(zx0 rfl), (zP_282 hS (by omega) (by omega))⟩ ⟨_, (zWi (zRb rfl)), ?_⟩
      refine And.intro (zA_280 hS) (zrd (v := p) hp ?_)
      refine And.intro (zA_280 hS) ⟨_, (zWi (by omega)), ?_⟩
      refine ⟨(3, (130 - (p + 1)).toNat, 0), zlt6 (by omega), [some (zvr (280)), some (zvi (n)), none], ⟨rfl, rfl, rfl⟩, (p + 1), rfl, rfl, rfl, rfl, rfl, rfl, rfl, (by omega), ?_, (fun c j h0 h1 => (zxcj h1 (zxu h0 ((fr c j (by omega) (by omega)).trans rfl))))⟩
      · intro j hj
        refine zxu (by decide) ?_
        by_cases h : j = p.toNat
        · subst h
          refine zxe.trans ?_
          have y : 8 ≤ 64 * shN n.toNat := by rw [← hN]; omega
          exact ((if_neg (by omega)).trans ((if_neg (by omega)).trans (if_pos (by rw [← hN]; omega)))).symm
        · exact zxs h (hm1 j (by omega))
  · rintro nM lsM stM I1 L1 R1 S1 hz1 ⟨f, rfl, rfl, rfl, rfl, rfl, rfl, hp, hf, hf2, hm1, hs, fr⟩
    refine And.intro (zA_280 hS) (zrd (v := (64 * N)) hp ?_)
    refine And.intro ⟨(by omega), (by omega)⟩ ⟨fun h150 => ?_, fun h150 => ?_⟩
    · refine ⟨(1, (32 - (0 : Int)).toNat, 0), zlt6 (by omega), [some (zvr (280)), none, some (zvi ((0 : Int)))], ⟨rfl, rfl, rfl⟩, 0, rfl, rfl, rfl, rfl, rfl, rfl, (by omega), (fun j hj => by rw [hs j hj, show (f / 64).toNat = N by omega]), (fun j hj => absurd hj (by omega)), (fun c j h0 h1 h2 h3 h4 h5 => ((fr c j (by omega) (by omega) (by omega) (by omega) (by omega)).trans rfl))⟩
    · refine And.intro (zA_280 hS) ⟨_, sn_B_block.up (by decide), ?_⟩
      refine ⟨(f : Int), (I1 282), (shS m n.toNat (f / 64).toNat), rfl, hS, hR, (fun j hj => (fr 281 _ (by omega) (by omega) (by omega) (by omega) (by omega)).trans (hK j hj)), (by omega), (fun j _ => rfl), hs, ?_⟩
      intro I155o p155hq p155bfr
      refine ⟨(2, (64 * N - (f + 64)).toNat, 0), zlt6 (by omega), [some (zvr (280)), none, some (zvi ((f + 64)))], ⟨rfl, rfl, rfl⟩, (f + 64), rfl, rfl, rfl, rfl, rfl, rfl, (Eq.trans (b := ((64 * N) : Int)) ((p155bfr 280 2 (by omega) (by omega) (by omega)).trans hp) (by omega)), (by omega), (by omega), (fun j hj => (p155bfr 282 j (by decide) (by decide) (by decide)).trans (hm1 j hj)), ?_, (fun c j h0 h1 h2 h3 h4 => ((p155bfr c j (by omega) (by omega) (by omega)).trans ((fr c j (by omega) (by omega) (by omega) (by omega) (by omega)).trans rfl)))⟩
      · intro j hj
        rw [p155hq j hj, show ((f + 64) / 64).toNat = (f / 64).toNat + 1 by omega]
        show shB _ _ _ j = shB (shP m n.toNat) (64 * (f / 64).toNat) (shS m n.toNat (f / 64).toNat) j
        rw [show 64 * (f / 64).toNat = f.toNat by omega]
        exact shB_ext (fun i h1 h2 => hm1 i (by omega)) _ j
  · rintro nM lsM stM I1 L1 R1 S1 hz1 ⟨i, rfl, rfl, rfl, rfl, rfl, rfl, hi, hs, hd, fr⟩
    refine And.intro ⟨(by omega), (zRb rfl)⟩ ⟨fun h169 => ?_, fun h169 => ?_⟩
    · refine And.intro (zA_280 hS) ⟨_, (zWi (zRb rfl)), ?_⟩
      refine hQ _ rfl (by clear hQ; grind [xu]) (fun c j h0 h1 h2 h3 h4 h5 => (zxcj h5 ((fr c j (by omega) (by omega) (by omega) (by omega) (by omega) (by omega)).trans rfl)))
    · refine And.intro (zA_280 hS) (zrdR (v := some 286) (zR_280_7 hR) ?_)
      refine And.intro (zA_280 hS) (zrdR (v := some 284) (zR_280_5 hR) ?_)
      refine And.intro ⟨(by omega), (zRb rfl), (by decide)⟩ (zdv (by omega) (fun q183 e183 => ?_))
      refine And.intro (zP_284 hS (by omega) (by omega)) (fun v184 e184 r184 => ?_)
      refine And.intro ⟨(by omega), (zRb rfl), (by decide)⟩ (zdv (by omega) (fun q191 e191 => ?_))
      have b198 : (zand (zshr v184 (24 - (8 * q191))) 255) = (zshr v184 (24 - (8 * q191))) % 256 := zand255 _
      refine And.intro ⟨(zx0 rfl), (zP_286 hS (by omega) (by omega))⟩ ⟨_, (zWi zr_and), ?_⟩
      refine ⟨(1, (32 - (i + 1)).toNat, 0), zlt6 (by omega), [some (zvr (280)), none, some (zvi ((i + 1)))], ⟨rfl, rfl, rfl⟩, (i + 1), rfl, rfl, rfl, rfl, rfl, rfl, (by omega), (fun j hj => (zxu (by omega) rfl).trans (hs j hj)), ?_, (fun c j h0 h1 h2 h3 h4 h5 => (zxu h4 ((fr c j (by omega) (by omega) (by omega) (by omega) (by omega) (by omega)).trans rfl)))⟩
      · intro j hj
        by_cases h : j = i.toNat
        · subst h
          rw [zxe]
          show _ = zand (zushr (shS m n.toNat (shN n.toNat) (i.toNat / 4)) (24 - (i.toNat % 4 : Nat) * 8)) 255
          rw [← hN, ← hs (i.toNat / 4) (by omega), e184, show q183.toNat = i.toNat / 4 by omega, show 8 * q191 = ((i.toNat % 4 : Nat) : Int) * 8 by omega]
          exact zand_sh (by rw [← show q183.toNat = i.toNat / 4 by omega, ← e184]; exact r184) (by omega)
        · exact zxs h (hd j (by omega)))
