/-! rel -/
def T_A_fill : ZT := fun args I L R S Q => ∃ (f : Int) (m : Nat → Int), args = [zvr 154, zvi f] ∧ (zSh S) ∧ (zRs R) ∧ (0 ≤ f ∧ f ≤ 64) ∧ (∀ j : Nat, j < 128 → I 160 j = m j) ∧ ∀ (I' : ZI), (∀ j : Nat, j < 64 → I' 162 j = shW m f.toNat 48 j) → (∀ c j, ¬ c = 162 → I' c j = I c j) → Q none I' L R S
theorem sn_A_fill : ZSnd 2 5 5 T_A_fill := ZSnd.loops (zT5_5 1) (by
  rintro args I L R S Q hz ⟨f, m, rfl, hS, hR, h0, hm, hQ⟩
  refine ⟨[2, 71], fun nM tM lsM stM I1 L1 R1 S1 => match tM with
      | 2 => ∃ (w : Int), nM = (1, (16 - w).toNat, 0) ∧ lsM = [some (zvr (154)), some (zvi (f)), some (zvi (w)), none, none, none, none] ∧ stM = [] ∧ L1 = L ∧ R1 = R ∧ S1 = S ∧ (0 ≤ w ∧ w ≤ 16) ∧ (∀ j : Nat, (j : Int) < w → I1 162 j = shW m f.toNat 0 j) ∧ (∀ c j, ¬ c = 162 → I1 c j = I c j)
      | 71 => ∃ (w : Int), nM = (0, (64 - w).toNat, 0) ∧ lsM = [some (zvr (154)), some (zvi (f)), some (zvi (w)), none, none, none, none] ∧ stM = [] ∧ L1 = L ∧ R1 = R ∧ S1 = S ∧ (16 ≤ w ∧ w ≤ 64) ∧ (∀ j : Nat, (j : Int) < w → I1 162 j = shW m f.toNat (w - 16).toNat j) ∧ (∀ c j, ¬ c = 162 → I1 c j = I c j)
      | _ => False, rfl, ?_, ⟨?_, ?_, True.intro⟩⟩
  · refine ⟨(1, (16 - (0 : Int)).toNat, 0), [some (zvr (154)), some (zvi (f)), some (zvi ((0 : Int))), none, none, none, none], ⟨rfl, rfl, rfl, rfl⟩, 0, rfl, rfl, rfl, rfl, rfl, rfl, (by omega), (by clear hQ; grind [xu]), (fun c j h0 => rfl)⟩
  · rintro nM lsM stM I1 L1 R1 S1 hz1 ⟨w, rfl, rfl, rfl, rfl, rfl, rfl, hw0, hw, fr⟩
    refine And.intro ⟨(by omega), (zRb rfl)⟩ ⟨fun h5 => ?_, fun h5 => ?_⟩
    · refine ⟨(0, (64 - (16 : Int)).toNat, 0), zlt1 (by omega), [some (zvr (154)), some (zvi (f)), some (zvi ((16 : Int))), none, none, none, none], ⟨rfl, rfl, rfl, rfl⟩, 16, rfl, rfl, rfl, rfl, rfl, rfl, (by omega), (by clear hQ; grind [xu]), (fun c j h0 => ((fr c j (by omega)).trans rfl))⟩
    · refine And.intro (zA_154 hS) (zrdR (v := some 162) (zR_154_10 hR) ?_)
      refine And.intro (zA_154 hS) (zrdR (v := some 160) (zR_154_7 hR) ?_)
      refine And.intro (zP_160 hS (by omega) (by omega)) (fun v24 e24 r24 => ?_)
      refine And.intro (zA_154 hS) (zrdR (v := some 160) (zR_154_7 hR) ?_)
      refine And.intro (zP_160 hS (by omega) (by omega)) (fun v35 e35 r35 => ?_)
      refine And.intro (zA_154 hS) (zrdR (v := some 160) (zR_154_7 hR) ?_)
      refine And.intro (zP_160 hS (by omega) (by omega)) (fun v47 e47 r47 => ?_)
      refine And.intro (zA_154 hS) (zrdR (v := some 160) (zR_154_7 hR) ?_)
      refine And.intro (zP_160 hS (by omega) (by omega)) (fun v59 e59 r59 => ?_)
      refine And.intro ⟨(zx0 rfl), (zP_162 hS (by omega) (by omega))⟩ ⟨_, zWt _, ?_⟩
      refine ⟨(1, (16 - (w + 1)).toNat, 0), zlt2 (by omega), [some (zvr (154)), some (zvi (f)), some (zvi ((w + 1))), none, none, none, none], ⟨rfl, rfl, rfl, rfl⟩, (w + 1), rfl, rfl, rfl, rfl, rfl, rfl, (by omega), ?_, (fun c j h0 => (zxu h0 ((fr c j (by omega)).trans rfl)))⟩
      · intro j hj
        have m1 := e24.trans ((fr 160 _ (by decide)).trans (hm _ (by omega)))
        have m2 := e35.trans ((fr 160 _ (by decide)).trans (hm _ (by omega)))
        have m3 := e47.trans ((fr 160 _ (by decide)).trans (hm _ (by omega)))
        have m4 := e59.trans ((fr 160 _ (by decide)).trans (hm _ (by omega)))
        rw [show (f + 4 * w).toNat = f.toNat + 4 * w.toNat by omega] at m1
        rw [show (f + 4 * w + 1).toNat = f.toNat + 4 * w.toNat + 1 by omega] at m2
        rw [show (f + 4 * w + 2).toNat = f.toNat + 4 * w.toNat + 2 by omega] at m3
        rw [show (f + 4 * w + 3).toNat = f.toNat + 4 * w.toNat + 3 by omega] at m4
        by_cases h : j = w.toNat
        · subst h
          rw [zxe, zn_id zr_or, m1, m2, m3, m4]
          rfl
        · exact zxs h (hw j (by omega))
  · rintro nM lsM stM I1 L1 R1 S1 hz1 ⟨w, rfl, rfl, rfl, rfl, rfl, rfl, hw0, hw, fr⟩
    refine And.intro ⟨(by omega), (zRb rfl)⟩ ⟨fun h74 => ?_, fun h74 => ?_⟩
    · refine hQ _ (by clear hQ; grind [xu]) (fun c j h0 => ((fr c j (by omega)).trans rfl))
    · refine And.intro (zA_154 hS) (zrdR (v := some 162) (zR_154_10 hR) ?_)
      refine And.intro (zP_162 hS (by omega) (by omega)) (fun v85 e85 r85 => ?_)
      refine And.intro (zA_154 hS) (zrdR (v := some 162) (zR_154_10 hR) ?_)
      refine And.intro (zP_162 hS (by omega) (by omega)) (fun v94 e94 r94 => ?_)
      refine Exists.intro _ (And.intro (zinl_ok (zT5_26 0)) (And.intro rfl ?_))
      have b2_100 : (zushr v85 7) = v85 % 4294967296 / 128 := zushr_d _ 7 (by decide) (by decide)
      refine Exists.intro _ (And.intro (zinl_ok (zT5_26 0)) (And.intro rfl ?_))
      have b2_106 : (zushr v85 18) = v85 % 4294967296 / 262144 := zushr_d _ 18 (by decide) (by decide)
      have b112 : (zushr v85 3) = v85 % 4294967296 / 8 := zushr_d _ 3 (by decide) (by decide)
      refine Exists.intro _ (And.intro (zinl_ok (zT5_26 0)) (And.intro rfl ?_))
      have b2_120 : (zushr v94 17) = v94 % 4294967296 / 131072 := zushr_d _ 17 (by decide) (by decide)
      refine Exists.intro _ (And.intro (zinl_ok (zT5_26 0)) (And.intro rfl ?_))
      have b2_127 : (zushr v94 19) = v94 % 4294967296 / 524288 := zushr_d _ 19 (by decide) (by decide)
      have b135 : (zushr v94 10) = v94 % 4294967296 / 1024 := zushr_d _ 10 (by decide) (by decide)
      refine And.intro (zA_154 hS) (zrdR (v := some 162) (zR_154_10 hR) ?_)
      refine And.intro (zA_154 hS) (zrdR (v := some 162) (zR_154_10 hR) ?_)
      refine And.intro (zP_162 hS (by omega) (by omega)) (fun v152 e152 r152 => ?_)
      refine And.intro (zA_154 hS) (zrdR (v := some 162) (zR_154_10 hR) ?_)
      refine And.intro (zP_162 hS (by omega) (by omega)) (fun v164 e164 r164 => ?_)
      refine And.intro ⟨(zx0 rfl), (zP_162 hS (by omega) (by omega))⟩ ⟨_, zWt _, ?_⟩
      refine ⟨(0, (64 - (w + 1)).toNat, 0), zlt2 (by omega), [some (zvr (154)), some (zvi (f)), some (zvi ((w + 1))), none, none, none, none], ⟨rfl, rfl, rfl, rfl⟩, (w + 1), rfl, rfl, rfl, rfl, rfl, rfl, (by omega), ?_, (fun c j h0 => (zxu h0 ((fr c j (by omega)).trans rfl)))⟩
      · intro j hj
        have k0 : 0 ≤ w - 16 := by omega
        generalize hk : (w - 16).toNat = k at hw
        have hw2 := hw (k + 1) (by omega)
        have hw3 := hw (k + 14) (by omega)
        have hw4 := hw k (by omega)
        have hw5 := hw (k + 9) (by omega)
        rw [show (w - 15).toNat = k + 1 by omega, hw2] at e85
        rw [show (w - 2).toNat = k + 14 by omega, hw3] at e94
        rw [show (w - 16).toNat = k by omega, hw4] at e152
        rw [show (w - 7).toNat = k + 9 by omega, hw5] at e164
        rw [show (w + 1 - 16).toNat = k + 1 by omega]
        by_cases h : j = w.toNat
        · subst h
          rw [zxe, e85, e94, e152, e164, show w.toNat = 16 + k by omega]
          exact (if_pos rfl).symm
        · refine (zxs h (hw j (by omega))).trans ?_
          exact (if_neg (by omega)).symm)
def T_A_mix : ZT := fun args I L R S Q => ∃ (W : Nat → Int) (s : Nat → Int), args = [zvr 154] ∧ (zSh S) ∧ (zRs R) ∧ (zSt I L) ∧ (∀ j : Nat, j < 64 → I 162 j = W j) ∧ (∀ j : Nat, j < 8 → I 161 j = s j) ∧ ∀ (I' : ZI), (∀ j : Nat, j < 8 → I' 161 j = zn (s j + shR W s 64 j)) → (∀ c j, ¬ c = 161 → I' c j = I c j) → Q none I' L R S
theorem sn_A_mix : ZSnd 2 5 17 T_A_mix := ZSnd.loops (zT5_17 1) (by
  rintro args I L R S Q hz ⟨W, s, rfl, hS, hR, hT, hw, hs, hQ⟩
  refine ⟨[66], fun nM tM lsM stM I1 L1 R1 S1 => match tM with
      | 66 => ∃ (k : Int) (a : Int) (b : Int) (c : Int) (d : Int) (e : Int) (f : Int) (g : Int) (h : Int), nM = ((64 - k).toNat, 0, 0) ∧ lsM = [some (zvr (154)), some (zvi (a)), some (zvi (b)), some (zvi (c)), some (zvi (d)), some (zvi (e)), some (zvi (f)), some (zvi (g)), some (zvi (h)), some (zvi (k)), none, none, none, none] ∧ stM = [] ∧ I1 = I ∧ L1 = L ∧ R1 = R ∧ S1 = S ∧ (0 ≤ k ∧ k ≤ 64) ∧ (shR W s k.toNat 0 = zn a) ∧ (shR W s k.toNat 1 = zn b) ∧ (shR W s k.toNat 2 = zn c) ∧ (shR W s k.toNat 3 = zn d) ∧ (shR W s k.toNat 4 = zn e) ∧ (shR W s k.toNat 5 = zn f) ∧ (shR W s k.toNat 6 = zn g) ∧ (shR W s k.toNat 7 = zn h)
      | _ => False, rfl, ?_, ⟨?_, True.intro⟩⟩
  · refine And.intro (zA_154 hS) (zrdR (v := some 161) (zR_154_9 hR) ?_)
    refine And.intro (zP_161 hS (by omega) (by omega)) (fun v5 e5 r5 => ?_)
    refine And.intro (zA_154 hS) (zrdR (v := some 161) (zR_154_9 hR) ?_)
    refine And.intro (zP_161 hS (by omega) (by omega)) (fun v12 e12 r12 => ?_)
    refine And.intro (zA_154 hS) (zrdR (v := some 161) (zR_154_9 hR) ?_)
    refine And.intro (zP_161 hS (by omega) (by omega)) (fun v19 e19 r19 => ?_)
    refine And.intro (zA_154 hS) (zrdR (v := some 161) (zR_154_9 hR) ?_)
    refine And.intro (zP_161 hS (by omega) (by omega)) (fun v26 e26 r26 => ?_)
    refine And.intro (zA_154 hS) (zrdR (v := some 161) (zR_154_9 hR) ?_)
    refine And.intro (zP_161 hS (by omega) (by omega)) (fun v34 e34 r34 => ?_)
    refine And.intro (zA_154 hS) (zrdR (v := some 161) (zR_154_9 hR) ?_)
    refine And.intro (zP_161 hS (by omega) (by omega)) (fun v42 e42 r42 => ?_)
    refine And.intro (zA_154 hS) (zrdR (v := some 161) (zR_154_9 hR) ?_)
    refine And.intro (zP_161 hS (by omega) (by omega)) (fun v51 e51 r51 => ?_)
    refine And.intro (zA_154 hS) (zrdR (v := some 161) (zR_154_9 hR) ?_)
    refine And.intro (zP_161 hS (by omega) (by omega)) (fun v60 e60 r60 => ?_)
    refine ⟨((64 - (0 : Int)).toNat, 0, 0), [some (zvr (154)), some (zvi (v5)), some (zvi (v12)), some (zvi (v19)), some (zvi (v26)), some (zvi (v34)), some (zvi (v42)), some (zvi (v51)), some (zvi (v60)), some (zvi ((0 : Int))), none, none, none, none], ⟨rfl, rfl, rfl, rfl, rfl, rfl, rfl, rfl, rfl, rfl, rfl⟩, 0, v5, v12, v19, v26, v34, v42, v51, v60, rfl, rfl, rfl, rfl, rfl, rfl, rfl, (by omega), ((hs 0 (by decide)).symm.trans (e5.symm.trans (zn_id r5).symm)), ((hs 1 (by decide)).symm.trans (e12.symm.trans (zn_id r12).symm)), ((hs 2 (by decide)).symm.trans (e19.symm.trans (zn_id r19).symm)), ((hs 3 (by decide)).symm.trans (e26.symm.trans (zn_id r26).symm)), ((hs 4 (by decide)).symm.trans (e34.symm.trans (zn_id r34).symm)), ((hs 5 (by decide)).symm.trans (e42.symm.trans (zn_id r42).symm)), ((hs 6 (by decide)).symm.trans (e51.symm.trans (zn_id r51).symm)), ((hs 7 (by decide)).symm.trans (e60.symm.trans (zn_id r60).symm))⟩
  · rintro nM lsM stM I1 L1 R1 S1 hz1 ⟨k, a, b, c, d, e, f, g, h, rfl, rfl, rfl, rfl, rfl, rfl, rfl, hk, q0, q1, q2, q3, q4, q5, q6, q7⟩
    refine And.intro ⟨(by omega), (zRb rfl)⟩ ⟨fun h70 => ?_, fun h70 => ?_⟩
    · refine And.intro (zA_154 hS) (zrdR (v := some 161) (zR_154_9 hR) ?_)
      refine And.intro (zP_161 hS (by omega) (by omega)) (fun v215 e215 r215 => ?_)
      refine And.intro ⟨(zx0 rfl), (zP_161 hS (by omega) (by omega))⟩ ⟨_, zWt _, ?_⟩
      refine And.intro (zA_154 hS) (zrdR (v := some 161) (zR_154_9 hR) ?_)
      refine And.intro (zP_161 hS (by omega) (by omega)) (fun v225 e225 r225 => ?_)
      refine And.intro ⟨(zx0 rfl), (zP_161 hS (by omega) (by omega))⟩ ⟨_, zWt _, ?_⟩
      refine And.intro (zA_154 hS) (zrdR (v := some 161) (zR_154_9 hR) ?_)
      refine And.intro (zP_161 hS (by omega) (by omega)) (fun v235 e235 r235 => ?_)
      refine And.intro ⟨(zx0 rfl), (zP_161 hS (by omega) (by omega))⟩ ⟨_, zWt _, ?_⟩
      refine And.intro (zA_154 hS) (zrdR (v := some 161) (zR_154_9 hR) ?_)
      refine And.intro (zP_161 hS (by omega) (by omega)) (fun v245 e245 r245 => ?_)
      refine And.intro ⟨(zx0 rfl), (zP_161 hS (by omega) (by omega))⟩ ⟨_, zWt _, ?_⟩
      refine And.intro (zA_154 hS) (zrdR (v := some 161) (zR_154_9 hR) ?_)
      refine And.intro (zP_161 hS (by omega) (by omega)) (fun v256 e256 r256 => ?_)
      refine And.intro ⟨(zx0 rfl), (zP_161 hS (by omega) (by omega))⟩ ⟨_, zWt _, ?_⟩
      refine And.intro (zA_154 hS) (zrdR (v := some 161) (zR_154_9 hR) ?_)
      refine And.intro (zP_161 hS (by omega) (by omega)) (fun v267 e267 r267 => ?_)
      refine And.intro ⟨(zx0 rfl), (zP_161 hS (by omega) (by omega))⟩ ⟨_, zWt _, ?_⟩
      refine And.intro (zA_154 hS) (zrdR (v := some 161) (zR_154_9 hR) ?_)
      refine And.intro (zP_161 hS (by omega) (by omega)) (fun v279 e279 r279 => ?_)
      refine And.intro ⟨(zx0 rfl), (zP_161 hS (by omega) (by omega))⟩ ⟨_, zWt _, ?_⟩
      refine And.intro (zA_154 hS) (zrdR (v := some 161) (zR_154_9 hR) ?_)
      refine And.intro (zP_161 hS (by omega) (by omega)) (fun v291 e291 r291 => ?_)
      refine And.intro ⟨(zx0 rfl), (zP_161 hS (by omega) (by omega))⟩ ⟨_, zWt _, ?_⟩
      refine hQ _ ?_ (fun c j h0 => (zxu h0 (zxu h0 (zxu h0 (zxu h0 (zxu h0 (zxu h0 (zxu h0 (zxu h0 rfl)))))))))
      · intro j hj
        have hk : k.toNat = 64 := by omega
        rw [hk] at q0 q1 q2 q3 q4 q5 q6 q7
        have z : j = 0 ∨ j = 1 ∨ j = 2 ∨ j = 3 ∨ j = 4 ∨ j = 5 ∨ j = 6 ∨ j = 7 := by omega
        rcases z with rfl | rfl | rfl | rfl | rfl | rfl | rfl | rfl
        · rw [q0, zn_ar, ← hs 0 (by decide), ← (show v215 = I1 161 0 from e215)]; rfl
        · rw [q1, zn_ar, ← hs 1 (by decide), ← (show v225 = I1 161 1 from e225)]; rfl
        · rw [q2, zn_ar, ← hs 2 (by decide), ← (show v235 = I1 161 2 from e235)]; rfl
        · rw [q3, zn_ar, ← hs 3 (by decide), ← (show v245 = I1 161 3 from e245)]; rfl
        · rw [q4, zn_ar, ← hs 4 (by decide), ← (show v256 = I1 161 4 from e256)]; rfl
        · rw [q5, zn_ar, ← hs 5 (by decide), ← (show v267 = I1 161 5 from e267)]; rfl
        · rw [q6, zn_ar, ← hs 6 (by decide), ← (show v279 = I1 161 6 from e279)]; rfl
        · rw [q7, zn_ar, ← hs 7 (by decide), ← (show v291 = I1 161 7 from e291)]; rfl
    · refine Exists.intro _ (And.intro (zinl_ok (zT5_26 0)) (And.intro rfl ?_))
      have b2_77 : (zushr e 6) = e % 4294967296 / 64 := zushr_d _ 6 (by decide) (by decide)
      refine Exists.intro _ (And.intro (zinl_ok (zT5_26 0)) (And.intro rfl ?_))
      have b2_84 : (zushr e 11) = e % 4294967296 / 2048 := zushr_d _ 11 (by decide) (by decide)
      refine Exists.intro _ (And.intro (zinl_ok (zT5_26 0)) (And.intro rfl ?_))
      have b2_92 : (zushr e 25) = e % 4294967296 / 33554432 := zushr_d _ 25 (by decide) (by decide)
      refine And.intro (zP_5 hS (by omega) (by omega)) (fun v122 e122 r122 => ?_)
      refine And.intro (zA_154 hS) (zrdR (v := some 162) (zR_154_10 hR) ?_)
      refine And.intro (zP_162 hS (by omega) (by omega)) (fun v130 e130 r130 => ?_)
      refine Exists.intro _ (And.intro (zinl_ok (zT5_26 0)) (And.intro rfl ?_))
      have b2_136 : (zushr a 2) = a % 4294967296 / 4 := zushr_d _ 2 (by decide) (by decide)
      refine Exists.intro _ (And.intro (zinl_ok (zT5_26 0)) (And.intro rfl ?_))
      have b2_142 : (zushr a 13) = a % 4294967296 / 8192 := zushr_d _ 13 (by decide) (by decide)
      refine Exists.intro _ (And.intro (zinl_ok (zT5_26 0)) (And.intro rfl ?_))
      have b2_149 : (zushr a 22) = a % 4294967296 / 4194304 := zushr_d _ 22 (by decide) (by decide)
      refine ⟨((64 - (k + 1)).toNat, 0, 0), zlt6 (by omega), [some (zvr (154)), some (zvi ((((((h + (zxor (zxor (zor (zushr e 6) (zshl e (32 - 6))) (zor (zushr e 11) (zshl e (32 - 11)))) (zor (zushr e 25) (zshl e (32 - 25))))) + (zxor (zand e f) (zand (zxor e (-1)) g))) + v122) + v130) + ((zxor (zxor (zor (zushr a 2) (zshl a (32 - 2))) (zor (zushr a 13) (zshl a (32 - 13)))) (zor (zushr a 22) (zshl a (32 - 22)))) + (zxor (zxor (zand a b) (zand a c)) (zand b c)))))), some (zvi (a)), some (zvi (b)), some (zvi (c)), some (zvi ((d + ((((h + (zxor (zxor (zor (zushr e 6) (zshl e (32 - 6))) (zor (zushr e 11) (zshl e (32 - 11)))) (zor (zushr e 25) (zshl e (32 - 25))))) + (zxor (zand e f) (zand (zxor e (-1)) g))) + v122) + v130)))), some (zvi (e)), some (zvi (f)), some (zvi (g)), some (zvi ((k + 1))), none, none, none, none], ⟨rfl, rfl, rfl, rfl, rfl, rfl, rfl, rfl, rfl, rfl, rfl⟩, (k + 1), (((((h + (zxor (zxor (zor (zushr e 6) (zshl e (32 - 6))) (zor (zushr e 11) (zshl e (32 - 11)))) (zor (zushr e 25) (zshl e (32 - 25))))) + (zxor (zand e f) (zand (zxor e (-1)) g))) + v122) + v130) + ((zxor (zxor (zor (zushr a 2) (zshl a (32 - 2))) (zor (zushr a 13) (zshl a (32 - 13)))) (zor (zushr a 22) (zshl a (32 - 22)))) + (zxor (zxor (zand a b) (zand a c)) (zand b c)))), a, b, c, (d + ((((h + (zxor (zxor (zor (zushr e 6) (zshl e (32 - 6))) (zor (zushr e 11) (zshl e (32 - 11)))) (zor (zushr e 25) (zshl e (32 - 25))))) + (zxor (zand e f) (zand (zxor e (-1)) g))) + v122) + v130)), e, f, g, rfl, rfl, rfl, rfl, rfl, rfl, rfl, (by omega), ?_, ?_, ?_, ?_, ?_, ?_, ?_, ?_⟩
      · rw [show (k + 1).toNat = k.toNat + 1 by omega]
        rw [shR_s.2.1, sh2_zn q0 q1 q2, zn_eq, Int32.ofInt_add, sh1_zn q4 q5 q6 q7]
        rw [← Int32.ofInt_add, ← hw k.toNat (by omega), ← e130, show shK k.toNat = v122 from (e122.trans (hT 5 (by decide) (by decide) _ (by omega)).1).symm]
        rfl
      · rw [show (k + 1).toNat = k.toNat + 1 by omega]
        exact (shR_s.1 1 (by decide) (by decide)).trans q0
      · rw [show (k + 1).toNat = k.toNat + 1 by omega]
        exact (shR_s.1 2 (by decide) (by decide)).trans q1
      · rw [show (k + 1).toNat = k.toNat + 1 by omega]
        exact (shR_s.1 3 (by decide) (by decide)).trans q2
      · rw [show (k + 1).toNat = k.toNat + 1 by omega]
        rw [shR_s.2.2, q3, zn_eq, Int32.ofInt_add, sh1_zn q4 q5 q6 q7, zn_of]
        rw [← Int32.ofInt_add, ← hw k.toNat (by omega), ← e130, show shK k.toNat = v122 from (e122.trans (hT 5 (by decide) (by decide) _ (by omega)).1).symm]
        rfl
      · rw [show (k + 1).toNat = k.toNat + 1 by omega]
        exact (shR_s.1 5 (by decide) (by decide)).trans q4
      · rw [show (k + 1).toNat = k.toNat + 1 by omega]
        exact (shR_s.1 6 (by decide) (by decide)).trans q5
      · rw [show (k + 1).toNat = k.toNat + 1 by omega]
        exact (shR_s.1 7 (by decide) (by decide)).trans q6)
def T_A_dig : ZT := fun args I L R S Q => ∃ (n : Int) (m : Nat → Int), args = [zvr 154] ∧ (zSh S) ∧ (zRs R) ∧ (zSt I L) ∧ (I 154 8 = n) ∧ (0 ≤ n ∧ n ≤ 119) ∧ (∀ j : Nat, (j : Int) < n → I 160 j = m j) ∧ ∀ (I' : ZI), (∀ j : Nat, j < 32 → I' 163 j = shD m n.toNat j) → (∀ c j, ¬ c = 160 → ¬ c = 161 → ¬ c = 162 → ¬ c = 163 → ¬ (c = 154 ∧ j = 8) → I' c j = I c j) → Q none I' L R S
theorem sn_A_dig : ZSnd 3 5 16 T_A_dig := ZSnd.loops (zT5_16 2) (by
  rintro args I L R S Q hz ⟨n, m, rfl, hS, hR, hT, hn, h0, hm, hQ⟩
  obtain ⟨N, hN⟩ : ∃ N : Nat, N = shN n.toNat := ⟨_, rfl⟩
  have hN2 : (N : Int) = (n + 8) / 64 + 1 := by rw [hN]; unfold shN; omega
  refine ⟨[17, 94, 122], fun nM tM lsM stM I1 L1 R1 S1 => match tM with
      | 17 => ∃ (i : Int) (p : Int), nM = (3, (64 - i).toNat, 0) ∧ lsM = [some (zvr (154)), some (zvi (n * 8)), some (zvi (i))] ∧ stM = [] ∧ L1 = L ∧ R1 = R ∧ S1 = S ∧ (I1 154 8 = p) ∧ (0 ≤ i ∧ p = n + 1 + i ∧ p ≤ 64 * N - 8) ∧ (∀ j : Nat, (j : Int) < p → I1 160 j = shP m n.toNat j) ∧ (∀ c j, ¬ c = 160 → ¬ (c = 154 ∧ j = 8) → I1 c j = I c j)
      | 94 => ∃ (f : Int), nM = (2, (64 * N - f).toNat, 0) ∧ lsM = [some (zvr (154)), none, some (zvi (f))] ∧ stM = [] ∧ L1 = L ∧ R1 = R ∧ S1 = S ∧ (I1 154 8 = 64 * N) ∧ (0 ≤ f ∧ f ≤ 64 * N) ∧ (f % 64 = 0) ∧ (∀ j : Nat, j < 64 * N → I1 160 j = shP m n.toNat j) ∧ (∀ j : Nat, j < 8 → I1 161 j = shS m n.toNat (f / 64).toNat j) ∧ (∀ c j, ¬ c = 160 → ¬ c = 161 → ¬ c = 162 → ¬ (c = 154 ∧ j = 8) → I1 c j = I c j)
      | 122 => ∃ (i : Int), nM = (1, (32 - i).toNat, 0) ∧ lsM = [some (zvr (154)), none, some (zvi (i))] ∧ stM = [] ∧ L1 = L ∧ R1 = R ∧ S1 = S ∧ (0 ≤ i ∧ i ≤ 32) ∧ (∀ j : Nat, j < 8 → I1 161 j = shS m n.toNat N j) ∧ (∀ j : Nat, (j : Int) < i → I1 163 j = shD m n.toNat j) ∧ (∀ c j, ¬ c = 160 → ¬ c = 161 → ¬ c = 162 → ¬ c = 163 → ¬ (c = 154 ∧ j = 8) → I1 c j = I c j)
      | _ => False, rfl, ?_, ⟨?_, ?_, ?_, True.intro⟩⟩
  · refine And.intro (zA_154 hS) (zrd (v := n) hn ?_)
    refine And.intro (zA_154 hS) (Exists.intro _ (And.intro (zinl_ok (zT5_1 1)) (And.intro rfl ?_)))
    refine And.intro (zA_154 hS) (zrd (v := n) hn ?_)
    refine And.intro (zA_154 hS) (zrdR (v := some 160) (zR_154_7 hR) ?_)
    refine And.intro (zN_160 hS) (zrdN (v := 128) (zV_160 hS) ?_)
    refine And.intro ⟨(by omega), (zRb rfl)⟩ ⟨(fun h9_12 => False.elim (by omega)), fun h9_12 => ?_⟩
    refine And.intro (zA_154 hS) (zrdR (v := some 160) (zR_154_7 hR) ?_)
    refine And.intro (zA_154 hS) (zrd (v := n) hn ?_)
    have b24_12 : (zand 128 255) = 128 % 256 := zand255 _
    refine And.intro ⟨(zx0 rfl), (zP_160 hS (by omega) (by omega))⟩ ⟨_, (zWi zr_and), ?_⟩
    refine And.intro (zA_154 hS) (zrd (v := n) hn ?_)
    refine And.intro (zA_154 hS) ⟨_, (zWi (by omega)), ?_⟩
    refine ⟨(3, (64 - (0 : Int)).toNat, 0), [some (zvr (154)), some (zvi (n * 8)), some (zvi ((0 : Int)))], ⟨rfl, rfl, rfl, rfl⟩, 0, (n + 1), rfl, rfl, rfl, rfl, rfl, rfl, rfl, (by omega), (by clear hQ; grind (splits := 40) [xu, shP, shN]), (fun c j h0 h1 => (zxcj h1 (zxu h0 rfl)))⟩
  · rintro nM lsM stM I1 L1 R1 S1 hz1 ⟨i, p, rfl, rfl, rfl, rfl, rfl, rfl, hp, hi, hm1, fr⟩
    refine And.intro ⟨(by omega), (zRb rfl)⟩ ⟨(fun h20 => False.elim (by omega)), fun h20 => ?_⟩
    refine And.intro (zA_154 hS) (zrd (v := p) hp ?_)
    refine And.intro ⟨(by omega), (zRb rfl), (by decide)⟩ (zdv (by omega) (fun q29 e29 => ?_))
    refine And.intro ⟨(by omega), (zRb rfl)⟩ ⟨fun h32 => ?_, fun h32 => ?_⟩
    · have t32 : p = 64 * N - 8 := by omega
      refine And.intro (zRb rfl) (zbf rfl ?_)
      refine And.intro ⟨(zRb rfl), (zRb rfl)⟩ (zbt rfl ?_)
      refine And.intro (zA_154 hS) (Exists.intro _ (And.intro (zinl_ok (zT5_1 1)) (And.intro rfl ?_)))
      refine And.intro (zA_154 hS) (zrd (v := p) hp ?_)
      refine And.intro (zA_154 hS) (zrdR (v := some 160) (zR_154_7 hR) ?_)
      refine And.intro (zN_160 hS) (zrdN (v := 128) (zV_160 hS) ?_)
      refine And.intro ⟨(by omega), (zRb rfl)⟩ ⟨(fun h9_67 => False.elim (by omega)), fun h9_67 => ?_⟩
      refine And.intro (zA_154 hS) (zrdR (v := some 160) (zR_154_7 hR) ?_)
      refine And.intro (zA_154 hS) (zrd (v := p) hp ?_)
      have b24_67 : (zand 0 255) = 0 % 256 := zand255 _
      refine And.intro ⟨(zx0 rfl), (zP_160 hS (by omega) (by omega))⟩ ⟨_, (zWi zr_and), ?_⟩
      refine And.intro (zA_154 hS) (zrd (v := p) hp ?_)
      refine And.intro (zA_154 hS) ⟨_, (zWi (by omega)), ?_⟩
      refine And.intro (zRb rfl) (zbf rfl ?_)
      refine And.intro ⟨(zRb rfl), (zRb rfl)⟩ (zbt rfl ?_)
      refine And.intro (zA_154 hS) (Exists.intro _ (And.intro (zinl_ok (zT5_1 1)) (And.intro rfl ?_)))
      refine And.intro (zA_154 hS) (zrd (v := (p + 1)) rfl ?_)
      refine And.intro (zA_154 hS) (zrdR (v := some 160) (zR_154_7 hR) ?_)
      refine And.intro (zN_160 hS) (zrdN (v := 128) (zV_160 hS) ?_)
      refine And.intro ⟨(by omega), (zRb rfl)⟩ ⟨(fun h9_67b => False.elim (by omega)), fun h9_67b => ?_⟩
      refine And.intro (zA_154 hS) (zrdR (v := some 160) (zR_154_7 hR) ?_)
      refine And.intro (zA_154 hS) (zrd (v := (p + 1)) rfl ?_)
      have b24_67b : (zand 0 255) = 0 % 256 := zand255 _
      refine And.intro ⟨(zx0 rfl), (zP_160 hS (by omega) (by omega))⟩ ⟨_, (zWi zr_and), ?_⟩
      refine And.intro (zA_154 hS) (zrd (v := (p + 1)) rfl ?_)
      refine And.intro (zA_154 hS) ⟨_, (zWi (by omega)), ?_⟩
      refine And.intro (zRb rfl) (zbf rfl ?_)
      refine And.intro ⟨(zRb rfl), (zRb rfl)⟩ (zbt rfl ?_)
      refine And.intro (zA_154 hS) (Exists.intro _ (And.intro (zinl_ok (zT5_1 1)) (And.intro rfl ?_)))
      refine And.intro (zA_154 hS) (zrd (v := ((p + 1) + 1)) rfl ?_)
      refine And.intro (zA_154 hS) (zrdR (v := some 160) (zR_154_7 hR) ?_)
      refine And.intro (zN_160 hS) (zrdN (v := 128) (zV_160 hS) ?_)
      refine And.intro ⟨(by omega), (zRb rfl)⟩ ⟨(fun h9_67bb => False.elim (by omega)), fun h9_67bb => ?_⟩
      refine And.intro (zA_154 hS) (zrdR (v := some 160) (zR_154_7 hR) ?_)
      refine And.intro (zA_154 hS) (zrd (v := ((p + 1) + 1)) rfl ?_)
      have b24_67bb : (zand 0 255) = 0 % 256 := zand255 _
      refine And.intro ⟨(zx0 rfl), (zP_160 hS (by omega) (by omega))⟩ ⟨_, (zWi zr_and), ?_⟩
      refine And.intro (zA_154 hS) (zrd (v := ((p + 1) + 1)) rfl ?_)
      refine And.intro (zA_154 hS) ⟨_, (zWi (by omega)), ?_⟩
      refine And.intro (zRb rfl) (zbf rfl ?_)
      refine And.intro ⟨(zRb rfl), (zRb rfl)⟩ (zbt rfl ?_)
      refine And.intro (zA_154 hS) (Exists.intro _ (And.intro (zinl_ok (zT5_1 1)) (And.intro rfl ?_)))
      refine And.intro (zA_154 hS) (zrd (v := (((p + 1) + 1) + 1)) rfl ?_)
      refine And.intro (zA_154 hS) (zrdR (v := some 160) (zR_154_7 hR) ?_)
      refine And.intro (zN_160 hS) (zrdN (v := 128) (zV_160 hS) ?_)
      refine And.intro ⟨(by omega), (zRb rfl)⟩ ⟨(fun h9_67bbb => False.elim (by omega)), fun h9_67bbb => ?_⟩
      refine And.intro (zA_154 hS) (zrdR (v := some 160) (zR_154_7 hR) ?_)
      refine And.intro (zA_154 hS) (zrd (v := (((p + 1) + 1) + 1)) rfl ?_)
      have b24_67bbb : (zand 0 255) = 0 % 256 := zand255 _
      refine And.intro ⟨(zx0 rfl), (zP_160 hS (by omega) (by omega))⟩ ⟨_, (zWi zr_and), ?_⟩
      refine And.intro (zA_154 hS) (zrd (v := (((p + 1) + 1) + 1)) rfl ?_)
      refine And.intro (zA_154 hS) ⟨_, (zWi (by omega)), ?_⟩
      refine And.intro (zRb rfl) (zbf rfl ?_)
      refine And.intro ⟨(zRb rfl), (zRb rfl)⟩ (zbf rfl ?_)
      have b62 : (zushr (n * 8) ((((56 + (-8)) + (-8)) + (-8)) + (-8))) = (n * 8) % 4294967296 / 16777216 := zushr_d _ 24 (by decide) (by decide)
      refine And.intro (zA_154 hS) (Exists.intro _ (And.intro (zinl_ok (zT5_1 1)) (And.intro rfl ?_)))
      refine And.intro (zA_154 hS) (zrd (v := ((((p + 1) + 1) + 1) + 1)) rfl ?_)
      refine And.intro (zA_154 hS) (zrdR (v := some 160) (zR_154_7 hR) ?_)
      refine And.intro (zN_160 hS) (zrdN (v := 128) (zV_160 hS) ?_)
      refine And.intro ⟨(by omega), (zRb rfl)⟩ ⟨(fun h9_67bbbb => False.elim (by omega)), fun h9_67bbbb => ?_⟩
      refine And.intro (zA_154 hS) (zrdR (v := some 160) (zR_154_7 hR) ?_)
      refine And.intro (zA_154 hS) (zrd (v := ((((p + 1) + 1) + 1) + 1)) rfl ?_)
      have b24_67bbbb : (zand (zushr (n * 8) ((((56 + (-8)) + (-8)) + (-8)) + (-8))) 255) = (zushr (n * 8) ((((56 + (-8)) + (-8)) + (-8)) + (-8))) % 256 := zand255 _
      refine And.intro ⟨(zx0 rfl), (zP_160 hS (by omega) (by omega))⟩ ⟨_, (zWi zr_and), ?_⟩
      refine And.intro (zA_154 hS) (zrd (v := ((((p + 1) + 1) + 1) + 1)) rfl ?_)
      refine And.intro (zA_154 hS) ⟨_, (zWi (by omega)), ?_⟩
      refine And.intro (zRb rfl) (zbf rfl ?_)
      refine And.intro ⟨(zRb rfl), (zRb rfl)⟩ (zbf rfl ?_)
      have b62b : (zushr (n * 8) (((((56 + (-8)) + (-8)) + (-8)) + (-8)) + (-8))) = (n * 8) % 4294967296 / 65536 := zushr_d _ 16 (by decide) (by decide)
      refine And.intro (zA_154 hS) (Exists.intro _ (And.intro (zinl_ok (zT5_1 1)) (And.intro rfl ?_)))
      refine And.intro (zA_154 hS) (zrd (v := (((((p + 1) + 1) + 1) + 1) + 1)) rfl ?_)
      refine And.intro (zA_154 hS) (zrdR (v := some 160) (zR_154_7 hR) ?_)
      refine And.intro (zN_160 hS) (zrdN (v := 128) (zV_160 hS) ?_)
      refine And.intro ⟨(by omega), (zRb rfl)⟩ ⟨(fun h9_67bbbbb => False.elim (by omega)), fun h9_67bbbbb => ?_⟩
      refine And.intro (zA_154 hS) (zrdR (v := some 160) (zR_154_7 hR) ?_)
      refine And.intro (zA_154 hS) (zrd (v := (((((p + 1) + 1) + 1) + 1) + 1)) rfl ?_)
      have b24_67bbbbb : (zand (zushr (n * 8) (((((56 + (-8)) + (-8)) + (-8)) + (-8)) + (-8))) 255) = (zushr (n * 8) (((((56 + (-8)) + (-8)) + (-8)) + (-8)) + (-8))) % 256 := zand255 _
      refine And.intro ⟨(zx0 rfl), (zP_160 hS (by omega) (by omega))⟩ ⟨_, (zWi zr_and), ?_⟩
      refine And.intro (zA_154 hS) (zrd (v := (((((p + 1) + 1) + 1) + 1) + 1)) rfl ?_)
      refine And.intro (zA_154 hS) ⟨_, (zWi (by omega)), ?_⟩
      refine And.intro (zRb rfl) (zbf rfl ?_)
      refine And.intro ⟨(zRb rfl), (zRb rfl)⟩ (zbf rfl ?_)
      have b62bb : (zushr (n * 8) ((((((56 + (-8)) + (-8)) + (-8)) + (-8)) + (-8)) + (-8))) = (n * 8) % 4294967296 / 256 := zushr_d _ 8 (by decide) (by decide)
      refine And.intro (zA_154 hS) (Exists.intro _ (And.intro (zinl_ok (zT5_1 1)) (And.intro rfl ?_)))
      refine And.intro (zA_154 hS) (zrd (v := ((((((p + 1) + 1) + 1) + 1) + 1) + 1)) rfl ?_)
      refine And.intro (zA_154 hS) (zrdR (v := some 160) (zR_154_7 hR) ?_)
      refine And.intro (zN_160 hS) (zrdN (v := 128) (zV_160 hS) ?_)
      refine And.intro ⟨(by omega), (zRb rfl)⟩ ⟨(fun h9_67bbbbbb => False.elim (by omega)), fun h9_67bbbbbb => ?_⟩
      refine And.intro (zA_154 hS) (zrdR (v := some 160) (zR_154_7 hR) ?_)
      refine And.intro (zA_154 hS) (zrd (v := ((((((p + 1) + 1) + 1) + 1) + 1) + 1)) rfl ?_)
      have b24_67bbbbbb : (zand (zushr (n * 8) ((((((56 + (-8)) + (-8)) + (-8)) + (-8)) + (-8)) + (-8))) 255) = (zushr (n * 8) ((((((56 + (-8)) + (-8)) + (-8)) + (-8)) + (-8)) + (-8))) % 256 := zand255 _
      refine And.intro ⟨(zx0 rfl), (zP_160 hS (by omega) (by omega))⟩ ⟨_, (zWi zr_and), ?_⟩
      refine And.intro (zA_154 hS) (zrd (v := ((((((p + 1) + 1) + 1) + 1) + 1) + 1)) rfl ?_)
      refine And.intro (zA_154 hS) ⟨_, (zWi (by omega)), ?_⟩
      refine And.intro (zRb rfl) (zbf rfl ?_)
      refine And.intro ⟨(zRb rfl), (zRb rfl)⟩ (zbf rfl ?_)
      have b62bbb : (zushr (n * 8) (((((((56 + (-8)) + (-8)) + (-8)) + (-8)) + (-8)) + (-8)) + (-8))) = zn (n * 8) := zushr0 _
      refine And.intro (zA_154 hS) (Exists.intro _ (And.intro (zinl_ok (zT5_1 1)) (And.intro rfl ?_)))
      refine And.intro (zA_154 hS) (zrd (v := (((((((p + 1) + 1) + 1) + 1) + 1) + 1) + 1)) rfl ?_)
      refine And.intro (zA_154 hS) (zrdR (v := some 160) (zR_154_7 hR) ?_)
      refine And.intro (zN_160 hS) (zrdN (v := 128) (zV_160 hS) ?_)
      refine And.intro ⟨(by omega), (zRb rfl)⟩ ⟨(fun h9_67bbbbbbb => False.elim (by omega)), fun h9_67bbbbbbb => ?_⟩
      refine And.intro (zA_154 hS) (zrdR (v := some 160) (zR_154_7 hR) ?_)
      refine And.intro (zA_154 hS) (zrd (v := (((((((p + 1) + 1) + 1) + 1) + 1) + 1) + 1)) rfl ?_)
      have b24_67bbbbbbb : (zand (zushr (n * 8) (((((((56 + (-8)) + (-8)) + (-8)) + (-8)) + (-8)) + (-8)) + (-8))) 255) = (zushr (n * 8) (((((((56 + (-8)) + (-8)) + (-8)) + (-8)) + (-8)) + (-8)) + (-8))) % 256 := zand255 _
      refine And.intro ⟨(zx0 rfl), (zP_160 hS (by omega) (by omega))⟩ ⟨_, (zWi zr_and), ?_⟩
      refine And.intro (zA_154 hS) (zrd (v := (((((((p + 1) + 1) + 1) + 1) + 1) + 1) + 1)) rfl ?_)
      refine And.intro (zA_154 hS) ⟨_, (zWi (by omega)), ?_⟩
      refine And.intro (zRb rfl) (zbt rfl ?_)
      refine And.intro (zA_154 hS) (zrdR (v := some 161) (zR_154_9 hR) ?_)
      refine And.intro (zN_4 hS) (zrdN (v := 8) (zV_4 hS) ?_)
      refine And.intro ⟨⟨(zx0 rfl), (zS_161 hS).2, (zS_4 hS).2, by rw [(zS_4 hS).1, (zS_161 hS).1], by rw [(zS_161 hS).1]; first | exact Or.inl rfl | exact Or.inr rfl⟩, ⟨by omega, by omega, by omega, by rw [(zS_4 hS).1]; show _ ≤ ((_ : Nat) : Int); omega, by rw [(zS_161 hS).1]; show _ ≤ ((_ : Nat) : Int); omega⟩, by omega, by omega⟩ ?_
      refine And.intro (fun _ => ?_) (fun h => absurd h (by rw [(zS_161 hS).1]; decide))
      refine ⟨(2, (64 * N - (0 : Int)).toNat, 0), zlt1 (by omega), [some (zvr (154)), none, some (zvi ((0 : Int)))], ⟨rfl, rfl, rfl⟩, 0, rfl, rfl, rfl, rfl, rfl, rfl, (Eq.trans (b := (((((((((p + 1) + 1) + 1) + 1) + 1) + 1) + 1) + 1) : Int)) (zcpu (by omega) rfl) (by omega)), (by omega), (by clear hQ; grind (splits := 40) [xu, shP, shN]), ?_, ?_, (fun c j h0 h1 h2 h3 => (zcpu h1 (zxcj h3 (zxu h0 (zxcj h3 (zxu h0 (zxcj h3 (zxu h0 (zxcj h3 (zxu h0 (zxcj h3 (zxu h0 (zxcj h3 (zxu h0 (zxcj h3 (zxu h0 (zxcj h3 (zxu h0 ((fr c j (by omega) (by omega)).trans rfl)))))))))))))))))))⟩
      · intro j hj
        refine zcpu (by decide) ?_
        have y : n.toNat < p.toNat ∧ p.toNat = 64 * shN n.toNat - 8 ∧ 8 ≤ 64 * shN n.toNat := by rw [← hN]; omega
        have sp : ∀ k : Nat, n.toNat < k → shP m n.toNat k = if k < 64 * shN n.toNat - 4 then 0 else if k = 64 * shN n.toNat - 4 then (8 * (n.toNat : Int) / 16777216 % 256) else if k = 64 * shN n.toNat - 3 then (8 * (n.toNat : Int) / 65536 % 256) else if k = 64 * shN n.toNat - 2 then (8 * (n.toNat : Int) / 256 % 256) else (8 * (n.toNat : Int) % 256) := fun k hk => (if_neg (by omega)).trans (if_neg (by omega))
        have z : j < p.toNat ∨ j = p.toNat ∨ j = (p + 1).toNat ∨ j = (p + 1 + 1).toNat ∨ j = (p + 1 + 1 + 1).toNat ∨ j = (p + 1 + 1 + 1 + 1).toNat ∨ j = (p + 1 + 1 + 1 + 1 + 1).toNat ∨ j = (p + 1 + 1 + 1 + 1 + 1 + 1).toNat ∨ j = (p + 1 + 1 + 1 + 1 + 1 + 1 + 1).toNat := by omega
        have zz2 : zn (n * 8) = n * 8 := zn_id (by constructor <;> omega)
        rcases z with z | z | z | z | z | z | z | z | z
        · exact zxu (by decide) (zxs (by omega) (zxu (by decide) (zxs (by omega) (zxu (by decide) (zxs (by omega) (zxu (by decide) (zxs (by omega) (zxu (by decide) (zxs (by omega) (zxu (by decide) (zxs (by omega) (zxu (by decide) (zxs (by omega) (zxu (by decide) (zxs (by omega) (hm1 j (by omega)))))))))))))))))
        · rw [sp j (by omega), if_pos (by omega)]
          exact zxu (by decide) (zxs (by omega) (zxu (by decide) (zxs (by omega) (zxu (by decide) (zxs (by omega) (zxu (by decide) (zxs (by omega) (zxu (by decide) (zxs (by omega) (zxu (by decide) (zxs (by omega) (zxu (by decide) (zxs (by omega) (zxu (by decide) (by rw [z]; exact zxe.trans (by omega))))))))))))))))
        · rw [sp j (by omega), if_pos (by omega)]
          exact zxu (by decide) (zxs (by omega) (zxu (by decide) (zxs (by omega) (zxu (by decide) (zxs (by omega) (zxu (by decide) (zxs (by omega) (zxu (by decide) (zxs (by omega) (zxu (by decide) (zxs (by omega) (zxu (by decide) (by rw [z]; exact zxe.trans (by omega))))))))))))))
        · rw [sp j (by omega), if_pos (by omega)]
          exact zxu (by decide) (zxs (by omega) (zxu (by decide) (zxs (by omega) (zxu (by decide) (zxs (by omega) (zxu (by decide) (zxs (by omega) (zxu (by decide) (zxs (by omega) (zxu (by decide) (by rw [z]; exact zxe.trans (by omega))))))))))))
        · rw [sp j (by omega), if_pos (by omega)]
          exact zxu (by decide) (zxs (by omega) (zxu (by decide) (zxs (by omega) (zxu (by decide) (zxs (by omega) (zxu (by decide) (zxs (by omega) (zxu (by decide) (by rw [z]; exact zxe.trans (by omega))))))))))
        · rw [sp j (by omega), if_neg (by omega), if_pos (by omega)]
          exact zxu (by decide) (zxs (by omega) (zxu (by decide) (zxs (by omega) (zxu (by decide) (zxs (by omega) (zxu (by decide) (by rw [z]; exact zxe.trans (by omega))))))))
        · rw [sp j (by omega), if_neg (by omega), if_neg (by omega), if_pos (by omega)]
          exact zxu (by decide) (zxs (by omega) (zxu (by decide) (zxs (by omega) (zxu (by decide) (by rw [z]; exact zxe.trans (by omega))))))
        · rw [sp j (by omega), if_neg (by omega), if_neg (by omega), if_neg (by omega), if_pos (by omega)]
          exact zxu (by decide) (zxs (by omega) (zxu (by decide) (by rw [z]; exact zxe.trans (by omega))))
        · rw [sp j (by omega), if_neg (by omega), if_neg (by omega), if_neg (by omega), if_neg (by omega)]
          exact zxu (by decide) (by rw [z]; exact zxe.trans (by omega))
      · intro j hj
        show (xcpF _ _ _ _ _ _ 161) j = _
        unfold xcpF
        rw [if_pos rfl]
        unfold va_cpy
        rw [if_pos ⟨Nat.zero_le _, by show j < 0 + 8; omega⟩]
        show _ = (xmh.1 4 j).toInt
        rw [← (hT 4 (by decide) (by decide) j (by omega)).1]
        show _ = I 4 j
        rw [show (Int.toNat 0 + (j - Int.toNat 0)) = j from by show 0 + (j - 0) = j; omega]
        first
        | exact (fr 4 j (by decide) (by decide))
        | exact zxu (by decide) (zxu (by decide) (zxu (by decide) (zxu (by decide) (zxu (by decide) (zxu (by decide) (zxu (by decide) (zxu (by decide) (zxu (by decide) (zxu (by decide) (zxu (by decide) (zxu (by decide) (zxu (by decide) (zxu (by decide) (zxu (by decide) (zxu (by decide) (fr 4 j (by omega) (by omega)))))))))))))))))
    · refine And.intro (zA_154 hS) (Exists.intro _ (And.intro (zinl_ok (zT5_1 1)) (And.intro rfl ?_)))
      refine And.intro (zA_154 hS) (zrd (v := p) hp ?_)
      refine And.intro (zA_154 hS) (zrdR (v := some 160) (zR_154_7 hR) ?_)
      refine And.intro (zN_160 hS) (zrdN (v := 128) (zV_160 hS) ?_)
      refine And.intro ⟨(by omega), (zRb rfl)⟩ ⟨(fun h9_37 => False.elim (by omega)), fun h9_37 => ?_⟩
      refine And.intro (zA_154 hS) (zrdR (v := some 160) (zR_154_7 hR) ?_)
      refine And.intro (zA_154 hS) (zrd (v := p) hp ?_)
      have b24_37 : (zand 0 255) = 0 % 256 := zand255 _
      refine And.intro ⟨(zx0 rfl), (zP_160 hS (by omega) (by omega))⟩ ⟨_, (zWi zr_and), ?_⟩
      refine And.intro (zA_154 hS) (zrd (v := p) hp ?_)
      refine And.intro (zA_154 hS) ⟨_, (zWi (by omega)), ?_⟩
      refine ⟨(3, (64 - (i + 1)).toNat, 0), zlt2 (by omega), [some (zvr (154)), some (zvi (n * 8)), some (zvi ((i + 1)))], ⟨rfl, rfl, rfl, rfl⟩, (i + 1), (p + 1), rfl, rfl, rfl, rfl, rfl, rfl, rfl, (by omega), (by clear hQ; grind (splits := 40) [xu, shP, shN]), (fun c j h0 h1 => (zxcj h1 (zxu h0 ((fr c j (by omega) (by omega)).trans rfl))))⟩
  · rintro nM lsM stM I1 L1 R1 S1 hz1 ⟨f, rfl, rfl, rfl, rfl, rfl, rfl, hp, hf, hf2, hm1, hs, fr⟩
    refine And.intro (zA_154 hS) (zrd (v := (64 * N)) hp ?_)
    refine And.intro ⟨(by omega), (by omega)⟩ ⟨fun h102 => ?_, fun h102 => ?_⟩
    · refine ⟨(1, (32 - (0 : Int)).toNat, 0), zlt1 (by omega), [some (zvr (154)), none, some (zvi ((0 : Int)))], ⟨rfl, rfl, rfl⟩, 0, rfl, rfl, rfl, rfl, rfl, rfl, (by omega), (fun j hj => by rw [hs j hj, show (f / 64).toNat = N by omega]), (by clear hQ; grind (splits := 40) [xu, shP, shN]), (fun c j h0 h1 h2 h3 h4 => ((fr c j (by omega) (by omega) (by omega) (by omega)).trans rfl))⟩
    · refine And.intro (zA_154 hS) ⟨_, sn_A_fill.up (by decide), ?_⟩
      refine ⟨_, (I1 160), rfl, hS, hR, (by omega), (fun j _ => rfl), ?_⟩
      intro I107o p107hw p107bfr
      refine And.intro (zA_154 hS) ⟨_, sn_A_mix.up (by decide), ?_⟩
      refine ⟨(shW (shP m n.toNat) f.toNat 48), (shS m n.toNat (f / 64).toNat), rfl, hS, hR, (zStf hT (fun c j h1 h2 => ⟨((p107bfr c j (by omega)).trans ((fr c j (by omega) (by omega) (by omega) (by omega)).trans rfl)), rfl⟩)), (fun j hj => (p107hw j hj).trans (shW_ext (f := f.toNat) (fun i h1 h2 => hm1 i (by omega)) 48 j (by omega))), (fun j hj => (p107bfr 161 j (by decide)).trans (hs j hj)), ?_⟩
      intro I111o p111hq p111bfr
      refine ⟨(2, (64 * N - (f + 64)).toNat, 0), zlt2 (by omega), [some (zvr (154)), none, some (zvi ((f + 64)))], ⟨rfl, rfl, rfl⟩, (f + 64), rfl, rfl, rfl, rfl, rfl, rfl, (Eq.trans (b := ((64 * N) : Int)) ((p111bfr 154 8 (by omega)).trans ((p107bfr 154 8 (by omega)).trans hp)) (by omega)), (by omega), (by clear hQ; grind (splits := 40) [xu, shP, shN]), (fun j hj => (p111bfr 160 j (by decide)).trans ((p107bfr 160 j (by decide)).trans (hm1 j hj))), ?_, (fun c j h0 h1 h2 h3 => ((p111bfr c j (by omega)).trans ((p107bfr c j (by omega)).trans ((fr c j (by omega) (by omega) (by omega) (by omega)).trans rfl))))⟩
      · intro j hj
        rw [p111hq j hj, show ((f + 64) / 64).toNat = (f / 64).toNat + 1 by omega]
        show _ = shB (shP m n.toNat) (64 * (f / 64).toNat) (shS m n.toNat (f / 64).toNat) j
        rw [show 64 * (f / 64).toNat = f.toNat by omega]
        rfl
  · rintro nM lsM stM I1 L1 R1 S1 hz1 ⟨i, rfl, rfl, rfl, rfl, rfl, rfl, hi, hs, hd, fr⟩
    refine And.intro ⟨(by omega), (zRb rfl)⟩ ⟨fun h125 => ?_, fun h125 => ?_⟩
    · refine hQ _ (by clear hQ; grind (splits := 40) [xu, shP, shN]) (fun c j h0 h1 h2 h3 h4 => ((fr c j (by omega) (by omega) (by omega) (by omega) (by omega)).trans rfl))
    · refine And.intro (zA_154 hS) (zrdR (v := some 163) (zR_154_11 hR) ?_)
      refine And.intro (zA_154 hS) (zrdR (v := some 161) (zR_154_9 hR) ?_)
      refine And.intro ⟨(by omega), (zRb rfl), (by decide)⟩ (zdv (by omega) (fun q139 e139 => ?_))
      refine And.intro (zP_161 hS (by omega) (by omega)) (fun v140 e140 r140 => ?_)
      refine And.intro ⟨(by omega), (zRb rfl), (by decide)⟩ (zdv (by omega) (fun q145 e145 => ?_))
      have b154 : (zand (zushr v140 (24 - (q145 * 8))) 255) = (zushr v140 (24 - (q145 * 8))) % 256 := zand255 _
      refine And.intro ⟨(zx0 rfl), (zP_163 hS (by omega) (by omega))⟩ ⟨_, (zWi zr_and), ?_⟩
      refine ⟨(1, (32 - (i + 1)).toNat, 0), zlt2 (by omega), [some (zvr (154)), none, some (zvi ((i + 1)))], ⟨rfl, rfl, rfl⟩, (i + 1), rfl, rfl, rfl, rfl, rfl, rfl, (by omega), (by clear hQ; grind (splits := 40) [xu, shP, shN]), ?_, (fun c j h0 h1 h2 h3 h4 => (zxu h3 ((fr c j (by omega) (by omega) (by omega) (by omega) (by omega)).trans rfl)))⟩
      · intro j hj
        by_cases h : j = i.toNat
        · subst h
          rw [zxe]
          show _ = zand (zushr (shS m n.toNat (shN n.toNat) (i.toNat / 4)) (24 - (i.toNat % 4 : Nat) * 8)) 255
          rw [← hN, ← hs (i.toNat / 4) (by omega), e140, show q139.toNat = i.toNat / 4 by omega, show q145 = ((i.toNat % 4 : Nat) : Int) by omega]
        · exact zxs h (hd j (by omega)))
def T_A_above : ZT := fun args I L R S Q => ∃ (w : Int) (k : Int) (d : Int) (a : Nat → Int) (b : Nat → Int), args = [zvr 154, zvi w, zvi k, zvi d] ∧ (zSh S) ∧ (zRs R) ∧ (zSt I L) ∧ (0 ≤ w ∧ 0 ≤ k ∧ 1 ≤ d ∧ 2 * k < d ∧ d ≤ 8) ∧ (w + 32 * d ≤ 4800) ∧ (∀ i : Nat, i < 32 → I 157 (w + 64 * k + i).toNat = a i ∧ 0 ≤ a i ∧ a i ≤ 255) ∧ (2 * k + 1 < d → ∀ i : Nat, i < 32 → I 157 (w + 64 * k + 32 + i).toNat = b i ∧ 0 ≤ b i ∧ b i ≤ 255) ∧ ∀ (I' : ZI), (∀ j : Nat, j < 32 → I' 163 j = if 2 * k + 1 < d then shD (rnM a b) 65 j else a j) → (∀ c j, ¬ c = 160 → ¬ c = 161 → ¬ c = 162 → ¬ c = 163 → ¬ (c = 154 ∧ j = 8) → I' c j = I c j) → Q none I' L R S
theorem sn_A_above : ZSnd 4 5 15 T_A_above := ZSnd.loops (zT5_15 3) (by
  rintro args I L R S Q hz ⟨w, k, d, a, b, rfl, hS, hR, hT, h0, h1, ha, hb, hQ⟩
  refine ⟨[32], fun nM tM lsM stM I1 L1 R1 S1 => match tM with
      | 32 => ∃ (i : Int), nM = ((64 - i).toNat, 0, 0) ∧ lsM = [some (zvr (154)), some (zvi (w)), some (zvi (k)), some (zvi (d)), some (zvi (w + 2 * k * 32)), some (zvi (i))] ∧ stM = [] ∧ L1 = L ∧ R1 = R ∧ S1 = S ∧ (0 ≤ i ∧ i ≤ 64) ∧ (2 * k + 1 < d) ∧ (I1 154 8 = 1 + i) ∧ (∀ j : Nat, (j : Int) < 1 + i → I1 160 j = rnM a b j) ∧ (∀ c j, ¬ c = 160 → ¬ (c = 154 ∧ j = 8) → I1 c j = I c j)
      | _ => False, rfl, ?_, ⟨?_, True.intro⟩⟩
  · refine And.intro ⟨(by omega), (by omega)⟩ ⟨fun h16 => ?_, fun h16 => ?_⟩
    · refine And.intro (zA_154 hS) (zrdR (v := some 157) (zR_154_3 hR) ?_)
      refine And.intro (zA_154 hS) (zrdR (v := some 163) (zR_154_11 hR) ?_)
      refine And.intro ⟨⟨(zx0 rfl), (zS_163 hS).2, (zS_157 hS).2, by rw [(zS_157 hS).1, (zS_163 hS).1], by rw [(zS_163 hS).1]; first | exact Or.inl rfl | exact Or.inr rfl⟩, ⟨by omega, by omega, by omega, by rw [(zS_157 hS).1]; show _ ≤ ((_ : Nat) : Int); omega, by rw [(zS_163 hS).1]; show _ ≤ ((_ : Nat) : Int); omega⟩, by omega, by omega⟩ ?_
      refine And.intro (fun _ => ?_) (fun h => absurd h (by rw [(zS_163 hS).1]; decide))
      refine hQ _ ?_ (fun c j h0 h1 h2 h3 h4 => (zcpu h3 rfl))
      · first
        | (intro j hj; rw [if_pos hk]; exact p60hd j hj)
        | (intro j hj
           rw [if_neg (by omega)]
           show (xcpF _ _ _ _ _ _ 163) j = _
           unfold xcpF
           rw [if_pos rfl]
           unfold va_cpy
           rw [if_pos ⟨Nat.zero_le _, by show j < 0 + 32; omega⟩]
           rw [← (ha j hj).1]
           congr 1
           show _ + (j - 0) = _
           omega)
    · refine And.intro (zA_154 hS) ⟨_, (zWi (zRb rfl)), ?_⟩
      refine And.intro (zA_154 hS) (Exists.intro _ (And.intro (zinl_ok (zT5_1 2)) (And.intro rfl ?_)))
      refine And.intro (zA_154 hS) (zrd (v := 0) rfl ?_)
      refine And.intro (zA_154 hS) (zrdR (v := some 160) (zR_154_7 hR) ?_)
      refine And.intro (zN_160 hS) (zrdN (v := 128) (zV_160 hS) ?_)
      refine And.intro ⟨(zRb rfl), (zRb rfl)⟩ (zbf rfl ?_)
      refine And.intro (zA_154 hS) (zrdR (v := some 160) (zR_154_7 hR) ?_)
      refine And.intro (zA_154 hS) (zrd (v := 0) rfl ?_)
      have b24_26 : (zand 1 255) = 1 % 256 := zand255 _
      refine And.intro ⟨(zx0 rfl), (zP_160 hS (by omega) (by omega))⟩ ⟨_, (zWi zr_and), ?_⟩
      refine And.intro (zA_154 hS) (zrd (v := 0) rfl ?_)
      refine And.intro (zA_154 hS) ⟨_, (zWi (zRb rfl)), ?_⟩
      refine ⟨((64 - (0 : Int)).toNat, 0, 0), [some (zvr (154)), some (zvi (w)), some (zvi (k)), some (zvi (d)), some (zvi (w + 2 * k * 32)), some (zvi ((0 : Int)))], ⟨rfl, rfl, rfl, rfl, (congrArg (fun z => some (zvi z)) (by omega)), rfl, rfl⟩, 0, rfl, rfl, rfl, rfl, rfl, rfl, (by omega), (by omega), (Eq.trans (b := ((0 + 1) : Int)) rfl (by omega)), ?_, (fun c j h0 h1 => (zxcj h1 (zxu h0 (zxcj h1 rfl))))⟩
      · intro j hj
        obtain rfl : j = 0 := by omega
        exact (zxu (by decide) zxe).trans b24_26
  · rintro nM lsM stM I1 L1 R1 S1 hz1 ⟨i, rfl, rfl, rfl, rfl, rfl, rfl, hi, hk, hp, hm1, fr⟩
    refine And.intro ⟨(by omega), (zRb rfl)⟩ ⟨fun h36 => ?_, fun h36 => ?_⟩
    · refine And.intro (zA_154 hS) ⟨_, sn_A_dig.up (by decide), ?_⟩
      refine ⟨65, (rnM a b), rfl, hS, hR, (zStf hT (fun c j h1 h2 => ⟨((fr c j (by omega) (by omega)).trans rfl), rfl⟩)), (hp.trans (by omega)), (by omega), (fun j hj => hm1 j (by omega)), ?_⟩
      intro I60o p60hd p60bfr
      refine hQ _ ?_ (fun c j h0 h1 h2 h3 h4 => ((p60bfr c j (by omega) (by omega) (by omega) (by omega) (by omega)).trans ((fr c j (by omega) (by omega)).trans rfl)))
      · first
        | (intro j hj; rw [if_pos hk]; exact p60hd j hj)
        | (intro j hj
           rw [if_neg (by omega)]
           show (xcpF _ _ _ _ _ _ 163) j = _
           unfold xcpF
           rw [if_pos rfl]
           unfold va_cpy
           rw [if_pos ⟨Nat.zero_le _, by show j < 0 + 32; omega⟩]
           rw [← (ha j hj).1]
           congr 1
           show _ + (j - 0) = _
           omega)
    · refine And.intro (zA_154 hS) (zrdR (v := some 157) (zR_154_3 hR) ?_)
      refine And.intro (zP_157 hS (by omega) (by omega)) (fun v49 e49 r49 => ?_)
      refine And.intro (zA_154 hS) (Exists.intro _ (And.intro (zinl_ok (zT5_1 2)) (And.intro rfl ?_)))
      refine And.intro (zA_154 hS) (zrd (v := (1 + i)) hp ?_)
      refine And.intro (zA_154 hS) (zrdR (v := some 160) (zR_154_7 hR) ?_)
      refine And.intro (zN_160 hS) (zrdN (v := 128) (zV_160 hS) ?_)
      refine And.intro ⟨(by omega), (zRb rfl)⟩ ⟨(fun h9_50 => False.elim (by omega)), fun h9_50 => ?_⟩
      refine And.intro (zA_154 hS) (zrdR (v := some 160) (zR_154_7 hR) ?_)
      refine And.intro (zA_154 hS) (zrd (v := (1 + i)) hp ?_)
      have b24_50 : (zand v49 255) = v49 % 256 := zand255 _
      refine And.intro ⟨(zx0 rfl), (zP_160 hS (by omega) (by omega))⟩ ⟨_, (zWi zr_and), ?_⟩
      refine And.intro (zA_154 hS) (zrd (v := (1 + i)) hp ?_)
      refine And.intro (zA_154 hS) ⟨_, (zWi (by omega)), ?_⟩
      refine ⟨((64 - (i + 1)).toNat, 0, 0), zlt6 (by omega), [some (zvr (154)), some (zvi (w)), some (zvi (k)), some (zvi (d)), some (zvi (w + 2 * k * 32)), some (zvi ((i + 1)))], ⟨rfl, rfl, rfl, rfl, rfl, rfl, rfl⟩, (i + 1), rfl, rfl, rfl, rfl, rfl, rfl, (by omega), (by omega), (Eq.trans (b := (((1 + i) + 1) : Int)) rfl (by omega)), ?_, (fun c j h0 h1 => (zxcj h1 (zxu h0 ((fr c j (by omega) (by omega)).trans rfl))))⟩
      · intro j hj
        by_cases h : j = (1 + i).toNat
        · subst h
          rw [zxu (by decide) zxe]
          rw [b24_50, e49, show I1 157 (w + 2 * k * 32 + i).toNat = I 157 (w + 2 * k * 32 + i).toNat from fr _ _ (by decide) (by omega)]
          by_cases h3 : i < 32
          · obtain ⟨q1, q2, q3⟩ := ha i.toNat (by omega)
            rw [show (w + 64 * k + (i.toNat : Int)).toNat = (w + 2 * k * 32 + i).toNat by omega] at q1
            rw [q1]
            unfold rnM
            rw [if_neg (by omega), if_pos (by omega), show (1 + i).toNat - 1 = i.toNat by omega]
            omega
          · obtain ⟨q1, q2, q3⟩ := hb hk (i.toNat - 32) (by omega)
            rw [show (w + 64 * k + 32 + ((i.toNat - 32 : Nat) : Int)).toNat = (w + 2 * k * 32 + i).toNat by omega] at q1
            rw [q1]
            unfold rnM
            rw [if_neg (by omega), if_neg (by omega), show (1 + i).toNat - 33 = i.toNat - 32 by omega]
            omega
        · exact zxu (by decide) (zxs h (hm1 j (by omega))))
def T_A_grow : ZT := fun args I L R S Q => ∃ (r : Nat) (n : Nat) (t : Nat → Int), args = [zvr 154, zvi r] ∧ (zSh S) ∧ (zRs R) ∧ (zSt I L) ∧ (I 154 0 = r + 1) ∧ (r < 10) ∧ (1 ≤ n ∧ n ≤ 512) ∧ (I 156 r = n) ∧ (∀ j : Nat, j < n → I 155 (512 * r + j) = t j ∧ 0 ≤ t j ∧ t j ≤ 255) ∧ ∀ (I' : ZI), (∀ l k i : Nat, (∀ m, m < l → 1 < rW n m) → k < rW n l → i < 32 → I' 157 (480 * r + 32 * (rO n l + k) + i) = rD t n l k i) → (∀ c j, ¬ c = 160 → ¬ c = 161 → ¬ c = 162 → ¬ c = 163 → ¬ (c = 154 ∧ j = 8) → ¬ (c = 157 ∧ 480 * r ≤ j ∧ j < 480 * r + 480) → I' c j = I c j) → Q none I' L R S
theorem sn_A_grow : ZSnd 5 5 6 T_A_grow := ZSnd.loops (zT5_6 4) (by
  rintro args I L R S Q hz ⟨r, n, t, rfl, hS, hR, hT, hc, h0, h1, hn, ht, hQ⟩
  have hw0 : rW n 0 = (n + 63) / 64 := rfl
  have hwu : ∀ l, rW n (l + 1) = (rW n l + 1) / 2 := fun _ => rfl
  have hou : ∀ l, rO n (l + 1) = rO n l + rW n l := fun _ => rfl
  refine ⟨[15, 30, 109, 132], fun nM tM lsM stM I1 L1 R1 S1 => match tM with
      | 15 => ∃ (f : Int), nM = (4, (9 - f).toNat, 0) ∧ lsM = [some (zvr (154)), some (zvi (r)), some (zvi (rW n 0)), some (zvi (480 * r + 32 * f)), some (zvi (f)), none, none, none] ∧ stM = [] ∧ L1 = L ∧ R1 = R ∧ S1 = S ∧ (0 ≤ f ∧ f ≤ rW n 0) ∧ (∀ k i : Nat, (k : Int) < f → i < 32 → I1 157 (480 * r + 32 * k + i) = rD t n 0 k i) ∧ (∀ c j, ¬ c = 160 → ¬ c = 161 → ¬ c = 162 → ¬ c = 163 → ¬ (c = 154 ∧ j = 8) → ¬ (c = 157 ∧ 480 * r ≤ j ∧ j < 480 * r + 480) → I1 c j = I c j)
      | 30 => ∃ (f : Int) (i : Int), nM = (4, (8 - f).toNat, (65 - i).toNat) ∧ lsM = [some (zvr (154)), some (zvi (r)), some (zvi (rW n 0)), some (zvi (480 * r + 32 * f)), some (zvi (f)), some (zvi (i)), none, none] ∧ stM = [] ∧ L1 = L ∧ R1 = R ∧ S1 = S ∧ (0 ≤ f ∧ f < rW n 0) ∧ (0 ≤ i ∧ i ≤ 64 ∧ 64 * f + i ≤ n) ∧ (I1 154 8 = 3 + i) ∧ (∀ j : Nat, (j : Int) < 3 + i → I1 160 j = rlM t f.toNat j) ∧ (∀ k i : Nat, (k : Int) < f → i < 32 → I1 157 (480 * r + 32 * k + i) = rD t n 0 k i) ∧ (∀ c j, ¬ c = 160 → ¬ c = 161 → ¬ c = 162 → ¬ c = 163 → ¬ (c = 154 ∧ j = 8) → ¬ (c = 157 ∧ 480 * r ≤ j ∧ j < 480 * r + 480) → I1 c j = I c j)
      | 109 => ∃ (l : Nat), nM = (2, (rW n l), 20) ∧ lsM = [some (zvr (154)), some (zvi (r)), some (zvi (rW n l)), some (zvi (480 * r + 32 * rO n (l + 1))), some (zvi (480 * r + 32 * rO n l)), some (zvi (l)), none, none] ∧ stM = [] ∧ L1 = L ∧ R1 = R ∧ S1 = S ∧ ((l = 0 ∧ rW n l ≤ 8 ∧ rO n l = 0) ∨ (l = 1 ∧ rW n l ≤ 4 ∧ rO n l ≤ 8) ∨ (l = 2 ∧ rW n l ≤ 2 ∧ rO n l ≤ 12) ∨ (l = 3 ∧ rW n l ≤ 1 ∧ rO n l ≤ 14)) ∧ (∀ m, m < l → 1 < rW n m) ∧ (∀ m k i : Nat, m ≤ l → k < rW n m → i < 32 → I1 157 (480 * r + 32 * (rO n m + k) + i) = rD t n m k i) ∧ (∀ c j, ¬ c = 160 → ¬ c = 161 → ¬ c = 162 → ¬ c = 163 → ¬ (c = 154 ∧ j = 8) → ¬ (c = 157 ∧ 480 * r ≤ j ∧ j < 480 * r + 480) → I1 c j = I c j)
      | 132 => ∃ (l : Nat) (k : Int), nM = (2, (rW n l), (9 - k).toNat) ∧ lsM = [some (zvr (154)), some (zvi (r)), some (zvi (rW n l)), some (zvi (480 * r + 32 * (rO n (l + 1) + k))), some (zvi (480 * r + 32 * rO n l)), some (zvi (l)), some (zvi (rW n (l + 1))), some (zvi (k))] ∧ stM = [] ∧ L1 = L ∧ R1 = R ∧ S1 = S ∧ ((l = 0 ∧ rW n l ≤ 8 ∧ rO n l = 0) ∨ (l = 1 ∧ rW n l ≤ 4 ∧ rO n l ≤ 8) ∨ (l = 2 ∧ rW n l ≤ 2 ∧ rO n l ≤ 12) ∨ (l = 3 ∧ rW n l ≤ 1 ∧ rO n l ≤ 14)) ∧ (1 < rW n l) ∧ (∀ m, m < l → 1 < rW n m) ∧ (0 ≤ k ∧ k ≤ rW n (l + 1)) ∧ (∀ m k i : Nat, m ≤ l → k < rW n m → i < 32 → I1 157 (480 * r + 32 * (rO n m + k) + i) = rD t n m k i) ∧ (∀ j i : Nat, (j : Int) < k → i < 32 → I1 157 (480 * r + 32 * (rO n (l + 1) + j) + i) = rD t n (l + 1) j i) ∧ (∀ c j, ¬ c = 160 → ¬ c = 161 → ¬ c = 162 → ¬ c = 163 → ¬ (c = 154 ∧ j = 8) → ¬ (c = 157 ∧ 480 * r ≤ j ∧ j < 480 * r + 480) → I1 c j = I c j)
      | _ => False, rfl, ?_, ⟨?_, ?_, ?_, ?_, True.intro⟩⟩
  · refine And.intro (zA_154 hS) (Exists.intro _ (And.intro (zinl_ok (zT5_14 3)) (And.intro rfl ?_)))
    refine And.intro (zA_154 hS) (Exists.intro _ (And.intro (zinl_ok (zT5_11 2)) (And.intro rfl ?_)))
    refine And.intro (by omega) ⟨(fun h1_2_2 => False.elim (by omega)), fun h1_2_2 => ?_⟩
    refine And.intro (zA_154 hS) (zrd (v := (r + 1)) hc ?_)
    refine And.intro ⟨(by omega), (by omega)⟩ ⟨(fun h9_2_2 => False.elim (by omega)), fun h9_2_2 => ?_⟩
    refine And.intro (Or.inr rfl) ?_
    refine And.intro (zRb rfl) (zbf rfl ?_)
    refine And.intro (zA_154 hS) (zrdR (v := some 156) (zR_154_2 hR) ?_)
    refine And.intro (zP_156 hS (by omega) (by omega)) (fun v13_2 e13_2 r13_2 => ?_)
    have f13_2 : v13_2 = n := e13_2.trans hn
    refine And.intro ⟨(by omega), (zRb rfl), (by decide)⟩ (zdv (by omega) (fun q21_2 e21_2 => ?_))
    refine ⟨(4, (9 - (0 : Int)).toNat, 0), [some (zvr (154)), some (zvi (r)), some (zvi (rW n 0)), some (zvi (480 * r + 32 * (0 : Int))), some (zvi ((0 : Int))), none, none, none], ⟨rfl, rfl, (congrArg (fun z => some (zvi z)) (by omega)), (congrArg (fun z => some (zvi z)) (by omega)), rfl, rfl⟩, 0, rfl, rfl, rfl, rfl, rfl, rfl, (by omega), (by clear hQ; grind [xu]), (fun c j h0 h1 h2 h3 h4 h5 => rfl)⟩
  · rintro nM lsM stM I1 L1 R1 S1 hz1 ⟨f, rfl, rfl, rfl, rfl, rfl, rfl, hf, hd, fr⟩
    refine And.intro ⟨(by omega), (by omega)⟩ ⟨fun h18 => ?_, fun h18 => ?_⟩
    · refine ⟨(2, (rW n (0 : Nat)), 20), zlt6 (by omega), [some (zvr (154)), some (zvi (r)), some (zvi (rW n (0 : Nat))), some (zvi (480 * r + 32 * rO n ((0 : Nat) + 1))), some (zvi (480 * r + 32 * rO n (0 : Nat))), some (zvi ((0 : Nat))), none, none], ⟨rfl, rfl, (congrArg (fun z => some (zvi z)) (by omega)), (congrArg (fun z => some (zvi z)) (by have := hou 0; have h5 : rO n 0 = 0 := rfl; omega)), (congrArg (fun z => some (zvi z)) (by have h5 : rO n 0 = 0 := rfl; omega)), rfl, rfl⟩, 0, rfl, rfl, rfl, rfl, rfl, rfl, (Or.inl ⟨rfl, by omega, rfl⟩), (fun m h => absurd h (Nat.not_lt_zero m)), ?_, (fun c j h0 h1 h2 h3 h4 h5 => ((fr c j (by omega) (by omega) (by omega) (by omega) (by omega) (by omega)).trans rfl))⟩
      · intro m k i h1 h2 h3
        obtain rfl : m = 0 := by omega
        have := hd k i (by omega) h3
        rw [show 480 * r + 32 * (rO n 0 + k) + i = 480 * r + 32 * k + i by show 480 * r + 32 * (0 + k) + i = _; omega]
        exact this
    · refine And.intro (zA_154 hS) (Exists.intro _ (And.intro (zinl_ok (zT5_3 3)) (And.intro rfl ?_)))
      refine And.intro (zA_154 hS) ⟨_, (zWi (zRb rfl)), ?_⟩
      refine And.intro (zA_154 hS) (Exists.intro _ (And.intro (zinl_ok (zT5_1 2)) (And.intro rfl ?_)))
      refine And.intro (zA_154 hS) (zrd (v := 0) rfl ?_)
      refine And.intro (zA_154 hS) (zrdR (v := some 160) (zR_154_7 hR) ?_)
      refine And.intro (zN_160 hS) (zrdN (v := 128) (zV_160 hS) ?_)
      refine And.intro ⟨(zRb rfl), (zRb rfl)⟩ (zbf rfl ?_)
      refine And.intro (zA_154 hS) (zrdR (v := some 160) (zR_154_7 hR) ?_)
      refine And.intro (zA_154 hS) (zrd (v := 0) rfl ?_)
      have b24_24_7 : (zand 0 255) = 0 % 256 := zand255 _
      refine And.intro ⟨(zx0 rfl), (zP_160 hS (by omega) (by omega))⟩ ⟨_, (zWi zr_and), ?_⟩
      refine And.intro (zA_154 hS) (zrd (v := 0) rfl ?_)
      refine And.intro (zA_154 hS) ⟨_, (zWi (zRb rfl)), ?_⟩
      refine And.intro ⟨(by omega), (zRb rfl), (by decide)⟩ (zdv (by omega) (fun q15_24 e15_24 => ?_))
      refine And.intro (zA_154 hS) (Exists.intro _ (And.intro (zinl_ok (zT5_1 2)) (And.intro rfl ?_)))
      refine And.intro (zA_154 hS) (zrd (v := (0 + 1)) rfl ?_)
      refine And.intro (zA_154 hS) (zrdR (v := some 160) (zR_154_7 hR) ?_)
      refine And.intro (zN_160 hS) (zrdN (v := 128) (zV_160 hS) ?_)
      refine And.intro ⟨(zRb rfl), (zRb rfl)⟩ (zbf rfl ?_)
      refine And.intro (zA_154 hS) (zrdR (v := some 160) (zR_154_7 hR) ?_)
      refine And.intro (zA_154 hS) (zrd (v := (0 + 1)) rfl ?_)
      have b24_24_16 : (zand q15_24 255) = q15_24 % 256 := zand255 _
      refine And.intro ⟨(zx0 rfl), (zP_160 hS (by omega) (by omega))⟩ ⟨_, (zWi zr_and), ?_⟩
      refine And.intro (zA_154 hS) (zrd (v := (0 + 1)) rfl ?_)
      refine And.intro (zA_154 hS) ⟨_, (zWi (zRb rfl)), ?_⟩
      refine And.intro ⟨(by omega), (zRb rfl), (by decide)⟩ (zdv (by omega) (fun q24_24 e24_24 => ?_))
      refine And.intro (zA_154 hS) (Exists.intro _ (And.intro (zinl_ok (zT5_1 2)) (And.intro rfl ?_)))
      refine And.intro (zA_154 hS) (zrd (v := ((0 + 1) + 1)) rfl ?_)
      refine And.intro (zA_154 hS) (zrdR (v := some 160) (zR_154_7 hR) ?_)
      refine And.intro (zN_160 hS) (zrdN (v := 128) (zV_160 hS) ?_)
      refine And.intro ⟨(zRb rfl), (zRb rfl)⟩ (zbf rfl ?_)
      refine And.intro (zA_154 hS) (zrdR (v := some 160) (zR_154_7 hR) ?_)
      refine And.intro (zA_154 hS) (zrd (v := ((0 + 1) + 1)) rfl ?_)
      have b24_24_25 : (zand q24_24 255) = q24_24 % 256 := zand255 _
      refine And.intro ⟨(zx0 rfl), (zP_160 hS (by omega) (by omega))⟩ ⟨_, (zWi zr_and), ?_⟩
      refine And.intro (zA_154 hS) (zrd (v := ((0 + 1) + 1)) rfl ?_)
      refine And.intro (zA_154 hS) ⟨_, (zWi (zRb rfl)), ?_⟩
      refine ⟨(4, (8 - f).toNat, (65 - (0 : Int)).toNat), zlt6 (by omega), [some (zvr (154)), some (zvi (r)), some (zvi (rW n 0)), some (zvi (480 * r + 32 * f)), some (zvi (f)), some (zvi ((0 : Int))), none, none], ⟨rfl, rfl, rfl, rfl, rfl, rfl, rfl⟩, f, 0, rfl, rfl, rfl, rfl, rfl, rfl, (by omega), (by omega), (Eq.trans (b := ((((0 + 1) + 1) + 1) : Int)) rfl (by omega)), ?_, (fun k i h1 h2 => (zxu (by omega) (zxu (by omega) (zxu (by omega) (zxu (by omega) (zxu (by omega) (zxu (by omega) (zxu (by omega) rfl))))))).trans (hd k i h1 h2)), (fun c j h0 h1 h2 h3 h4 h5 => (zxcj h4 (zxu h0 (zxcj h4 (zxu h0 (zxcj h4 (zxu h0 (zxcj h4 ((fr c j (by omega) (by omega) (by omega) (by omega) (by omega) (by omega)).trans rfl)))))))))⟩
      · intro j hj
        have z : j = 0 ∨ j = 1 ∨ j = 2 := by omega
        rcases z with rfl | rfl | rfl
        · exact (show zand 0 255 = rlM t f.toNat 0 by rw [b24_24_7]; rfl)
        · exact (show zand q15_24 255 = rlM t f.toNat 1 by rw [b24_24_16]; show _ = ((f.toNat / 256 : Nat) : Int); omega)
        · exact (show zand q24_24 255 = rlM t f.toNat 2 by rw [b24_24_25]; show _ = ((f.toNat % 256 : Nat) : Int); omega)
  · rintro nM lsM stM I1 L1 R1 S1 hz1 ⟨f, i, rfl, rfl, rfl, rfl, rfl, rfl, hf, hi, hp, hm1, hd, fr⟩
    refine And.intro (zA_154 hS) (Exists.intro _ (And.intro (zinl_ok (zT5_13 3)) (And.intro rfl ?_)))
    refine And.intro (zA_154 hS) (zrdR (v := some 156) (zR_154_2 hR) ?_)
    refine And.intro (zP_156 hS (by omega) (by omega)) (fun v7_36 e7_36 r7_36 => ?_)
    have f7_36 : v7_36 = n := (e7_36.trans ((fr 156 _ (by omega) (by omega) (by omega) (by omega) (by omega) (by omega)).trans hn))
    refine And.intro ⟨(zRb rfl), (by omega)⟩ ?_
    refine And.intro ⟨(by omega), (by omega)⟩ ⟨fun h39 => ?_, fun h39 => ?_⟩
    · refine And.intro (zA_154 hS) ⟨_, sn_A_dig.up (by decide), ?_⟩
      refine ⟨(3 + i), (rlM t f.toNat), rfl, hS, hR, (zStf hT (fun c j h1 h2 => ⟨((fr c j (by omega) (by omega) (by omega) (by omega) (by omega) (by omega)).trans rfl), rfl⟩)), hp, (by omega), (fun j hj => hm1 j (by omega)), ?_⟩
      intro I72o p72hd p72bfr
      refine And.intro (zA_154 hS) (zrdR (v := some 163) (zR_154_11 hR) ?_)
      refine And.intro (zA_154 hS) (zrdR (v := some 157) (zR_154_3 hR) ?_)
      refine And.intro ⟨⟨(zx0 rfl), (zS_157 hS).2, (zS_163 hS).2, by rw [(zS_163 hS).1, (zS_157 hS).1], by rw [(zS_157 hS).1]; first | exact Or.inl rfl | exact Or.inr rfl⟩, ⟨by omega, by omega, by omega, by rw [(zS_163 hS).1]; show _ ≤ ((_ : Nat) : Int); omega, by rw [(zS_157 hS).1]; show _ ≤ ((_ : Nat) : Int); omega⟩, by omega, by omega⟩ ?_
      refine And.intro (fun _ => ?_) (fun h => absurd h (by rw [(zS_157 hS).1]; decide))
      refine ⟨(4, (9 - (f + 1)).toNat, 0), zlt6 (by omega), [some (zvr (154)), some (zvi (r)), some (zvi (rW n 0)), some (zvi (480 * r + 32 * (f + 1))), some (zvi ((f + 1))), none, none, none], ⟨rfl, rfl, rfl, (congrArg (fun z => some (zvi z)) (by omega)), rfl, rfl⟩, (f + 1), rfl, rfl, rfl, rfl, rfl, rfl, (by omega), ?_, (fun c j h0 h1 h2 h3 h4 h5 => (zcpj (by omega) ((p72bfr c j (by omega) (by omega) (by omega) (by omega) (by omega)).trans ((fr c j (by omega) (by omega) (by omega) (by omega) (by omega) (by omega)).trans rfl))))⟩
      · intro k j h1 h2
        by_cases h : (k : Int) = f
        · refine (cpF_in (by omega) (by omega)).trans ?_
          refine (p72hd _ (by omega)).trans ?_
          show _ = shD (rlM t k) (rlN n k) j
          rw [show f.toNat = k by omega, show (3 + i).toNat = rlN n k by unfold rlN; omega]
          congr 1
          omega
        · refine (zcpj (by omega) ?_).trans (hd k j (by omega) h2)
          exact p72bfr 157 _ (by decide) (by decide) (by decide) (by decide) (by omega)
    · refine And.intro (zA_154 hS) (zrdR (v := some 155) (zR_154_1 hR) ?_)
      refine And.intro (zP_155 hS (by omega) (by omega)) (fun v61 e61 r61 => ?_)
      refine And.intro (zA_154 hS) (Exists.intro _ (And.intro (zinl_ok (zT5_1 3)) (And.intro rfl ?_)))
      refine And.intro (zA_154 hS) (zrd (v := (3 + i)) hp ?_)
      refine And.intro (zA_154 hS) (zrdR (v := some 160) (zR_154_7 hR) ?_)
      refine And.intro (zN_160 hS) (zrdN (v := 128) (zV_160 hS) ?_)
      refine And.intro ⟨(by omega), (zRb rfl)⟩ ⟨(fun h9_62 => False.elim (by omega)), fun h9_62 => ?_⟩
      refine And.intro (zA_154 hS) (zrdR (v := some 160) (zR_154_7 hR) ?_)
      refine And.intro (zA_154 hS) (zrd (v := (3 + i)) hp ?_)
      have b24_62 : (zand v61 255) = v61 % 256 := zand255 _
      refine And.intro ⟨(zx0 rfl), (zP_160 hS (by omega) (by omega))⟩ ⟨_, (zWi zr_and), ?_⟩
      refine And.intro (zA_154 hS) (zrd (v := (3 + i)) hp ?_)
      refine And.intro (zA_154 hS) ⟨_, (zWi (by omega)), ?_⟩
      refine ⟨(4, (8 - f).toNat, (65 - (i + 1)).toNat), zlt6 (by omega), [some (zvr (154)), some (zvi (r)), some (zvi (rW n 0)), some (zvi (480 * r + 32 * f)), some (zvi (f)), some (zvi ((i + 1))), none, none], ⟨rfl, rfl, rfl, rfl, rfl, rfl, rfl⟩, f, (i + 1), rfl, rfl, rfl, rfl, rfl, rfl, (by omega), (by omega), (Eq.trans (b := (((3 + i) + 1) : Int)) rfl (by omega)), ?_, (fun k i h1 h2 => (zxu (by omega) (zxu (by omega) rfl)).trans (hd k i h1 h2)), (fun c j h0 h1 h2 h3 h4 h5 => (zxcj h4 (zxu h0 ((fr c j (by omega) (by omega) (by omega) (by omega) (by omega) (by omega)).trans rfl))))⟩
      · intro j hj
        by_cases h : j = (3 + i).toNat
        · subst h
          refine (zxu (by decide) zxe).trans ?_
          obtain ⟨q1, q2, q3⟩ := ht (64 * f.toNat + i.toNat) (by omega)
          have q4 : v61 = t (64 * f.toNat + i.toNat) := by
            rw [e61, show I1 155 (r * 512 + f * 64 + i : Int).toNat = I 155 (r * 512 + f * 64 + i : Int).toNat from fr _ _ (by decide) (by decide) (by decide) (by decide) (by omega) (by omega), ← q1]
            congr 1
            omega
          rw [b24_62, q4]
          unfold rlM
          rw [if_neg (by omega), if_neg (by omega), if_neg (by omega), show 64 * f.toNat + ((3 + i).toNat - 3) = 64 * f.toNat + i.toNat by omega]
          omega
        · exact zxu (by decide) (zxs h (hm1 j (by omega)))
  · rintro nM lsM stM I1 L1 R1 S1 hz1 ⟨l, rfl, rfl, rfl, rfl, rfl, rfl, hl, hu, hd, fr⟩
    have hwl := hwu l
    have hol := hou l
    refine And.intro ⟨(by omega), (zRb rfl)⟩ ⟨(fun h114 => False.elim (by omega)), fun h114 => ?_⟩
    refine And.intro ⟨(by omega), (zRb rfl)⟩ ⟨fun h119 => ?_, fun h119 => ?_⟩
    · refine hQ _ ?_ (fun c j h0 h1 h2 h3 h4 h5 => ((fr c j (by omega) (by omega) (by omega) (by omega) (by omega) (by omega)).trans rfl))
      · intro m k i h1 h2 h3
        have h4 : m ≤ l := by
          by_cases h5 : m ≤ l
          · exact h5
          · have := h1 l (by omega); omega
        exact hd m k i h4 h2 h3
    · refine And.intro ⟨(by omega), (zRb rfl), (by decide)⟩ (zdv (by omega) (fun q126 e126 => ?_))
      refine ⟨(2, (rW n l), (9 - (0 : Int)).toNat), zlt6 (by omega), [some (zvr (154)), some (zvi (r)), some (zvi (rW n l)), some (zvi (480 * r + 32 * (rO n (l + 1) + (0 : Int)))), some (zvi (480 * r + 32 * rO n l)), some (zvi (l)), some (zvi (rW n (l + 1))), some (zvi ((0 : Int)))], ⟨rfl, rfl, rfl, (congrArg (fun z => some (zvi z)) (by omega)), rfl, rfl, (congrArg (fun z => some (zvi z)) (by have := hwu l; omega)), rfl, rfl⟩, l, 0, rfl, rfl, rfl, rfl, rfl, rfl, hl, (by omega), hu, (by omega), hd, (fun j i h1 h2 => absurd h1 (by omega)), (fun c j h0 h1 h2 h3 h4 h5 => ((fr c j (by omega) (by omega) (by omega) (by omega) (by omega) (by omega)).trans rfl))⟩
  · rintro nM lsM stM I1 L1 R1 S1 hz1 ⟨l, k, rfl, rfl, rfl, rfl, rfl, rfl, hl, hw1, hu, hk, hd, hd2, fr⟩
    have hwl := hwu l
    have hol := hou l
    have hol2 := hou (l + 1)
    refine And.intro ⟨(by omega), (by omega)⟩ ⟨fun h136 => ?_, fun h136 => ?_⟩
    · refine ⟨(2, (rW n (l + 1)), 20), zlt6 (by omega), [some (zvr (154)), some (zvi (r)), some (zvi (rW n (l + 1))), some (zvi (480 * r + 32 * rO n ((l + 1) + 1))), some (zvi (480 * r + 32 * rO n (l + 1))), some (zvi ((l + 1))), none, none], ⟨rfl, rfl, rfl, (congrArg (fun z => some (zvi z)) (by have := hwu l; have := hou l; have := hou (l + 1); omega)), (congrArg (fun z => some (zvi z)) (by have := hou l; omega)), rfl, rfl⟩, (l + 1), rfl, rfl, rfl, rfl, rfl, rfl, (by have := hwu l; have := hou l; omega), ?_, ?_, (fun c j h0 h1 h2 h3 h4 h5 => ((fr c j (by omega) (by omega) (by omega) (by omega) (by omega) (by omega)).trans rfl))⟩
      · intro m hm
        by_cases h : m = l
        · rw [h]; exact hw1
        · exact hu m (by omega)
      · intro m j i h1 h2 h3
        by_cases h : m = l + 1
        · subst h
          exact hd2 j i (by omega) h3
        · exact hd m j i (by omega) h2 h3
    · refine And.intro (zA_154 hS) ⟨_, sn_A_above.up (by decide), ?_⟩
      refine ⟨_, _, _, (rD t n l (2 * k.toNat)), (rD t n l (2 * k.toNat + 1)), rfl, hS, hR, (zStf hT (fun c j h1 h2 => ⟨((fr c j (by omega) (by omega) (by omega) (by omega) (by omega) (by omega)).trans rfl), rfl⟩)), (by omega), (by omega), (fun i hi => by
 refine ⟨?_, rD_b _ _ _ _ _⟩
 rw [← hd l (2 * k.toNat) i (Nat.le_refl _) (by have := hwu l; omega) hi]
 congr 1
 omega), (fun h9 i hi => by
 refine ⟨?_, rD_b _ _ _ _ _⟩
 rw [← hd l (2 * k.toNat + 1) i (Nat.le_refl _) (by omega) hi]
 congr 1
 omega), ?_⟩
      intro I145o p145hd p145bfr
      refine And.intro (zA_154 hS) (zrdR (v := some 163) (zR_154_11 hR) ?_)
      refine And.intro (zA_154 hS) (zrdR (v := some 157) (zR_154_3 hR) ?_)
      refine And.intro ⟨⟨(zx0 rfl), (zS_157 hS).2, (zS_163 hS).2, by rw [(zS_163 hS).1, (zS_157 hS).1], by rw [(zS_157 hS).1]; first | exact Or.inl rfl | exact Or.inr rfl⟩, ⟨by omega, by omega, by omega, by rw [(zS_163 hS).1]; show _ ≤ ((_ : Nat) : Int); omega, by rw [(zS_157 hS).1]; show _ ≤ ((_ : Nat) : Int); omega⟩, by omega, by omega⟩ ?_
      refine And.intro (fun _ => ?_) (fun h => absurd h (by rw [(zS_157 hS).1]; decide))
      refine ⟨(2, (rW n l), (9 - (k + 1)).toNat), zlt6 (by omega), [some (zvr (154)), some (zvi (r)), some (zvi (rW n l)), some (zvi (480 * r + 32 * (rO n (l + 1) + (k + 1)))), some (zvi (480 * r + 32 * rO n l)), some (zvi (l)), some (zvi (rW n (l + 1))), some (zvi ((k + 1)))], ⟨rfl, rfl, rfl, (congrArg (fun z => some (zvi z)) (by omega)), rfl, rfl, rfl, rfl, rfl⟩, l, (k + 1), rfl, rfl, rfl, rfl, rfl, rfl, hl, hw1, hu, (by omega), ?_, ?_, (fun c j h0 h1 h2 h3 h4 h5 => (zcpj (by omega) ((p145bfr c j (by omega) (by omega) (by omega) (by omega) (by omega)).trans ((fr c j (by omega) (by omega) (by omega) (by omega) (by omega) (by omega)).trans rfl))))⟩
      · intro m j i h1 h2 h3
        have h4 := rO_lt n (show m < l + 1 by omega) h2
        refine (zcpj (by omega) ?_).trans (hd m j i h1 h2 h3)
        exact p145bfr 157 _ (by decide) (by decide) (by decide) (by decide) (by omega)
      · intro j i h1 h2
        by_cases h : (j : Int) = k
        · refine (cpF_in (by omega) (by omega)).trans ?_
          refine (p145hd _ (by omega)).trans ?_
          show _ = (if 2 * j + 1 < rW n l then shD (rnM (rD t n l (2 * j)) (rD t n l (2 * j + 1))) 65 else rD t n l (2 * j)) i
          rw [show k.toNat = j by omega]
          by_cases h5 : 2 * j + 1 < rW n l
          · rw [if_pos (by omega), if_pos h5]
            congr 1
            omega
          · rw [if_neg (by omega), if_neg h5]
            congr 1
            omega
        · refine (zcpj (by omega) ?_).trans (hd2 j i (by omega) h2)
          exact p145bfr 157 _ (by decide) (by decide) (by decide) (by decide) (by omega))
def T_A_rootAt : ZT := fun args I L R S Q => ∃ (r : Int) (c : Int) (n : Nat), args = [zvr 154, zvi r] ∧ (zSh S) ∧ (zRs R) ∧ (I 154 0 = c) ∧ (0 ≤ r ∧ r < c ∧ c ≤ 10) ∧ (1 ≤ n ∧ n ≤ 512) ∧ (I 156 r.toNat = n) ∧ ∀ (v : Int), (v = 480 * r + 32 * rO n (rT n)) → Q (some (zvi (v))) I L R S
theorem sn_A_rootAt : ZSnd 3 5 21 T_A_rootAt := ZSnd.loops (zT5_21 2) (by
  rintro args I L R S Q hz ⟨r, c, n, rfl, hS, hR, hc, h0, h1, hn, hQ⟩
  have hw0 : rW n 0 = (n + 63) / 64 := rfl
  have hwu : ∀ l, rW n (l + 1) = (rW n l + 1) / 2 := fun _ => rfl
  have hou : ∀ l, rO n (l + 1) = rO n l + rW n l := fun _ => rfl
  refine ⟨[15], fun nM tM lsM stM I1 L1 R1 S1 => match tM with
      | 15 => ∃ (l : Nat), nM = ((rW n l), 0, 0) ∧ lsM = [some (zvr (154)), some (zvi (r)), some (zvi (rW n l)), some (zvi (480 * r + 32 * rO n l)), some (zvi (l))] ∧ stM = [] ∧ I1 = I ∧ L1 = L ∧ R1 = R ∧ S1 = S ∧ ((l = 0 ∧ rW n l ≤ 8 ∧ rO n l = 0) ∨ (l = 1 ∧ rW n l ≤ 4 ∧ rO n l ≤ 8) ∨ (l = 2 ∧ rW n l ≤ 2 ∧ rO n l ≤ 12) ∨ (l = 3 ∧ rW n l ≤ 1 ∧ rO n l ≤ 14)) ∧ (∀ m, m < l → 1 < rW n m)
      | _ => False, rfl, ?_, ⟨?_, True.intro⟩⟩
  · refine And.intro (zA_154 hS) (Exists.intro _ (And.intro (zinl_ok (zT5_14 1)) (And.intro rfl ?_)))
    refine And.intro (zA_154 hS) (Exists.intro _ (And.intro (zinl_ok (zT5_11 0)) (And.intro rfl ?_)))
    refine And.intro (by omega) ⟨(fun h1_2_2 => False.elim (by omega)), fun h1_2_2 => ?_⟩
    refine And.intro (zA_154 hS) (zrd (v := c) hc ?_)
    refine And.intro ⟨(by omega), (by omega)⟩ ⟨(fun h9_2_2 => False.elim (by omega)), fun h9_2_2 => ?_⟩
    refine And.intro (Or.inr rfl) ?_
    refine And.intro (zRb rfl) (zbf rfl ?_)
    refine And.intro (zA_154 hS) (zrdR (v := some 156) (zR_154_2 hR) ?_)
    refine And.intro (zP_156 hS (by omega) (by omega)) (fun v13_2 e13_2 r13_2 => ?_)
    have f13_2 : v13_2 = n := e13_2.trans hn
    refine And.intro ⟨(by omega), (zRb rfl), (by decide)⟩ (zdv (by omega) (fun q21_2 e21_2 => ?_))
    refine ⟨((rW n (0 : Nat)), 0, 0), [some (zvr (154)), some (zvi (r)), some (zvi (rW n (0 : Nat))), some (zvi (480 * r + 32 * rO n (0 : Nat))), some (zvi ((0 : Nat)))], ⟨rfl, rfl, (congrArg (fun z => some (zvi z)) (by omega)), (congrArg (fun z => some (zvi z)) (by have h5 : rO n 0 = 0 := rfl; omega)), rfl, rfl⟩, 0, rfl, rfl, rfl, rfl, rfl, rfl, rfl, (Or.inl ⟨rfl, by omega, rfl⟩), (fun m h => absurd h (Nat.not_lt_zero m))⟩
  · rintro nM lsM stM I1 L1 R1 S1 hz1 ⟨l, rfl, rfl, rfl, rfl, rfl, rfl, rfl, hl, hu⟩
    have hwl := hwu l
    have hol := hou l
    refine And.intro ⟨(by omega), (zRb rfl)⟩ ⟨(fun h20 => False.elim (by omega)), fun h20 => ?_⟩
    refine And.intro ⟨(by omega), (zRb rfl)⟩ ⟨fun h25 => ?_, fun h25 => ?_⟩
    · refine hQ _ (by rw [rT_of h1 (by omega) hu (by omega)])
    · refine And.intro ⟨(by omega), (zRb rfl), (by decide)⟩ (zdv (by omega) (fun q39 e39 => ?_))
      refine ⟨((rW n (l + 1)), 0, 0), zlt6 (by omega), [some (zvr (154)), some (zvi (r)), some (zvi (rW n (l + 1))), some (zvi (480 * r + 32 * rO n (l + 1))), some (zvi ((l + 1)))], ⟨rfl, rfl, (congrArg (fun z => some (zvi z)) (by omega)), (congrArg (fun z => some (zvi z)) (by omega)), rfl, rfl⟩, (l + 1), rfl, rfl, rfl, rfl, rfl, rfl, rfl, (by omega), ?_⟩
      · intro m hm
        by_cases h : m = l
        · rw [h]; omega
        · exact hu m (by omega))
def T_A_rootByte : ZT := fun args I L R S Q => ∃ (a : Int) (i : Int) (cn : Nat) (t : Nat → Nat → Int) (n : Nat → Nat), args = [zvr 154, zvi a, zvi i] ∧ (zSh S) ∧ (zRs R) ∧ (r32 a) ∧ (r32 i) ∧ (zRA cn t n I) ∧ ∀ (v : Int), (v = if 0 ≤ a ∧ a < cn ∧ 0 ≤ i ∧ i < 32 then rD (t a.toNat) (n a.toNat) (rT (n a.toNat)) 0 i.toNat else -1) → Q (some (zvi (v))) I L R S
theorem sn_A_rootByte : ZSnd 4 5 22 T_A_rootByte := ZSnd.of (zT5_22 3) (by
  rintro args I L R S Q hz ⟨a, i, cn, t, n, rfl, hS, hR, ra, ri, hRA, hQ⟩
  obtain ⟨hc, hcn, hr⟩ := id hRA
  refine And.intro rfl ?_
  refine And.intro (zA_154 hS) (Exists.intro _ (And.intro (zinl_ok (zT5_11 2)) (And.intro rfl ?_)))
  refine And.intro (by omega) ⟨fun h1_2 => ?_, fun h1_2 => ?_⟩
  · refine And.intro (Or.inl rfl) ?_
    refine And.intro (zRb rfl) (zbt rfl ?_)
    refine hQ _ ?_
    · first
      | exact (if_neg (by omega)).symm
      | (rw [if_pos (by omega)]
         obtain ⟨q1, q2, q3⟩ := hr a.toNat (by omega)
         have z := rT_w ⟨q1.1, q1.2.1⟩
         rw [← q3 _ 0 i.toNat z.1 (by omega) (by omega), e29]
         congr 1
         omega)
  · refine And.intro (zA_154 hS) (zrd (v := cn) hc ?_)
    refine And.intro ⟨(by omega), (by omega)⟩ ⟨fun h9_2 => ?_, fun h9_2 => ?_⟩
    · refine And.intro (Or.inl rfl) ?_
      refine And.intro (zRb rfl) (zbt rfl ?_)
      refine hQ _ ?_
      · first
        | exact (if_neg (by omega)).symm
        | (rw [if_pos (by omega)]
           obtain ⟨q1, q2, q3⟩ := hr a.toNat (by omega)
           have z := rT_w ⟨q1.1, q1.2.1⟩
           rw [← q3 _ 0 i.toNat z.1 (by omega) (by omega), e29]
           congr 1
           omega)
    · refine And.intro (Or.inr rfl) ?_
      refine And.intro (zRb rfl) (zbf rfl ?_)
      refine And.intro (by omega) ⟨fun h9 => ?_, fun h9 => ?_⟩
      · refine hQ _ ?_
        · first
          | exact (if_neg (by omega)).symm
          | (rw [if_pos (by omega)]
             obtain ⟨q1, q2, q3⟩ := hr a.toNat (by omega)
             have z := rT_w ⟨q1.1, q1.2.1⟩
             rw [← q3 _ 0 i.toNat z.1 (by omega) (by omega), e29]
             congr 1
             omega)
      · refine And.intro ⟨(by omega), (zRb rfl)⟩ ⟨fun h15 => ?_, fun h15 => ?_⟩
        · refine hQ _ ?_
          · first
            | exact (if_neg (by omega)).symm
            | (rw [if_pos (by omega)]
               obtain ⟨q1, q2, q3⟩ := hr a.toNat (by omega)
               have z := rT_w ⟨q1.1, q1.2.1⟩
               rw [← q3 _ 0 i.toNat z.1 (by omega) (by omega), e29]
               congr 1
               omega)
        · have t15 : 1 ≤ n a.toNat ∧ n a.toNat ≤ 512 ∧ I 156 a.toNat = n a.toNat := (hr a.toNat (by omega)).1
          have t15b : 480 * a + 32 * (rO (n a.toNat) (rT (n a.toNat))) + 32 ≤ 480 * a + 480 := (by obtain ⟨q1, -, -⟩ := hr a.toNat (by omega); have h1 := rT_le (n a.toNat); have h2 := rO_mono (n a.toNat) h1; have h3 := rW_le ⟨q1.1, q1.2.1⟩; have h4 : rO (n a.toNat) 3 = 0 + rW (n a.toNat) 0 + rW (n a.toNat) 1 + rW (n a.toNat) 2 := rfl; omega)
          refine And.intro (zA_154 hS) (zrdR (v := some 157) (zR_154_3 hR) ?_)
          refine And.intro (zA_154 hS) ⟨_, sn_A_rootAt.up (by decide), ?_⟩
          refine ⟨_, _, (n a.toNat), rfl, hS, hR, hc, (by omega), (by omega), (hr a.toNat (by omega)).1.2.2, ?_⟩
          intro v24o p24hv
          refine And.intro (zP_157 hS (by omega) (by omega)) (fun v29 e29 r29 => ?_)
          refine hQ _ ?_
          · first
            | exact (if_neg (by omega)).symm
            | (rw [if_pos (by omega)]
               obtain ⟨q1, q2, q3⟩ := hr a.toNat (by omega)
               have z := rT_w ⟨q1.1, q1.2.1⟩
               rw [← q3 _ 0 i.toNat z.1 (by omega) (by omega), e29]
               congr 1
               omega))
