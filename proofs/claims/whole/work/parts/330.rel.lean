/-! rel -/
def T_A_fill : ZT := fun args I L R S Q => ∃ (f : Int) (m : Nat → Int), args = [zvr 154, zvi f] ∧ (zSh S) ∧ (zRs R) ∧ (0 ≤ f ∧ f ≤ 64) ∧ (∀ j : Nat, j < 128 → I 160 j = m j) ∧ ∀ (I' : ZI), (∀ j : Nat, j < 64 → I' 162 j = shW m f.toNat 48 j) → (∀ c j, ¬ c = 162 → I' c j = I c j) → Q none I' L R S
theorem sn_A_fill : ZSnd 2 5 5 T_A_fill := ZSnd.loops (zT5_5 1) (by
  rintro args I L R S Q hz ⟨f, m, rfl, hS, hR, h0, hm, hQ⟩
  refine ⟨[2, 71], fun n t ls st I1 L1 R1 S1 => match t with
      | 2 => ∃ (w : Int) (u3 : Option ZV) (u4 : Option ZV) (u5 : Option ZV) (u6 : Option ZV), n = (1, (16 - w).toNat, 0) ∧ ls = [some (zvr (154)), some (zvi (f)), some (zvi (w)), u3, u4, u5, u6] ∧ st = [] ∧ L1 = L ∧ R1 = R ∧ S1 = S ∧ (0 ≤ w ∧ w ≤ 16) ∧ (∀ j : Nat, (j : Int) < w → I1 162 j = shW m f.toNat 0 j) ∧ (∀ c j, ¬ c = 162 → I1 c j = I c j)
      | 71 => ∃ (w : Int) (u3 : Option ZV) (u4 : Option ZV) (u5 : Option ZV) (u6 : Option ZV), n = (0, (64 - w).toNat, 0) ∧ ls = [some (zvr (154)), some (zvi (f)), some (zvi (w)), u3, u4, u5, u6] ∧ st = [] ∧ L1 = L ∧ R1 = R ∧ S1 = S ∧ (16 ≤ w ∧ w ≤ 64) ∧ (∀ j : Nat, (j : Int) < w → I1 162 j = shW m f.toNat (w - 16).toNat j) ∧ (∀ c j, ¬ c = 162 → I1 c j = I c j)
      | _ => False, rfl, ?_, ⟨?_, ?_, True.intro⟩⟩
  · refine ⟨(1, (16 - (0 : Int)).toNat, 0), _, _, _, _, _, rfl, rfl, rfl, rfl, rfl, rfl, (by omega), (by clear hQ; grind [xu]), (fun c j h0 => rfl)⟩
  · rintro n ls st I1 L1 R1 S1 hz1 ⟨w, u3, u4, u5, u6, rfl, rfl, rfl, rfl, rfl, rfl, hw0, hw, fr⟩
    refine And.intro ⟨(by omega), (zRb rfl)⟩ ⟨fun h5 => ?_, fun h5 => ?_⟩
    · refine ⟨(0, (64 - (16 : Int)).toNat, 0), zlt1 (by omega), _, _, _, _, _, rfl, rfl, rfl, rfl, rfl, rfl, (by omega), (by clear hQ; grind [xu]), (fun c j h0 => ((fr c j (by omega)).trans rfl))⟩
    · refine And.intro (zA_154 hS) (zrdR (v := some 162) (zR_154_10 hR) ?_)
      refine And.intro (zA_154 hS) (zrdR (v := some 160) (zR_154_7 hR) ?_)
      refine And.intro (zP_160 hS (by omega) (by omega)) (fun v24 e24 r24 => ?_)
      refine And.intro (zA_154 hS) (zrdR (v := some 160) (zR_154_7 hR) ?_)
      refine And.intro (zP_160 hS (by omega) (by omega)) (fun v35 e35 r35 => ?_)
      refine And.intro (zA_154 hS) (zrdR (v := some 160) (zR_154_7 hR) ?_)
      refine And.intro (zP_160 hS (by omega) (by omega)) (fun v47 e47 r47 => ?_)
      refine And.intro (zA_154 hS) (zrdR (v := some 160) (zR_154_7 hR) ?_)
      refine And.intro (zP_160 hS (by omega) (by omega)) (fun v59 e59 r59 => ?_)
      refine And.intro ⟨(zx0 rfl), (zP_162 hS (by omega) (by omega))⟩ ⟨_, zWt _, ?_⟩
      refine ⟨(1, (16 - (w + 1)).toNat, 0), zlt2 (by omega), _, _, _, _, _, rfl, rfl, rfl, rfl, rfl, rfl, (by omega), ?_, (fun c j h0 => (zxu h0 ((fr c j (by omega)).trans rfl)))⟩
      · intro j hj
        have m1 := e24.trans ((fr 160 _ (by decide)).trans (hm _ (by omega)))
        have m2 := e35.trans ((fr 160 _ (by decide)).trans (hm _ (by omega)))
        have m3 := e47.trans ((fr 160 _ (by decide)).trans (hm _ (by omega)))
        have m4 := e59.trans ((fr 160 _ (by decide)).trans (hm _ (by omega)))
        rw [show (f + 4 * w).toNat = f.toNat + 4 * w.toNat by omega] at m1
        rw [show (f + 4 * w + 1).toNat = f.toNat + 4 * w.toNat + 1 by omega] at m2
        rw [show (f + 4 * w + 2).toNat = f.toNat + 4 * w.toNat + 2 by omega] at m3
        rw [show (f + 4 * w + 3).toNat = f.toNat + 4 * w.toNat + 3 by omega] at m4
        by_cases h : j = w.toNat
        · subst h
          rw [zxe, zn_id zr_or, m1, m2, m3, m4]
          rfl
        · exact zxs h (hw j (by omega))
  · rintro n ls st I1 L1 R1 S1 hz1 ⟨w, u3, u4, u5, u6, rfl, rfl, rfl, rfl, rfl, rfl, hw0, hw, fr⟩
    refine And.intro ⟨(by omega), (zRb rfl)⟩ ⟨fun h74 => ?_, fun h74 => ?_⟩
    · refine hQ _ (by clear hQ; grind [xu]) (fun c j h0 => ((fr c j (by omega)).trans rfl))
    · refine And.intro (zA_154 hS) (zrdR (v := some 162) (zR_154_10 hR) ?_)
      refine And.intro (zP_162 hS (by omega) (by omega)) (fun v85 e85 r85 => ?_)
      refine And.intro (zA_154 hS) (zrdR (v := some 162) (zR_154_10 hR) ?_)
      refine And.intro (zP_162 hS (by omega) (by omega)) (fun v94 e94 r94 => ?_)
      refine Exists.intro _ (And.intro (zinl_ok (zT5_26 0)) (And.intro rfl ?_))
      have b2_100 : (zushr v85 7) = v85 % 4294967296 / 128 := zushr_d _ 7 (by decide) (by decide)
      refine Exists.intro _ (And.intro (zinl_ok (zT5_26 0)) (And.intro rfl ?_))
      have b2_106 : (zushr v85 18) = v85 % 4294967296 / 262144 := zushr_d _ 18 (by decide) (by decide)
      have b112 : (zushr v85 3) = v85 % 4294967296 / 8 := zushr_d _ 3 (by decide) (by decide)
      refine Exists.intro _ (And.intro (zinl_ok (zT5_26 0)) (And.intro rfl ?_))
      have b2_120 : (zushr v94 17) = v94 % 4294967296 / 131072 := zushr_d _ 17 (by decide) (by decide)
      refine Exists.intro _ (And.intro (zinl_ok (zT5_26 0)) (And.intro rfl ?_))
      have b2_127 : (zushr v94 19) = v94 % 4294967296 / 524288 := zushr_d _ 19 (by decide) (by decide)
      have b135 : (zushr v94 10) = v94 % 4294967296 / 1024 := zushr_d _ 10 (by decide) (by decide)
      refine And.intro (zA_154 hS) (zrdR (v := some 162) (zR_154_10 hR) ?_)
      refine And.intro (zA_154 hS) (zrdR (v := some 162) (zR_154_10 hR) ?_)
      refine And.intro (zP_162 hS (by omega) (by omega)) (fun v152 e152 r152 => ?_)
      refine And.intro (zA_154 hS) (zrdR (v := some 162) (zR_154_10 hR) ?_)
      refine And.intro (zP_162 hS (by omega) (by omega)) (fun v164 e164 r164 => ?_)
      refine And.intro ⟨(zx0 rfl), (zP_162 hS (by omega) (by omega))⟩ ⟨_, zWt _, ?_⟩
      refine ⟨(0, (64 - (w + 1)).toNat, 0), zlt2 (by omega), _, _, _, _, _, rfl, rfl, rfl, rfl, rfl, rfl, (by omega), ?_, (fun c j h0 => (zxu h0 ((fr c j (by omega)).trans rfl)))⟩
      · intro j hj
        have k0 : 0 ≤ w - 16 := by omega
        generalize hk : (w - 16).toNat = k at hw
        have hw2 := hw (k + 1) (by omega)
        have hw3 := hw (k + 14) (by omega)
        have hw4 := hw k (by omega)
        have hw5 := hw (k + 9) (by omega)
        rw [show (w - 15).toNat = k + 1 by omega, hw2] at e85
        rw [show (w - 2).toNat = k + 14 by omega, hw3] at e94
        rw [show (w - 16).toNat = k by omega, hw4] at e152
        rw [show (w - 7).toNat = k + 9 by omega, hw5] at e164
        rw [show (w + 1 - 16).toNat = k + 1 by omega]
        by_cases h : j = w.toNat
        · subst h
          rw [zxe, e85, e94, e152, e164, show w.toNat = 16 + k by omega]
          exact (if_pos rfl).symm
        · refine (zxs h (hw j (by omega))).trans ?_
          exact (if_neg (by omega)).symm)
def T_A_mix : ZT := fun args I L R S Q => ∃ (W : Nat → Int) (s : Nat → Int), args = [zvr 154] ∧ (zSh S) ∧ (zRs R) ∧ (zSt I L) ∧ (∀ j : Nat, j < 64 → I 162 j = W j) ∧ (∀ j : Nat, j < 8 → I 161 j = s j) ∧ ∀ (I' : ZI), (∀ j : Nat, j < 8 → I' 161 j = zn (s j + shR W s 64 j)) → (∀ c j, ¬ c = 161 → I' c j = I c j) → Q none I' L R S
theorem sn_A_mix : ZSnd 2 5 17 T_A_mix := ZSnd.loops (zT5_17 1) (by
  rintro args I L R S Q hz ⟨W, s, rfl, hS, hR, hT, hw, hs, hQ⟩
  refine ⟨[66], fun n t ls st I1 L1 R1 S1 => match t with
      | 66 => ∃ (k : Int) (a : Int) (b : Int) (c : Int) (d : Int) (e : Int) (f : Int) (g : Int) (h : Int) (u10 : Option ZV) (u11 : Option ZV) (u12 : Option ZV) (u13 : Option ZV), n = ((64 - k).toNat, 0, 0) ∧ ls = [some (zvr (154)), some (zvi (a)), some (zvi (b)), some (zvi (c)), some (zvi (d)), some (zvi (e)), some (zvi (f)), some (zvi (g)), some (zvi (h)), some (zvi (k)), u10, u11, u12, u13] ∧ st = [] ∧ I1 = I ∧ L1 = L ∧ R1 = R ∧ S1 = S ∧ (0 ≤ k ∧ k ≤ 64) ∧ (shR W s k.toNat 0 = zn a) ∧ (shR W s k.toNat 1 = zn b) ∧ (shR W s k.toNat 2 = zn c) ∧ (shR W s k.toNat 3 = zn d) ∧ (shR W s k.toNat 4 = zn e) ∧ (shR W s k.toNat 5 = zn f) ∧ (shR W s k.toNat 6 = zn g) ∧ (shR W s k.toNat 7 = zn h)
      | _ => False, rfl, ?_, ⟨?_, True.intro⟩⟩
  · refine And.intro (zA_154 hS) (zrdR (v := some 161) (zR_154_9 hR) ?_)
    refine And.intro (zP_161 hS (by omega) (by omega)) (fun v5 e5 r5 => ?_)
    refine And.intro (zA_154 hS) (zrdR (v := some 161) (zR_154_9 hR) ?_)
    refine And.intro (zP_161 hS (by omega) (by omega)) (fun v12 e12 r12 => ?_)
    refine And.intro (zA_154 hS) (zrdR (v := some 161) (zR_154_9 hR) ?_)
    refine And.intro (zP_161 hS (by omega) (by omega)) (fun v19 e19 r19 => ?_)
    refine And.intro (zA_154 hS) (zrdR (v := some 161) (zR_154_9 hR) ?_)
    refine And.intro (zP_161 hS (by omega) (by omega)) (fun v26 e26 r26 => ?_)
    refine And.intro (zA_154 hS) (zrdR (v := some 161) (zR_154_9 hR) ?_)
    refine And.intro (zP_161 hS (by omega) (by omega)) (fun v34 e34 r34 => ?_)
    refine And.intro (zA_154 hS) (zrdR (v := some 161) (zR_154_9 hR) ?_)
    refine And.intro (zP_161 hS (by omega) (by omega)) (fun v42 e42 r42 => ?_)
    refine And.intro (zA_154 hS) (zrdR (v := some 161) (zR_154_9 hR) ?_)
    refine And.intro (zP_161 hS (by omega) (by omega)) (fun v51 e51 r51 => ?_)
    refine And.intro (zA_154 hS) (zrdR (v := some 161) (zR_154_9 hR) ?_)
    refine And.intro (zP_161 hS (by omega) (by omega)) (fun v60 e60 r60 => ?_)
    refine ⟨((64 - (0 : Int)).toNat, 0, 0), _, _, _, _, _, _, _, _, _, _, _, _, _, rfl, rfl, rfl, rfl, rfl, rfl, rfl, (by omega), ((hs 0 (by decide)).symm.trans (e5.symm.trans (zn_id r5).symm)), ((hs 1 (by decide)).symm.trans (e12.symm.trans (zn_id r12).symm)), ((hs 2 (by decide)).symm.trans (e19.symm.trans (zn_id r19).symm)), ((hs 3 (by decide)).symm.trans (e26.symm.trans (zn_id r26).symm)), ((hs 4 (by decide)).symm.trans (e34.symm.trans (zn_id r34).symm)), ((hs 5 (by decide)).symm.trans (e42.symm.trans (zn_id r42).symm)), ((hs 6 (by decide)).symm.trans (e51.symm.trans (zn_id r51).symm)), ((hs 7 (by decide)).symm.trans (e60.symm.trans (zn_id r60).symm))⟩
  · rintro n ls st I1 L1 R1 S1 hz1 ⟨k, a, b, c, d, e, f, g, h, u10, u11, u12, u13, rfl, rfl, rfl, rfl, rfl, rfl, rfl, hk, q0, q1, q2, q3, q4, q5, q6, q7⟩
    refine And.intro ⟨(by omega), (zRb rfl)⟩ ⟨fun h70 => ?_, fun h70 => ?_⟩
    · refine And.intro (zA_154 hS) (zrdR (v := some 161) (zR_154_9 hR) ?_)
      refine And.intro (zP_161 hS (by omega) (by omega)) (fun v215 e215 r215 => ?_)
      refine And.intro ⟨(zx0 rfl), (zP_161 hS (by omega) (by omega))⟩ ⟨_, zWt _, ?_⟩
      refine And.intro (zA_154 hS) (zrdR (v := some 161) (zR_154_9 hR) ?_)
      refine And.intro (zP_161 hS (by omega) (by omega)) (fun v225 e225 r225 => ?_)
      refine And.intro ⟨(zx0 rfl), (zP_161 hS (by omega) (by omega))⟩ ⟨_, zWt _, ?_⟩
      refine And.intro (zA_154 hS) (zrdR (v := some 161) (zR_154_9 hR) ?_)
      refine And.intro (zP_161 hS (by omega) (by omega)) (fun v235 e235 r235 => ?_)
      refine And.intro ⟨(zx0 rfl), (zP_161 hS (by omega) (by omega))⟩ ⟨_, zWt _, ?_⟩
      refine And.intro (zA_154 hS) (zrdR (v := some 161) (zR_154_9 hR) ?_)
      refine And.intro (zP_161 hS (by omega) (by omega)) (fun v245 e245 r245 => ?_)
      refine And.intro ⟨(zx0 rfl), (zP_161 hS (by omega) (by omega))⟩ ⟨_, zWt _, ?_⟩
      refine And.intro (zA_154 hS) (zrdR (v := some 161) (zR_154_9 hR) ?_)
      refine And.intro (zP_161 hS (by omega) (by omega)) (fun v256 e256 r256 => ?_)
      refine And.intro ⟨(zx0 rfl), (zP_161 hS (by omega) (by omega))⟩ ⟨_, zWt _, ?_⟩
      refine And.intro (zA_154 hS) (zrdR (v := some 161) (zR_154_9 hR) ?_)
      refine And.intro (zP_161 hS (by omega) (by omega)) (fun v267 e267 r267 => ?_)
      refine And.intro ⟨(zx0 rfl), (zP_161 hS (by omega) (by omega))⟩ ⟨_, zWt _, ?_⟩
      refine And.intro (zA_154 hS) (zrdR (v := some 161) (zR_154_9 hR) ?_)
      refine And.intro (zP_161 hS (by omega) (by omega)) (fun v279 e279 r279 => ?_)
      refine And.intro ⟨(zx0 rfl), (zP_161 hS (by omega) (by omega))⟩ ⟨_, zWt _, ?_⟩
      refine And.intro (zA_154 hS) (zrdR (v := some 161) (zR_154_9 hR) ?_)
      refine And.intro (zP_161 hS (by omega) (by omega)) (fun v291 e291 r291 => ?_)
      refine And.intro ⟨(zx0 rfl), (zP_161 hS (by omega) (by omega))⟩ ⟨_, zWt _, ?_⟩
      refine hQ _ ?_ (fun c j h0 => (zxu h0 (zxu h0 (zxu h0 (zxu h0 (zxu h0 (zxu h0 (zxu h0 (zxu h0 rfl)))))))))
      · intro j hj
        have hk : k.toNat = 64 := by omega
        rw [hk] at q0 q1 q2 q3 q4 q5 q6 q7
        have z : j = 0 ∨ j = 1 ∨ j = 2 ∨ j = 3 ∨ j = 4 ∨ j = 5 ∨ j = 6 ∨ j = 7 := by omega
        rcases z with rfl | rfl | rfl | rfl | rfl | rfl | rfl | rfl
        · rw [q0, zn_ar, ← hs 0 (by decide), ← (show v215 = I1 161 0 from e215)]; rfl
        · rw [q1, zn_ar, ← hs 1 (by decide), ← (show v225 = I1 161 1 from e225)]; rfl
        · rw [q2, zn_ar, ← hs 2 (by decide), ← (show v235 = I1 161 2 from e235)]; rfl
        · rw [q3, zn_ar, ← hs 3 (by decide), ← (show v245 = I1 161 3 from e245)]; rfl
        · rw [q4, zn_ar, ← hs 4 (by decide), ← (show v256 = I1 161 4 from e256)]; rfl
        · rw [q5, zn_ar, ← hs 5 (by decide), ← (show v267 = I1 161 5 from e267)]; rfl
        · rw [q6, zn_ar, ← hs 6 (by decide), ← (show v279 = I1 161 6 from e279)]; rfl
        · rw [q7, zn_ar, ← hs 7 (by decide), ← (show v291 = I1 161 7 from e291)]; rfl
    · refine Exists.intro _ (And.intro (zinl_ok (zT5_26 0)) (And.intro rfl ?_))
      have b2_77 : (zushr e 6) = e % 4294967296 / 64 := zushr_d _ 6 (by decide) (by decide)
      refine Exists.intro _ (And.intro (zinl_ok (zT5_26 0)) (And.intro rfl ?_))
      have b2_84 : (zushr e 11) = e % 4294967296 / 2048 := zushr_d _ 11 (by decide) (by decide)
      refine Exists.intro _ (And.intro (zinl_ok (zT5_26 0)) (And.intro rfl ?_))
      have b2_92 : (zushr e 25) = e % 4294967296 / 33554432 := zushr_d _ 25 (by decide) (by decide)
      refine And.intro (zP_5 hS (by omega) (by omega)) (fun v122 e122 r122 => ?_)
      refine And.intro (zA_154 hS) (zrdR (v := some 162) (zR_154_10 hR) ?_)
      refine And.intro (zP_162 hS (by omega) (by omega)) (fun v130 e130 r130 => ?_)
      refine Exists.intro _ (And.intro (zinl_ok (zT5_26 0)) (And.intro rfl ?_))
      have b2_136 : (zushr a 2) = a % 4294967296 / 4 := zushr_d _ 2 (by decide) (by decide)
      refine Exists.intro _ (And.intro (zinl_ok (zT5_26 0)) (And.intro rfl ?_))
      have b2_142 : (zushr a 13) = a % 4294967296 / 8192 := zushr_d _ 13 (by decide) (by decide)
      refine Exists.intro _ (And.intro (zinl_ok (zT5_26 0)) (And.intro rfl ?_))
      have b2_149 : (zushr a 22) = a % 4294967296 / 4194304 := zushr_d _ 22 (by decide) (by decide)
      refine ⟨((64 - (k + 1)).toNat, 0, 0), zlt1 (by omega), _, _, _, _, _, _, _, _, _, _, _, _, _, rfl, rfl, rfl, rfl, rfl, rfl, rfl, (by omega), ?_, ?_, ?_, ?_, ?_, ?_, ?_, ?_⟩
      · rw [show (k + 1).toNat = k.toNat + 1 by omega]
        rw [shR_s.2.1, sh2_zn q0 q1 q2, zn_eq, Int32.ofInt_add, sh1_zn q4 q5 q6 q7]
        rw [← Int32.ofInt_add, ← hw k.toNat (by omega), ← e130, show shK k.toNat = v122 from (e122.trans (hT 5 (by decide) (by decide) _).1).symm]
        rfl
      · rw [show (k + 1).toNat = k.toNat + 1 by omega]
        exact (shR_s.1 1 (by decide) (by decide)).trans q0
      · rw [show (k + 1).toNat = k.toNat + 1 by omega]
        exact (shR_s.1 2 (by decide) (by decide)).trans q1
      · rw [show (k + 1).toNat = k.toNat + 1 by omega]
        exact (shR_s.1 3 (by decide) (by decide)).trans q2
      · rw [show (k + 1).toNat = k.toNat + 1 by omega]
        rw [shR_s.2.2, q3, zn_eq, Int32.ofInt_add, sh1_zn q4 q5 q6 q7, zn_of]
        rw [← Int32.ofInt_add, ← hw k.toNat (by omega), ← e130, show shK k.toNat = v122 from (e122.trans (hT 5 (by decide) (by decide) _).1).symm]
        rfl
      · rw [show (k + 1).toNat = k.toNat + 1 by omega]
        exact (shR_s.1 5 (by decide) (by decide)).trans q4
      · rw [show (k + 1).toNat = k.toNat + 1 by omega]
        exact (shR_s.1 6 (by decide) (by decide)).trans q5
      · rw [show (k + 1).toNat = k.toNat + 1 by omega]
        exact (shR_s.1 7 (by decide) (by decide)).trans q6)
