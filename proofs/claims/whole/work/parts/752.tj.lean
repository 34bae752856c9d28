/-! tj -/
def T_G_rk : ZT := fun args I L R S Q => ∃ (c : Int) (a : Int) (b : Int), args = [zvi c, zvl a, zvl b] ∧ (zSh S) ∧ (zRs R) ∧ (r64 a) ∧ (r64 b) ∧ (c = 42 ∨ c = 47 ∨ c = 37 ∨ c = 43 ∨ c = 45 ∨ c = 60 ∨ c = 61) ∧ (¬ (c = 47 ∨ c = 37) ∨ ¬ b = 0) ∧ ∀ (v : Int), (v = evB c a b) → (r64 v) → Q (some (zvl (v))) I L R S
theorem sn_G_rk : ZSnd 1 12 47 T_G_rk := ZSnd.w (ZSnd.of (zT12_47 0) (by
  rintro args I L R S Q' hz ⟨Q, rfl, c, a, b, rfl, hS, hR, ha, hb, hc, hbz, hQ⟩
  refine And.intro rfl ?_
  refine And.intro (by omega) (And.intro (fun h1 => ?_) (fun h1n0 => (And.intro (fun h1 => ?_) (fun h1n1 => (And.intro (fun h1 => ?_) (fun h1n2 => (And.intro (fun h1 => ?_) (fun h1n3 => (And.intro (fun h1 => ?_) (fun h1n4 => (And.intro (fun h1 => ?_) (fun h1n5 => ?_))))))))))))
  · refine ⟨_, _, ⟨(zW6i (by omega)), (zW6i (by omega)), (by omega)⟩, (fun q70 e70 e70' => ?_)⟩
    refine Qw_l rfl (hQ _ ?_ (by first | omega | exact zn6_r _ | exact tmod_r ha e70))
    · first
      | (rw [show c = 42 by omega]; rfl)
      | (rw [show c = 47 by omega, e66]; rfl)
      | (rw [show c = 37 by omega, e70]; rfl)
      | (rw [show c = 43 by omega]; rfl)
      | (rw [show c = 45 by omega]; rfl)
      | (rw [show c = 60 by omega, evB_l]; first | rw [if_pos (by omega)] | rw [if_neg (by omega)])
      | (rw [show c = 61 by omega, evB_q]; first | rw [if_pos (by omega)] | rw [if_neg (by omega)])
  · refine Qw_l (zn6_of _).symm (hQ _ ?_ (by first | omega | exact zn6_r _ | exact tmod_r ha e70))
    · first
      | (rw [show c = 42 by omega]; rfl)
      | (rw [show c = 47 by omega, e66]; rfl)
      | (rw [show c = 37 by omega, e70]; rfl)
      | (rw [show c = 43 by omega]; rfl)
      | (rw [show c = 45 by omega]; rfl)
      | (rw [show c = 60 by omega, evB_l]; first | rw [if_pos (by omega)] | rw [if_neg (by omega)])
      | (rw [show c = 61 by omega, evB_q]; first | rw [if_pos (by omega)] | rw [if_neg (by omega)])
  · refine Qw_l (zn6_of _).symm (hQ _ ?_ (by first | omega | exact zn6_r _ | exact tmod_r ha e70))
    · first
      | (rw [show c = 42 by omega]; rfl)
      | (rw [show c = 47 by omega, e66]; rfl)
      | (rw [show c = 37 by omega, e70]; rfl)
      | (rw [show c = 43 by omega]; rfl)
      | (rw [show c = 45 by omega]; rfl)
      | (rw [show c = 60 by omega, evB_l]; first | rw [if_pos (by omega)] | rw [if_neg (by omega)])
      | (rw [show c = 61 by omega, evB_q]; first | rw [if_pos (by omega)] | rw [if_neg (by omega)])
  · refine Qw_l (zn6_of _).symm (hQ _ ?_ (by first | omega | exact zn6_r _ | exact tmod_r ha e70))
    · first
      | (rw [show c = 42 by omega]; rfl)
      | (rw [show c = 47 by omega, e66]; rfl)
      | (rw [show c = 37 by omega, e70]; rfl)
      | (rw [show c = 43 by omega]; rfl)
      | (rw [show c = 45 by omega]; rfl)
      | (rw [show c = 60 by omega, evB_l]; first | rw [if_pos (by omega)] | rw [if_neg (by omega)])
      | (rw [show c = 61 by omega, evB_q]; first | rw [if_pos (by omega)] | rw [if_neg (by omega)])
  · refine ⟨_, _, ⟨(zW6i (by omega)), (zW6i (by omega)), (by omega)⟩, (fun q66 e66 e66' => ?_)⟩
    refine Qw_l (zn6_of _).symm (hQ _ ?_ (by first | omega | exact zn6_r _ | exact tmod_r ha e70))
    · first
      | (rw [show c = 42 by omega]; rfl)
      | (rw [show c = 47 by omega, e66]; rfl)
      | (rw [show c = 37 by omega, e70]; rfl)
      | (rw [show c = 43 by omega]; rfl)
      | (rw [show c = 45 by omega]; rfl)
      | (rw [show c = 60 by omega, evB_l]; first | rw [if_pos (by omega)] | rw [if_neg (by omega)])
      | (rw [show c = 61 by omega, evB_q]; first | rw [if_pos (by omega)] | rw [if_neg (by omega)])
  · refine ⟨_, _, ⟨zW6i (by omega), zW6i (by omega)⟩, fun z82 c82 => ?_⟩
    refine And.intro c82.2.2 ⟨fun h83 => ?_, fun h83 => ?_⟩
    · have k83 : a ≥ b := by omega
      clear h83 c82
      refine Qw_l rfl (hQ _ ?_ (by first | omega | exact zn6_r _ | exact tmod_r ha e70))
      · first
        | (rw [show c = 42 by omega]; rfl)
        | (rw [show c = 47 by omega, e66]; rfl)
        | (rw [show c = 37 by omega, e70]; rfl)
        | (rw [show c = 43 by omega]; rfl)
        | (rw [show c = 45 by omega]; rfl)
        | (rw [show c = 60 by omega, evB_l]; first | rw [if_pos (by omega)] | rw [if_neg (by omega)])
        | (rw [show c = 61 by omega, evB_q]; first | rw [if_pos (by omega)] | rw [if_neg (by omega)])
    · have k83b : a < b := by omega
      clear h83 c82
      refine Qw_l rfl (hQ _ ?_ (by first | omega | exact zn6_r _ | exact tmod_r ha e70))
      · first
        | (rw [show c = 42 by omega]; rfl)
        | (rw [show c = 47 by omega, e66]; rfl)
        | (rw [show c = 37 by omega, e70]; rfl)
        | (rw [show c = 43 by omega]; rfl)
        | (rw [show c = 45 by omega]; rfl)
        | (rw [show c = 60 by omega, evB_l]; first | rw [if_pos (by omega)] | rw [if_neg (by omega)])
        | (rw [show c = 61 by omega, evB_q]; first | rw [if_pos (by omega)] | rw [if_neg (by omega)])
  · refine ⟨_, _, ⟨zW6i (by omega), zW6i (by omega)⟩, fun z94 c94 => ?_⟩
    refine And.intro c94.2.2 ⟨fun h95 => ?_, fun h95 => ?_⟩
    · have k95 : a ≠ b := by omega
      clear h95 c94
      refine Qw_l rfl (hQ _ ?_ (by first | omega | exact zn6_r _ | exact tmod_r ha e70))
      · first
        | (rw [show c = 42 by omega]; rfl)
        | (rw [show c = 47 by omega, e66]; rfl)
        | (rw [show c = 37 by omega, e70]; rfl)
        | (rw [show c = 43 by omega]; rfl)
        | (rw [show c = 45 by omega]; rfl)
        | (rw [show c = 60 by omega, evB_l]; first | rw [if_pos (by omega)] | rw [if_neg (by omega)])
        | (rw [show c = 61 by omega, evB_q]; first | rw [if_pos (by omega)] | rw [if_neg (by omega)])
    · have k95b : a = b := by omega
      clear h95 c94
      refine Qw_l rfl (hQ _ ?_ (by first | omega | exact zn6_r _ | exact tmod_r ha e70))
      · first
        | (rw [show c = 42 by omega]; rfl)
        | (rw [show c = 47 by omega, e66]; rfl)
        | (rw [show c = 37 by omega, e70]; rfl)
        | (rw [show c = 43 by omega]; rfl)
        | (rw [show c = 45 by omega]; rfl)
        | (rw [show c = 60 by omega, evB_l]; first | rw [if_pos (by omega)] | rw [if_neg (by omega)])
        | (rw [show c = 61 by omega, evB_q]; first | rw [if_pos (by omega)] | rw [if_neg (by omega)])))
def T_G_ask : ZT := fun args I L R S Q => ∃ (g : Nat) (q : Nat) (l : CdL) (E : EvE) (a : Int), args = [zvr 234, zvi a] ∧ (zSh S) ∧ (zRs R) ∧ (I 234 3 = g) ∧ (g ≤ 1) ∧ (zCo (1000 * g + q) (l ++ [(0, 0)]) I) ∧ (cdH 64 l 0 1) ∧ (zRv E I L) ∧ (q + l.length < 1000) ∧ (a = q) ∧ ∀ (v : Int) (I' : ZI) (L' : ZI), ((v = 1 ∧ evF E l = 0) ∨ (v = 0 ∧ ¬ evF E l = 0)) → (I' 234 66 = (evF E l : Nat)) → (zAv E l L') → (∀ c j : Nat, ¬ (c = 234 ∧ j = 66) → I' c j = I c j) → (∀ c j : Nat, ¬ c = 267 → ¬ (c = 234 ∧ j = 65) → L' c j = L c j) → Q (some (zvi (v))) I' L' R S
theorem sn_G_ask : ZSnd 2 12 4 T_G_ask := ZSnd.loops (zT12_4 1) (by
  rintro args I L R S Q hz ⟨g, q, l, E, a, rfl, hS, hR, h3, hg, hK, hH, hV, hq, ha, hQ⟩
  obtain ⟨hV1, ⟨hV2, hV2b⟩, hV3, ⟨hV4, hV4b⟩, hV5⟩ := id hV
  refine ⟨[18], fun nM tM lsM stM I1 L1 R1 S1 => match tM with
      | 18 => ∃ (t : Nat) (st : List Int) (F : Nat), nM = ((l.length + 1 - t), 0, 0) ∧ lsM = [some (zvr (234)), some (zvi (a)), some (zvi (st.length)), some (zvi (1000 * g + q + t)), none, none, none] ∧ stM = [] ∧ R1 = R ∧ S1 = S ∧ (t ≤ l.length) ∧ (st.length ≤ 64) ∧ (F ≤ 9) ∧ (I1 234 66 = F) ∧ (I1 234 3 = g) ∧ (zAk E l t st F) ∧ (zSk st L1) ∧ (∀ c j : Nat, ¬ (c = 234 ∧ j = 66) → I1 c j = I c j) ∧ (∀ c j : Nat, ¬ c = 267 → ¬ (c = 234 ∧ j = 65) → L1 c j = L c j)
      | _ => False, rfl, ?_, ⟨?_, True.intro⟩⟩
  · refine And.intro (zA_234 hS) ⟨_, (zWi (zRb rfl)), ?_⟩
    refine And.intro (zA_234 hS) (zrd (v := g) h3 ?_)
    refine ⟨((l.length + 1 - (0 : Nat)), 0, 0), [some (zvr (234)), some (zvi (a)), some (zvi ([].length)), some (zvi (1000 * g + q + (0 : Nat))), none, none, none], ⟨rfl, rfl, (congrArg (fun z => some (zvi z)) (show (0 : Int) = (([] : List Int).length : Int) from rfl)), (congrArg (fun z => some (zvi z)) (by omega)), rfl⟩, 0, [], 0, rfl, rfl, rfl, rfl, rfl, (by omega), (Nat.zero_le 64), (by omega), rfl, h3, (zAk_0 hH), zSk_0, (fun c j h0 => (zxcj h0 rfl)), (fun c j h0 h1 => rfl)⟩
  · rintro nM lsM stM I1 L1 R1 S1 hz1 ⟨t, st, F, rfl, rfl, rfl, rfl, rfl, ht, hst, hF9, h661, hg31, hA, hSk, fr, frL⟩
    have hK1 : zCo (1000 * g + q) (l ++ [(0, 0)]) I1 := zCo_fr hK (fun x j h1 h2 => fr x j (by omega))
    have hKz := zCo_z hK1 (t := t) ht
    have hV_1 : zRv E I1 L1 := zRv_fr hV (fun c j h => fr c j (by omega)) (fun c j h => frL c j (by omega) (by omega))
    obtain ⟨hW1, ⟨hW2, hW2b⟩, hW3, ⟨hW4, hW4b⟩, hW5⟩ := id hV_1
    refine And.intro (zA_234 hS) (zrdR (v := some 245) (zR_234_13 hR) ?_)
    refine And.intro (zP_245 hS (by omega) (by omega)) (fun v23 e23 r23 => ?_)
    have f23 : (t < l.length ∧ v23 = (l.getD t (0, 0)).1) ∨ (t = l.length ∧ v23 = 0) := (by rcases Nat.lt_or_ge t l.length with q1 | q1; (exact Or.inl ⟨q1, e23.trans ((congrArg (I1 245) (by omega)).trans (hKz.1 (by omega)).1)⟩); (exact Or.inr ⟨by omega, e23.trans ((congrArg (I1 245) (by omega)).trans (hKz.2 (by omega)))⟩))
    refine And.intro r23 ⟨fun h24 => ?_, fun h24 => ?_⟩
    · have t24 : evF E l = F ∧ (F = 0 → st.length = 1 ∧ evV E l = st.getD 0 0) := (ak_end hA ht (fun h0 h1 => (ak_h (by rw [h0] at hA; exact hA) h1).1 (by omega)))
      refine And.intro (by omega) ⟨fun h350 => ?_, fun h350 => ?_⟩
      · refine And.intro (zA_234 hS) ⟨_, zW6i (zRL rfl), ?_⟩
        refine And.intro (zA_234 hS) (zrd (v := F) h661 ?_)
        refine And.intro (by omega) ⟨fun h372 => ?_, fun h372 => ?_⟩
        · refine And.intro (Or.inl rfl) ?_
          refine hQ _ _ _ (by first | (have z := t24.1; omega) | (have z := t31.1; omega)) (h661.trans (by first | (have z := t24.1; omega) | (have z := t31.1; omega))) (fun h => zxe.trans (by first | (have z := t24.2 (by have z9 := t24.1; omega); first | omega | (rw [z.2]; exact f360)) | (have z := t31.1; omega))) (fun c j h0 => ((fr c j h0).trans rfl)) (fun c j h0 h1 => (zxcj h1 ((frL c j h0 h1).trans rfl)))
        · refine And.intro (Or.inr rfl) ?_
          refine hQ _ _ _ (by first | (have z := t24.1; omega) | (have z := t31.1; omega)) (h661.trans (by first | (have z := t24.1; omega) | (have z := t31.1; omega))) (fun h => zxe.trans (by first | (have z := t24.2 (by have z9 := t24.1; omega); first | omega | (rw [z.2]; exact f360)) | (have z := t31.1; omega))) (fun c j h0 => ((fr c j h0).trans rfl)) (fun c j h0 h1 => (zxcj h1 ((frL c j h0 h1).trans rfl)))
      · refine And.intro (zA_234 hS) (zrdR (v := some 267) (zR_234_64 hR) ?_)
        refine And.intro (zP_267 hS (by omega) (by omega)) (fun v360 e360 r360 => ?_)
        have f360 : v360 = st.getD 0 0 := (e360.trans ((congrArg (L1 267) (show _ = st.length - 1 by omega)).trans (zSk_h hSk (by omega))))
        refine And.intro (zA_234 hS) ⟨_, zW6i r360, ?_⟩
        refine And.intro (zA_234 hS) (zrd (v := F) h661 ?_)
        refine And.intro (by omega) ⟨fun h372 => ?_, fun h372 => ?_⟩
        · refine And.intro (Or.inl rfl) ?_
          refine hQ _ _ _ (by first | (have z := t24.1; omega) | (have z := t31.1; omega)) (h661.trans (by first | (have z := t24.1; omega) | (have z := t31.1; omega))) (fun h => zxe.trans (by first | (have z := t24.2 (by have z9 := t24.1; omega); first | omega | (rw [z.2]; exact f360)) | (have z := t31.1; omega))) (fun c j h0 => ((fr c j h0).trans rfl)) (fun c j h0 h1 => (zxcj h1 ((frL c j h0 h1).trans rfl)))
        · refine And.intro (Or.inr rfl) ?_
          refine hQ _ _ _ (by first | (have z := t24.1; omega) | (have z := t31.1; omega)) (h661.trans (by first | (have z := t24.1; omega) | (have z := t31.1; omega))) (fun h => zxe.trans (by first | (have z := t24.2 (by have z9 := t24.1; omega); first | omega | (rw [z.2]; exact f360)) | (have z := t31.1; omega))) (fun c j h0 => ((fr c j h0).trans rfl)) (fun c j h0 h1 => (zxcj h1 ((frL c j h0 h1).trans rfl)))
    · refine And.intro (zA_234 hS) (zrd (v := F) h661 ?_)
      refine And.intro (by omega) ⟨fun h31 => ?_, fun h31 => ?_⟩
      · have t31 : evF E l = F ∧ (F = 0 → st.length = 1 ∧ evV E l = st.getD 0 0) := (ak_end hA ht (fun h0 => absurd h0 (by omega)))
        refine And.intro (by omega) ⟨fun h350 => ?_, fun h350 => ?_⟩
        · refine And.intro (zA_234 hS) ⟨_, zW6i (zRL rfl), ?_⟩
          refine And.intro (zA_234 hS) (zrd (v := F) h661 ?_)
          refine And.intro (by omega) ⟨fun h372 => ?_, (fun h372 => False.elim (by omega))⟩
          refine And.intro (Or.inl rfl) ?_
          refine hQ _ _ _ (by first | (have z := t24.1; omega) | (have z := t31.1; omega)) (h661.trans (by first | (have z := t24.1; omega) | (have z := t31.1; omega))) (fun h => zxe.trans (by first | (have z := t24.2 (by have z9 := t24.1; omega); first | omega | (rw [z.2]; exact f360)) | (have z := t31.1; omega))) (fun c j h0 => ((fr c j h0).trans rfl)) (fun c j h0 h1 => (zxcj h1 ((frL c j h0 h1).trans rfl)))
        · refine And.intro (zA_234 hS) (zrdR (v := some 267) (zR_234_64 hR) ?_)
          refine And.intro (zP_267 hS (by omega) (by omega)) (fun v360 e360 r360 => ?_)
          have f360 : v360 = st.getD 0 0 := (e360.trans ((congrArg (L1 267) (show _ = st.length - 1 by omega)).trans (zSk_h hSk (by omega))))
          refine And.intro (zA_234 hS) ⟨_, zW6i r360, ?_⟩
          refine And.intro (zA_234 hS) (zrd (v := F) h661 ?_)
          refine And.intro (by omega) ⟨fun h372 => ?_, (fun h372 => False.elim (by omega))⟩
          refine And.intro (Or.inl rfl) ?_
          refine hQ _ _ _ (by first | (have z := t24.1; omega) | (have z := t31.1; omega)) (h661.trans (by first | (have z := t24.1; omega) | (have z := t31.1; omega))) (fun h => zxe.trans (by first | (have z := t24.2 (by have z9 := t24.1; omega); first | omega | (rw [z.2]; exact f360)) | (have z := t31.1; omega))) (fun c j h0 => ((fr c j h0).trans rfl)) (fun c j h0 h1 => (zxcj h1 ((frL c j h0 h1).trans rfl)))
      · have t31 : t + 1 ≤ l.length := (by omega)
        have t31b : zAk E l t st 0 := (by have z : F = 0 := (by omega); rw [z] at hA; exact hA)
        have t31bb : (((l.getD t (0, 0)).1 = 48 ∧ 0 ≤ (l.getD t (0, 0)).2 ∧ (l.getD t (0, 0)).2 ≤ 9999) ∨ ((l.getD t (0, 0)).1 = 97 ∧ 0 ≤ (l.getD t (0, 0)).2 ∧ (l.getD t (0, 0)).2 < 26) ∨ (l.getD t (0, 0)).1 = 35) ∧ st.length + 1 ≤ 64 ∨ ((l.getD t (0, 0)).1 = 95 ∨ ((l.getD t (0, 0)).1 = 64 ∧ 0 ≤ (l.getD t (0, 0)).2 ∧ (l.getD t (0, 0)).2 ≤ 5) ∨ (l.getD t (0, 0)).1 = 39) ∧ 1 ≤ st.length ∨ ((l.getD t (0, 0)).1 = 42 ∨ (l.getD t (0, 0)).1 = 47 ∨ (l.getD t (0, 0)).1 = 37 ∨ (l.getD t (0, 0)).1 = 43 ∨ (l.getD t (0, 0)).1 = 45 ∨ (l.getD t (0, 0)).1 = 60 ∨ (l.getD t (0, 0)).1 = 61) ∧ 2 ≤ st.length := (ak_h t31b (by omega)).2
        refine And.intro (zA_234 hS) (zrdR (v := some 245) (zR_234_13 hR) ?_)
        refine And.intro (zP_245 hS (by omega) (by omega)) (fun v39 e39 r39 => ?_)
        have f39 : v39 = (l.getD t (0, 0)).1 := (e39.trans ((congrArg (I1 245) (by omega)).trans (hKz.1 (by omega)).1))
        refine And.intro (by omega) ⟨fun h43 => ?_, fun h43 => ?_⟩
        · have t43 : True := trivial
          refine And.intro ⟨r39, (zRb rfl)⟩ ⟨fun h64 => ?_, fun h64 => ?_⟩
          · refine And.intro (zA_234 hS) (zrdR (v := some 267) (zR_234_64 hR) ?_)
            refine And.intro ⟨r39, (zRb rfl)⟩ ⟨(fun h90 => False.elim (by omega)), fun h90 => ?_⟩
            refine And.intro (zA_234 hS) (zrdR (v := some 246) (zR_234_14 hR) ?_)
            refine And.intro (zP_246 hS (by omega) (by omega)) (fun v98 e98 r98 => ?_)
            have f98 : v98 = (l.getD t (0, 0)).2 := (e98.trans ((congrArg (I1 246) (by omega)).trans (hKz.1 (by omega)).2))
            refine And.intro r98 ?_
            refine And.intro ⟨(zx0 rfl), (zP_267 hS (by omega) (by omega))⟩ ⟨_, zW6i (by omega), ?_⟩
            refine ⟨((l.length + 1 - (t + 1)), 0, 0), zlt6 (by omega), [some (zvr (234)), some (zvi (a)), some (zvi ((v98 :: st).length)), some (zvi (1000 * g + q + (t + 1))), none, none, none], ⟨rfl, rfl, (congrArg (fun z => some (zvi z)) (by first | rfl | (rw [len_1 (by omega)]) | (rw [len_2 (by omega)]; omega) | (rw [List.length_drop]; omega) | rw [len_c])), (congrArg (fun z => some (zvi z)) (by omega)), rfl⟩, (t + 1), (v98 :: st), 0, rfl, rfl, rfl, rfl, rfl, (by omega), (by first | exact hst | (have z := len_c (v := 0) (st := st); rw [List.length_cons]; omega) | (rw [len_1 (by omega)]; exact hst) | (rw [len_2 (by omega)]; omega) | (rw [List.length_drop]; omega)), (by omega), (by first | exact zxe | exact zxe.trans (by omega) | exact h661.trans (by omega)), hg31, ?_, (by first | exact hSk | exact zSk_d hSk (by omega) | exact zSk_p hSk (zxe' (by omega)) (fun i hi => zxs (by omega) rfl) | exact zSk_u hSk (by omega) (zxe' (by omega)) (fun i hi => zxs (by omega) rfl) | exact zSk_b hSk (by omega) (zxe' (by omega)) (fun i hi => zxs (by omega) rfl)), (fun c j h0 => ((fr c j h0).trans rfl)), (fun c j h0 h1 => (zxu h0 ((frL c j h0 h1).trans rfl)))⟩
            · first
              | exact ak_p t31b (by omega) (by omega) (by rw [if_pos (by omega)]; exact f98)
              | exact ak_p t31b (by omega) (by omega) (by rw [if_neg (by omega), if_pos (by omega), ← f119]; exact f120)
              | exact (ak_u (F := 0) t31b (by omega) (by omega) (by rw [show (l.getD t (0, 0)).1 = 95 by omega, ← f53, Int.zero_sub]; exact if_pos rfl)).1 rfl
              | exact (ak_u (F := 0) t31b (by omega) (by omega) (by rw [show (l.getD t (0, 0)).1 = 64 by omega, ← f53, evU_a (by omega), f214]; exact congrArg (fun q => ((0 : Nat), E.2.2.1 q)) (by omega))).1 rfl
              | exact (ak_u (F := 2) (v := 0) t31b (by omega) (by omega) (by rw [show (l.getD t (0, 0)).1 = 64 by omega, ← f53, evU_b (by omega)])).2 (by decide)
              | exact (ak_u (F := 0) t31b (by omega) (by omega) (by rw [show (l.getD t (0, 0)).1 = 39 by omega, ← f53, evU_c (by omega), f274])).1 rfl
              | exact (ak_u (F := 2) (v := 0) t31b (by omega) (by omega) (by rw [show (l.getD t (0, 0)).1 = 39 by omega, ← f53, evU_d (by omega)])).2 (by decide)
              | exact (ak_b (F := 0) t31b (by omega) (by omega) (by unfold evD; rw [if_neg (by omega)]) (fun _ => by rw [p338hv, f39, f335, f53])).1 rfl
              | exact ak_st (by decide) ((ak_b (F := 1) (v := 0) t31b (by omega) (by omega) (by unfold evD; rw [if_pos (by omega)]) (fun h => absurd h (by decide))).2 (by decide))
              | exact ak_p t31b (by omega) (by omega) (by rw [if_neg (by omega), if_neg (by omega)])
          · refine And.intro ⟨r39, (zRb rfl)⟩ ⟨fun h71 => ?_, fun h71 => ?_⟩
            · refine And.intro (zA_234 hS) (zrdR (v := some 267) (zR_234_64 hR) ?_)
              refine And.intro ⟨r39, (zRb rfl)⟩ ⟨fun h90 => ?_, (fun h90 => False.elim (by omega))⟩
              refine And.intro ⟨r39, (zRb rfl)⟩ ⟨(fun h107 => False.elim (by omega)), fun h107 => ?_⟩
              refine And.intro (zA_234 hS) (zrdR (v := some 253) (zR_234_33 hR) ?_)
              refine And.intro (zA_234 hS) (zrdR (v := some 246) (zR_234_14 hR) ?_)
              refine And.intro (zP_246 hS (by omega) (by omega)) (fun v119 e119 r119 => ?_)
              have f119 : v119 = (l.getD t (0, 0)).2 := (e119.trans ((congrArg (I1 246) (by omega)).trans (hKz.1 (by omega)).2))
              refine And.intro (zP_253 hS (by omega) (by omega)) (fun v120 e120 r120 => ?_)
              have f120 : v120 = E.1 v119.toNat := (e120.trans (hW1 _ (by omega)))
              refine And.intro ⟨(zx0 rfl), (zP_267 hS (by omega) (by omega))⟩ ⟨_, zW6i r120, ?_⟩
              refine ⟨((l.length + 1 - (t + 1)), 0, 0), zlt6 (by omega), [some (zvr (234)), some (zvi (a)), some (zvi ((v120 :: st).length)), some (zvi (1000 * g + q + (t + 1))), none, none, none], ⟨rfl, rfl, (congrArg (fun z => some (zvi z)) (by first | rfl | (rw [len_1 (by omega)]) | (rw [len_2 (by omega)]; omega) | (rw [List.length_drop]; omega) | rw [len_c])), (congrArg (fun z => some (zvi z)) (by omega)), rfl⟩, (t + 1), (v120 :: st), 0, rfl, rfl, rfl, rfl, rfl, (by omega), (by first | exact hst | (have z := len_c (v := 0) (st := st); rw [List.length_cons]; omega) | (rw [len_1 (by omega)]; exact hst) | (rw [len_2 (by omega)]; omega) | (rw [List.length_drop]; omega)), (by omega), (by first | exact zxe | exact zxe.trans (by omega) | exact h661.trans (by omega)), hg31, ?_, (by first | exact hSk | exact zSk_d hSk (by omega) | exact zSk_p hSk (zxe' (by omega)) (fun i hi => zxs (by omega) rfl) | exact zSk_u hSk (by omega) (zxe' (by omega)) (fun i hi => zxs (by omega) rfl) | exact zSk_b hSk (by omega) (zxe' (by omega)) (fun i hi => zxs (by omega) rfl)), (fun c j h0 => ((fr c j h0).trans rfl)), (fun c j h0 h1 => (zxu h0 ((frL c j h0 h1).trans rfl)))⟩
              · first
                | exact ak_p t31b (by omega) (by omega) (by rw [if_pos (by omega)]; exact f98)
                | exact ak_p t31b (by omega) (by omega) (by rw [if_neg (by omega), if_pos (by omega), ← f119]; exact f120)
                | exact (ak_u (F := 0) t31b (by omega) (by omega) (by rw [show (l.getD t (0, 0)).1 = 95 by omega, ← f53, Int.zero_sub]; exact if_pos rfl)).1 rfl
                | exact (ak_u (F := 0) t31b (by omega) (by omega) (by rw [show (l.getD t (0, 0)).1 = 64 by omega, ← f53, evU_a (by omega), f214]; exact congrArg (fun q => ((0 : Nat), E.2.2.1 q)) (by omega))).1 rfl
                | exact (ak_u (F := 2) (v := 0) t31b (by omega) (by omega) (by rw [show (l.getD t (0, 0)).1 = 64 by omega, ← f53, evU_b (by omega)])).2 (by decide)
                | exact (ak_u (F := 0) t31b (by omega) (by omega) (by rw [show (l.getD t (0, 0)).1 = 39 by omega, ← f53, evU_c (by omega), f274])).1 rfl
                | exact (ak_u (F := 2) (v := 0) t31b (by omega) (by omega) (by rw [show (l.getD t (0, 0)).1 = 39 by omega, ← f53, evU_d (by omega)])).2 (by decide)
                | exact (ak_b (F := 0) t31b (by omega) (by omega) (by unfold evD; rw [if_neg (by omega)]) (fun _ => by rw [p338hv, f39, f335, f53])).1 rfl
                | exact ak_st (by decide) ((ak_b (F := 1) (v := 0) t31b (by omega) (by omega) (by unfold evD; rw [if_pos (by omega)]) (fun h => absurd h (by decide))).2 (by decide))
                | exact ak_p t31b (by omega) (by omega) (by rw [if_neg (by omega), if_neg (by omega)])
            · refine And.intro ⟨r39, (zRb rfl)⟩ ⟨fun h78 => ?_, fun h78 => ?_⟩
              · exact False.elim (by omega)
              · refine And.intro (zA_234 hS) (zrdR (v := some 267) (zR_234_64 hR) ?_)
                refine And.intro ⟨r39, (zRb rfl)⟩ ⟨fun h90 => ?_, (fun h90 => False.elim (by omega))⟩
                refine And.intro ⟨r39, (zRb rfl)⟩ ⟨fun h107 => ?_, (fun h107 => False.elim (by omega))⟩
                have t107 : True := trivial
                refine And.intro (zA_234 hS) (zrd (v := (E.2.1)) hW2 ?_)
                refine And.intro (by omega) ?_
                refine And.intro ⟨(zx0 rfl), (zP_267 hS (by omega) (by omega))⟩ ⟨_, zW6i (by omega), ?_⟩
                refine ⟨((l.length + 1 - (t + 1)), 0, 0), zlt6 (by omega), [some (zvr (234)), some (zvi (a)), some (zvi (((E.2.1 : Int) :: st).length)), some (zvi (1000 * g + q + (t + 1))), none, none, none], ⟨rfl, rfl, (congrArg (fun z => some (zvi z)) (by first | rfl | (rw [len_1 (by omega)]) | (rw [len_2 (by omega)]; omega) | (rw [List.length_drop]; omega) | rw [len_c])), (congrArg (fun z => some (zvi z)) (by omega)), rfl⟩, (t + 1), ((E.2.1 : Int) :: st), 0, rfl, rfl, rfl, rfl, rfl, (by omega), (by first | exact hst | (have z := len_c (v := 0) (st := st); rw [List.length_cons]; omega) | (rw [len_1 (by omega)]; exact hst) | (rw [len_2 (by omega)]; omega) | (rw [List.length_drop]; omega)), (by omega), (by first | exact zxe | exact zxe.trans (by omega) | exact h661.trans (by omega)), hg31, ?_, (by first | exact hSk | exact zSk_d hSk (by omega) | exact zSk_p hSk (zxe' (by omega)) (fun i hi => zxs (by omega) rfl) | exact zSk_u hSk (by omega) (zxe' (by omega)) (fun i hi => zxs (by omega) rfl) | exact zSk_b hSk (by omega) (zxe' (by omega)) (fun i hi => zxs (by omega) rfl)), (fun c j h0 => ((fr c j h0).trans rfl)), (fun c j h0 h1 => (zxu h0 ((frL c j h0 h1).trans rfl)))⟩
                · first
                  | exact ak_p t31b (by omega) (by omega) (by rw [if_pos (by omega)]; exact f98)
                  | exact ak_p t31b (by omega) (by omega) (by rw [if_neg (by omega), if_pos (by omega), ← f119]; exact f120)
                  | exact (ak_u (F := 0) t31b (by omega) (by omega) (by rw [show (l.getD t (0, 0)).1 = 95 by omega, ← f53, Int.zero_sub]; exact if_pos rfl)).1 rfl
                  | exact (ak_u (F := 0) t31b (by omega) (by omega) (by rw [show (l.getD t (0, 0)).1 = 64 by omega, ← f53, evU_a (by omega), f214]; exact congrArg (fun q => ((0 : Nat), E.2.2.1 q)) (by omega))).1 rfl
                  | exact (ak_u (F := 2) (v := 0) t31b (by omega) (by omega) (by rw [show (l.getD t (0, 0)).1 = 64 by omega, ← f53, evU_b (by omega)])).2 (by decide)
                  | exact (ak_u (F := 0) t31b (by omega) (by omega) (by rw [show (l.getD t (0, 0)).1 = 39 by omega, ← f53, evU_c (by omega), f274])).1 rfl
                  | exact (ak_u (F := 2) (v := 0) t31b (by omega) (by omega) (by rw [show (l.getD t (0, 0)).1 = 39 by omega, ← f53, evU_d (by omega)])).2 (by decide)
                  | exact (ak_b (F := 0) t31b (by omega) (by omega) (by unfold evD; rw [if_neg (by omega)]) (fun _ => by rw [p338hv, f39, f335, f53])).1 rfl
                  | exact ak_st (by decide) ((ak_b (F := 1) (v := 0) t31b (by omega) (by omega) (by unfold evD; rw [if_pos (by omega)]) (fun h => absurd h (by decide))).2 (by decide))
                  | exact ak_p t31b (by omega) (by omega) (by rw [if_neg (by omega), if_neg (by omega)])
        · refine And.intro (zA_234 hS) (zrdR (v := some 267) (zR_234_64 hR) ?_)
          refine And.intro (zP_267 hS (by omega) (by omega)) (fun v53 e53 r53 => ?_)
          have f53 : v53 = st.getD 0 0 := (e53.trans ((congrArg (L1 267) (show _ = st.length - 1 by omega)).trans (zSk_h hSk (by omega))))
          refine And.intro ⟨r39, (zRb rfl)⟩ ⟨fun h64 => ?_, fun h64 => ?_⟩
          · refine And.intro (zA_234 hS) (zrdR (v := some 267) (zR_234_64 hR) ?_)
            refine And.intro ⟨r39, (zRb rfl)⟩ ⟨(fun h90 => False.elim (by omega)), fun h90 => ?_⟩
            refine And.intro (zA_234 hS) (zrdR (v := some 246) (zR_234_14 hR) ?_)
            refine And.intro (zP_246 hS (by omega) (by omega)) (fun v98 e98 r98 => ?_)
            have f98 : v98 = (l.getD t (0, 0)).2 := (e98.trans ((congrArg (I1 246) (by omega)).trans (hKz.1 (by omega)).2))
            refine And.intro r98 ?_
            refine And.intro ⟨(zx0 rfl), (zP_267 hS (by omega) (by omega))⟩ ⟨_, zW6i (by omega), ?_⟩
            refine ⟨((l.length + 1 - (t + 1)), 0, 0), zlt6 (by omega), [some (zvr (234)), some (zvi (a)), some (zvi ((v98 :: st).length)), some (zvi (1000 * g + q + (t + 1))), none, none, none], ⟨rfl, rfl, (congrArg (fun z => some (zvi z)) (by first | rfl | (rw [len_1 (by omega)]) | (rw [len_2 (by omega)]; omega) | (rw [List.length_drop]; omega) | rw [len_c])), (congrArg (fun z => some (zvi z)) (by omega)), rfl⟩, (t + 1), (v98 :: st), 0, rfl, rfl, rfl, rfl, rfl, (by omega), (by first | exact hst | (have z := len_c (v := 0) (st := st); rw [List.length_cons]; omega) | (rw [len_1 (by omega)]; exact hst) | (rw [len_2 (by omega)]; omega) | (rw [List.length_drop]; omega)), (by omega), (by first | exact zxe | exact zxe.trans (by omega) | exact h661.trans (by omega)), hg31, ?_, (by first | exact hSk | exact zSk_d hSk (by omega) | exact zSk_p hSk (zxe' (by omega)) (fun i hi => zxs (by omega) rfl) | exact zSk_u hSk (by omega) (zxe' (by omega)) (fun i hi => zxs (by omega) rfl) | exact zSk_b hSk (by omega) (zxe' (by omega)) (fun i hi => zxs (by omega) rfl)), (fun c j h0 => ((fr c j h0).trans rfl)), (fun c j h0 h1 => (zxu h0 ((frL c j h0 h1).trans rfl)))⟩
            · first
              | exact ak_p t31b (by omega) (by omega) (by rw [if_pos (by omega)]; exact f98)
              | exact ak_p t31b (by omega) (by omega) (by rw [if_neg (by omega), if_pos (by omega), ← f119]; exact f120)
              | exact (ak_u (F := 0) t31b (by omega) (by omega) (by rw [show (l.getD t (0, 0)).1 = 95 by omega, ← f53, Int.zero_sub]; exact if_pos rfl)).1 rfl
              | exact (ak_u (F := 0) t31b (by omega) (by omega) (by rw [show (l.getD t (0, 0)).1 = 64 by omega, ← f53, evU_a (by omega), f214]; exact congrArg (fun q => ((0 : Nat), E.2.2.1 q)) (by omega))).1 rfl
              | exact (ak_u (F := 2) (v := 0) t31b (by omega) (by omega) (by rw [show (l.getD t (0, 0)).1 = 64 by omega, ← f53, evU_b (by omega)])).2 (by decide)
              | exact (ak_u (F := 0) t31b (by omega) (by omega) (by rw [show (l.getD t (0, 0)).1 = 39 by omega, ← f53, evU_c (by omega), f274])).1 rfl
              | exact (ak_u (F := 2) (v := 0) t31b (by omega) (by omega) (by rw [show (l.getD t (0, 0)).1 = 39 by omega, ← f53, evU_d (by omega)])).2 (by decide)
              | exact (ak_b (F := 0) t31b (by omega) (by omega) (by unfold evD; rw [if_neg (by omega)]) (fun _ => by rw [p338hv, f39, f335, f53])).1 rfl
              | exact ak_st (by decide) ((ak_b (F := 1) (v := 0) t31b (by omega) (by omega) (by unfold evD; rw [if_pos (by omega)]) (fun h => absurd h (by decide))).2 (by decide))
              | exact ak_p t31b (by omega) (by omega) (by rw [if_neg (by omega), if_neg (by omega)])
          · refine And.intro ⟨r39, (zRb rfl)⟩ ⟨fun h71 => ?_, fun h71 => ?_⟩
            · refine And.intro (zA_234 hS) (zrdR (v := some 267) (zR_234_64 hR) ?_)
              refine And.intro ⟨r39, (zRb rfl)⟩ ⟨fun h90 => ?_, (fun h90 => False.elim (by omega))⟩
              refine And.intro ⟨r39, (zRb rfl)⟩ ⟨(fun h107 => False.elim (by omega)), fun h107 => ?_⟩
              refine And.intro (zA_234 hS) (zrdR (v := some 253) (zR_234_33 hR) ?_)
              refine And.intro (zA_234 hS) (zrdR (v := some 246) (zR_234_14 hR) ?_)
              refine And.intro (zP_246 hS (by omega) (by omega)) (fun v119 e119 r119 => ?_)
              have f119 : v119 = (l.getD t (0, 0)).2 := (e119.trans ((congrArg (I1 246) (by omega)).trans (hKz.1 (by omega)).2))
              refine And.intro (zP_253 hS (by omega) (by omega)) (fun v120 e120 r120 => ?_)
              have f120 : v120 = E.1 v119.toNat := (e120.trans (hW1 _ (by omega)))
              refine And.intro ⟨(zx0 rfl), (zP_267 hS (by omega) (by omega))⟩ ⟨_, zW6i r120, ?_⟩
              refine ⟨((l.length + 1 - (t + 1)), 0, 0), zlt6 (by omega), [some (zvr (234)), some (zvi (a)), some (zvi ((v120 :: st).length)), some (zvi (1000 * g + q + (t + 1))), none, none, none], ⟨rfl, rfl, (congrArg (fun z => some (zvi z)) (by first | rfl | (rw [len_1 (by omega)]) | (rw [len_2 (by omega)]; omega) | (rw [List.length_drop]; omega) | rw [len_c])), (congrArg (fun z => some (zvi z)) (by omega)), rfl⟩, (t + 1), (v120 :: st), 0, rfl, rfl, rfl, rfl, rfl, (by omega), (by first | exact hst | (have z := len_c (v := 0) (st := st); rw [List.length_cons]; omega) | (rw [len_1 (by omega)]; exact hst) | (rw [len_2 (by omega)]; omega) | (rw [List.length_drop]; omega)), (by omega), (by first | exact zxe | exact zxe.trans (by omega) | exact h661.trans (by omega)), hg31, ?_, (by first | exact hSk | exact zSk_d hSk (by omega) | exact zSk_p hSk (zxe' (by omega)) (fun i hi => zxs (by omega) rfl) | exact zSk_u hSk (by omega) (zxe' (by omega)) (fun i hi => zxs (by omega) rfl) | exact zSk_b hSk (by omega) (zxe' (by omega)) (fun i hi => zxs (by omega) rfl)), (fun c j h0 => ((fr c j h0).trans rfl)), (fun c j h0 h1 => (zxu h0 ((frL c j h0 h1).trans rfl)))⟩
              · first
                | exact ak_p t31b (by omega) (by omega) (by rw [if_pos (by omega)]; exact f98)
                | exact ak_p t31b (by omega) (by omega) (by rw [if_neg (by omega), if_pos (by omega), ← f119]; exact f120)
                | exact (ak_u (F := 0) t31b (by omega) (by omega) (by rw [show (l.getD t (0, 0)).1 = 95 by omega, ← f53, Int.zero_sub]; exact if_pos rfl)).1 rfl
                | exact (ak_u (F := 0) t31b (by omega) (by omega) (by rw [show (l.getD t (0, 0)).1 = 64 by omega, ← f53, evU_a (by omega), f214]; exact congrArg (fun q => ((0 : Nat), E.2.2.1 q)) (by omega))).1 rfl
                | exact (ak_u (F := 2) (v := 0) t31b (by omega) (by omega) (by rw [show (l.getD t (0, 0)).1 = 64 by omega, ← f53, evU_b (by omega)])).2 (by decide)
                | exact (ak_u (F := 0) t31b (by omega) (by omega) (by rw [show (l.getD t (0, 0)).1 = 39 by omega, ← f53, evU_c (by omega), f274])).1 rfl
                | exact (ak_u (F := 2) (v := 0) t31b (by omega) (by omega) (by rw [show (l.getD t (0, 0)).1 = 39 by omega, ← f53, evU_d (by omega)])).2 (by decide)
                | exact (ak_b (F := 0) t31b (by omega) (by omega) (by unfold evD; rw [if_neg (by omega)]) (fun _ => by rw [p338hv, f39, f335, f53])).1 rfl
                | exact ak_st (by decide) ((ak_b (F := 1) (v := 0) t31b (by omega) (by omega) (by unfold evD; rw [if_pos (by omega)]) (fun h => absurd h (by decide))).2 (by decide))
                | exact ak_p t31b (by omega) (by omega) (by rw [if_neg (by omega), if_neg (by omega)])
            · refine And.intro ⟨r39, (zRb rfl)⟩ ⟨fun h78 => ?_, fun h78 => ?_⟩
              · have t78 : 1 ≤ st.length := (by omega)
                refine And.intro ⟨r39, (zRb rfl)⟩ ⟨fun h140 => ?_, fun h140 => ?_⟩
                · refine And.intro ⟨r39, (zRb rfl)⟩ ⟨fun h162 => ?_, fun h162 => ?_⟩
                  · refine And.intro ⟨r39, (zRb rfl)⟩ ⟨fun h223 => ?_, fun h223 => ?_⟩
                    · have t223 : 2 ≤ st.length := (by omega)
                      refine ⟨_, _, ⟨zW6i r53, zW6i (zRL rfl)⟩, fun z283 c283 => ?_⟩
                      refine And.intro c283.2.2 ⟨fun h284 => ?_, fun h284 => ?_⟩
                      · have k284 : v53 ≠ 0 := by omega
                        clear h284 c283
                        refine And.intro (zA_234 hS) ⟨_, (zWi (zRb rfl)), ?_⟩
                        refine And.intro (zA_234 hS) (zrd (v := 0) rfl ?_)
                        refine And.intro (zRb rfl) (zbf rfl ?_)
                        refine And.intro (zA_234 hS) (zrdR (v := some 267) (zR_234_64 hR) ?_)
                        refine And.intro (zA_234 hS) (zrdR (v := some 267) (zR_234_64 hR) ?_)
                        refine And.intro (zP_267 hS (by omega) (by omega)) (fun v335 e335 r335 => ?_)
                        have f335 : v335 = st.getD 1 0 := (e335.trans ((congrArg (L1 267) (show _ = st.length - 2 by omega)).trans (zSk_h2 hSk (by omega))))
                        refine ⟨_, sn_G_rk.up (by decide), ?_⟩
                        refine ⟨(v39 : Int), (v335 : Int), (v53 : Int), rfl, hS, hR, r335, (by omega), (by omega), (by omega), ?_⟩
                        intro v338o p338hv p338bhv2
                        refine And.intro ⟨(zx0 rfl), (zP_267 hS (by omega) (by omega))⟩ ⟨_, zW6i (by omega), ?_⟩
                        refine ⟨((l.length + 1 - (t + 1)), 0, 0), zlt6 (by omega), [some (zvr (234)), some (zvi (a)), some (zvi ((v338o :: st.drop 2).length)), some (zvi (1000 * g + q + (t + 1))), none, none, none], ⟨rfl, rfl, (congrArg (fun z => some (zvi z)) (by first | rfl | (rw [len_1 (by omega)]) | (rw [len_2 (by omega)]; omega) | (rw [List.length_drop]; omega) | rw [len_c])), (congrArg (fun z => some (zvi z)) (by omega)), rfl⟩, (t + 1), (v338o :: st.drop 2), 0, rfl, rfl, rfl, rfl, rfl, (by omega), (by first | exact hst | (have z := len_c (v := 0) (st := st); rw [List.length_cons]; omega) | (rw [len_1 (by omega)]; exact hst) | (rw [len_2 (by omega)]; omega) | (rw [List.length_drop]; omega)), (by omega), (by first | exact zxe | exact zxe.trans (by omega) | exact h661.trans (by omega)), hg31, ?_, (by first | exact hSk | exact zSk_d hSk (by omega) | exact zSk_p hSk (zxe' (by omega)) (fun i hi => zxs (by omega) rfl) | exact zSk_u hSk (by omega) (zxe' (by omega)) (fun i hi => zxs (by omega) rfl) | exact zSk_b hSk (by omega) (zxe' (by omega)) (fun i hi => zxs (by omega) rfl)), (fun c j h0 => (zxcj h0 ((fr c j h0).trans rfl))), (fun c j h0 h1 => (zxu h0 ((frL c j h0 h1).trans rfl)))⟩
                        · first
                          | exact ak_p t31b (by omega) (by omega) (by rw [if_pos (by omega)]; exact f98)
                          | exact ak_p t31b (by omega) (by omega) (by rw [if_neg (by omega), if_pos (by omega), ← f119]; exact f120)
                          | exact (ak_u (F := 0) t31b (by omega) (by omega) (by rw [show (l.getD t (0, 0)).1 = 95 by omega, ← f53, Int.zero_sub]; exact if_pos rfl)).1 rfl
                          | exact (ak_u (F := 0) t31b (by omega) (by omega) (by rw [show (l.getD t (0, 0)).1 = 64 by omega, ← f53, evU_a (by omega), f214]; exact congrArg (fun q => ((0 : Nat), E.2.2.1 q)) (by omega))).1 rfl
                          | exact (ak_u (F := 2) (v := 0) t31b (by omega) (by omega) (by rw [show (l.getD t (0, 0)).1 = 64 by omega, ← f53, evU_b (by omega)])).2 (by decide)
                          | exact (ak_u (F := 0) t31b (by omega) (by omega) (by rw [show (l.getD t (0, 0)).1 = 39 by omega, ← f53, evU_c (by omega), f274])).1 rfl
                          | exact (ak_u (F := 2) (v := 0) t31b (by omega) (by omega) (by rw [show (l.getD t (0, 0)).1 = 39 by omega, ← f53, evU_d (by omega)])).2 (by decide)
                          | exact (ak_b (F := 0) t31b (by omega) (by omega) (by unfold evD; rw [if_neg (by omega)]) (fun _ => by rw [p338hv, f39, f335, f53])).1 rfl
                          | exact ak_st (by decide) ((ak_b (F := 1) (v := 0) t31b (by omega) (by omega) (by unfold evD; rw [if_pos (by omega)]) (fun h => absurd h (by decide))).2 (by decide))
                          | exact ak_p t31b (by omega) (by omega) (by rw [if_neg (by omega), if_neg (by omega)])
                      · have k284b : v53 = 0 := by omega
                        clear h284 c283
                        refine And.intro ⟨r39, (zRb rfl)⟩ ⟨fun h291 => ?_, fun h291 => ?_⟩
                        · have t291 : True := trivial
                          refine And.intro (zA_234 hS) ⟨_, (zWi (zRb rfl)), ?_⟩
                          refine And.intro (zA_234 hS) (zrd (v := 1) rfl ?_)
                          refine And.intro (zRb rfl) (zbt rfl ?_)
                          refine ⟨((l.length + 1 - (t + 1)), 0, 0), zlt6 (by omega), [some (zvr (234)), some (zvi (a)), some (zvi ((st.drop 1).length)), some (zvi (1000 * g + q + (t + 1))), none, none, none], ⟨rfl, rfl, (congrArg (fun z => some (zvi z)) (by first | rfl | (rw [len_1 (by omega)]) | (rw [len_2 (by omega)]; omega) | (rw [List.length_drop]; omega) | rw [len_c])), (congrArg (fun z => some (zvi z)) (by omega)), rfl⟩, (t + 1), (st.drop 1), 1, rfl, rfl, rfl, rfl, rfl, (by omega), (by first | exact hst | (have z := len_c (v := 0) (st := st); rw [List.length_cons]; omega) | (rw [len_1 (by omega)]; exact hst) | (rw [len_2 (by omega)]; omega) | (rw [List.length_drop]; omega)), (by omega), (by first | exact zxe | exact zxe.trans (by omega) | exact h661.trans (by omega)), hg31, ?_, (by first | exact hSk | exact zSk_d hSk (by omega) | exact zSk_p hSk (zxe' (by omega)) (fun i hi => zxs (by omega) rfl) | exact zSk_u hSk (by omega) (zxe' (by omega)) (fun i hi => zxs (by omega) rfl) | exact zSk_b hSk (by omega) (zxe' (by omega)) (fun i hi => zxs (by omega) rfl)), (fun c j h0 => (zxcj h0 ((fr c j h0).trans rfl))), (fun c j h0 h1 => ((frL c j h0 h1).trans rfl))⟩
                          · first
                            | exact ak_p t31b (by omega) (by omega) (by rw [if_pos (by omega)]; exact f98)
                            | exact ak_p t31b (by omega) (by omega) (by rw [if_neg (by omega), if_pos (by omega), ← f119]; exact f120)
                            | exact (ak_u (F := 0) t31b (by omega) (by omega) (by rw [show (l.getD t (0, 0)).1 = 95 by omega, ← f53, Int.zero_sub]; exact if_pos rfl)).1 rfl
                            | exact (ak_u (F := 0) t31b (by omega) (by omega) (by rw [show (l.getD t (0, 0)).1 = 64 by omega, ← f53, evU_a (by omega), f214]; exact congrArg (fun q => ((0 : Nat), E.2.2.1 q)) (by omega))).1 rfl
                            | exact (ak_u (F := 2) (v := 0) t31b (by omega) (by omega) (by rw [show (l.getD t (0, 0)).1 = 64 by omega, ← f53, evU_b (by omega)])).2 (by decide)
                            | exact (ak_u (F := 0) t31b (by omega) (by omega) (by rw [show (l.getD t (0, 0)).1 = 39 by omega, ← f53, evU_c (by omega), f274])).1 rfl
                            | exact (ak_u (F := 2) (v := 0) t31b (by omega) (by omega) (by rw [show (l.getD t (0, 0)).1 = 39 by omega, ← f53, evU_d (by omega)])).2 (by decide)
                            | exact (ak_b (F := 0) t31b (by omega) (by omega) (by unfold evD; rw [if_neg (by omega)]) (fun _ => by rw [p338hv, f39, f335, f53])).1 rfl
                            | exact ak_st (by decide) ((ak_b (F := 1) (v := 0) t31b (by omega) (by omega) (by unfold evD; rw [if_pos (by omega)]) (fun h => absurd h (by decide))).2 (by decide))
                            | exact ak_p t31b (by omega) (by omega) (by rw [if_neg (by omega), if_neg (by omega)])
                        · refine And.intro ⟨r39, (zRb rfl)⟩ ⟨fun h298 => ?_, fun h298 => ?_⟩
                          · refine And.intro (zA_234 hS) ⟨_, (zWi (zRb rfl)), ?_⟩
                            refine And.intro (zA_234 hS) (zrd (v := 0) rfl ?_)
                            refine And.intro (zRb rfl) (zbf rfl ?_)
                            refine And.intro (zA_234 hS) (zrdR (v := some 267) (zR_234_64 hR) ?_)
                            refine And.intro (zA_234 hS) (zrdR (v := some 267) (zR_234_64 hR) ?_)
                            refine And.intro (zP_267 hS (by omega) (by omega)) (fun v335 e335 r335 => ?_)
                            have f335 : v335 = st.getD 1 0 := (e335.trans ((congrArg (L1 267) (show _ = st.length - 2 by omega)).trans (zSk_h2 hSk (by omega))))
                            refine ⟨_, sn_G_rk.up (by decide), ?_⟩
                            refine ⟨(v39 : Int), (v335 : Int), (v53 : Int), rfl, hS, hR, r335, (by omega), (by omega), (by omega), ?_⟩
                            intro v338o p338hv p338bhv2
                            refine And.intro ⟨(zx0 rfl), (zP_267 hS (by omega) (by omega))⟩ ⟨_, zW6i (by omega), ?_⟩
                            refine ⟨((l.length + 1 - (t + 1)), 0, 0), zlt6 (by omega), [some (zvr (234)), some (zvi (a)), some (zvi ((v338o :: st.drop 2).length)), some (zvi (1000 * g + q + (t + 1))), none, none, none], ⟨rfl, rfl, (congrArg (fun z => some (zvi z)) (by first | rfl | (rw [len_1 (by omega)]) | (rw [len_2 (by omega)]; omega) | (rw [List.length_drop]; omega) | rw [len_c])), (congrArg (fun z => some (zvi z)) (by omega)), rfl⟩, (t + 1), (v338o :: st.drop 2), 0, rfl, rfl, rfl, rfl, rfl, (by omega), (by first | exact hst | (have z := len_c (v := 0) (st := st); rw [List.length_cons]; omega) | (rw [len_1 (by omega)]; exact hst) | (rw [len_2 (by omega)]; omega) | (rw [List.length_drop]; omega)), (by omega), (by first | exact zxe | exact zxe.trans (by omega) | exact h661.trans (by omega)), hg31, ?_, (by first | exact hSk | exact zSk_d hSk (by omega) | exact zSk_p hSk (zxe' (by omega)) (fun i hi => zxs (by omega) rfl) | exact zSk_u hSk (by omega) (zxe' (by omega)) (fun i hi => zxs (by omega) rfl) | exact zSk_b hSk (by omega) (zxe' (by omega)) (fun i hi => zxs (by omega) rfl)), (fun c j h0 => (zxcj h0 ((fr c j h0).trans rfl))), (fun c j h0 h1 => (zxu h0 ((frL c j h0 h1).trans rfl)))⟩
                            · first
                              | exact ak_p t31b (by omega) (by omega) (by rw [if_pos (by omega)]; exact f98)
                              | exact ak_p t31b (by omega) (by omega) (by rw [if_neg (by omega), if_pos (by omega), ← f119]; exact f120)
                              | exact (ak_u (F := 0) t31b (by omega) (by omega) (by rw [show (l.getD t (0, 0)).1 = 95 by omega, ← f53, Int.zero_sub]; exact if_pos rfl)).1 rfl
                              | exact (ak_u (F := 0) t31b (by omega) (by omega) (by rw [show (l.getD t (0, 0)).1 = 64 by omega, ← f53, evU_a (by omega), f214]; exact congrArg (fun q => ((0 : Nat), E.2.2.1 q)) (by omega))).1 rfl
                              | exact (ak_u (F := 2) (v := 0) t31b (by omega) (by omega) (by rw [show (l.getD t (0, 0)).1 = 64 by omega, ← f53, evU_b (by omega)])).2 (by decide)
                              | exact (ak_u (F := 0) t31b (by omega) (by omega) (by rw [show (l.getD t (0, 0)).1 = 39 by omega, ← f53, evU_c (by omega), f274])).1 rfl
                              | exact (ak_u (F := 2) (v := 0) t31b (by omega) (by omega) (by rw [show (l.getD t (0, 0)).1 = 39 by omega, ← f53, evU_d (by omega)])).2 (by decide)
                              | exact (ak_b (F := 0) t31b (by omega) (by omega) (by unfold evD; rw [if_neg (by omega)]) (fun _ => by rw [p338hv, f39, f335, f53])).1 rfl
                              | exact ak_st (by decide) ((ak_b (F := 1) (v := 0) t31b (by omega) (by omega) (by unfold evD; rw [if_pos (by omega)]) (fun h => absurd h (by decide))).2 (by decide))
                              | exact ak_p t31b (by omega) (by omega) (by rw [if_neg (by omega), if_neg (by omega)])
                          · have t298 : True := trivial
                            refine And.intro (zA_234 hS) ⟨_, (zWi (zRb rfl)), ?_⟩
                            refine And.intro (zA_234 hS) (zrd (v := 1) rfl ?_)
                            refine And.intro (zRb rfl) (zbt rfl ?_)
                            refine ⟨((l.length + 1 - (t + 1)), 0, 0), zlt6 (by omega), [some (zvr (234)), some (zvi (a)), some (zvi ((st.drop 1).length)), some (zvi (1000 * g + q + (t + 1))), none, none, none], ⟨rfl, rfl, (congrArg (fun z => some (zvi z)) (by first | rfl | (rw [len_1 (by omega)]) | (rw [len_2 (by omega)]; omega) | (rw [List.length_drop]; omega) | rw [len_c])), (congrArg (fun z => some (zvi z)) (by omega)), rfl⟩, (t + 1), (st.drop 1), 1, rfl, rfl, rfl, rfl, rfl, (by omega), (by first | exact hst | (have z := len_c (v := 0) (st := st); rw [List.length_cons]; omega) | (rw [len_1 (by omega)]; exact hst) | (rw [len_2 (by omega)]; omega) | (rw [List.length_drop]; omega)), (by omega), (by first | exact zxe | exact zxe.trans (by omega) | exact h661.trans (by omega)), hg31, ?_, (by first | exact hSk | exact zSk_d hSk (by omega) | exact zSk_p hSk (zxe' (by omega)) (fun i hi => zxs (by omega) rfl) | exact zSk_u hSk (by omega) (zxe' (by omega)) (fun i hi => zxs (by omega) rfl) | exact zSk_b hSk (by omega) (zxe' (by omega)) (fun i hi => zxs (by omega) rfl)), (fun c j h0 => (zxcj h0 ((fr c j h0).trans rfl))), (fun c j h0 h1 => ((frL c j h0 h1).trans rfl))⟩
                            · first
                              | exact ak_p t31b (by omega) (by omega) (by rw [if_pos (by omega)]; exact f98)
                              | exact ak_p t31b (by omega) (by omega) (by rw [if_neg (by omega), if_pos (by omega), ← f119]; exact f120)
                              | exact (ak_u (F := 0) t31b (by omega) (by omega) (by rw [show (l.getD t (0, 0)).1 = 95 by omega, ← f53, Int.zero_sub]; exact if_pos rfl)).1 rfl
                              | exact (ak_u (F := 0) t31b (by omega) (by omega) (by rw [show (l.getD t (0, 0)).1 = 64 by omega, ← f53, evU_a (by omega), f214]; exact congrArg (fun q => ((0 : Nat), E.2.2.1 q)) (by omega))).1 rfl
                              | exact (ak_u (F := 2) (v := 0) t31b (by omega) (by omega) (by rw [show (l.getD t (0, 0)).1 = 64 by omega, ← f53, evU_b (by omega)])).2 (by decide)
                              | exact (ak_u (F := 0) t31b (by omega) (by omega) (by rw [show (l.getD t (0, 0)).1 = 39 by omega, ← f53, evU_c (by omega), f274])).1 rfl
                              | exact (ak_u (F := 2) (v := 0) t31b (by omega) (by omega) (by rw [show (l.getD t (0, 0)).1 = 39 by omega, ← f53, evU_d (by omega)])).2 (by decide)
                              | exact (ak_b (F := 0) t31b (by omega) (by omega) (by unfold evD; rw [if_neg (by omega)]) (fun _ => by rw [p338hv, f39, f335, f53])).1 rfl
                              | exact ak_st (by decide) ((ak_b (F := 1) (v := 0) t31b (by omega) (by omega) (by unfold evD; rw [if_pos (by omega)]) (fun h => absurd h (by decide))).2 (by decide))
                              | exact ak_p t31b (by omega) (by omega) (by rw [if_neg (by omega), if_neg (by omega)])
                    · refine ⟨_, _, ⟨zW6i r53, zW6i (zRL rfl)⟩, fun z230 c230 => ?_⟩
                      refine And.intro c230.2.2 ⟨fun h231 => ?_, fun h231 => ?_⟩
                      · have k231 : v53 < 0 := by omega
                        clear h231 c230
                        have t231 : True := trivial
                        refine And.intro (zA_234 hS) ⟨_, (zWi (zRb rfl)), ?_⟩
                        refine And.intro (zA_234 hS) (zrd (v := 2) rfl ?_)
                        refine And.intro (zRb rfl) (zbt rfl ?_)
                        refine ⟨((l.length + 1 - (t + 1)), 0, 0), zlt6 (by omega), [some (zvr (234)), some (zvi (a)), some (zvi (st.length)), some (zvi (1000 * g + q + (t + 1))), none, none, none], ⟨rfl, rfl, (congrArg (fun z => some (zvi z)) (by first | rfl | (rw [len_1 (by omega)]) | (rw [len_2 (by omega)]; omega) | (rw [List.length_drop]; omega) | rw [len_c])), (congrArg (fun z => some (zvi z)) (by omega)), rfl⟩, (t + 1), st, 2, rfl, rfl, rfl, rfl, rfl, (by omega), (by first | exact hst | (have z := len_c (v := 0) (st := st); rw [List.length_cons]; omega) | (rw [len_1 (by omega)]; exact hst) | (rw [len_2 (by omega)]; omega) | (rw [List.length_drop]; omega)), (by omega), (by first | exact zxe | exact zxe.trans (by omega) | exact h661.trans (by omega)), hg31, ?_, (by first | exact hSk | exact zSk_d hSk (by omega) | exact zSk_p hSk (zxe' (by omega)) (fun i hi => zxs (by omega) rfl) | exact zSk_u hSk (by omega) (zxe' (by omega)) (fun i hi => zxs (by omega) rfl) | exact zSk_b hSk (by omega) (zxe' (by omega)) (fun i hi => zxs (by omega) rfl)), (fun c j h0 => (zxcj h0 ((fr c j h0).trans rfl))), (fun c j h0 h1 => ((frL c j h0 h1).trans rfl))⟩
                        · first
                          | exact ak_p t31b (by omega) (by omega) (by rw [if_pos (by omega)]; exact f98)
                          | exact ak_p t31b (by omega) (by omega) (by rw [if_neg (by omega), if_pos (by omega), ← f119]; exact f120)
                          | exact (ak_u (F := 0) t31b (by omega) (by omega) (by rw [show (l.getD t (0, 0)).1 = 95 by omega, ← f53, Int.zero_sub]; exact if_pos rfl)).1 rfl
                          | exact (ak_u (F := 0) t31b (by omega) (by omega) (by rw [show (l.getD t (0, 0)).1 = 64 by omega, ← f53, evU_a (by omega), f214]; exact congrArg (fun q => ((0 : Nat), E.2.2.1 q)) (by omega))).1 rfl
                          | exact (ak_u (F := 2) (v := 0) t31b (by omega) (by omega) (by rw [show (l.getD t (0, 0)).1 = 64 by omega, ← f53, evU_b (by omega)])).2 (by decide)
                          | exact (ak_u (F := 0) t31b (by omega) (by omega) (by rw [show (l.getD t (0, 0)).1 = 39 by omega, ← f53, evU_c (by omega), f274])).1 rfl
                          | exact (ak_u (F := 2) (v := 0) t31b (by omega) (by omega) (by rw [show (l.getD t (0, 0)).1 = 39 by omega, ← f53, evU_d (by omega)])).2 (by decide)
                          | exact (ak_b (F := 0) t31b (by omega) (by omega) (by unfold evD; rw [if_neg (by omega)]) (fun _ => by rw [p338hv, f39, f335, f53])).1 rfl
                          | exact ak_st (by decide) ((ak_b (F := 1) (v := 0) t31b (by omega) (by omega) (by unfold evD; rw [if_pos (by omega)]) (fun h => absurd h (by decide))).2 (by decide))
                          | exact ak_p t31b (by omega) (by omega) (by rw [if_neg (by omega), if_neg (by omega)])
                      · have k231b : v53 ≥ 0 := by omega
                        clear h231 c230
                        refine And.intro (zA_234 hS) (zrd (v := (E.2.2.2.1)) hW4 ?_)
                        refine And.intro (by omega) ?_
                        refine ⟨_, _, ⟨zW6i r53, zW6i (by omega)⟩, fun z241 c241 => ?_⟩
                        refine And.intro c241.2.2 ⟨fun h242 => ?_, fun h242 => ?_⟩
                        · have k242 : v53 ≥ (E.2.2.2.1) := by omega
                          clear h242 c241
                          have t242 : True := trivial
                          refine And.intro (zA_234 hS) ⟨_, (zWi (zRb rfl)), ?_⟩
                          refine And.intro (zA_234 hS) (zrd (v := 2) rfl ?_)
                          refine And.intro (zRb rfl) (zbt rfl ?_)
                          refine ⟨((l.length + 1 - (t + 1)), 0, 0), zlt6 (by omega), [some (zvr (234)), some (zvi (a)), some (zvi (st.length)), some (zvi (1000 * g + q + (t + 1))), none, none, none], ⟨rfl, rfl, (congrArg (fun z => some (zvi z)) (by first | rfl | (rw [len_1 (by omega)]) | (rw [len_2 (by omega)]; omega) | (rw [List.length_drop]; omega) | rw [len_c])), (congrArg (fun z => some (zvi z)) (by omega)), rfl⟩, (t + 1), st, 2, rfl, rfl, rfl, rfl, rfl, (by omega), (by first | exact hst | (have z := len_c (v := 0) (st := st); rw [List.length_cons]; omega) | (rw [len_1 (by omega)]; exact hst) | (rw [len_2 (by omega)]; omega) | (rw [List.length_drop]; omega)), (by omega), (by first | exact zxe | exact zxe.trans (by omega) | exact h661.trans (by omega)), hg31, ?_, (by first | exact hSk | exact zSk_d hSk (by omega) | exact zSk_p hSk (zxe' (by omega)) (fun i hi => zxs (by omega) rfl) | exact zSk_u hSk (by omega) (zxe' (by omega)) (fun i hi => zxs (by omega) rfl) | exact zSk_b hSk (by omega) (zxe' (by omega)) (fun i hi => zxs (by omega) rfl)), (fun c j h0 => (zxcj h0 ((fr c j h0).trans rfl))), (fun c j h0 h1 => ((frL c j h0 h1).trans rfl))⟩
                          · first
                            | exact ak_p t31b (by omega) (by omega) (by rw [if_pos (by omega)]; exact f98)
                            | exact ak_p t31b (by omega) (by omega) (by rw [if_neg (by omega), if_pos (by omega), ← f119]; exact f120)
                            | exact (ak_u (F := 0) t31b (by omega) (by omega) (by rw [show (l.getD t (0, 0)).1 = 95 by omega, ← f53, Int.zero_sub]; exact if_pos rfl)).1 rfl
                            | exact (ak_u (F := 0) t31b (by omega) (by omega) (by rw [show (l.getD t (0, 0)).1 = 64 by omega, ← f53, evU_a (by omega), f214]; exact congrArg (fun q => ((0 : Nat), E.2.2.1 q)) (by omega))).1 rfl
                            | exact (ak_u (F := 2) (v := 0) t31b (by omega) (by omega) (by rw [show (l.getD t (0, 0)).1 = 64 by omega, ← f53, evU_b (by omega)])).2 (by decide)
                            | exact (ak_u (F := 0) t31b (by omega) (by omega) (by rw [show (l.getD t (0, 0)).1 = 39 by omega, ← f53, evU_c (by omega), f274])).1 rfl
                            | exact (ak_u (F := 2) (v := 0) t31b (by omega) (by omega) (by rw [show (l.getD t (0, 0)).1 = 39 by omega, ← f53, evU_d (by omega)])).2 (by decide)
                            | exact (ak_b (F := 0) t31b (by omega) (by omega) (by unfold evD; rw [if_neg (by omega)]) (fun _ => by rw [p338hv, f39, f335, f53])).1 rfl
                            | exact ak_st (by decide) ((ak_b (F := 1) (v := 0) t31b (by omega) (by omega) (by unfold evD; rw [if_pos (by omega)]) (fun h => absurd h (by decide))).2 (by decide))
                            | exact ak_p t31b (by omega) (by omega) (by rw [if_neg (by omega), if_neg (by omega)])
                        · have k242b : v53 < (E.2.2.2.1) := by omega
                          clear h242 c241
                          refine And.intro (zA_234 hS) ⟨_, (zWi (zRb rfl)), ?_⟩
                          refine And.intro (zA_234 hS) (zrd (v := 0) rfl ?_)
                          refine And.intro (zRb rfl) (zbf rfl ?_)
                          refine And.intro (zA_234 hS) (zrdR (v := some 267) (zR_234_64 hR) ?_)
                          refine And.intro (zA_234 hS) (zrdR (v := some 252) (zR_234_31 hR) ?_)
                          refine ⟨_, (zWi (by omega)), ?_⟩
                          refine And.intro (zP_252 hS (by omega) (by omega)) (fun v274 e274 r274 => ?_)
                          have f274 : v274 = E.2.2.2.2 v53.toNat := (e274.trans (hW5 _ (by omega)))
                          refine And.intro ⟨(zx0 rfl), (zP_267 hS (by omega) (by omega))⟩ ⟨_, zW6i r274, ?_⟩
                          refine ⟨((l.length + 1 - (t + 1)), 0, 0), zlt6 (by omega), [some (zvr (234)), some (zvi (a)), some (zvi ((v274 :: st.drop 1).length)), some (zvi (1000 * g + q + (t + 1))), none, none, none], ⟨rfl, rfl, (congrArg (fun z => some (zvi z)) (by first | rfl | (rw [len_1 (by omega)]) | (rw [len_2 (by omega)]; omega) | (rw [List.length_drop]; omega) | rw [len_c])), (congrArg (fun z => some (zvi z)) (by omega)), rfl⟩, (t + 1), (v274 :: st.drop 1), 0, rfl, rfl, rfl, rfl, rfl, (by omega), (by first | exact hst | (have z := len_c (v := 0) (st := st); rw [List.length_cons]; omega) | (rw [len_1 (by omega)]; exact hst) | (rw [len_2 (by omega)]; omega) | (rw [List.length_drop]; omega)), (by omega), (by first | exact zxe | exact zxe.trans (by omega) | exact h661.trans (by omega)), hg31, ?_, (by first | exact hSk | exact zSk_d hSk (by omega) | exact zSk_p hSk (zxe' (by omega)) (fun i hi => zxs (by omega) rfl) | exact zSk_u hSk (by omega) (zxe' (by omega)) (fun i hi => zxs (by omega) rfl) | exact zSk_b hSk (by omega) (zxe' (by omega)) (fun i hi => zxs (by omega) rfl)), (fun c j h0 => (zxcj h0 ((fr c j h0).trans rfl))), (fun c j h0 h1 => (zxu h0 ((frL c j h0 h1).trans rfl)))⟩
                          · first
                            | exact ak_p t31b (by omega) (by omega) (by rw [if_pos (by omega)]; exact f98)
                            | exact ak_p t31b (by omega) (by omega) (by rw [if_neg (by omega), if_pos (by omega), ← f119]; exact f120)
                            | exact (ak_u (F := 0) t31b (by omega) (by omega) (by rw [show (l.getD t (0, 0)).1 = 95 by omega, ← f53, Int.zero_sub]; exact if_pos rfl)).1 rfl
                            | exact (ak_u (F := 0) t31b (by omega) (by omega) (by rw [show (l.getD t (0, 0)).1 = 64 by omega, ← f53, evU_a (by omega), f214]; exact congrArg (fun q => ((0 : Nat), E.2.2.1 q)) (by omega))).1 rfl
                            | exact (ak_u (F := 2) (v := 0) t31b (by omega) (by omega) (by rw [show (l.getD t (0, 0)).1 = 64 by omega, ← f53, evU_b (by omega)])).2 (by decide)
                            | exact (ak_u (F := 0) t31b (by omega) (by omega) (by rw [show (l.getD t (0, 0)).1 = 39 by omega, ← f53, evU_c (by omega), f274])).1 rfl
                            | exact (ak_u (F := 2) (v := 0) t31b (by omega) (by omega) (by rw [show (l.getD t (0, 0)).1 = 39 by omega, ← f53, evU_d (by omega)])).2 (by decide)
                            | exact (ak_b (F := 0) t31b (by omega) (by omega) (by unfold evD; rw [if_neg (by omega)]) (fun _ => by rw [p338hv, f39, f335, f53])).1 rfl
                            | exact ak_st (by decide) ((ak_b (F := 1) (v := 0) t31b (by omega) (by omega) (by unfold evD; rw [if_pos (by omega)]) (fun h => absurd h (by decide))).2 (by decide))
                            | exact ak_p t31b (by omega) (by omega) (by rw [if_neg (by omega), if_neg (by omega)])
                  · refine And.intro (zA_234 hS) (Exists.intro _ (And.intro (zinl_ok (zT12_28 0)) (And.intro rfl ?_)))
                    refine ⟨_, _, ⟨zW6i r53, zW6i (zRL rfl)⟩, fun z2_169 c2_169 => ?_⟩
                    refine And.intro c2_169.2.2 ⟨fun h3_169 => ?_, fun h3_169 => ?_⟩
                    · have k3_169 : v53 < 0 := by omega
                      clear h3_169 c2_169
                      have t3_169 : True := trivial
                      refine And.intro (Or.inl rfl) ?_
                      refine And.intro (zRb rfl) (zbt rfl ?_)
                      refine And.intro (zA_234 hS) ⟨_, (zWi (zRb rfl)), ?_⟩
                      refine And.intro (zA_234 hS) (zrd (v := 2) rfl ?_)
                      refine And.intro (zRb rfl) (zbt rfl ?_)
                      refine ⟨((l.length + 1 - (t + 1)), 0, 0), zlt6 (by omega), [some (zvr (234)), some (zvi (a)), some (zvi (st.length)), some (zvi (1000 * g + q + (t + 1))), none, none, none], ⟨rfl, rfl, (congrArg (fun z => some (zvi z)) (by first | rfl | (rw [len_1 (by omega)]) | (rw [len_2 (by omega)]; omega) | (rw [List.length_drop]; omega) | rw [len_c])), (congrArg (fun z => some (zvi z)) (by omega)), rfl⟩, (t + 1), st, 2, rfl, rfl, rfl, rfl, rfl, (by omega), (by first | exact hst | (have z := len_c (v := 0) (st := st); rw [List.length_cons]; omega) | (rw [len_1 (by omega)]; exact hst) | (rw [len_2 (by omega)]; omega) | (rw [List.length_drop]; omega)), (by omega), (by first | exact zxe | exact zxe.trans (by omega) | exact h661.trans (by omega)), hg31, ?_, (by first | exact hSk | exact zSk_d hSk (by omega) | exact zSk_p hSk (zxe' (by omega)) (fun i hi => zxs (by omega) rfl) | exact zSk_u hSk (by omega) (zxe' (by omega)) (fun i hi => zxs (by omega) rfl) | exact zSk_b hSk (by omega) (zxe' (by omega)) (fun i hi => zxs (by omega) rfl)), (fun c j h0 => (zxcj h0 ((fr c j h0).trans rfl))), (fun c j h0 h1 => ((frL c j h0 h1).trans rfl))⟩
                      · first
                        | exact ak_p t31b (by omega) (by omega) (by rw [if_pos (by omega)]; exact f98)
                        | exact ak_p t31b (by omega) (by omega) (by rw [if_neg (by omega), if_pos (by omega), ← f119]; exact f120)
                        | exact (ak_u (F := 0) t31b (by omega) (by omega) (by rw [show (l.getD t (0, 0)).1 = 95 by omega, ← f53, Int.zero_sub]; exact if_pos rfl)).1 rfl
                        | exact (ak_u (F := 0) t31b (by omega) (by omega) (by rw [show (l.getD t (0, 0)).1 = 64 by omega, ← f53, evU_a (by omega), f214]; exact congrArg (fun q => ((0 : Nat), E.2.2.1 q)) (by omega))).1 rfl
                        | exact (ak_u (F := 2) (v := 0) t31b (by omega) (by omega) (by rw [show (l.getD t (0, 0)).1 = 64 by omega, ← f53, evU_b (by omega)])).2 (by decide)
                        | exact (ak_u (F := 0) t31b (by omega) (by omega) (by rw [show (l.getD t (0, 0)).1 = 39 by omega, ← f53, evU_c (by omega), f274])).1 rfl
                        | exact (ak_u (F := 2) (v := 0) t31b (by omega) (by omega) (by rw [show (l.getD t (0, 0)).1 = 39 by omega, ← f53, evU_d (by omega)])).2 (by decide)
                        | exact (ak_b (F := 0) t31b (by omega) (by omega) (by unfold evD; rw [if_neg (by omega)]) (fun _ => by rw [p338hv, f39, f335, f53])).1 rfl
                        | exact ak_st (by decide) ((ak_b (F := 1) (v := 0) t31b (by omega) (by omega) (by unfold evD; rw [if_pos (by omega)]) (fun h => absurd h (by decide))).2 (by decide))
                        | exact ak_p t31b (by omega) (by omega) (by rw [if_neg (by omega), if_neg (by omega)])
                    · have k3_169b : v53 ≥ 0 := by omega
                      clear h3_169 c2_169
                      refine And.intro (zA_234 hS) (zrd (v := (E.2.1)) hW2 ?_)
                      refine And.intro (by omega) ?_
                      refine ⟨_, _, ⟨zW6i r53, zW6i (by omega)⟩, fun z12_169 c12_169 => ?_⟩
                      refine And.intro c12_169.2.2 ⟨fun h13_169 => ?_, fun h13_169 => ?_⟩
                      · have k13_169 : v53 ≥ (E.2.1) := by omega
                        clear h13_169 c12_169
                        have t13_169 : True := trivial
                        refine And.intro (Or.inl rfl) ?_
                        refine And.intro (zRb rfl) (zbt rfl ?_)
                        refine And.intro (zA_234 hS) ⟨_, (zWi (zRb rfl)), ?_⟩
                        refine And.intro (zA_234 hS) (zrd (v := 2) rfl ?_)
                        refine And.intro (zRb rfl) (zbt rfl ?_)
                        refine ⟨((l.length + 1 - (t + 1)), 0, 0), zlt6 (by omega), [some (zvr (234)), some (zvi (a)), some (zvi (st.length)), some (zvi (1000 * g + q + (t + 1))), none, none, none], ⟨rfl, rfl, (congrArg (fun z => some (zvi z)) (by first | rfl | (rw [len_1 (by omega)]) | (rw [len_2 (by omega)]; omega) | (rw [List.length_drop]; omega) | rw [len_c])), (congrArg (fun z => some (zvi z)) (by omega)), rfl⟩, (t + 1), st, 2, rfl, rfl, rfl, rfl, rfl, (by omega), (by first | exact hst | (have z := len_c (v := 0) (st := st); rw [List.length_cons]; omega) | (rw [len_1 (by omega)]; exact hst) | (rw [len_2 (by omega)]; omega) | (rw [List.length_drop]; omega)), (by omega), (by first | exact zxe | exact zxe.trans (by omega) | exact h661.trans (by omega)), hg31, ?_, (by first | exact hSk | exact zSk_d hSk (by omega) | exact zSk_p hSk (zxe' (by omega)) (fun i hi => zxs (by omega) rfl) | exact zSk_u hSk (by omega) (zxe' (by omega)) (fun i hi => zxs (by omega) rfl) | exact zSk_b hSk (by omega) (zxe' (by omega)) (fun i hi => zxs (by omega) rfl)), (fun c j h0 => (zxcj h0 ((fr c j h0).trans rfl))), (fun c j h0 h1 => ((frL c j h0 h1).trans rfl))⟩
                        · first
                          | exact ak_p t31b (by omega) (by omega) (by rw [if_pos (by omega)]; exact f98)
                          | exact ak_p t31b (by omega) (by omega) (by rw [if_neg (by omega), if_pos (by omega), ← f119]; exact f120)
                          | exact (ak_u (F := 0) t31b (by omega) (by omega) (by rw [show (l.getD t (0, 0)).1 = 95 by omega, ← f53, Int.zero_sub]; exact if_pos rfl)).1 rfl
                          | exact (ak_u (F := 0) t31b (by omega) (by omega) (by rw [show (l.getD t (0, 0)).1 = 64 by omega, ← f53, evU_a (by omega), f214]; exact congrArg (fun q => ((0 : Nat), E.2.2.1 q)) (by omega))).1 rfl
                          | exact (ak_u (F := 2) (v := 0) t31b (by omega) (by omega) (by rw [show (l.getD t (0, 0)).1 = 64 by omega, ← f53, evU_b (by omega)])).2 (by decide)
                          | exact (ak_u (F := 0) t31b (by omega) (by omega) (by rw [show (l.getD t (0, 0)).1 = 39 by omega, ← f53, evU_c (by omega), f274])).1 rfl
                          | exact (ak_u (F := 2) (v := 0) t31b (by omega) (by omega) (by rw [show (l.getD t (0, 0)).1 = 39 by omega, ← f53, evU_d (by omega)])).2 (by decide)
                          | exact (ak_b (F := 0) t31b (by omega) (by omega) (by unfold evD; rw [if_neg (by omega)]) (fun _ => by rw [p338hv, f39, f335, f53])).1 rfl
                          | exact ak_st (by decide) ((ak_b (F := 1) (v := 0) t31b (by omega) (by omega) (by unfold evD; rw [if_pos (by omega)]) (fun h => absurd h (by decide))).2 (by decide))
                          | exact ak_p t31b (by omega) (by omega) (by rw [if_neg (by omega), if_neg (by omega)])
                      · have k13_169b : v53 < (E.2.1) := by omega
                        clear h13_169 c12_169
                        refine And.intro (Or.inr rfl) ?_
                        refine And.intro (zRb rfl) (zbf rfl ?_)
                        refine And.intro (zA_234 hS) ⟨_, (zWi (zRb rfl)), ?_⟩
                        refine And.intro (zA_234 hS) (zrd (v := 0) rfl ?_)
                        refine And.intro (zRb rfl) (zbf rfl ?_)
                        refine And.intro (zA_234 hS) (zrdR (v := some 267) (zR_234_64 hR) ?_)
                        refine And.intro (zA_234 hS) (zrdR (v := some 251) (zR_234_29 hR) ?_)
                        refine ⟨_, (zWi (by omega)), ?_⟩
                        refine And.intro (zA_234 hS) (zrdR (v := some 246) (zR_234_14 hR) ?_)
                        refine And.intro (zP_246 hS (by omega) (by omega)) (fun v212 e212 r212 => ?_)
                        have f212 : v212 = (l.getD t (0, 0)).2 := (e212.trans (zxu (by omega) ((congrArg (I1 246) (by omega)).trans (hKz.1 (by omega)).2)))
                        refine And.intro (zP_251 hS (by omega) (by omega)) (fun v214 e214 r214 => ?_)
                        have f214 : v214 = E.2.2.1 (6 * v53 + v212).toNat := (e214.trans (hW3 _ (by omega)))
                        refine And.intro ⟨(zx0 rfl), (zP_267 hS (by omega) (by omega))⟩ ⟨_, zW6i r214, ?_⟩
                        refine ⟨((l.length + 1 - (t + 1)), 0, 0), zlt6 (by omega), [some (zvr (234)), some (zvi (a)), some (zvi ((v214 :: st.drop 1).length)), some (zvi (1000 * g + q + (t + 1))), none, none, none], ⟨rfl, rfl, (congrArg (fun z => some (zvi z)) (by first | rfl | (rw [len_1 (by omega)]) | (rw [len_2 (by omega)]; omega) | (rw [List.length_drop]; omega) | rw [len_c])), (congrArg (fun z => some (zvi z)) (by omega)), rfl⟩, (t + 1), (v214 :: st.drop 1), 0, rfl, rfl, rfl, rfl, rfl, (by omega), (by first | exact hst | (have z := len_c (v := 0) (st := st); rw [List.length_cons]; omega) | (rw [len_1 (by omega)]; exact hst) | (rw [len_2 (by omega)]; omega) | (rw [List.length_drop]; omega)), (by omega), (by first | exact zxe | exact zxe.trans (by omega) | exact h661.trans (by omega)), hg31, ?_, (by first | exact hSk | exact zSk_d hSk (by omega) | exact zSk_p hSk (zxe' (by omega)) (fun i hi => zxs (by omega) rfl) | exact zSk_u hSk (by omega) (zxe' (by omega)) (fun i hi => zxs (by omega) rfl) | exact zSk_b hSk (by omega) (zxe' (by omega)) (fun i hi => zxs (by omega) rfl)), (fun c j h0 => (zxcj h0 ((fr c j h0).trans rfl))), (fun c j h0 h1 => (zxu h0 ((frL c j h0 h1).trans rfl)))⟩
                        · first
                          | exact ak_p t31b (by omega) (by omega) (by rw [if_pos (by omega)]; exact f98)
                          | exact ak_p t31b (by omega) (by omega) (by rw [if_neg (by omega), if_pos (by omega), ← f119]; exact f120)
                          | exact (ak_u (F := 0) t31b (by omega) (by omega) (by rw [show (l.getD t (0, 0)).1 = 95 by omega, ← f53, Int.zero_sub]; exact if_pos rfl)).1 rfl
                          | exact (ak_u (F := 0) t31b (by omega) (by omega) (by rw [show (l.getD t (0, 0)).1 = 64 by omega, ← f53, evU_a (by omega), f214]; exact congrArg (fun q => ((0 : Nat), E.2.2.1 q)) (by omega))).1 rfl
                          | exact (ak_u (F := 2) (v := 0) t31b (by omega) (by omega) (by rw [show (l.getD t (0, 0)).1 = 64 by omega, ← f53, evU_b (by omega)])).2 (by decide)
                          | exact (ak_u (F := 0) t31b (by omega) (by omega) (by rw [show (l.getD t (0, 0)).1 = 39 by omega, ← f53, evU_c (by omega), f274])).1 rfl
                          | exact (ak_u (F := 2) (v := 0) t31b (by omega) (by omega) (by rw [show (l.getD t (0, 0)).1 = 39 by omega, ← f53, evU_d (by omega)])).2 (by decide)
                          | exact (ak_b (F := 0) t31b (by omega) (by omega) (by unfold evD; rw [if_neg (by omega)]) (fun _ => by rw [p338hv, f39, f335, f53])).1 rfl
                          | exact ak_st (by decide) ((ak_b (F := 1) (v := 0) t31b (by omega) (by omega) (by unfold evD; rw [if_pos (by omega)]) (fun h => absurd h (by decide))).2 (by decide))
                          | exact ak_p t31b (by omega) (by omega) (by rw [if_neg (by omega), if_neg (by omega)])
                · have t140 : True := trivial
                  refine And.intro (zA_234 hS) (zrdR (v := some 267) (zR_234_64 hR) ?_)
                  refine And.intro ⟨(zx0 rfl), (zP_267 hS (by omega) (by omega))⟩ ⟨_, zW6t _, ?_⟩
                  refine ⟨((l.length + 1 - (t + 1)), 0, 0), zlt6 (by omega), [some (zvr (234)), some (zvi (a)), some (zvi ((zn6 (0 - v53) :: st.drop 1).length)), some (zvi (1000 * g + q + (t + 1))), none, none, none], ⟨rfl, rfl, (congrArg (fun z => some (zvi z)) (by first | rfl | (rw [len_1 (by omega)]) | (rw [len_2 (by omega)]; omega) | (rw [List.length_drop]; omega) | rw [len_c])), (congrArg (fun z => some (zvi z)) (by omega)), rfl⟩, (t + 1), (zn6 (0 - v53) :: st.drop 1), 0, rfl, rfl, rfl, rfl, rfl, (by omega), (by first | exact hst | (have z := len_c (v := 0) (st := st); rw [List.length_cons]; omega) | (rw [len_1 (by omega)]; exact hst) | (rw [len_2 (by omega)]; omega) | (rw [List.length_drop]; omega)), (by omega), (by first | exact zxe | exact zxe.trans (by omega) | exact h661.trans (by omega)), hg31, ?_, (by first | exact hSk | exact zSk_d hSk (by omega) | exact zSk_p hSk (zxe' (by omega)) (fun i hi => zxs (by omega) rfl) | exact zSk_u hSk (by omega) (zxe' (by omega)) (fun i hi => zxs (by omega) rfl) | exact zSk_b hSk (by omega) (zxe' (by omega)) (fun i hi => zxs (by omega) rfl)), (fun c j h0 => ((fr c j h0).trans rfl)), (fun c j h0 h1 => (zxu h0 ((frL c j h0 h1).trans rfl)))⟩
                  · first
                    | exact ak_p t31b (by omega) (by omega) (by rw [if_pos (by omega)]; exact f98)
                    | exact ak_p t31b (by omega) (by omega) (by rw [if_neg (by omega), if_pos (by omega), ← f119]; exact f120)
                    | exact (ak_u (F := 0) t31b (by omega) (by omega) (by rw [show (l.getD t (0, 0)).1 = 95 by omega, ← f53, Int.zero_sub]; exact if_pos rfl)).1 rfl
                    | exact (ak_u (F := 0) t31b (by omega) (by omega) (by rw [show (l.getD t (0, 0)).1 = 64 by omega, ← f53, evU_a (by omega), f214]; exact congrArg (fun q => ((0 : Nat), E.2.2.1 q)) (by omega))).1 rfl
                    | exact (ak_u (F := 2) (v := 0) t31b (by omega) (by omega) (by rw [show (l.getD t (0, 0)).1 = 64 by omega, ← f53, evU_b (by omega)])).2 (by decide)
                    | exact (ak_u (F := 0) t31b (by omega) (by omega) (by rw [show (l.getD t (0, 0)).1 = 39 by omega, ← f53, evU_c (by omega), f274])).1 rfl
                    | exact (ak_u (F := 2) (v := 0) t31b (by omega) (by omega) (by rw [show (l.getD t (0, 0)).1 = 39 by omega, ← f53, evU_d (by omega)])).2 (by decide)
                    | exact (ak_b (F := 0) t31b (by omega) (by omega) (by unfold evD; rw [if_neg (by omega)]) (fun _ => by rw [p338hv, f39, f335, f53])).1 rfl
                    | exact ak_st (by decide) ((ak_b (F := 1) (v := 0) t31b (by omega) (by omega) (by unfold evD; rw [if_pos (by omega)]) (fun h => absurd h (by decide))).2 (by decide))
                    | exact ak_p t31b (by omega) (by omega) (by rw [if_neg (by omega), if_neg (by omega)])
              · refine And.intro (zA_234 hS) (zrdR (v := some 267) (zR_234_64 hR) ?_)
                refine And.intro ⟨r39, (zRb rfl)⟩ ⟨fun h90 => ?_, (fun h90 => False.elim (by omega))⟩
                refine And.intro ⟨r39, (zRb rfl)⟩ ⟨fun h107 => ?_, (fun h107 => False.elim (by omega))⟩
                have t107 : True := trivial
                refine And.intro (zA_234 hS) (zrd (v := (E.2.1)) hW2 ?_)
                refine And.intro (by omega) ?_
                refine And.intro ⟨(zx0 rfl), (zP_267 hS (by omega) (by omega))⟩ ⟨_, zW6i (by omega), ?_⟩
                refine ⟨((l.length + 1 - (t + 1)), 0, 0), zlt6 (by omega), [some (zvr (234)), some (zvi (a)), some (zvi (((E.2.1 : Int) :: st).length)), some (zvi (1000 * g + q + (t + 1))), none, none, none], ⟨rfl, rfl, (congrArg (fun z => some (zvi z)) (by first | rfl | (rw [len_1 (by omega)]) | (rw [len_2 (by omega)]; omega) | (rw [List.length_drop]; omega) | rw [len_c])), (congrArg (fun z => some (zvi z)) (by omega)), rfl⟩, (t + 1), ((E.2.1 : Int) :: st), 0, rfl, rfl, rfl, rfl, rfl, (by omega), (by first | exact hst | (have z := len_c (v := 0) (st := st); rw [List.length_cons]; omega) | (rw [len_1 (by omega)]; exact hst) | (rw [len_2 (by omega)]; omega) | (rw [List.length_drop]; omega)), (by omega), (by first | exact zxe | exact zxe.trans (by omega) | exact h661.trans (by omega)), hg31, ?_, (by first | exact hSk | exact zSk_d hSk (by omega) | exact zSk_p hSk (zxe' (by omega)) (fun i hi => zxs (by omega) rfl) | exact zSk_u hSk (by omega) (zxe' (by omega)) (fun i hi => zxs (by omega) rfl) | exact zSk_b hSk (by omega) (zxe' (by omega)) (fun i hi => zxs (by omega) rfl)), (fun c j h0 => ((fr c j h0).trans rfl)), (fun c j h0 h1 => (zxu h0 ((frL c j h0 h1).trans rfl)))⟩
                · first
                  | exact ak_p t31b (by omega) (by omega) (by rw [if_pos (by omega)]; exact f98)
                  | exact ak_p t31b (by omega) (by omega) (by rw [if_neg (by omega), if_pos (by omega), ← f119]; exact f120)
                  | exact (ak_u (F := 0) t31b (by omega) (by omega) (by rw [show (l.getD t (0, 0)).1 = 95 by omega, ← f53, Int.zero_sub]; exact if_pos rfl)).1 rfl
                  | exact (ak_u (F := 0) t31b (by omega) (by omega) (by rw [show (l.getD t (0, 0)).1 = 64 by omega, ← f53, evU_a (by omega), f214]; exact congrArg (fun q => ((0 : Nat), E.2.2.1 q)) (by omega))).1 rfl
                  | exact (ak_u (F := 2) (v := 0) t31b (by omega) (by omega) (by rw [show (l.getD t (0, 0)).1 = 64 by omega, ← f53, evU_b (by omega)])).2 (by decide)
                  | exact (ak_u (F := 0) t31b (by omega) (by omega) (by rw [show (l.getD t (0, 0)).1 = 39 by omega, ← f53, evU_c (by omega), f274])).1 rfl
                  | exact (ak_u (F := 2) (v := 0) t31b (by omega) (by omega) (by rw [show (l.getD t (0, 0)).1 = 39 by omega, ← f53, evU_d (by omega)])).2 (by decide)
                  | exact (ak_b (F := 0) t31b (by omega) (by omega) (by unfold evD; rw [if_neg (by omega)]) (fun _ => by rw [p338hv, f39, f335, f53])).1 rfl
                  | exact ak_st (by decide) ((ak_b (F := 1) (v := 0) t31b (by omega) (by omega) (by unfold evD; rw [if_pos (by omega)]) (fun h => absurd h (by decide))).2 (by decide))
                  | exact ak_p t31b (by omega) (by omega) (by rw [if_neg (by omega), if_neg (by omega)]))
