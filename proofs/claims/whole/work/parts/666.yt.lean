/-! yt -/
def T_X_at : ZT := fun args I L R S Q => ∃ (k : Nat) (a : Int) (wh : Int) (p : Nat) (m : Nat), args = [zvr k, zvi a, zvi wh] ∧ (zSh S) ∧ (zRs R) ∧ (zDy zT16 zF16 k R S) ∧ (a = p) ∧ (I (k + 4) 0 = m) ∧ (p < m ∧ m ≤ 60) ∧ (wh = 1 ∨ wh = 2 ∨ wh = 5 ∨ wh = 6) ∧ ∀ (v : Int) (I' : ZI), ((wh = 1 ∧ v = L (k + 6) p) ∨ (wh = 2 ∧ v = L (k + 7) p) ∨ (wh = 5 ∧ v = I (k + 10) p) ∨ (wh = 6 ∧ v = I (k + 11) p)) → (∀ c j : Nat, ¬ (c = k ∧ j = 0) → I' c j = I c j) → Q (some (zvl (v))) I' L R S
theorem sn_X_at : ZSnd 1 16 2 T_X_at := ZSnd.of (zT16_2 0) (by
  rintro args I L R S Q hz ⟨k, a, wh, p, m, rfl, hS, hR, hd, hap, hm, hpm, hwh, hQ⟩
  have hk5 := hd.1
  refine And.intro rfl ?_
  refine And.intro (by omega) ⟨(fun h2 => False.elim (by omega)), fun h2 => ?_⟩
  refine And.intro (zDX hd 0 rfl) (zrdR (v := some (k + 4)) (zDR hd 3 rfl) ?_)
  refine And.intro (zDP hd 4 rfl rfl (by omega) (by omega)) (zrd (v := m) hm ?_)
  refine And.intro ⟨(by omega), (by omega)⟩ ⟨(fun h12 => False.elim (by omega)), fun h12 => ?_⟩
  refine And.intro (by omega) ⟨(fun h16 => False.elim (by omega)), fun h16 => ?_⟩
  refine And.intro ⟨(by omega), (zRb rfl)⟩ ⟨(fun h22 => False.elim (by omega)), fun h22 => ?_⟩
  refine And.intro (zDX hd 0 rfl) ⟨_, (zWi (zRb rfl)), ?_⟩
  refine And.intro (zDX hd 0 rfl) (zrd (v := 0) zxe ?_)
  refine And.intro (zRb rfl) (zbt rfl ?_)
  refine And.intro (by omega) (And.intro (And.intro (fun h43 => False.elim (by omega)) (And.intro (fun h43 => ?_) (And.intro (fun h43 => ?_) (And.intro (fun h43 => ?_) (And.intro (fun h43 => ?_) (And.intro (fun h43 => ?_) (And.intro (fun h43 => ?_) True.intro))))))) (fun h43 => False.elim (by omega)))
  · refine And.intro (zDX hd 0 rfl) (zrdR (v := some (k + 6)) (zDR hd 5 rfl) ?_)
    refine And.intro (zDP hd 6 rfl rfl (by omega) (by omega)) (fun v97 e97 r97 => ?_)
    have f97 : v97 = L (k + 6) p := (e97.trans (congrArg (L (k + 6)) (by omega)))
    refine hQ _ _ (by omega) (fun c j h0 => (zxcj h0 rfl))
  · refine And.intro (zDX hd 0 rfl) (zrdR (v := some (k + 7)) (zDR hd 6 rfl) ?_)
    refine And.intro (zDP hd 7 rfl rfl (by omega) (by omega)) (fun v104 e104 r104 => ?_)
    have f104 : v104 = L (k + 7) p := (e104.trans (congrArg (L (k + 7)) (by omega)))
    refine hQ _ _ (by omega) (fun c j h0 => (zxcj h0 rfl))
  · refine And.intro (zDX hd 0 rfl) (zrdR (v := some (k + 8)) (zDR hd 7 rfl) ?_)
    refine And.intro (zDP hd 8 rfl rfl (by omega) (by omega)) (fun v111 e111 r111 => ?_)
    refine hQ _ _ (by omega) (fun c j h0 => (zxcj h0 rfl))
  · refine And.intro (zDX hd 0 rfl) (zrdR (v := some (k + 9)) (zDR hd 8 rfl) ?_)
    refine And.intro (zDP hd 9 rfl rfl (by omega) (by omega)) (fun v118 e118 r118 => ?_)
    refine hQ _ _ (by omega) (fun c j h0 => (zxcj h0 rfl))
  · refine And.intro (zDX hd 0 rfl) (zrdR (v := some (k + 10)) (zDR hd 9 rfl) ?_)
    refine And.intro (zDP hd 10 rfl rfl (by omega) (by omega)) (fun v125 e125 r125 => ?_)
    have f125 : v125 = I (k + 10) p := (e125.trans (zxu (by omega) (congrArg (I (k + 10)) (by omega))))
    refine And.intro r125 ?_
    refine hQ _ _ (by omega) (fun c j h0 => (zxcj h0 rfl))
  · refine And.intro (zDX hd 0 rfl) (zrdR (v := some (k + 11)) (zDR hd 10 rfl) ?_)
    refine And.intro (zDP hd 11 rfl rfl (by omega) (by omega)) (fun v133 e133 r133 => ?_)
    have f133 : v133 = I (k + 11) p := (e133.trans (zxu (by omega) (congrArg (I (k + 11)) (by omega))))
    refine And.intro r133 ?_
    refine hQ _ _ (by omega) (fun c j h0 => (zxcj h0 rfl)))
def T_X_red : ZT := fun args I L R S Q => ∃ (k : Nat) (w : List CuR) (l : Int), args = [zvr k] ∧ (zSh S) ∧ (zRs R) ∧ (zDy zT16 zF16 k R S) ∧ (zTd k (dTx w l) I) ∧ (0 ≤ l ∧ l ≤ 6) ∧ (cuHc w ≤ 20) ∧ (∀ j : Nat, j < 20 → I (k + 3) j = 0 ∨ I (k + 3) j = 1) ∧ ∀ (v : Int) (I' : ZI) (L' : ZI), (v = (zct (dIs w l) (cuHc w) : Nat)) → (I' (k + 4) 0 = (zct (dIs w l) (cuHc w) : Nat)) → (∀ j : Nat, j < cuHc w → dIs w l j → zRh k l (zct (dIs w l) j) (dHx w j) (dHy w j) I' L') → (∀ j : Nat, j < 20 → I' (k + 3) j = 0 ∨ I' (k + 3) j = 1) → (∀ c j : Nat, ¬ (k ≤ c ∧ c ≤ k + 21) → I' c j = I c j) → (∀ c j : Nat, ¬ (k ≤ c ∧ c ≤ k + 21) → L' c j = L c j) → Q (some (zvi (v))) I' L' R S
theorem sn_X_red : ZSnd 8 16 21 T_X_red := ZSnd.loops (zT16_21 7) (by
  rintro args I L R S Q hz ⟨k, w, l, rfl, hS, hR, hd, hTd, hl, h20, hpl, hQ⟩
  have hk5 := hd.1
  have hM20 := zct_le (dIs w l) (cuHc w)
  refine ⟨[44, 123, 175], fun nM tM lsM stM I1 L1 R1 S1 => match tM with
      | 44 => ∃ (s : Nat) (n : Nat), nM = (9, (7 - s), (21 - n)) ∧ lsM = [some (zvr (k)), none] ∧ stM = [] ∧ R1 = R ∧ S1 = S ∧ (zDL k w l s n I1 L1) ∧ (∀ j : Nat, j < 20 → I1 (k + 3) j = 0 ∨ I1 (k + 3) j = 1) ∧ (∀ c j : Nat, ¬ (k ≤ c ∧ c ≤ k + 21) → I1 c j = I c j) ∧ (∀ c j : Nat, ¬ (k ≤ c ∧ c ≤ k + 21) → L1 c j = L c j)
      | 123 => ∃ (t : Nat), nM = (8, (11 - t), 0) ∧ lsM = [some (zvr (k)), some (zvi (t))] ∧ stM = [] ∧ R1 = R ∧ S1 = S ∧ (t ≤ 10) ∧ (I1 (k + 4) 1 = (zct (dIs w l) (cuHc w) : Nat)) ∧ (∀ j : Nat, j < cuHc w → dIs w l j → zRh k l (60 + zct (dIs w l) j) (dHx w j) (dHy w j) I1 L1) ∧ (∀ j : Nat, j < 20 → I1 (k + 3) j = 0 ∨ I1 (k + 3) j = 1) ∧ (∀ c j : Nat, ¬ (k ≤ c ∧ c ≤ k + 21) → I1 c j = I c j) ∧ (∀ c j : Nat, ¬ (k ≤ c ∧ c ≤ k + 21) → L1 c j = L c j)
      | 175 => ∃ (a : Nat), nM = (7, (61 - a), 0) ∧ lsM = [some (zvr (k)), some (zvi ((60 + a)))] ∧ stM = [] ∧ R1 = R ∧ S1 = S ∧ (a ≤ zct (dIs w l) (cuHc w)) ∧ (I1 (k + 4) 1 = (zct (dIs w l) (cuHc w) : Nat)) ∧ (I1 (k + 4) 0 = a) ∧ (∀ j : Nat, j < cuHc w → dIs w l j → zRh k l (60 + zct (dIs w l) j) (dHx w j) (dHy w j) I1 L1) ∧ (∀ j : Nat, j < cuHc w → dIs w l j → zct (dIs w l) j < a → zRh k l (zct (dIs w l) j) (dHx w j) (dHy w j) I1 L1) ∧ (∀ j : Nat, j < 20 → I1 (k + 3) j = 0 ∨ I1 (k + 3) j = 1) ∧ (∀ c j : Nat, ¬ (k ≤ c ∧ c ≤ k + 21) → I1 c j = I c j) ∧ (∀ c j : Nat, ¬ (k ≤ c ∧ c ≤ k + 21) → L1 c j = L c j)
      | _ => False, rfl, ?_, ⟨?_, ?_, ?_, True.intro⟩⟩
  · refine And.intro (zDX hd 0 rfl) ⟨_, (zWi (zRb rfl)), ?_⟩
    refine And.intro (zDX hd 0 rfl) ⟨_, (zWi (zRb rfl)), ?_⟩
    refine And.intro (zDX hd 0 rfl) ⟨_, (zWi (zRb rfl)), ?_⟩
    refine And.intro (zDX hd 0 rfl) ⟨_, (zWi (zRb rfl)), ?_⟩
    refine And.intro ⟨(zDX hd 0 rfl), (Or.inl rfl)⟩ ?_
    refine And.intro (zDX hd 0 rfl) ⟨_, (zWi (zRb rfl)), ?_⟩
    refine And.intro (zDX hd 0 rfl) (zrdR (v := some (k + 1)) (zDR hd 0 rfl) ?_)
    refine And.intro ⟨(by show 40 ≤ _; omega), (zDP hd 1 rfl rfl (by omega) (by omega))⟩ ⟨_, (zWi (zRb rfl)), ?_⟩
    refine And.intro (zDX hd 0 rfl) (zrdR (v := some (k + 4)) (zDR hd 3 rfl) ?_)
    refine And.intro ⟨(by show 40 ≤ _; omega), (zDP hd 4 rfl rfl (by omega) (by omega))⟩ ⟨_, (zWi (zRb rfl)), ?_⟩
    refine ⟨(9, (7 - (0 : Nat)), (21 - (0 : Nat))), [some (zvr (k)), none], ⟨rfl, rfl⟩, 0, 0, rfl, rfl, rfl, rfl, rfl, ?_, (fun j hj => zor_e (by repeat (first | exact rfl | refine zxcj (by omega) ?_)) (hpl j hj)), (fun c j h0 => (zxu (by omega) (zxu (by omega) (zxcj (by omega) (zxcj (by omega) (zxcj (by omega) (zxcj (by omega) (zxcj (by omega) (zxcj (by omega) rfl))))))))), (fun c j h0 => rfl)⟩
    · refine ⟨⟨⟨?_, zTd_fr hTd ?_⟩, ⟨by decide, Nat.zero_le _⟩, fun _ => rfl, fun g => absurd g (by decide)⟩, ⟨?_, ?_⟩, ⟨fun g => absurd g (by decide), fun g => absurd g (by decide)⟩, ⟨?_, fun g => absurd g (by decide)⟩, ?_, fun j hj => absurd hj (Nat.not_lt_zero j)⟩
      · repeat first
        | exact zxe
        | refine zxs (by decide) ?_
        | refine zxu (by omega) ?_
      · intro c j g
        repeat first
        | rfl
        | refine zxcj (by omega) ?_
      · repeat first
        | exact zxe
        | refine zxs (by decide) ?_
        | refine zxu (by omega) ?_
      · repeat first
        | exact zxe
        | refine zxs (by decide) ?_
        | refine zxu (by omega) ?_
      · repeat first
        | exact zxe
        | refine zxs (by decide) ?_
        | refine zxu (by omega) ?_
      · repeat first
        | exact zxe
        | refine zxs (by decide) ?_
        | refine zxu (by omega) ?_
  · rintro nM lsM stM I1 L1 R1 S1 hz1 ⟨s, n, rfl, rfl, rfl, rfl, rfl, hRL, hpl1, fr, frL⟩
    obtain ⟨⟨⟨hw1, hT1⟩, ⟨hs6, hn⟩, hn0, hn6⟩, ⟨hp1, hst1⟩, -, -, h41, hh1⟩ := id hRL
    have hT10 := hT1.1
    have ht8 := dTx_8 (w := w) (l := l) h20
    have hpb : dPl w l s n ≤ (dTx w l).length := (by by_cases q : s ≤ 5; exact Nat.le_of_lt (dPl_lt q hn); (have e9 : s = 6 := (by omega); subst e9; exact Nat.le_refl _))
    refine And.intro (zDX hd 0 rfl) (zrd (v := (-1)) hw1 ?_)
    refine And.intro ⟨(zRb rfl), (zRb rfl)⟩ (zbf rfl ?_)
    refine And.intro (zDX hd 0 rfl) (zrd (v := ((dPl w l s n : Nat))) hp1 ?_)
    refine And.intro (zDX hd 0 rfl) (zrd (v := ((dTx w l).length)) hT10 ?_)
    refine And.intro ⟨(by omega), (by omega)⟩ ⟨fun h60 => ?_, fun h60 => ?_⟩
    · have t60 : s = 6 := (by by_cases q : s ≤ 5; (have z := dPl_lt (w := w) (l := l) q hn; omega); omega)
      refine And.intro (zDX hd 0 rfl) (zrd (v := (-1)) hw1 ?_)
      refine And.intro ⟨(zRb rfl), (zRb rfl)⟩ (zbf rfl ?_)
      refine And.intro (zDX hd 0 rfl) (fun v79 e79 r79 => ?_)
      have f79 : v79 = 3 := (e79.trans (hst1.trans (by rw [t60]; rfl)))
      refine And.intro ⟨r79, (zRb rfl)⟩ ⟨fun h83 => ?_, (fun h83 => False.elim (by omega))⟩
      refine And.intro (zDX hd 0 rfl) (zrd (v := (-1)) hw1 ?_)
      refine And.intro ⟨(zRb rfl), (zRb rfl)⟩ (zbt rfl ?_)
      refine And.intro (zDX hd 0 rfl) (zrdR (v := some (k + 1)) (zDR hd 0 rfl) ?_)
      refine And.intro (zDX hd 0 rfl) (zrdR (v := some (k + 1)) (zDR hd 0 rfl) ?_)
      refine And.intro (zDP hd 1 rfl rfl (by omega) (by omega)) (fun v119 e119 r119 => ?_)
      refine And.intro ⟨(by show 40 ≤ _; omega), (zDP hd 1 rfl rfl (by omega) (by omega))⟩ ⟨_, (zWi r119), ?_⟩
      refine ⟨(8, (11 - (0 : Nat)), 0), zlt6 (by omega), [some (zvr (k)), some (zvi ((0 : Nat)))], ⟨rfl, rfl, rfl⟩, 0, rfl, rfl, rfl, rfl, rfl, (by omega), (zxu (by omega) (h41.trans (by rw [hn6 t60]))), (fun j hj g => zRh_fr (hh1 j (by rw [hn6 t60]; exact hj) g) (fun c gc => zxu (by omega) rfl) (fun c gc => rfl)), (fun j hj => zor_e (by repeat (first | exact rfl | refine zxcj (by omega) ?_)) (hpl1 j hj)), (fun c j h0 => (zxu (by omega) ((fr c j (by omega)).trans rfl))), (fun c j h0 => ((frL c j (by omega)).trans rfl))⟩
    · have t60 : s ≤ 5 := (by by_cases q : s ≤ 5; exact q; (exfalso; have e9 : s = 6 := (by omega); subst e9; have z : dPl w l 6 n = (dTx w l).length := rfl; omega))
      refine And.intro (zDX hd 0 rfl) ⟨_, sn_X_rdl.up (by decide), ?_⟩
      refine ⟨_, w, l, s, n, rfl, hS, hR, hd, (by first | exact (zDL_fr hRL (fun c j h => rfl) (fun c j h => rfl)) | (clear hQ; grind [xu])), (by omega), (by omega), (by omega), ?_⟩
      intro sx64o nx64o I64o L64o p64hRL2 p64bhsn p64bbhbl p64bbbfr p64bbbbfrL
      refine ⟨(9, (7 - sx64o), (21 - nx64o)), zlt6 (by omega), [some (zvr (k)), none], ⟨rfl, rfl⟩, sx64o, nx64o, rfl, rfl, rfl, rfl, rfl, p64hRL2, (fun j hj => by rcases p64bbhbl j with z9 | z9; (rw [z9]; exact hpl1 j hj); exact Or.inr z9), (fun c j h0 => ((p64bbbfr c j (by omega)).trans ((fr c j (by omega)).trans rfl))), (fun c j h0 => ((p64bbbbfrL c j (by omega)).trans ((frL c j (by omega)).trans rfl)))⟩
  · rintro nM lsM stM I1 L1 R1 S1 hz1 ⟨t, rfl, rfl, rfl, rfl, rfl, ht, hM, hrw, hpl1, fr, frL⟩
    refine And.intro ⟨(by omega), (zRb rfl)⟩ ⟨fun h126 => ?_, fun h126 => ?_⟩
    · refine And.intro (zDX hd 0 rfl) (zrdR (v := some (k + 4)) (zDR hd 3 rfl) ?_)
      refine And.intro ⟨(by show 40 ≤ _; omega), (zDP hd 4 rfl rfl (by omega) (by omega))⟩ ⟨_, (zWi (zRb rfl)), ?_⟩
      refine ⟨(7, (61 - (0 : Nat)), 0), zlt6 (by omega), [some (zvr (k)), some (zvi ((60 + (0 : Nat))))], ⟨rfl, (congrArg (fun z => some (zvi z)) (by omega)), rfl⟩, 0, rfl, rfl, rfl, rfl, rfl, (by omega), (zxs (by decide) hM), zxe, (fun j hj g => zRh_fr (hrw j hj g) (fun c gc => zxu (by omega) rfl) (fun c gc => rfl)), (fun j hj g q => absurd q (Nat.not_lt_zero _)), (fun j hj => zor_e (by repeat (first | exact rfl | refine zxcj (by omega) ?_)) (hpl1 j hj)), (fun c j h0 => (zxu (by omega) ((fr c j (by omega)).trans rfl))), (fun c j h0 => ((frL c j (by omega)).trans rfl))⟩
    · refine And.intro (zDX hd 0 rfl) (zrdR (v := some (k + 2)) (zDR hd 1 rfl) ?_)
      refine And.intro (zDX hd 0 rfl) (zrdR (v := some (k + 2)) (zDR hd 1 rfl) ?_)
      refine And.intro (zDP hd 2 rfl rfl (by omega) (by omega)) (fun v142 e142 r142 => ?_)
      refine And.intro ⟨(by show 40 ≤ _; omega), (zDP hd 2 rfl rfl (by omega) (by omega))⟩ ⟨_, zW6i r142, ?_⟩
      refine And.intro (zDX hd 0 rfl) (zrdR (v := some (k + 3)) (zDR hd 2 rfl) ?_)
      refine And.intro (zDX hd 0 rfl) (zrdR (v := some (k + 3)) (zDR hd 2 rfl) ?_)
      refine And.intro (Or.inr (zDP hd 3 rfl rfl (by omega) (by omega))) (fun v157 e157 r157 => ?_)
      have f157 : v157 = 0 ∨ v157 = 1 := (by have z := hpl1 (10 + t) (by omega); rw [← show v157 = I1 (k + 3) (10 + t) from e157.trans (congrArg (I1 (k + 3)) (by omega))] at z; exact z)
      refine And.intro ⟨(by show 40 ≤ _; omega), Or.inr ⟨(zDP hd 3 rfl rfl (by omega) (by omega)), (by omega)⟩⟩ ?_
      refine ⟨(8, (11 - (t + 1)), 0), zlt6 (by omega), [some (zvr (k)), some (zvi ((t + 1)))], ⟨rfl, rfl, rfl⟩, (t + 1), rfl, rfl, rfl, rfl, rfl, (by omega), (zxu (by omega) hM), (fun j hj g => zRh_fr (hrw j hj g) (fun c gc => zxu (by omega) rfl) (fun c gc => zxu (by omega) rfl)), ?_, (fun c j h0 => (zxu (by omega) ((fr c j (by omega)).trans rfl))), (fun c j h0 => (zxu (by omega) ((frL c j (by omega)).trans rfl)))⟩
      · intro j hj
        by_cases q : j = t
        · exact zor_e (by rw [q]; exact zxe' (by omega)) f157
        · exact zor_e (by repeat (first | exact rfl | refine zxcj (by omega) ?_)) (hpl1 j hj)
  · rintro nM lsM stM I1 L1 R1 S1 hz1 ⟨a, rfl, rfl, rfl, rfl, rfl, ha, hM, h40, hrw, hcp, hpl1, fr, frL⟩
    refine And.intro (zDX hd 0 rfl) (zrdR (v := some (k + 4)) (zDR hd 3 rfl) ?_)
    refine And.intro (zDP hd 4 rfl rfl (by omega) (by omega)) (zrd (v := ((zct (dIs w l) (cuHc w) : Nat))) hM ?_)
    refine And.intro ⟨(by omega), (by omega)⟩ ⟨fun h185 => ?_, fun h185 => ?_⟩
    · refine And.intro (zDX hd 0 rfl) ⟨_, (zWi (zRb rfl)), ?_⟩
      refine And.intro (zDX hd 0 rfl) (zrdR (v := some (k + 4)) (zDR hd 3 rfl) ?_)
      refine And.intro (zDP hd 4 rfl rfl (by omega) (by omega)) (zrd (v := a) (zxu (by omega) h40) ?_)
      refine hQ _ _ _ (by omega) (by have e9 : a = zct (dIs w l) (cuHc w) := (by omega); exact (by repeat (first | exact h40.trans (by omega) | refine zxcj (by omega) ?_))) (fun j hj g => zRh_fr (hcp j hj g (by have z := zct_lt2 hj g; omega)) (fun c gc => (by repeat (first | exact rfl | refine zxcj (by omega) ?_))) (fun c gc => (by repeat (first | exact rfl | refine zxcj (by omega) ?_)))) (fun j hj => zor_e (by repeat (first | exact rfl | refine zxcj (by omega) ?_)) (hpl1 j hj)) (fun c j h0 => (zxcj (by omega) ((fr c j (by omega)).trans rfl))) (fun c j h0 => ((frL c j (by omega)).trans rfl))
    · have t185 : a + 1 ≤ zct (dIs w l) (cuHc w) := (by omega)
      have t185b : I1 (k + 12) (60 + a) = 0 := (by obtain ⟨j, j1, j2, j3⟩ := zct_sj (P := dIs w l) (n := cuHc w) (p := a) (by omega); have z := (hrw j j1 j2).1.2.2.2; rw [j3] at z; exact z)
      refine And.intro (zDX hd 0 rfl) (zrdR (v := some (k + 5)) (zDR hd 4 rfl) ?_)
      refine And.intro (zDP hd 5 rfl rfl (by omega) (by omega)) (fun v195 e195 r195 => ?_)
      have f195 : v195 = I1 (k + 5) (60 + a) := (e195.trans (congrArg (I1 (k + 5)) (by omega)))
      refine And.intro (zDX hd 0 rfl) (zrdR (v := some (k + 6)) (zDR hd 5 rfl) ?_)
      refine And.intro (zDP hd 6 rfl rfl (by omega) (by omega)) (fun v201 e201 r201 => ?_)
      have f201 : v201 = L1 (k + 6) (60 + a) := (e201.trans (congrArg (L1 (k + 6)) (by omega)))
      refine And.intro (zDX hd 0 rfl) (zrdR (v := some (k + 7)) (zDR hd 6 rfl) ?_)
      refine And.intro (zDP hd 7 rfl rfl (by omega) (by omega)) (fun v207 e207 r207 => ?_)
      have f207 : v207 = L1 (k + 7) (60 + a) := (e207.trans (congrArg (L1 (k + 7)) (by omega)))
      refine And.intro (zDX hd 0 rfl) (zrdR (v := some (k + 8)) (zDR hd 7 rfl) ?_)
      refine And.intro (zDP hd 8 rfl rfl (by omega) (by omega)) (fun v213 e213 r213 => ?_)
      have f213 : v213 = L1 (k + 8) (60 + a) := (e213.trans (congrArg (L1 (k + 8)) (by omega)))
      refine And.intro (zDX hd 0 rfl) (zrdR (v := some (k + 9)) (zDR hd 8 rfl) ?_)
      refine And.intro (zDP hd 9 rfl rfl (by omega) (by omega)) (fun v219 e219 r219 => ?_)
      have f219 : v219 = L1 (k + 9) (60 + a) := (e219.trans (congrArg (L1 (k + 9)) (by omega)))
      refine And.intro (zDX hd 0 rfl) (zrdR (v := some (k + 10)) (zDR hd 9 rfl) ?_)
      refine And.intro (zDP hd 10 rfl rfl (by omega) (by omega)) (fun v225 e225 r225 => ?_)
      have f225 : v225 = I1 (k + 10) (60 + a) := (e225.trans (congrArg (I1 (k + 10)) (by omega)))
      refine And.intro (zDX hd 0 rfl) (zrdR (v := some (k + 11)) (zDR hd 10 rfl) ?_)
      refine And.intro (zDP hd 11 rfl rfl (by omega) (by omega)) (fun v231 e231 r231 => ?_)
      have f231 : v231 = I1 (k + 11) (60 + a) := (e231.trans (congrArg (I1 (k + 11)) (by omega)))
      refine And.intro (zDX hd 0 rfl) (zrdR (v := some (k + 12)) (zDR hd 11 rfl) ?_)
      refine And.intro (Or.inr (zDP hd 12 rfl rfl (by omega) (by omega))) (fun v237 e237 r237 => ?_)
      have f237 : v237 = 0 := (e237.trans ((congrArg (I1 (k + 12)) (by omega)).trans t185b))
      refine And.intro (zDX hd 0 rfl) (Exists.intro _ (And.intro (zinl_ok (zT16_0 6)) (And.intro rfl ?_)))
      refine And.intro (zDX hd 0 rfl) (zrdR (v := some (k + 4)) (zDR hd 3 rfl) ?_)
      refine And.intro (zDP hd 4 rfl rfl (by omega) (by omega)) (zrd (v := a) h40 ?_)
      refine And.intro (zDX hd 0 rfl) (zrdR (v := some (k + 5)) (zDR hd 4 rfl) ?_)
      refine And.intro ⟨(by show 40 ≤ _; omega), (zDP hd 5 rfl rfl (by omega) (by omega))⟩ ⟨_, (zWi r195), ?_⟩
      refine And.intro (zDX hd 0 rfl) (zrdR (v := some (k + 6)) (zDR hd 5 rfl) ?_)
      refine And.intro ⟨(by show 40 ≤ _; omega), (zDP hd 6 rfl rfl (by omega) (by omega))⟩ ⟨_, zW6i r201, ?_⟩
      refine And.intro (zDX hd 0 rfl) (zrdR (v := some (k + 7)) (zDR hd 6 rfl) ?_)
      refine And.intro ⟨(by show 40 ≤ _; omega), (zDP hd 7 rfl rfl (by omega) (by omega))⟩ ⟨_, zW6i r207, ?_⟩
      refine And.intro (zDX hd 0 rfl) (zrdR (v := some (k + 8)) (zDR hd 7 rfl) ?_)
      refine And.intro ⟨(by show 40 ≤ _; omega), (zDP hd 8 rfl rfl (by omega) (by omega))⟩ ⟨_, zW6i r213, ?_⟩
      refine And.intro (zDX hd 0 rfl) (zrdR (v := some (k + 9)) (zDR hd 8 rfl) ?_)
      refine And.intro ⟨(by show 40 ≤ _; omega), (zDP hd 9 rfl rfl (by omega) (by omega))⟩ ⟨_, zW6i r219, ?_⟩
      refine And.intro (zDX hd 0 rfl) (zrdR (v := some (k + 10)) (zDR hd 9 rfl) ?_)
      refine And.intro ⟨(by show 40 ≤ _; omega), (zDP hd 10 rfl rfl (by omega) (by omega))⟩ ⟨_, (zWi r225), ?_⟩
      refine And.intro (zDX hd 0 rfl) (zrdR (v := some (k + 11)) (zDR hd 10 rfl) ?_)
      refine And.intro ⟨(by show 40 ≤ _; omega), (zDP hd 11 rfl rfl (by omega) (by omega))⟩ ⟨_, (zWi r231), ?_⟩
      refine And.intro (zDX hd 0 rfl) (zrdR (v := some (k + 12)) (zDR hd 11 rfl) ?_)
      refine And.intro ⟨(by show 40 ≤ _; omega), Or.inr ⟨(zDP hd 12 rfl rfl (by omega) (by omega)), (by omega)⟩⟩ ?_
      refine And.intro (zDX hd 0 rfl) (zrdR (v := some (k + 4)) (zDR hd 3 rfl) ?_)
      refine And.intro (zDP hd 4 rfl rfl (by omega) (by omega)) (zrd (v := a) (zxu (by omega) (zxu (by omega) (zxu (by omega) (zxu (by omega) h40)))) ?_)
      refine And.intro ⟨(by show 40 ≤ _; omega), (zDP hd 4 rfl rfl (by omega) (by omega))⟩ ⟨_, (zWi (by omega)), ?_⟩
      refine And.intro (zDX hd 0 rfl) (zrdR (v := some (k + 4)) (zDR hd 3 rfl) ?_)
      refine And.intro (zDP hd 4 rfl rfl (by omega) (by omega)) (zrd (v := (a + 1)) zxe ?_)
      refine ⟨(7, (61 - (a + 1)), 0), zlt6 (by omega), [some (zvr (k)), some (zvi ((60 + (a + 1))))], ⟨rfl, (congrArg (fun z => some (zvi z)) (by omega)), rfl⟩, (a + 1), rfl, rfl, rfl, rfl, rfl, (by omega), (by repeat (first | exact hM | refine zxcj (by omega) ?_)), (by first | exact zxe.trans (by omega) | exact zxe), (fun j hj g => zRh_fr (hrw j hj g) (fun c gc => (by repeat (first | exact rfl | refine zxcj (by omega) ?_))) (fun c gc => (by repeat (first | exact rfl | refine zxcj (by omega) ?_)))), ?_, (fun j hj => zor_e (by repeat (first | exact rfl | refine zxcj (by omega) ?_)) (hpl1 j hj)), (fun c j h0 => (zxu (by omega) (zxu (by omega) (zxu (by omega) (zxu (by omega) (zxu (by omega) ((fr c j (by omega)).trans rfl))))))), (fun c j h0 => (zxu (by omega) (zxu (by omega) (zxu (by omega) (zxu (by omega) ((frL c j (by omega)).trans rfl))))))⟩
      · intro j hj g hlt
        by_cases q : zct (dIs w l) j = a
        · obtain ⟨⟨y1, y2, y3, y4⟩, ⟨y5, y6⟩, y7, y8⟩ := hrw j hj g
          rw [q] at y1 y2 y3 y4 y5 y6 y7 y8 ⊢
          exact ⟨⟨(by repeat (first | exact zxe | exact zxe' (by omega) | exact (zxe' (by omega)).trans (by omega) | refine zxu (by omega) ?_ | refine zxs (by omega) ?_)), (by repeat (first | exact zxe | exact zxe' (by omega) | exact (zxe' (by omega)).trans (by omega) | refine zxu (by omega) ?_ | refine zxs (by omega) ?_)), (by repeat (first | exact zxe | exact zxe' (by omega) | exact (zxe' (by omega)).trans (by omega) | refine zxu (by omega) ?_ | refine zxs (by omega) ?_)), (by repeat (first | exact zxe | exact zxe' (by omega) | exact (zxe' (by omega)).trans (by omega) | refine zxu (by omega) ?_ | refine zxs (by omega) ?_))⟩, ⟨(by repeat (first | exact zxe | exact zxe' (by omega) | exact (zxe' (by omega)).trans (by omega) | refine zxu (by omega) ?_ | refine zxs (by omega) ?_)), (by repeat (first | exact zxe | exact zxe' (by omega) | exact (zxe' (by omega)).trans (by omega) | refine zxu (by omega) ?_ | refine zxs (by omega) ?_))⟩, (by repeat (first | exact zxe | exact zxe' (by omega) | exact (zxe' (by omega)).trans (by omega) | refine zxu (by omega) ?_ | refine zxs (by omega) ?_)), (by repeat (first | exact zxe | exact zxe' (by omega) | exact (zxe' (by omega)).trans (by omega) | refine zxu (by omega) ?_ | refine zxs (by omega) ?_))⟩
        · exact zRh_fr (hcp j hj g (by omega)) (fun c gc => (by repeat (first | exact rfl | refine zxcj (by omega) ?_))) (fun c gc => (by repeat (first | exact rfl | refine zxcj (by omega) ?_))))
