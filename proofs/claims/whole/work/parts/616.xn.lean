/-! xn -/
def T_W_fnn : ZT := fun args I L R S Q => ∃ (k : Nat) (w : List CuR) (pc : Nat), args = [zvr k] ∧ (zSh S) ∧ (zRs R) ∧ (zDy zT15 zF15 k R S) ∧ (zPc k w pc I L) ∧ (cuG w) ∧ (w.length ≤ 60) ∧ (cuPq w pc) ∧ ∀ (v : Int) (I' : ZI), (v = cuNc w) → (0 ≤ v ∧ v ≤ 60) → (∀ p : Nat, p < cuNp w → I' (k + 12) p = cuNm w p) → (∀ c j : Nat, ¬ c = k + 11 → ¬ c = k + 12 → I' c j = I c j) → Q (some (zvi (v))) I' L R S
theorem sn_W_fnn : ZSnd 4 15 5 T_W_fnn := ZSnd.loops (zT15_5 3) (by
  rintro args I L R S Q hz ⟨k, w, pc, rfl, hS, hR, hd, hPc, hG, hcl, hpq, hQ⟩
  have hk5 := hd.1
  obtain ⟨hp0, hpi, hpn⟩ := id hPc
  obtain ⟨n, hn⟩ : ∃ n, n = cuNp w := ⟨_, rfl⟩
  have hn60 : n ≤ 60 := by have z := cuNp_l (w := w); omega
  rw [← hn] at hp0 hpi
  have hpcn : pc ≤ n ∧ pc ≤ 40 := ⟨by have z := (cuPq_p hpq).1; omega, hpq.1⟩
  refine ⟨[8], fun nM tM lsM stM I1 L1 R1 S1 => match tM with
      | 8 => ∃ (m : Nat), nM = ((61 - m), 0, 0) ∧ lsM = [some (zvr (k)), some (zvi (zct (cuIr (cuEE w)) m)), some (zvi (m))] ∧ stM = [] ∧ L1 = L ∧ R1 = R ∧ S1 = S ∧ (m ≤ n) ∧ (zLb (cuNp w) (cuEE w) (I1 (k + 11))) ∧ (∀ p : Nat, p < m → I1 (k + 12) p = cuNm w p) ∧ (∀ c j : Nat, ¬ c = k + 11 → ¬ c = k + 12 → I1 c j = I c j)
      | _ => False, rfl, ?_, ⟨?_, True.intro⟩⟩
  · refine And.intro (zDX hd 0 rfl) ⟨_, sn_W_lab.up (by decide), ?_⟩
    refine ⟨_, w, pc, rfl, hS, hR, hd, (by first | exact (zPc_fr hPc (fun c j h => rfl) (fun c j h => rfl)) | (clear hQ; grind [xu])), (by first | exact hG | (clear hQ; grind [xu])), (by omega), (by first | exact hpq | (clear hQ; grind [xu])), ?_⟩
    intro I1o p1hL p1bfr
    refine ⟨((61 - (0 : Nat)), 0, 0), [some (zvr (k)), some (zvi (zct (cuIr (cuEE w)) (0 : Nat))), some (zvi ((0 : Nat)))], ⟨rfl, (congrArg (fun z => some (zvi z)) rfl), rfl, rfl⟩, 0, rfl, rfl, rfl, rfl, rfl, rfl, (by omega), p1hL, (fun p h => absurd h (Nat.not_lt_zero p)), (fun c j h0 h1 => ((p1bfr c j h0).trans rfl))⟩
  · rintro nM lsM stM I1 L1 R1 S1 hz1 ⟨m, rfl, rfl, rfl, rfl, rfl, rfl, hm, hL1, ho, fr⟩
    have hzc := zct_le (cuIr (cuEE w)) m
    refine And.intro (zDX hd 0 rfl) (zrd (v := n) ((fr k 2 (by omega) (by omega)).trans hp0) ?_)
    refine And.intro ⟨(by omega), (by omega)⟩ ⟨fun h13 => ?_, fun h13 => ?_⟩
    · refine hQ _ _ (by have e : m = cuNp w := (by omega); rw [e]; rfl) (by omega) (fun p hp => ho p (by omega)) (fun c j h0 h1 => ((fr c j h0 h1).trans rfl))
    · refine And.intro (zDX hd 0 rfl) (zrdR (v := some (k + 11)) (zDR hd 10 rfl) ?_)
      refine And.intro (zDP hd 11 rfl rfl (by omega) (by omega)) (fun v21 e21 r21 => ?_)
      have f21 : v21 = cuRo (cuEE w) m := (e21.trans ((congrArg (I1 (k + 11)) (by omega)).trans (zLb_k2 hL1 (m := m) (by omega)).1))
      have f21b : 0 ≤ v21 ∧ v21 ≤ m := (by have z := (zLb_k2 hL1 (m := m) (by omega)).2.1; omega)
      refine And.intro ⟨r21, (zRb rfl)⟩ ⟨fun h23 => ?_, (fun h23 => False.elim (by omega))⟩
      refine And.intro (zDX hd 0 rfl) (zrdR (v := some (k + 11)) (zDR hd 10 rfl) ?_)
      refine And.intro (zDP hd 11 rfl rfl (by omega) (by omega)) (fun v41 e41 r41 => ?_)
      have f41 : v41 = cuRo (cuEE w) m := (e41.trans ((congrArg (I1 (k + 11)) (by omega)).trans (zLb_k2 hL1 (m := m) (by omega)).1))
      have f41b : 0 ≤ v41 ∧ v41 ≤ m := (by have z := (zLb_k2 hL1 (m := m) (by omega)).2.1; omega)
      refine And.intro ⟨r41, (by omega)⟩ ⟨fun h43 => ?_, fun h43 => ?_⟩
      · refine And.intro (zDX hd 0 rfl) (zrdR (v := some (k + 12)) (zDR hd 11 rfl) ?_)
        refine And.intro (zDX hd 0 rfl) (zrdR (v := some (k + 12)) (zDR hd 11 rfl) ?_)
        refine And.intro (zDX hd 0 rfl) (zrdR (v := some (k + 11)) (zDR hd 10 rfl) ?_)
        refine And.intro (zDP hd 11 rfl rfl (by omega) (by omega)) (fun v73 e73 r73 => ?_)
        have f73 : v73 = cuRo (cuEE w) m := (e73.trans ((congrArg (I1 (k + 11)) (by omega)).trans (zLb_k2 hL1 (m := m) (by omega)).1))
        have f73b : 0 ≤ v73 ∧ v73 ≤ m := (by have z := (zLb_k2 hL1 (m := m) (by omega)).2.1; omega)
        refine And.intro (zDP hd 12 rfl rfl (by omega) (by omega)) (fun v74 e74 r74 => ?_)
        have f74 : v74 = cuNm w m := (e74.trans ((congrArg (I1 (k + 12)) (show _ = cuRo (cuEE w) m by omega)).trans ((ho (cuRo (cuEE w) m) (by omega)).trans (congrArg (fun q : Nat => (q : Int)) (cuNo_o (zLb_k2 hL1 (m := m) (by omega)).2.2)))))
        refine And.intro ⟨(by show 40 ≤ _; omega), (zDP hd 12 rfl rfl (by omega) (by omega))⟩ ⟨_, (zWi r74), ?_⟩
        refine ⟨((61 - (m + 1)), 0, 0), zlt6 (by omega), [some (zvr (k)), some (zvi (zct (cuIr (cuEE w)) (m + 1))), some (zvi ((m + 1)))], ⟨rfl, (congrArg (fun z => some (zvi z)) (by first | (rw [zct_t (show cuIr (cuEE w) m by unfold cuIr; omega)]; rfl) | (rw [zct_f (show ¬ cuIr (cuEE w) m by unfold cuIr; omega)]))), rfl, rfl⟩, (m + 1), rfl, rfl, rfl, rfl, rfl, rfl, (by omega), (zLb_c hL1 (fun x y h => ⟨by have := h.1; have := h.2.1; omega, h.2.1⟩) (fun p hp => zxu (by omega) rfl)), ?_, (fun c j h0 h1 => (zxu h1 ((fr c j h0 h1).trans rfl)))⟩
        · intro p hp
          by_cases e : p = m
          · subst e
            first
            | (refine (zxe' (by omega)).trans ?_
               show _ = ((cuNo (cuEE w) p : Nat) : Int)
               rw [cuNo_r (show cuIr (cuEE w) p by unfold cuIr; omega)])
            | exact (zxe' (by omega)).trans (by omega)
          · exact zxs (by omega) (ho p (by omega))
      · refine And.intro (zDX hd 0 rfl) (zrdR (v := some (k + 12)) (zDR hd 11 rfl) ?_)
        refine And.intro ⟨(by show 40 ≤ _; omega), (zDP hd 12 rfl rfl (by omega) (by omega))⟩ ⟨_, (zWi (by omega)), ?_⟩
        refine ⟨((61 - (m + 1)), 0, 0), zlt6 (by omega), [some (zvr (k)), some (zvi (zct (cuIr (cuEE w)) (m + 1))), some (zvi ((m + 1)))], ⟨rfl, (congrArg (fun z => some (zvi z)) (by first | (rw [zct_t (show cuIr (cuEE w) m by unfold cuIr; omega)]; rfl) | (rw [zct_f (show ¬ cuIr (cuEE w) m by unfold cuIr; omega)]))), rfl, rfl⟩, (m + 1), rfl, rfl, rfl, rfl, rfl, rfl, (by omega), (zLb_c hL1 (fun x y h => ⟨by have := h.1; have := h.2.1; omega, h.2.1⟩) (fun p hp => zxu (by omega) rfl)), ?_, (fun c j h0 h1 => (zxu h1 ((fr c j h0 h1).trans rfl)))⟩
        · intro p hp
          by_cases e : p = m
          · subst e
            first
            | (refine (zxe' (by omega)).trans ?_
               show _ = ((cuNo (cuEE w) p : Nat) : Int)
               rw [cuNo_r (show cuIr (cuEE w) p by unfold cuIr; omega)])
            | exact (zxe' (by omega)).trans (by omega)
          · exact zxs (by omega) (ho p (by omega)))
def T_W_pln : ZT := fun args I L R S Q => ∃ (k : Nat) (w : List CuR) (pc : Nat) (a : Int) (x : Nat), args = [zvr k, zvi a] ∧ (zSh S) ∧ (zRs R) ∧ (zDy zT15 zF15 k R S) ∧ (zPc k w pc I L) ∧ (cuG w) ∧ (w.length ≤ 60) ∧ (cuPq w pc) ∧ (a = x ∧ x < cuNp w) ∧ ∀ (v : Int), (v = cuPla w pc x) → (-1 ≤ v ∧ v ≤ 11) → Q (some (zvi (v))) I L R S
theorem sn_W_pln : ZSnd 1 15 21 T_W_pln := ZSnd.of (zT15_21 0) (by
  rintro args I L R S Q hz ⟨k, w, pc, a, x, rfl, hS, hR, hd, hPc, hG, hcl, hpq, ha, hQ⟩
  have hk5 := hd.1
  obtain ⟨hp0, hpi, hpn⟩ := id hPc
  obtain ⟨n, hn⟩ : ∃ n, n = cuNp w := ⟨_, rfl⟩
  have hn60 : n ≤ 60 := by have z := cuNp_l (w := w); omega
  rw [← hn] at hp0 hpi
  have hpcn : pc ≤ n ∧ pc ≤ 40 := ⟨by have z := (cuPq_p hpq).1; omega, hpq.1⟩
  refine And.intro rfl ?_
  refine And.intro (zDX hd 0 rfl) (zrdR (v := some (k + 9)) (zDR hd 8 rfl) ?_)
  refine And.intro (zDP hd 9 rfl rfl (by omega) (by omega)) (fun v5 e5 r5 => ?_)
  have f5 : v5 = cuPi pc x := (by refine Eq.trans e5 ?_; repeat (first | exact ((congrArg (I (k + 9)) (show _ = x by omega)).trans (hpi x (by omega)).1.2.2.2) | refine zxu (by omega) ?_))
  have f5b : -1 ≤ v5 ∧ v5 ≤ 39 := (by have z := cuPi_c pc x; omega)
  have f5bb : (x < pc ∧ v5 = x) ∨ (pc ≤ x ∧ v5 = -1) := (by have z := cuPi_c pc x; rcases z with z | z; exact Or.inl ⟨z.1, by omega⟩; exact Or.inr ⟨z.1, by omega⟩)
  refine And.intro ⟨r5, (zRb rfl)⟩ ⟨fun h7 => ?_, fun h7 => ?_⟩
  · refine hQ _ (by have z := cuPla_c w pc x; omega) (by omega)
  · refine And.intro (zDX hd 0 rfl) (zrdR (v := some (k + 1)) (zDR hd 0 rfl) ?_)
    refine And.intro (Or.inr (zDP hd 1 rfl rfl (by omega) (by omega))) (fun v15 e15 r15 => ?_)
    have f15 : v15 = 1 := (by refine Eq.trans e15 ?_; repeat (first | exact ((congrArg (I (k + 1)) (show _ = x by omega)).trans (hpi x (by omega)).1.1) | refine zxu (by omega) ?_))
    refine And.intro r15 ⟨fun h16 => ?_, (fun h16 => False.elim (by omega))⟩
    refine And.intro (zDX hd 0 rfl) (zrdR (v := some (k + 10)) (zDR hd 9 rfl) ?_)
    refine And.intro (zDX hd 0 rfl) (zrdR (v := some (k + 9)) (zDR hd 8 rfl) ?_)
    refine And.intro (zDP hd 9 rfl rfl (by omega) (by omega)) (fun v32 e32 r32 => ?_)
    have f32 : v32 = cuPi pc x := (by refine Eq.trans e32 ?_; repeat (first | exact ((congrArg (I (k + 9)) (show _ = x by omega)).trans (hpi x (by omega)).1.2.2.2) | refine zxu (by omega) ?_))
    have f32b : -1 ≤ v32 ∧ v32 ≤ 39 := (by have z := cuPi_c pc x; omega)
    have f32bb : (x < pc ∧ v32 = x) ∨ (pc ≤ x ∧ v32 = -1) := (by have z := cuPi_c pc x; rcases z with z | z; exact Or.inl ⟨z.1, by omega⟩; exact Or.inr ⟨z.1, by omega⟩)
    refine And.intro (zDP hd 10 rfl rfl (by omega) (by omega)) (fun v33 e33 r33 => ?_)
    have f33 : v33 = cuNn w pc x := (e33.trans ((congrArg (I (k + 10)) (show _ = x by omega)).trans (hpn x (by omega))))
    have f33b : (x < pc ∧ v33 = cg w x 1) ∨ (pc ≤ x ∧ v33 = -1) := (by have z := cuNn_c w pc x; rcases z with z | z; exact Or.inl ⟨z.1, by omega⟩; exact Or.inr ⟨z.1, by omega⟩)
    have f33bb : -1 ≤ v33 ∧ v33 ≤ 11 := (by by_cases z : x < pc; (have y := (hG x (by have := hpq.2.1; omega)).2.1; omega); omega)
    refine hQ _ (by have z := cuPla_c w pc x; omega) (by omega))
