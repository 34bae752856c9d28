/-! wa -/
def T_O_emt : ZT := fun args I L R S Q => ∃ (k : Nat) (w : List Int) (u : Int), args = [zvr k, zvi u] ∧ (zSh S) ∧ (zRs R) ∧ (zDy zT2 zF2 k R S) ∧ (43 ≤ k ∧ k ≤ 52) ∧ (zPG k w I) ∧ (0 ≤ u ∧ u ≤ 65535) ∧ ∀ (I' : ZI), (zPG k (w ++ [u]) I') → (∀ c j : Nat, ¬ (c = k ∧ j = 12) → ¬ c = k + 8 → I' c j = I c j) → Q none I' L R S
theorem sn_O_emt : ZSnd 1 2 3 T_O_emt := ZSnd.of (zT2_3 0) (by
  rintro args I L R S Q hz ⟨k, w, u, rfl, hS, hR, hD, hk, hP, hu, hQ⟩
  obtain ⟨m, hm⟩ : ∃ m : Nat, m = min w.length 26000 := ⟨_, rfl⟩
  have q1 : I k 12 = m := by rw [hm]; exact hP.1
  refine And.intro rfl ?_
  refine And.intro (zDX hD 0 rfl) (zrd (v := m) q1 ?_)
  refine And.intro ⟨(by omega), (zRb rfl)⟩ ⟨fun h7 => ?_, fun h7 => ?_⟩
  · refine hQ _ ?_ (fun c j h0 h1 => rfl)
    · first
      | exact zPG_e hP (by omega) (zxe.trans (by omega)) (zxu (by omega) (zxe' (by omega))) (fun j hj => zxu (by omega) (zxs (by omega) rfl))
      | exact zPG_n hP (by omega)
  · refine And.intro (zDX hD 0 rfl) (zrdR (v := some (k + 8)) (zDR hD 7 rfl) ?_)
    refine And.intro (zDX hD 0 rfl) (zrd (v := m) q1 ?_)
    refine And.intro ⟨(by show 40 ≤ _; omega), (zDP hD 8 rfl rfl (by omega) (by omega)), (by omega), (by omega)⟩ ?_
    refine And.intro (zDX hD 0 rfl) (zrd (v := m) (zxu (by omega) q1) ?_)
    refine And.intro (zDX hD 0 rfl) ⟨_, (zWi (by omega)), ?_⟩
    refine hQ _ ?_ (fun c j h0 h1 => (zxcj h0 (zxu h1 rfl)))
    · first
      | exact zPG_e hP (by omega) (zxe.trans (by omega)) (zxu (by omega) (zxe' (by omega))) (fun j hj => zxu (by omega) (zxs (by omega) rfl))
      | exact zPG_n hP (by omega))
def T_O_tms : ZT := fun args I L R S Q => ∃ (k : Nat) (w : List Int) (u : Int) (t : Int) (t_ : Nat), args = [zvr k, zvi u, zvi t] ∧ (zSh S) ∧ (zRs R) ∧ (zDy zT2 zF2 k R S) ∧ (43 ≤ k ∧ k ≤ 52) ∧ (zPG k w I) ∧ (0 ≤ u ∧ u ≤ 65535) ∧ (t = t_ ∧ t_ ≤ 1000) ∧ ∀ (I' : ZI), (zPG k (w ++ wTm u t_) I') → (∀ c j : Nat, ¬ (c = k ∧ j = 12) → ¬ c = k + 8 → I' c j = I c j) → Q none I' L R S
theorem sn_O_tms : ZSnd 2 2 9 T_O_tms := ZSnd.loops (zT2_9 1) (by
  rintro args I L R S Q hz ⟨k, w, u, t, t_, rfl, hS, hR, hD, hk, hP, hu, ht, hQ⟩
  refine ⟨[2], fun nM tM lsM stM I1 L1 R1 S1 => match tM with
      | 2 => ∃ (i : Nat), nM = ((2000 - i), 0, 0) ∧ lsM = [some (zvr (k)), some (zvi (u)), some (zvi (t_)), some (zvi (i))] ∧ stM = [] ∧ L1 = L ∧ R1 = R ∧ S1 = S ∧ (i ≤ t_) ∧ (zPG k (w ++ wTm u i) I1) ∧ (∀ c j : Nat, ¬ (c = k ∧ j = 12) → ¬ c = k + 8 → I1 c j = I c j)
      | _ => False, rfl, ?_, ⟨?_, True.intro⟩⟩
  · refine ⟨((2000 - (0 : Nat)), 0, 0), [some (zvr (k)), some (zvi (u)), some (zvi (t_)), some (zvi ((0 : Nat)))], ⟨rfl, rfl, (congrArg (fun z => some (zvi z)) (by omega)), rfl, rfl⟩, 0, rfl, rfl, rfl, rfl, rfl, rfl, (by omega), (by show zPG k (w ++ []) I; rw [List.append_nil]; exact hP), (fun c j h0 h1 => rfl)⟩
  · rintro nM lsM stM I1 L1 R1 S1 hz1 ⟨i, rfl, rfl, rfl, rfl, rfl, rfl, hi, hP1, fr⟩
    refine And.intro ⟨(by omega), (by omega)⟩ ⟨fun h4 => ?_, fun h4 => ?_⟩
    · refine hQ _ (by have e : i = t_ := (by omega); rw [← e]; exact hP1) (fun c j h0 h1 => ((fr c j h0 h1).trans rfl))
    · refine And.intro (zDX hD 0 rfl) ⟨_, sn_O_emt.up (by decide), ?_⟩
      refine ⟨k, (w ++ wTm u i), (u : Int), rfl, hS, hR, hD, (by omega), hP1, (by omega), ?_⟩
      intro I9o p9hP2 p9bfr
      refine ⟨((2000 - (i + 1)), 0, 0), zlt6 (by omega), [some (zvr (k)), some (zvi (u)), some (zvi (t_)), some (zvi ((i + 1)))], ⟨rfl, rfl, rfl, rfl, rfl⟩, (i + 1), rfl, rfl, rfl, rfl, rfl, rfl, (by omega), (by show zPG k (w ++ (wTm u i ++ [u])) _; rw [← List.append_assoc]; exact p9hP2), (fun c j h0 h1 => ((p9bfr c j h0 h1).trans ((fr c j h0 h1).trans rfl)))⟩)
def T_O_wrw : ZT := fun args I L R S Q => ∃ (k : Nat) (w : List Int) (a : Nat) (x : Nat), args = [zvr k, zvr x] ∧ (zSh S) ∧ (zRs R) ∧ (zDy zT2 zF2 k R S) ∧ (43 ≤ k ∧ k ≤ 52) ∧ (zPG k w I) ∧ (x = 10 + a ∧ a ≤ 8) ∧ ∀ (I' : ZI), (zPG k (w ++ wWd a (tsb a).length) I') → (∀ c j : Nat, ¬ (c = k ∧ j = 12) → ¬ c = k + 8 → I' c j = I c j) → Q none I' L R S
theorem sn_O_wrw : ZSnd 2 2 11 T_O_wrw := ZSnd.loops (zT2_11 1) (by
  rintro args I L R S Q hz ⟨k, w, a, x, rfl, hS, hR, hD, hk, hP, hx, hQ⟩
  have hx2 : x - 10 = a := by omega
  have hxl : ((tsb (x - 10)).length : Int) = ((tsb a).length : Int) := by rw [hx2]
  have hl6 := (tWd_l a (by omega)).2
  refine ⟨[2], fun nM tM lsM stM I1 L1 R1 S1 => match tM with
      | 2 => ∃ (i : Nat), nM = ((20 - i), 0, 0) ∧ lsM = [some (zvr (k)), some (zvr (x)), some (zvi (i))] ∧ stM = [] ∧ L1 = L ∧ R1 = R ∧ S1 = S ∧ (i ≤ (tsb a).length) ∧ (i ≤ 6) ∧ (zPG k (w ++ wWd a i) I1) ∧ (∀ c j : Nat, ¬ (c = k ∧ j = 12) → ¬ c = k + 8 → I1 c j = I c j)
      | _ => False, rfl, ?_, ⟨?_, True.intro⟩⟩
  · refine ⟨((20 - (0 : Nat)), 0, 0), [some (zvr (k)), some (zvr (x)), some (zvi ((0 : Nat)))], ⟨rfl, rfl, rfl, rfl⟩, 0, rfl, rfl, rfl, rfl, rfl, rfl, (by clear hQ; grind [xu]), (by omega), (by show zPG k (w ++ []) I; rw [List.append_nil]; exact hP), (fun c j h0 h1 => rfl)⟩
  · rintro nM lsM stM I1 L1 R1 S1 hz1 ⟨i, rfl, rfl, rfl, rfl, rfl, rfl, hi, hi6, hP1, fr⟩
    have hxc : (((tsb (x - 10)).getD (i : Int).toNat 0 : Nat) : Int) = tWd a i := by rw [hx2]; rfl
    have wb := fun h => tWd_b a (by omega) i h
    refine And.intro ⟨by omega, by omega⟩ ?_
    have c4 := tsb_l (x - 10)
    refine And.intro ⟨(by omega), (by omega)⟩ ⟨fun h7 => ?_, fun h7 => ?_⟩
    · refine hQ _ (by have e : i = (tsb a).length := (by omega); rw [← e]; exact hP1) (fun c j h0 h1 => ((fr c j h0 h1).trans rfl))
    · refine And.intro ⟨⟨by omega, by omega⟩, by omega, by omega⟩ ?_
      have c13 := tsb_b (x - 10) (i : Int).toNat
      refine And.intro (zDX hD 0 rfl) ⟨_, sn_O_emt.up (by decide), ?_⟩
      refine ⟨k, (w ++ wWd a i), ((((tsb (x - 10)).getD (i : Int).toNat 0 : Nat) : Int) : Int), rfl, hS, hR, hD, (by omega), hP1, (by have z := wb (by omega); rw [Nat.zero_add] at z; omega), ?_⟩
      intro I16o p16hP2 p16bfr
      refine ⟨((20 - (i + 1)), 0, 0), zlt6 (by omega), [some (zvr (k)), some (zvr (x)), some (zvi ((i + 1)))], ⟨rfl, rfl, rfl, rfl⟩, (i + 1), rfl, rfl, rfl, rfl, rfl, rfl, (by first | exact hi | (clear hQ; grind [xu])), (by omega), (by show zPG k (w ++ (wWd a i ++ [tWd a i])) _; rw [← List.append_assoc, ← hxc]; exact p16hP2), (fun c j h0 h1 => ((p16bfr c j h0 h1).trans ((fr c j h0 h1).trans rfl)))⟩)
def T_O_etx : ZT := fun args I L R S Q => ∃ (k : Nat) (w : List Int) (O : OoS) (j : Int) (j_ : Nat) (w0 : Int) (w_ : Nat), args = [zvr k, zvi j, zvi w0] ∧ (zSh S) ∧ (zRs R) ∧ (zDy zT2 zF2 k R S) ∧ (43 ≤ k ∧ k ≤ 52) ∧ (zPG k w I) ∧ (zOB k O I L) ∧ (oGd O) ∧ (j = j_ ∧ j_ < ocn O) ∧ (w0 = w_ ∧ w_ < 2) ∧ ∀ (I' : ZI), (zPG k (w ++ wRw (otc O j_ w_) (otl O j_ w_)) I') → (∀ c j : Nat, ¬ (c = k ∧ j = 12) → ¬ c = k + 8 → I' c j = I c j) → Q none I' L R S
theorem sn_O_etx : ZSnd 3 2 8 T_O_etx := ZSnd.loops (zT2_8 2) (by
  rintro args I L R S Q hz ⟨k, w, O, j, j_, w0, w_, rfl, hS, hR, hD, hk, hP, hO, hG, hj, hw, hQ⟩
  obtain ⟨g1, g2, g3, g4, g5⟩ := id hG
  have l5 := (g4 j_ w_ (by omega) (by omega)).1
  refine ⟨[2], fun nM tM lsM stM I1 L1 R1 S1 => match tM with
      | 2 => ∃ (i : Nat), nM = ((5000 - i), 0, 0) ∧ lsM = [some (zvr (k)), some (zvi (j_)), some (zvi (w_)), some (zvi (i))] ∧ stM = [] ∧ L1 = L ∧ R1 = R ∧ S1 = S ∧ (i ≤ otl O j_ w_) ∧ (zPG k (w ++ wRw (otc O j_ w_) i) I1) ∧ (∀ c j : Nat, ¬ (c = k ∧ j = 12) → ¬ c = k + 8 → I1 c j = I c j)
      | _ => False, rfl, ?_, ⟨?_, True.intro⟩⟩
  · refine ⟨((5000 - (0 : Nat)), 0, 0), [some (zvr (k)), some (zvi (j_)), some (zvi (w_)), some (zvi ((0 : Nat)))], ⟨rfl, (congrArg (fun z => some (zvi z)) (by omega)), (congrArg (fun z => some (zvi z)) (by omega)), rfl, rfl⟩, 0, rfl, rfl, rfl, rfl, rfl, rfl, (by omega), (by show zPG k (w ++ []) I; rw [List.append_nil]; exact hP), (fun c j h0 h1 => rfl)⟩
  · rintro nM lsM stM I1 L1 R1 S1 hz1 ⟨i, rfl, rfl, rfl, rfl, rfl, rfl, hi, hP1, fr⟩
    refine And.intro (zDX hD 0 rfl) ⟨_, sn_O_tl.up (by decide), ?_⟩
    refine ⟨k, O, (j_ : Int), j_, (w_ : Int), w_, rfl, hS, hR, hD, (by first | exact (zOB_fr hO (fun c j h => ((fr c j (by omega) (by omega)).trans rfl)) (fun c j h => rfl)) | (clear hQ; grind [xu])), (by first | exact hG | (clear hQ; grind [xu])), (by omega), (by omega), ?_⟩
    intro v6o p6hv p6bhv2
    refine And.intro ⟨(by omega), (by omega)⟩ ⟨fun h9 => ?_, fun h9 => ?_⟩
    · refine hQ _ (by have e : i = otl O j_ w_ := (by omega); rw [← e]; exact hP1) (fun c j h0 h1 => ((fr c j h0 h1).trans rfl))
    · refine And.intro (zDX hD 0 rfl) ⟨_, sn_O_let.up (by decide), ?_⟩
      refine ⟨k, O, (j_ : Int), j_, (w_ : Int), w_, (i : Int), i, rfl, hS, hR, hD, (by first | exact (zOB_fr hO (fun c j h => ((fr c j (by omega) (by omega)).trans rfl)) (fun c j h => rfl)) | (clear hQ; grind [xu])), (by first | exact hG | (clear hQ; grind [xu])), (by omega), (by omega), (by omega), ?_⟩
      intro v17o p17hv p17bhv2
      refine And.intro (zDX hD 0 rfl) ⟨_, sn_O_emt.up (by decide), ?_⟩
      refine ⟨k, (w ++ wRw (otc O j_ w_) i), (v17o : Int), rfl, hS, hR, hD, (by omega), hP1, (by omega), ?_⟩
      intro I20o p20hP2 p20bfr
      refine ⟨((5000 - (i + 1)), 0, 0), zlt6 (by omega), [some (zvr (k)), some (zvi (j_)), some (zvi (w_)), some (zvi ((i + 1)))], ⟨rfl, rfl, rfl, rfl, rfl⟩, (i + 1), rfl, rfl, rfl, rfl, rfl, rfl, (by omega), (by show zPG k (w ++ (wRw (otc O j_ w_) i ++ [otc O j_ w_ i])) _; rw [← List.append_assoc, ← p17hv]; exact p20hP2), (fun c j h0 h1 => ((p20bfr c j h0 h1).trans ((fr c j h0 h1).trans rfl)))⟩)
