/-! xs -/
def T_X_siz : ZT := fun args I L R S Q => ∃ (a : Int), args = [zvl a] ∧ (-1000000 ≤ a ∧ a ≤ 1000000) ∧ ∀ (v : Int), (v = cuAs a) → (0 ≤ v ∧ v ≤ 1000000) → Q (some (zvl (v))) I L R S
theorem sn_X_siz : ZSnd 1 16 28 T_X_siz := ZSnd.of (zT16_28 0) (by
  rintro args I L R S Q hz ⟨a, rfl, hb, hQ⟩
  refine And.intro rfl ?_
  refine ⟨_, _, ⟨zW6i (by omega), zW6i (zRL rfl)⟩, fun z2 c2 => ?_⟩
  refine And.intro c2.2.2 ⟨fun h3 => ?_, fun h3 => ?_⟩
  · refine hQ _ (cuAs_v (fun q => by omega) (fun q => by omega)) (by omega)
  · refine hQ _ (cuAs_v (fun q => by omega) (fun q => by omega)) (by omega))
def T_X_wyo : ZT := fun args I L R S Q => ∃ (a : Int) (b : Int) (c : Int) (d : Int), args = [zvl a, zvl b, zvl c, zvl d] ∧ ((0 ≤ a ∧ a ≤ 15000) ∧ (0 ≤ b ∧ b ≤ 15000) ∧ (0 ≤ c ∧ c ≤ 15000) ∧ (0 ≤ d ∧ d ≤ 15000)) ∧ ∀ (v : Int), (v = max (cuAs (a - c)) (cuAs (b - d))) → (0 ≤ v ∧ v ≤ 1000000) → Q (some (zvl (v))) I L R S
theorem sn_X_wyo : ZSnd 2 16 32 T_X_wyo := ZSnd.of (zT16_32 1) (by
  rintro args I L R S Q hz ⟨a, b, c, d, rfl, hb, hQ⟩
  refine And.intro rfl ?_
  refine ⟨_, sn_X_siz.up (by decide), ?_⟩
  refine ⟨((a - c) : Int), rfl, (by omega), ?_⟩
  intro v4o p4hv p4bhv2
  refine ⟨_, sn_X_siz.up (by decide), ?_⟩
  refine ⟨((b - d) : Int), rfl, (by omega), ?_⟩
  intro v13o p13hv p13bhv2
  refine ⟨_, _, ⟨zW6i (by omega), zW6i (by omega)⟩, fun z22 c22 => ?_⟩
  refine And.intro c22.2.2 ⟨fun h23 => ?_, fun h23 => ?_⟩
  · refine hQ _ (by omega) (by omega)
  · refine hQ _ (by omega) (by omega))
def T_X_way : ZT := fun args I L R S Q => ∃ (k : Nat) (w : List CuR) (a : Int) (b : Int) (j : Nat), args = [zvr k, zvi a, zvi b] ∧ (zSh S) ∧ (zRs R) ∧ (zDy zT16 zF16 k R S) ∧ (zDh k w I L) ∧ (w.length ≤ 60) ∧ (a = -1 ∨ (0 ≤ a ∧ a < cuHc w)) ∧ (b = j ∧ j < cuHc w) ∧ (cuG w) ∧ ∀ (v : Int), (v = cuWy w a j) → (0 ≤ v ∧ v ≤ 15000) → Q (some (zvl (v))) I L R S
theorem sn_X_way : ZSnd 3 16 31 T_X_way := ZSnd.of (zT16_31 2) (by
  rintro args I L R S Q hz ⟨k, w, a, b, j, rfl, hS, hR, hd, hDh, hl, ha, hj, hG, hQ⟩
  have hk5 := hd.1
  obtain ⟨⟨hh4, hh1⟩, hhi⟩ := id hDh
  have hc60 := cuHc_l hl
  have hwb := cuWy_b hG hj.2 ha
  refine And.intro rfl ?_
  refine And.intro ⟨(by omega), (zRb rfl)⟩ ⟨fun h2 => ?_, fun h2 => ?_⟩
  · refine And.intro (zDX hd 0 rfl) (zrdR (v := some (k + 8)) (zDR hd 7 rfl) ?_)
    refine And.intro (zDP hd 8 rfl rfl (by omega) (by omega)) (fun v30 e30 r30 => ?_)
    have f30 : v30 = cuHX w a.toNat := (by refine Eq.trans e30 ?_; repeat (first | exact ((congrArg (L (k + 8)) (show _ = a.toNat by omega)).trans (hhi a.toNat (by omega)).2.2.1) | refine zxu (by omega) ?_))
    have f30b : 0 ≤ v30 ∧ v30 ≤ 15000 := (by have z := cuHX_b (w := w) (p := a.toNat); omega)
    refine And.intro (zDX hd 0 rfl) (zrdR (v := some (k + 9)) (zDR hd 8 rfl) ?_)
    refine And.intro (zDP hd 9 rfl rfl (by omega) (by omega)) (fun v36 e36 r36 => ?_)
    have f36 : v36 = cuHY w a.toNat := (by refine Eq.trans e36 ?_; repeat (first | exact ((congrArg (L (k + 9)) (show _ = a.toNat by omega)).trans (hhi a.toNat (by omega)).2.2.2) | refine zxu (by omega) ?_))
    have f36b : 0 ≤ v36 ∧ v36 ≤ 15000 := (by have z := cuHX_b (w := w) (p := a.toNat); omega)
    refine And.intro (zDX hd 0 rfl) (zrdR (v := some (k + 6)) (zDR hd 5 rfl) ?_)
    refine And.intro (zDP hd 6 rfl rfl (by omega) (by omega)) (fun v42 e42 r42 => ?_)
    have f42 : v42 = cuHX w j := (by refine Eq.trans e42 ?_; repeat (first | exact ((congrArg (L (k + 6)) (show _ = j by omega)).trans (hhi j (by omega)).2.1.1) | refine zxu (by omega) ?_))
    have f42b : 0 ≤ v42 ∧ v42 ≤ 15000 := (by have z := cuHX_b (w := w) (p := j); omega)
    refine And.intro (zDX hd 0 rfl) (zrdR (v := some (k + 7)) (zDR hd 6 rfl) ?_)
    refine And.intro (zDP hd 7 rfl rfl (by omega) (by omega)) (fun v48 e48 r48 => ?_)
    have f48 : v48 = cuHY w j := (by refine Eq.trans e48 ?_; repeat (first | exact ((congrArg (L (k + 7)) (show _ = j by omega)).trans (hhi j (by omega)).2.1.2) | refine zxu (by omega) ?_))
    have f48b : 0 ≤ v48 ∧ v48 ≤ 15000 := (by have z := cuHX_b (w := w) (p := j); omega)
    refine ⟨_, sn_X_wyo.up (by decide), ?_⟩
    refine ⟨(v30 : Int), (v36 : Int), (v42 : Int), (v48 : Int), rfl, (by clear hQ; grind [xu]), ?_⟩
    intro v49o p49hv p49bhv2
    refine hQ _ ?_ (by first | (have z : v19o = cuWy w a j := (by rw [show a = -1 by omega, cuWy_m, ← show v12 = cuHX w j by omega, ← show v18 = cuHY w j by omega]; exact p19hv); omega) | (have z : v49o = cuWy w a j := (by rw [show a = (a.toNat : Int) by omega, cuWy_p, ← show v42 = cuHX w j by omega, ← show v48 = cuHY w j by omega, ← show v30 = cuHX w a.toNat by omega, ← show v36 = cuHY w a.toNat by omega]; exact p49hv); omega))
    · first
      | (rw [show a = -1 by omega, cuWy_m, ← show v12 = cuHX w j by omega, ← show v18 = cuHY w j by omega]
         exact p19hv)
      | (rw [show a = (a.toNat : Int) by omega, cuWy_p, ← show v42 = cuHX w j by omega, ← show v48 = cuHY w j by omega, ← show v30 = cuHX w a.toNat by omega, ← show v36 = cuHY w a.toNat by omega]
         exact p49hv)
  · refine And.intro (zDX hd 0 rfl) (zrdR (v := some (k + 6)) (zDR hd 5 rfl) ?_)
    refine And.intro (zDP hd 6 rfl rfl (by omega) (by omega)) (fun v12 e12 r12 => ?_)
    have f12 : v12 = cuHX w j := (by refine Eq.trans e12 ?_; repeat (first | exact ((congrArg (L (k + 6)) (show _ = j by omega)).trans (hhi j (by omega)).2.1.1) | refine zxu (by omega) ?_))
    have f12b : 0 ≤ v12 ∧ v12 ≤ 15000 := (by have z := cuHX_b (w := w) (p := j); omega)
    refine And.intro (zDX hd 0 rfl) (zrdR (v := some (k + 7)) (zDR hd 6 rfl) ?_)
    refine And.intro (zDP hd 7 rfl rfl (by omega) (by omega)) (fun v18 e18 r18 => ?_)
    have f18 : v18 = cuHY w j := (by refine Eq.trans e18 ?_; repeat (first | exact ((congrArg (L (k + 7)) (show _ = j by omega)).trans (hhi j (by omega)).2.1.2) | refine zxu (by omega) ?_))
    have f18b : 0 ≤ v18 ∧ v18 ≤ 15000 := (by have z := cuHX_b (w := w) (p := j); omega)
    refine ⟨_, sn_X_wyo.up (by decide), ?_⟩
    refine ⟨(0 : Int), (0 : Int), (v12 : Int), (v18 : Int), rfl, (by clear hQ; grind [xu]), ?_⟩
    intro v19o p19hv p19bhv2
    refine hQ _ ?_ (by first | (have z : v19o = cuWy w a j := (by rw [show a = -1 by omega, cuWy_m, ← show v12 = cuHX w j by omega, ← show v18 = cuHY w j by omega]; exact p19hv); omega) | (have z : v49o = cuWy w a j := (by rw [show a = (a.toNat : Int) by omega, cuWy_p, ← show v42 = cuHX w j by omega, ← show v48 = cuHY w j by omega, ← show v30 = cuHX w a.toNat by omega, ← show v36 = cuHY w a.toNat by omega]; exact p49hv); omega))
    · first
      | (rw [show a = -1 by omega, cuWy_m, ← show v12 = cuHX w j by omega, ← show v18 = cuHY w j by omega]
         exact p19hv)
      | (rw [show a = (a.toNat : Int) by omega, cuWy_p, ← show v42 = cuHX w j by omega, ← show v48 = cuHY w j by omega, ← show v30 = cuHX w a.toNat by omega, ← show v36 = cuHY w a.toNat by omega]
         exact p49hv))
def T_X_col : ZT := fun args I L R S Q => ∃ (k : Nat) (w : List CuR), args = [zvr k, zvi 0] ∧ (zSh S) ∧ (zRs R) ∧ (zDy zT16 zF16 k R S) ∧ (zDh k w I L) ∧ (w.length ≤ 60) ∧ ∀ (I' : ZI), (I' k 13 = cuHc w) → (∀ p : Nat, p < cuHc w → I' (k + 13) p = p) → (∀ c j : Nat, ¬ (c = k ∧ j = 13) → ¬ c = k + 13 → I' c j = I c j) → Q none I' L R S
theorem sn_X_col : ZSnd 1 16 4 T_X_col := ZSnd.loops (zT16_4 0) (by
  rintro args I L R S Q hz ⟨k, w, rfl, hS, hR, hd, hDh, hl, hQ⟩
  have hk5 := hd.1
  obtain ⟨⟨hh4, hh1⟩, hhi⟩ := id hDh
  have hc60 := cuHc_l hl
  refine ⟨[7], fun nM tM lsM stM I1 L1 R1 S1 => match tM with
      | 7 => ∃ (m : Nat), nM = ((61 - m), 0, 0) ∧ lsM = [some (zvr (k)), some (zvi (0)), some (zvi (m))] ∧ stM = [] ∧ L1 = L ∧ R1 = R ∧ S1 = S ∧ (m ≤ cuHc w) ∧ (I1 k 13 = m) ∧ (∀ p : Nat, p < m → I1 (k + 13) p = p) ∧ (∀ c j : Nat, ¬ (c = k ∧ j = 13) → ¬ c = k + 13 → I1 c j = I c j)
      | _ => False, rfl, ?_, ⟨?_, True.intro⟩⟩
  · refine And.intro (zDX hd 0 rfl) ⟨_, (zWi (zRb rfl)), ?_⟩
    refine ⟨((61 - (0 : Nat)), 0, 0), [some (zvr (k)), some (zvi (0)), some (zvi ((0 : Nat)))], ⟨rfl, rfl, rfl, rfl⟩, 0, rfl, rfl, rfl, rfl, rfl, rfl, (by omega), zxe, (fun p h => absurd h (Nat.not_lt_zero p)), (fun c j h0 h1 => (zxcj h0 rfl))⟩
  · rintro nM lsM stM I1 L1 R1 S1 hz1 ⟨m, rfl, rfl, rfl, rfl, rfl, rfl, hm, h13, hrow, fr⟩
    refine And.intro (zDX hd 0 rfl) (zrdR (v := some (k + 4)) (zDR hd 3 rfl) ?_)
    refine And.intro (zDP hd 4 rfl rfl (by omega) (by omega)) (zrd (v := (cuHc w)) ((fr (k + 4) 0 (by omega) (by omega)).trans hh4) ?_)
    refine And.intro ⟨(by omega), (by omega)⟩ ⟨fun h14 => ?_, fun h14 => ?_⟩
    · refine hQ _ (by omega) (fun p hp => hrow p (by omega)) (fun c j h0 h1 => ((fr c j h0 h1).trans rfl))
    · refine And.intro (zDX hd 0 rfl) (zrdR (v := some (k + 5)) (zDR hd 4 rfl) ?_)
      refine And.intro (zDP hd 5 rfl rfl (by omega) (by omega)) (fun v22 e22 r22 => ?_)
      have f22 : v22 = 0 := (e22.trans ((fr _ _ (by omega) (by omega)).trans ((congrArg (I (k + 5)) (show _ = m by omega)).trans (hhi m (by omega)).1.1)))
      refine And.intro ⟨r22, (zRb rfl)⟩ ⟨fun h24 => ?_, (fun h24 => False.elim (by omega))⟩
      refine And.intro (zDX hd 0 rfl) (zrdR (v := some (k + 13)) (zDR hd 12 rfl) ?_)
      refine And.intro (zDX hd 0 rfl) (zrd (v := m) h13 ?_)
      refine And.intro ⟨(by show 40 ≤ _; omega), (zDP hd 13 rfl rfl (by omega) (by omega))⟩ ⟨_, (zWi (by omega)), ?_⟩
      refine And.intro (zDX hd 0 rfl) (zrd (v := m) (zxu (by omega) h13) ?_)
      refine And.intro (zDX hd 0 rfl) ⟨_, (zWi (by omega)), ?_⟩
      refine ⟨((61 - (m + 1)), 0, 0), zlt6 (by omega), [some (zvr (k)), some (zvi (0)), some (zvi ((m + 1)))], ⟨rfl, rfl, rfl, rfl⟩, (m + 1), rfl, rfl, rfl, rfl, rfl, rfl, (by omega), (by first | exact zxe | exact zxe.trans (by omega)), (fun p hp => by by_cases e : p = m; (rw [e]; exact zxu (by omega) (zxe' (by omega))); exact zxu (by omega) (zxs (by omega) (hrow p (by omega)))), (fun c j h0 h1 => (zxcj h0 (zxu h1 ((fr c j h0 h1).trans rfl))))⟩)
