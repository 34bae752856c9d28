/-! xd -/
def T_V_apa : ZT := fun args I L R S Q => ∃ (k : Nat) (w : List CuR) (a : Int) (i : Nat) (b : Int) (j : Nat) (v : Int), args = [zvr k, zvi a, zvi b, zvl v] ∧ (zSh S) ∧ (zRs R) ∧ (zDy zT14 zF14 k R S) ∧ (zCk k w I L) ∧ (cuG w) ∧ (a = i ∧ i < w.length) ∧ (b = j ∧ j < w.length) ∧ (0 ≤ v ∧ v ≤ 100000) ∧ ∀ (u : Int), ((u = 1 ∧ (cuRa (cg w i 0) + cuRa (cg w j 0) + v) * (cuRa (cg w i 0) + cuRa (cg w j 0) + v) ≤ cuSq w i j 0) ∨ (u = 0 ∧ cuSq w i j 0 < (cuRa (cg w i 0) + cuRa (cg w j 0) + v) * (cuRa (cg w i 0) + cuRa (cg w j 0) + v))) → Q (some (zvi (u))) I L R S
theorem sn_V_apa : ZSnd 5 14 11 T_V_apa := ZSnd.loops (zT14_11 4) (by
  rintro args I L R S Q hz ⟨k, w, a, i, b, j, v, rfl, hS, hR, hd, hCk, hG, hi, hj, hv0, hQ⟩
  have hk5 := hd.1
  obtain ⟨hc0, hcl, hck⟩ := id hCk
  obtain ⟨t, ht⟩ : ∃ t, t = (cuRa (cg w i 0) + cuRa (cg w j 0) + v) := ⟨_, rfl⟩
  have hra := cuRa_b (c := cg w i 0)
  have hrb := cuRa_b (c := cg w j 0)
  have hr1 : 100 ≤ cuRa (cg w i 0) := (by have z := (hG i hi.2).1; unfold cuRa; split <;> (try split) <;> (try split) <;> (try split) <;> omega)
  refine ⟨[34, 88], fun nM tM lsM stM I1 L1 R1 S1 => match tM with
      | 34 => ∃ (m : Nat), nM = (2, (3 - m), 0) ∧ lsM = [some (zvr (k)), some (zvi (a)), some (zvi (b)), some (zvl (v)), none, some (zvl (t)), none, some (zvi (8 * i + m))] ∧ stM = [] ∧ I1 = I ∧ L1 = L ∧ R1 = R ∧ S1 = S ∧ (m ≤ cuCn (cg w i 0) ∧ m ≤ 2) ∧ (¬ cuCr w i j) ∧ (∀ c : Nat, c < m → t * t ≤ cuPG w j (cuE w i 1 c) (cuE w i 0 c))
      | 88 => ∃ (m : Nat), nM = (1, (3 - m), 0) ∧ lsM = [some (zvr (k)), some (zvi (a)), some (zvi (b)), some (zvl (v)), none, some (zvl (t)), none, some (zvi (8 * j + m))] ∧ stM = [] ∧ I1 = I ∧ L1 = L ∧ R1 = R ∧ S1 = S ∧ (m ≤ cuCn (cg w j 0) ∧ m ≤ 2) ∧ (¬ cuCr w i j) ∧ (∀ c : Nat, c < cuCn (cg w i 0) → t * t ≤ cuPG w j (cuE w i 1 c) (cuE w i 0 c)) ∧ (∀ c : Nat, c < m → t * t ≤ cuPG w i (cuE w j 1 c) (cuE w j 0 c))
      | _ => False, rfl, ?_, ⟨?_, ?_, True.intro⟩⟩
  · refine And.intro (zDX hd 0 rfl) (zrdR (v := some (k + 8)) (zDR hd 7 rfl) ?_)
    refine And.intro (zDP hd 8 rfl rfl (by omega) (by omega)) (fun v5 e5 r5 => ?_)
    have f5 : v5 = cuRa (cg w i 0) := (e5.trans ((congrArg (L (k + 8)) (show _ = i by omega)).trans (hck i (by omega)).2.2.2.2))
    have f5b : 0 ≤ v5 ∧ v5 ≤ 300 := (by have z := cuRa_b (c := cg w i 0); omega)
    have f5bb : 100 ≤ v5 := (by have z := (hG i (by omega)).1; have z2 : v5 = cuRa (cg w i 0) := (by omega); rw [z2]; unfold cuRa; split <;> (try split) <;> (try split) <;> (try split) <;> omega)
    refine And.intro (zDX hd 0 rfl) (zrdR (v := some (k + 8)) (zDR hd 7 rfl) ?_)
    refine And.intro (zDP hd 8 rfl rfl (by omega) (by omega)) (fun v11 e11 r11 => ?_)
    have f11 : v11 = cuRa (cg w j 0) := (e11.trans ((congrArg (L (k + 8)) (show _ = j by omega)).trans (hck j (by omega)).2.2.2.2))
    have f11b : 0 ≤ v11 ∧ v11 ≤ 300 := (by have z := cuRa_b (c := cg w j 0); omega)
    have f11bb : 100 ≤ v11 := (by have z := (hG j (by omega)).1; have z2 : v11 = cuRa (cg w j 0) := (by omega); rw [z2]; unfold cuRa; split <;> (try split) <;> (try split) <;> (try split) <;> omega)
    refine And.intro (zDX hd 0 rfl) ⟨_, sn_V_lcr.up (by decide), ?_⟩
    refine ⟨_, w, (a : Int), i, (b : Int), j, rfl, hS, hR, hd, (by first | exact (zCk_fr hCk (fun c j h => rfl) (fun c j h => rfl)) | (clear hQ; grind [xu])), (by first | exact hG | (clear hQ; grind [xu])), (by omega), (by omega), ?_⟩
    intro v20o p20hv
    refine And.intro (by omega) ⟨fun h23 => ?_, fun h23 => ?_⟩
    · refine ⟨(2, (3 - (0 : Nat)), 0), [some (zvr (k)), some (zvi (a)), some (zvi (b)), some (zvl (v)), none, some (zvl (t)), none, some (zvi (8 * i + (0 : Nat)))], ⟨rfl, rfl, rfl, rfl, (congrArg (fun z => some (zvl z)) (by omega)), (congrArg (fun z => some (zvi z)) (by omega)), rfl⟩, 0, rfl, rfl, rfl, rfl, rfl, rfl, rfl, (by omega), (by rcases p20hv with z | z; omega; exact z.2), (fun c h => absurd h (Nat.not_lt_zero c))⟩
    · refine And.intro (Or.inl rfl) ?_
      refine hQ _ ?_
      · rw [← ht]
        have y := zmp (show 0 < t by omega) (show 0 < t by omega)
        first
        | (refine Or.inr ⟨rfl, ?_⟩
           rcases p20hv with z | z
           · unfold cuSq
             rw [z.2.1, z.2.2]
             omega
           · omega)
        | (refine Or.inr ⟨rfl, ?_⟩
           have z : zc3 _ _ _ := p68hv
           rw [show v57 = cuE w i 1 m by omega, show v64 = cuE w i 0 m by omega] at z
           unfold zc3 at z
           have z2 := cuSq_n (w := w) (i := i) (j := j) (e := m) hG (by omega) (by have q := cuCn_c (cg w i 0); omega)
           omega)
        | (refine Or.inr ⟨rfl, ?_⟩
           have z : zc3 _ _ _ := p122hv
           rw [show v111 = cuE w j 1 m by omega, show v118 = cuE w j 0 m by omega] at z
           unfold zc3 at z
           have z2 := cuSq_n (w := w) (i := j) (j := i) (e := m) hG (by omega) (by have q := cuCn_c (cg w j 0); omega)
           rw [cuSq_s]
           omega)
        | exact Or.inl ⟨rfl, cuAp_y hG (by omega) (by omega) hncr ha1 (fun c hc => ha2 c (by have q := cuCn_c (cg w j 0); omega))⟩
  · rintro nM lsM stM I1 L1 R1 S1 hz1 ⟨m, rfl, rfl, rfl, rfl, rfl, rfl, rfl, hm, hncr, ha1⟩
    refine And.intro (zDX hd 0 rfl) (zrdR (v := some (k + 5)) (zDR hd 4 rfl) ?_)
    refine And.intro (zDP hd 5 rfl rfl (by omega) (by omega)) (fun v45 e45 r45 => ?_)
    have f45 : v45 = cuCn (cg w i 0) := (e45.trans ((congrArg (I1 (k + 5)) (show _ = i by omega)).trans (hck i (by omega)).1.2.2.2.2))
    have f45b : (cg w i 0 = 0 ∧ v45 = 2) ∨ (cg w i 0 ≠ 0 ∧ v45 = 1) := (by have z := cuCn_c (cg w i 0); rcases z with z | z; exact Or.inl ⟨z.1, by omega⟩; exact Or.inr ⟨z.1, by omega⟩)
    have f45bb : 1 ≤ v45 ∧ v45 ≤ 2 := (by omega)
    refine And.intro ⟨(by omega), (by omega)⟩ ⟨fun h47 => ?_, fun h47 => ?_⟩
    · refine ⟨(1, (3 - (0 : Nat)), 0), zlt6 (by omega), [some (zvr (k)), some (zvi (a)), some (zvi (b)), some (zvl (v)), none, some (zvl (t)), none, some (zvi (8 * j + (0 : Nat)))], ⟨rfl, rfl, rfl, rfl, rfl, (congrArg (fun z => some (zvi z)) (by omega)), rfl⟩, 0, rfl, rfl, rfl, rfl, rfl, rfl, rfl, (by omega), hncr, (fun c hc => ha1 c (by have z := cuCn_c (cg w i 0); omega)), (fun c h => absurd h (Nat.not_lt_zero c))⟩
    · refine And.intro (zDX hd 0 rfl) (zrdR (v := some (k + 6)) (zDR hd 5 rfl) ?_)
      refine And.intro (zDP hd 6 rfl rfl (by omega) (by omega)) (fun v57 e57 r57 => ?_)
      have f57 : v57 = cuE w i 1 m := (e57.trans ((congrArg (L1 (k + 6)) (show _ = 8 * i + m by omega)).trans (zCi_c (hck i (by omega)) (by have z := cuCn_c (cg w i 0); omega)).1))
      have f57b : 0 ≤ v57 ∧ v57 ≤ 15000 := (by have z := cuE_b (ax := 1) (e := m) hG (show i < w.length by omega); omega)
      refine And.intro (zDX hd 0 rfl) (zrdR (v := some (k + 7)) (zDR hd 6 rfl) ?_)
      refine And.intro (zDP hd 7 rfl rfl (by omega) (by omega)) (fun v64 e64 r64 => ?_)
      have f64 : v64 = cuE w i 0 m := (e64.trans ((congrArg (L1 (k + 7)) (show _ = 8 * i + m by omega)).trans (zCi_c (hck i (by omega)) (by have z := cuCn_c (cg w i 0); omega)).2))
      have f64b : 0 ≤ v64 ∧ v64 ≤ 15000 := (by have z := cuE_b (ax := 0) (e := m) hG (show i < w.length by omega); omega)
      refine And.intro (zDX hd 0 rfl) ⟨_, sn_V_pfl.up (by decide), ?_⟩
      refine ⟨_, w, (v57 : Int), (v64 : Int), (b : Int), j, (t : Int), rfl, hS, hR, hd, (by first | exact (zCk_fr hCk (fun c j h => rfl) (fun c j h => rfl)) | (clear hQ; grind [xu])), (by first | exact hG | (clear hQ; grind [xu])), (by omega), (by clear hQ; grind [xu]), (by omega), ?_⟩
      intro v68o p68hv p68bhv2
      refine And.intro (by omega) ⟨fun h71 => ?_, fun h71 => ?_⟩
      · refine ⟨(2, (3 - (m + 1)), 0), zlt6 (by omega), [some (zvr (k)), some (zvi (a)), some (zvi (b)), some (zvl (v)), none, some (zvl (t)), none, some (zvi (8 * i + (m + 1)))], ⟨rfl, rfl, rfl, rfl, rfl, (congrArg (fun z => some (zvi z)) (by omega)), rfl⟩, (m + 1), rfl, rfl, rfl, rfl, rfl, rfl, rfl, (by have z := cuCn_c (cg w i 0); omega), hncr, ?_⟩
        · intro c hc
          by_cases e : c = m
          · subst e
            have z : zc3 _ _ _ := p68hv
            rw [show v57 = cuE w i 1 c by omega, show v64 = cuE w i 0 c by omega] at z
            unfold zc3 at z
            omega
          · exact ha1 c (by omega)
      · refine And.intro (Or.inl rfl) ?_
        refine hQ _ ?_
        · rw [← ht]
          have y := zmp (show 0 < t by omega) (show 0 < t by omega)
          first
          | (refine Or.inr ⟨rfl, ?_⟩
             rcases p20hv with z | z
             · unfold cuSq
               rw [z.2.1, z.2.2]
               omega
             · omega)
          | (refine Or.inr ⟨rfl, ?_⟩
             have z : zc3 _ _ _ := p68hv
             rw [show v57 = cuE w i 1 m by omega, show v64 = cuE w i 0 m by omega] at z
             unfold zc3 at z
             have z2 := cuSq_n (w := w) (i := i) (j := j) (e := m) hG (by omega) (by have q := cuCn_c (cg w i 0); omega)
             omega)
          | (refine Or.inr ⟨rfl, ?_⟩
             have z : zc3 _ _ _ := p122hv
             rw [show v111 = cuE w j 1 m by omega, show v118 = cuE w j 0 m by omega] at z
             unfold zc3 at z
             have z2 := cuSq_n (w := w) (i := j) (j := i) (e := m) hG (by omega) (by have q := cuCn_c (cg w j 0); omega)
             rw [cuSq_s]
             omega)
          | exact Or.inl ⟨rfl, cuAp_y hG (by omega) (by omega) hncr ha1 (fun c hc => ha2 c (by have q := cuCn_c (cg w j 0); omega))⟩
  · rintro nM lsM stM I1 L1 R1 S1 hz1 ⟨m, rfl, rfl, rfl, rfl, rfl, rfl, rfl, hm, hncr, ha1, ha2⟩
    refine And.intro (zDX hd 0 rfl) (zrdR (v := some (k + 5)) (zDR hd 4 rfl) ?_)
    refine And.intro (zDP hd 5 rfl rfl (by omega) (by omega)) (fun v99 e99 r99 => ?_)
    have f99 : v99 = cuCn (cg w j 0) := (e99.trans ((congrArg (I1 (k + 5)) (show _ = j by omega)).trans (hck j (by omega)).1.2.2.2.2))
    have f99b : (cg w j 0 = 0 ∧ v99 = 2) ∨ (cg w j 0 ≠ 0 ∧ v99 = 1) := (by have z := cuCn_c (cg w j 0); rcases z with z | z; exact Or.inl ⟨z.1, by omega⟩; exact Or.inr ⟨z.1, by omega⟩)
    have f99bb : 1 ≤ v99 ∧ v99 ≤ 2 := (by omega)
    refine And.intro ⟨(by omega), (by omega)⟩ ⟨fun h101 => ?_, fun h101 => ?_⟩
    · refine And.intro (Or.inr rfl) ?_
      refine hQ _ ?_
      · rw [← ht]
        have y := zmp (show 0 < t by omega) (show 0 < t by omega)
        first
        | (refine Or.inr ⟨rfl, ?_⟩
           rcases p20hv with z | z
           · unfold cuSq
             rw [z.2.1, z.2.2]
             omega
           · omega)
        | (refine Or.inr ⟨rfl, ?_⟩
           have z : zc3 _ _ _ := p68hv
           rw [show v57 = cuE w i 1 m by omega, show v64 = cuE w i 0 m by omega] at z
           unfold zc3 at z
           have z2 := cuSq_n (w := w) (i := i) (j := j) (e := m) hG (by omega) (by have q := cuCn_c (cg w i 0); omega)
           omega)
        | (refine Or.inr ⟨rfl, ?_⟩
           have z : zc3 _ _ _ := p122hv
           rw [show v111 = cuE w j 1 m by omega, show v118 = cuE w j 0 m by omega] at z
           unfold zc3 at z
           have z2 := cuSq_n (w := w) (i := j) (j := i) (e := m) hG (by omega) (by have q := cuCn_c (cg w j 0); omega)
           rw [cuSq_s]
           omega)
        | exact Or.inl ⟨rfl, cuAp_y hG (by omega) (by omega) hncr ha1 (fun c hc => ha2 c (by have q := cuCn_c (cg w j 0); omega))⟩
    · refine And.intro (zDX hd 0 rfl) (zrdR (v := some (k + 6)) (zDR hd 5 rfl) ?_)
      refine And.intro (zDP hd 6 rfl rfl (by omega) (by omega)) (fun v111 e111 r111 => ?_)
      have f111 : v111 = cuE w j 1 m := (e111.trans ((congrArg (L1 (k + 6)) (show _ = 8 * j + m by omega)).trans (zCi_c (hck j (by omega)) (by have z := cuCn_c (cg w j 0); omega)).1))
      have f111b : 0 ≤ v111 ∧ v111 ≤ 15000 := (by have z := cuE_b (ax := 1) (e := m) hG (show j < w.length by omega); omega)
      refine And.intro (zDX hd 0 rfl) (zrdR (v := some (k + 7)) (zDR hd 6 rfl) ?_)
      refine And.intro (zDP hd 7 rfl rfl (by omega) (by omega)) (fun v118 e118 r118 => ?_)
      have f118 : v118 = cuE w j 0 m := (e118.trans ((congrArg (L1 (k + 7)) (show _ = 8 * j + m by omega)).trans (zCi_c (hck j (by omega)) (by have z := cuCn_c (cg w j 0); omega)).2))
      have f118b : 0 ≤ v118 ∧ v118 ≤ 15000 := (by have z := cuE_b (ax := 0) (e := m) hG (show j < w.length by omega); omega)
      refine And.intro (zDX hd 0 rfl) ⟨_, sn_V_pfl.up (by decide), ?_⟩
      refine ⟨_, w, (v111 : Int), (v118 : Int), (a : Int), i, (t : Int), rfl, hS, hR, hd, (by first | exact (zCk_fr hCk (fun c j h => rfl) (fun c j h => rfl)) | (clear hQ; grind [xu])), (by first | exact hG | (clear hQ; grind [xu])), (by omega), (by clear hQ; grind [xu]), (by omega), ?_⟩
      intro v122o p122hv p122bhv2
      refine And.intro (by omega) ⟨fun h125 => ?_, fun h125 => ?_⟩
      · refine ⟨(1, (3 - (m + 1)), 0), zlt6 (by omega), [some (zvr (k)), some (zvi (a)), some (zvi (b)), some (zvl (v)), none, some (zvl (t)), none, some (zvi (8 * j + (m + 1)))], ⟨rfl, rfl, rfl, rfl, rfl, (congrArg (fun z => some (zvi z)) (by omega)), rfl⟩, (m + 1), rfl, rfl, rfl, rfl, rfl, rfl, rfl, (by have z := cuCn_c (cg w j 0); omega), hncr, ha1, ?_⟩
        · intro c hc
          by_cases e : c = m
          · subst e
            have z : zc3 _ _ _ := p122hv
            rw [show v111 = cuE w j 1 c by omega, show v118 = cuE w j 0 c by omega] at z
            unfold zc3 at z
            omega
          · exact ha2 c (by omega)
      · refine And.intro (Or.inl rfl) ?_
        refine hQ _ ?_
        · rw [← ht]
          have y := zmp (show 0 < t by omega) (show 0 < t by omega)
          first
          | (refine Or.inr ⟨rfl, ?_⟩
             rcases p20hv with z | z
             · unfold cuSq
               rw [z.2.1, z.2.2]
               omega
             · omega)
          | (refine Or.inr ⟨rfl, ?_⟩
             have z : zc3 _ _ _ := p68hv
             rw [show v57 = cuE w i 1 m by omega, show v64 = cuE w i 0 m by omega] at z
             unfold zc3 at z
             have z2 := cuSq_n (w := w) (i := i) (j := j) (e := m) hG (by omega) (by have q := cuCn_c (cg w i 0); omega)
             omega)
          | (refine Or.inr ⟨rfl, ?_⟩
             have z : zc3 _ _ _ := p122hv
             rw [show v111 = cuE w j 1 m by omega, show v118 = cuE w j 0 m by omega] at z
             unfold zc3 at z
             have z2 := cuSq_n (w := w) (i := j) (j := i) (e := m) hG (by omega) (by have q := cuCn_c (cg w j 0); omega)
             rw [cuSq_s]
             omega)
          | exact Or.inl ⟨rfl, cuAp_y hG (by omega) (by omega) hncr ha1 (fun c hc => ha2 c (by have q := cuCn_c (cg w j 0); omega))⟩)
def T_V_iso : ZT := fun args I L R S Q => ∃ (a : Int) (b : Int), args = [zvi a, zvi b] ∧ (r32 a ∧ r32 b) ∧ ∀ (v : Int), ((v = 1 ∧ cuIs a b) ∨ (v = 0 ∧ ¬ cuIs a b)) → Q (some (zvi (v))) I L R S
theorem sn_V_iso : ZSnd 1 14 17 T_V_iso := ZSnd.of (zT14_17 0) (by
  rintro args I L R S Q hz ⟨a, b, rfl, hr, hQ⟩
  refine And.intro rfl ?_
  refine And.intro ⟨(by omega), (zRb rfl)⟩ ⟨fun h2 => ?_, fun h2 => ?_⟩
  · refine And.intro (Or.inr rfl) ?_
    refine hQ _ (by unfold cuIs; omega)
  · refine And.intro ⟨(by omega), (by omega)⟩ ⟨fun h7 => ?_, fun h7 => ?_⟩
    · refine And.intro (Or.inl rfl) ?_
      refine hQ _ (by unfold cuIs; omega)
    · refine And.intro (Or.inr rfl) ?_
      refine hQ _ (by unfold cuIs; omega))
def T_V_cop : ZT := fun args I L R S Q => ∃ (k : Nat) (w : List CuR) (a : Int) (i : Nat), args = [zvr k, zvi a] ∧ (zSh S) ∧ (zRs R) ∧ (zDy zT14 zF14 k R S) ∧ (zCk k w I L) ∧ (cuG w) ∧ (a = i ∧ i < w.length) ∧ ∀ (v : Int), ((v = 1 ∧ cg w i 0 ≠ 3) ∨ (v = 0 ∧ cg w i 0 = 3)) → Q (some (zvi (v))) I L R S
theorem sn_V_cop : ZSnd 1 14 14 T_V_cop := ZSnd.of (zT14_14 0) (by
  rintro args I L R S Q hz ⟨k, w, a, i, rfl, hS, hR, hd, hCk, hG, hi, hQ⟩
  have hk5 := hd.1
  obtain ⟨hc0, hcl, hck⟩ := id hCk
  refine And.intro rfl ?_
  refine And.intro (zDX hd 0 rfl) (zrdR (v := some (k + 3)) (zDR hd 2 rfl) ?_)
  refine And.intro (zDP hd 3 rfl rfl (by omega) (by omega)) (fun v5 e5 r5 => ?_)
  have f5 : v5 = cuKd (cg w i 0) := (e5.trans ((congrArg (I (k + 3)) (show _ = i by omega)).trans (hck i (by omega)).1.2.2.1))
  have f5b : 0 ≤ v5 ∧ v5 ≤ 2 := (by have z := cuKd_c (cg w i 0); omega)
  have f5bb : (cg w i 0 = 3 ∧ v5 = 2) ∨ (cg w i 0 = 0 ∧ v5 = 0) ∨ (cg w i 0 ≠ 3 ∧ cg w i 0 ≠ 0 ∧ v5 = 1) := (by have z := cuKd_c (cg w i 0); rcases z with z | z | z; exact Or.inl ⟨z.1, by omega⟩; exact Or.inr (Or.inl ⟨z.1, by omega⟩); exact Or.inr (Or.inr ⟨z.1, z.2.1, by omega⟩))
  refine And.intro r5 ⟨fun h6 => ?_, fun h6 => ?_⟩
  · refine And.intro (Or.inr rfl) ?_
    refine hQ _ (by omega)
  · refine And.intro (zDX hd 0 rfl) (zrdR (v := some (k + 3)) (zDR hd 2 rfl) ?_)
    refine And.intro (zDP hd 3 rfl rfl (by omega) (by omega)) (fun v14 e14 r14 => ?_)
    have f14 : v14 = cuKd (cg w i 0) := (e14.trans ((congrArg (I (k + 3)) (show _ = i by omega)).trans (hck i (by omega)).1.2.2.1))
    have f14b : 0 ≤ v14 ∧ v14 ≤ 2 := (by have z := cuKd_c (cg w i 0); omega)
    have f14bb : (cg w i 0 = 3 ∧ v14 = 2) ∨ (cg w i 0 = 0 ∧ v14 = 0) ∨ (cg w i 0 ≠ 3 ∧ cg w i 0 ≠ 0 ∧ v14 = 1) := (by have z := cuKd_c (cg w i 0); rcases z with z | z | z; exact Or.inl ⟨z.1, by omega⟩; exact Or.inr (Or.inl ⟨z.1, by omega⟩); exact Or.inr (Or.inr ⟨z.1, z.2.1, by omega⟩))
    refine And.intro ⟨r14, (zRb rfl)⟩ ⟨fun h16 => ?_, fun h16 => ?_⟩
    · refine And.intro (Or.inl rfl) ?_
      refine hQ _ (by omega)
    · refine And.intro (Or.inr rfl) ?_
      refine hQ _ (by omega))
def T_V_one : ZT := fun args I L R S Q => ∃ (k : Nat) (w : List CuR) (a : Int) (i : Nat) (b : Int) (j : Nat), args = [zvr k, zvi a, zvi b] ∧ (zSh S) ∧ (zRs R) ∧ (zDy zT14 zF14 k R S) ∧ (zCk k w I L) ∧ (cuG w) ∧ (a = i ∧ i < w.length) ∧ (b = j ∧ j < w.length) ∧ ∀ (v : Int), ((v = 1 ∧ cg w i 1 = cg w j 1) ∨ (v = 0 ∧ cg w i 1 ≠ cg w j 1)) → Q (some (zvi (v))) I L R S
theorem sn_V_one : ZSnd 1 14 8 T_V_one := ZSnd.of (zT14_8 0) (by
  rintro args I L R S Q hz ⟨k, w, a, i, b, j, rfl, hS, hR, hd, hCk, hG, hi, hj, hQ⟩
  have hk5 := hd.1
  obtain ⟨hc0, hcl, hck⟩ := id hCk
  refine And.intro rfl ?_
  refine And.intro (zDX hd 0 rfl) (zrdR (v := some (k + 1)) (zDR hd 0 rfl) ?_)
  refine And.intro (zDP hd 1 rfl rfl (by omega) (by omega)) (fun v5 e5 r5 => ?_)
  have f5 : v5 = cg w i 1 := (e5.trans ((congrArg (I (k + 1)) (show _ = i by omega)).trans (hck i (by omega)).1.1))
  have f5b : 0 ≤ v5 ∧ v5 ≤ 11 := (by have z := (hG i (by omega)).2.1; omega)
  refine And.intro ⟨r5, (zRb rfl)⟩ ⟨(fun h7 => False.elim (by omega)), fun h7 => ?_⟩
  refine And.intro (zDX hd 0 rfl) (zrdR (v := some (k + 1)) (zDR hd 0 rfl) ?_)
  refine And.intro (zDP hd 1 rfl rfl (by omega) (by omega)) (fun v15 e15 r15 => ?_)
  refine And.intro (zDX hd 0 rfl) (zrdR (v := some (k + 1)) (zDR hd 0 rfl) ?_)
  refine And.intro (zDP hd 1 rfl rfl (by omega) (by omega)) (fun v21 e21 r21 => ?_)
  have f21 : v21 = cg w j 1 := (e21.trans ((congrArg (I (k + 1)) (show _ = j by omega)).trans (hck j (by omega)).1.1))
  have f21b : 0 ≤ v21 ∧ v21 ≤ 11 := (by have z := (hG j (by omega)).2.1; omega)
  refine And.intro ⟨r15, r21⟩ ⟨fun h22 => ?_, fun h22 => ?_⟩
  · refine And.intro (Or.inl rfl) ?_
    refine hQ _ (by omega)
  · refine And.intro (Or.inr rfl) ?_
    refine hQ _ (by omega))
def T_V_isf : ZT := fun args I L R S Q => ∃ (k : Nat) (w : List CuR) (c : Int) (a : Int) (i : Nat) (b : Int) (j : Nat), args = [zvr k, zvi c, zvi a, zvi b] ∧ (zSh S) ∧ (zRs R) ∧ (zDy zT14 zF14 k R S) ∧ (zCk k w I L) ∧ (cuG w) ∧ (a = i ∧ i < w.length) ∧ (b = j ∧ j < w.length) ∧ (c = 0 ∨ c = 2 ∨ c = 3) ∧ ∀ (v : Int), (((c = 0 ∧ (cg w i 0 ≠ 3 ∧ cg w j 0 ≠ 3 ∧ cg w i 2 = cg w j 2 ∧ cg w i 1 ≠ cg w j 1)) ∨ (c = 2 ∧ (cg w i 0 = 3 ∧ cg w j 0 = 3))) ∧ v = 1 ∨ (¬ ((c = 0 ∧ (cg w i 0 ≠ 3 ∧ cg w j 0 ≠ 3 ∧ cg w i 2 = cg w j 2 ∧ cg w i 1 ≠ cg w j 1)) ∨ (c = 2 ∧ (cg w i 0 = 3 ∧ cg w j 0 = 3)))) ∧ v = 0) → Q (some (zvi (v))) I L R S
theorem sn_V_isf : ZSnd 2 14 15 T_V_isf := ZSnd.of (zT14_15 1) (by
  rintro args I L R S Q hz ⟨k, w, c, a, i, b, j, rfl, hS, hR, hd, hCk, hG, hi, hj, hc, hQ⟩
  have hk5 := hd.1
  obtain ⟨hc0, hcl, hck⟩ := id hCk
  refine And.intro rfl ?_
  refine And.intro (by omega) (And.intro (fun h1 => ?_) (fun h1n0 => (And.intro (fun h1 => ?_) (fun h1n1 => ?_))))
  · refine And.intro (zDX hd 0 rfl) ⟨_, sn_V_cop.up (by decide), ?_⟩
    refine ⟨_, w, (a : Int), i, rfl, hS, hR, hd, (by first | exact (zCk_fr hCk (fun c j h => rfl) (fun c j h => rfl)) | (clear hQ; grind [xu])), (by first | exact hG | (clear hQ; grind [xu])), (by omega), ?_⟩
    intro v30o p30hv
    refine And.intro (by omega) ⟨fun h33 => ?_, fun h33 => ?_⟩
    · refine And.intro (Or.inl rfl) ?_
      refine hQ _ (by omega)
    · refine And.intro (zDX hd 0 rfl) ⟨_, sn_V_cop.up (by decide), ?_⟩
      refine ⟨_, w, (b : Int), j, rfl, hS, hR, hd, (by first | exact (zCk_fr hCk (fun c j h => rfl) (fun c j h => rfl)) | (clear hQ; grind [xu])), (by first | exact hG | (clear hQ; grind [xu])), (by omega), ?_⟩
      intro v38o p38hv
      refine And.intro (by omega) ⟨fun h41 => ?_, fun h41 => ?_⟩
      · refine And.intro (Or.inl rfl) ?_
        refine hQ _ (by omega)
      · refine And.intro (zDX hd 0 rfl) (zrdR (v := some (k + 2)) (zDR hd 1 rfl) ?_)
        refine And.intro (zDP hd 2 rfl rfl (by omega) (by omega)) (fun v49 e49 r49 => ?_)
        have f49 : v49 = cg w i 2 := (e49.trans ((congrArg (I (k + 2)) (show _ = i by omega)).trans (hck i (by omega)).1.2.1))
        have f49b : 0 ≤ v49 ∧ v49 ≤ 3 := (by have z := (hG i (by omega)).2.2.1; omega)
        refine And.intro (zDX hd 0 rfl) (zrdR (v := some (k + 2)) (zDR hd 1 rfl) ?_)
        refine And.intro (zDP hd 2 rfl rfl (by omega) (by omega)) (fun v55 e55 r55 => ?_)
        have f55 : v55 = cg w j 2 := (e55.trans ((congrArg (I (k + 2)) (show _ = j by omega)).trans (hck j (by omega)).1.2.1))
        have f55b : 0 ≤ v55 ∧ v55 ≤ 3 := (by have z := (hG j (by omega)).2.2.1; omega)
        refine And.intro ⟨r49, r55⟩ ⟨fun h56 => ?_, fun h56 => ?_⟩
        · refine And.intro (Or.inl rfl) ?_
          refine hQ _ (by omega)
        · refine And.intro (zDX hd 0 rfl) ⟨_, sn_V_one.up (by decide), ?_⟩
          refine ⟨_, w, (a : Int), i, (b : Int), j, rfl, hS, hR, hd, (by first | exact (zCk_fr hCk (fun c j h => rfl) (fun c j h => rfl)) | (clear hQ; grind [xu])), (by first | exact hG | (clear hQ; grind [xu])), (by omega), (by omega), ?_⟩
          intro v62o p62hv
          refine And.intro (by omega) ⟨fun h65 => ?_, fun h65 => ?_⟩
          · refine And.intro (Or.inl rfl) ?_
            refine hQ _ (by omega)
          · refine And.intro (Or.inr rfl) ?_
            refine hQ _ (by omega)
  · refine And.intro (zDX hd 0 rfl) (zrdR (v := some (k + 3)) (zDR hd 2 rfl) ?_)
    refine And.intro (zDP hd 3 rfl rfl (by omega) (by omega)) (fun v79 e79 r79 => ?_)
    have f79 : v79 = cuKd (cg w i 0) := (e79.trans ((congrArg (I (k + 3)) (show _ = i by omega)).trans (hck i (by omega)).1.2.2.1))
    have f79b : 0 ≤ v79 ∧ v79 ≤ 2 := (by have z := cuKd_c (cg w i 0); omega)
    have f79bb : (cg w i 0 = 3 ∧ v79 = 2) ∨ (cg w i 0 = 0 ∧ v79 = 0) ∨ (cg w i 0 ≠ 3 ∧ cg w i 0 ≠ 0 ∧ v79 = 1) := (by have z := cuKd_c (cg w i 0); rcases z with z | z | z; exact Or.inl ⟨z.1, by omega⟩; exact Or.inr (Or.inl ⟨z.1, by omega⟩); exact Or.inr (Or.inr ⟨z.1, z.2.1, by omega⟩))
    refine And.intro ⟨r79, (zRb rfl)⟩ ⟨fun h81 => ?_, fun h81 => ?_⟩
    · refine And.intro (Or.inl rfl) ?_
      refine hQ _ (by omega)
    · refine And.intro (zDX hd 0 rfl) (zrdR (v := some (k + 3)) (zDR hd 2 rfl) ?_)
      refine And.intro (zDP hd 3 rfl rfl (by omega) (by omega)) (fun v89 e89 r89 => ?_)
      have f89 : v89 = cuKd (cg w j 0) := (e89.trans ((congrArg (I (k + 3)) (show _ = j by omega)).trans (hck j (by omega)).1.2.2.1))
      have f89b : 0 ≤ v89 ∧ v89 ≤ 2 := (by have z := cuKd_c (cg w j 0); omega)
      have f89bb : (cg w j 0 = 3 ∧ v89 = 2) ∨ (cg w j 0 = 0 ∧ v89 = 0) ∨ (cg w j 0 ≠ 3 ∧ cg w j 0 ≠ 0 ∧ v89 = 1) := (by have z := cuKd_c (cg w j 0); rcases z with z | z | z; exact Or.inl ⟨z.1, by omega⟩; exact Or.inr (Or.inl ⟨z.1, by omega⟩); exact Or.inr (Or.inr ⟨z.1, z.2.1, by omega⟩))
      refine And.intro ⟨r89, (zRb rfl)⟩ ⟨fun h91 => ?_, fun h91 => ?_⟩
      · refine And.intro (Or.inl rfl) ?_
        refine hQ _ (by omega)
      · refine And.intro (Or.inr rfl) ?_
        refine hQ _ (by omega)
  · refine And.intro (zDX hd 0 rfl) (zrdR (v := some (k + 2)) (zDR hd 1 rfl) ?_)
    refine And.intro (zDP hd 2 rfl rfl (by omega) (by omega)) (fun v105 e105 r105 => ?_)
    have f105 : v105 = cg w i 2 := (e105.trans ((congrArg (I (k + 2)) (show _ = i by omega)).trans (hck i (by omega)).1.2.1))
    have f105b : 0 ≤ v105 ∧ v105 ≤ 3 := (by have z := (hG i (by omega)).2.2.1; omega)
    refine And.intro (zDX hd 0 rfl) (zrdR (v := some (k + 2)) (zDR hd 1 rfl) ?_)
    refine And.intro (zDP hd 2 rfl rfl (by omega) (by omega)) (fun v111 e111 r111 => ?_)
    have f111 : v111 = cg w j 2 := (e111.trans ((congrArg (I (k + 2)) (show _ = j by omega)).trans (hck j (by omega)).1.2.1))
    have f111b : 0 ≤ v111 ∧ v111 ≤ 3 := (by have z := (hG j (by omega)).2.2.1; omega)
    refine And.intro ⟨r105, r111⟩ ⟨fun h112 => ?_, fun h112 => ?_⟩
    · refine And.intro (Or.inl rfl) ?_
      refine hQ _ (by omega)
    · refine And.intro (zDX hd 0 rfl) (zrdR (v := some (k + 3)) (zDR hd 2 rfl) ?_)
      refine And.intro (zDP hd 3 rfl rfl (by omega) (by omega)) (fun v120 e120 r120 => ?_)
      have f120 : v120 = cuKd (cg w i 0) := (e120.trans ((congrArg (I (k + 3)) (show _ = i by omega)).trans (hck i (by omega)).1.2.2.1))
      have f120b : 0 ≤ v120 ∧ v120 ≤ 2 := (by have z := cuKd_c (cg w i 0); omega)
      have f120bb : (cg w i 0 = 3 ∧ v120 = 2) ∨ (cg w i 0 = 0 ∧ v120 = 0) ∨ (cg w i 0 ≠ 3 ∧ cg w i 0 ≠ 0 ∧ v120 = 1) := (by have z := cuKd_c (cg w i 0); rcases z with z | z | z; exact Or.inl ⟨z.1, by omega⟩; exact Or.inr (Or.inl ⟨z.1, by omega⟩); exact Or.inr (Or.inr ⟨z.1, z.2.1, by omega⟩))
      refine And.intro ⟨r120, (zRb rfl)⟩ ⟨fun h122 => ?_, (fun h122 => False.elim (by omega))⟩
      refine And.intro (zDX hd 0 rfl) (zrdR (v := some (k + 3)) (zDR hd 2 rfl) ?_)
      refine And.intro (zDP hd 3 rfl rfl (by omega) (by omega)) (fun v140 e140 r140 => ?_)
      have f140 : v140 = cuKd (cg w i 0) := (e140.trans ((congrArg (I (k + 3)) (show _ = i by omega)).trans (hck i (by omega)).1.2.2.1))
      have f140b : 0 ≤ v140 ∧ v140 ≤ 2 := (by have z := cuKd_c (cg w i 0); omega)
      have f140bb : (cg w i 0 = 3 ∧ v140 = 2) ∨ (cg w i 0 = 0 ∧ v140 = 0) ∨ (cg w i 0 ≠ 3 ∧ cg w i 0 ≠ 0 ∧ v140 = 1) := (by have z := cuKd_c (cg w i 0); rcases z with z | z | z; exact Or.inl ⟨z.1, by omega⟩; exact Or.inr (Or.inl ⟨z.1, by omega⟩); exact Or.inr (Or.inr ⟨z.1, z.2.1, by omega⟩))
      refine And.intro ⟨r140, (zRb rfl)⟩ ⟨fun h142 => ?_, fun h142 => ?_⟩
      · refine And.intro (Or.inl rfl) ?_
        refine hQ _ (by omega)
      · refine And.intro (zDX hd 0 rfl) (zrdR (v := some (k + 3)) (zDR hd 2 rfl) ?_)
        refine And.intro (zDP hd 3 rfl rfl (by omega) (by omega)) (fun v150 e150 r150 => ?_)
        have f150 : v150 = cuKd (cg w j 0) := (e150.trans ((congrArg (I (k + 3)) (show _ = j by omega)).trans (hck j (by omega)).1.2.2.1))
        have f150b : 0 ≤ v150 ∧ v150 ≤ 2 := (by have z := cuKd_c (cg w j 0); omega)
        have f150bb : (cg w j 0 = 3 ∧ v150 = 2) ∨ (cg w j 0 = 0 ∧ v150 = 0) ∨ (cg w j 0 ≠ 3 ∧ cg w j 0 ≠ 0 ∧ v150 = 1) := (by have z := cuKd_c (cg w j 0); rcases z with z | z | z; exact Or.inl ⟨z.1, by omega⟩; exact Or.inr (Or.inl ⟨z.1, by omega⟩); exact Or.inr (Or.inr ⟨z.1, z.2.1, by omega⟩))
        refine And.intro ⟨r150, (zRb rfl)⟩ ⟨fun h152 => ?_, (fun h152 => False.elim (by omega))⟩
        refine And.intro (Or.inl rfl) ?_
        refine hQ _ (by omega))
