/-! wh -/
def T_V_sqt : ZT := fun args I L R S Q => ∃ (k : Nat) (w : List Int) (O : OoS) (j : Int) (j_ : Nat) (w0 : Int) (w_ : Nat), args = [zvr k, zvi j, zvi w0] ∧ (zDy zT20 zF20 k R S) ∧ (zPO k w I) ∧ (w.length + 2 * otl O j_ w_ + 4 ≤ 110000) ∧ (zOM k O I L) ∧ (oGd O) ∧ (j = j_ ∧ j_ < ocn O) ∧ (w0 = w_ ∧ w_ < 2) ∧ (okd O j_ ≠ 9) ∧ ∀ (I' : ZI), (zPO k (w ++ wQt (otc O j_ w_) (otl O j_ w_)) I') → (∀ c j : Nat, ¬ (c = k ∧ j = 26) → ¬ c = k + 12 → I' c j = I c j) → Q none I' L R S
theorem sn_V_sqt : ZSnd 2 20 46 T_V_sqt := ZSnd.loops (zT20_46 1) (by
  rintro args I L R S Q hz ⟨k, w, O, j, j_, w0, w_, rfl, hD, hP, hl, hO, hG, hj, hw, hk9, hQ⟩
  have hk40 := hD.1
  obtain ⟨o1, o2, o3, o4⟩ := id hO
  obtain ⟨g1, g2, g3, g4, g5⟩ := id hG
  obtain ⟨l1, l2⟩ := o4 j_ w_ (by omega) hk9 (by omega)
  have l5 := (g4 j_ w_ (by omega) (by omega)).2 hk9
  have l6 := fun i h => g5 j_ w_ i (by omega) (by omega) h
  refine ⟨[8], fun nM tM lsM stM I1 L1 R1 S1 => match tM with
      | 8 => ∃ (i : Nat), nM = ((5000 - i), 0, 0) ∧ lsM = [some (zvr (k)), some (zvi (j_)), some (zvi (w_)), some (zvi (i)), none] ∧ stM = [] ∧ L1 = L ∧ R1 = R ∧ S1 = S ∧ (i ≤ otl O j_ w_) ∧ (zPO k (w ++ [34] ++ wBd (otc O j_ w_) i) I1) ∧ (∀ c j : Nat, ¬ (c = k ∧ j = 26) → ¬ c = k + 12 → I1 c j = I c j)
      | _ => False, rfl, ?_, ⟨?_, True.intro⟩⟩
  · refine And.intro (zDX hD 0 rfl) ⟨_, sn_V_say.up (by decide), ?_⟩
    refine ⟨k, w, (34 : Int), rfl, hD, (by first | exact (zPO_fr hP (fun c j h => rfl)) | (clear hQ; grind [xu])), (by omega), (by omega), ?_⟩
    intro I3o p3hP2 p3bfr
    refine ⟨((5000 - (0 : Nat)), 0, 0), [some (zvr (k)), some (zvi (j_)), some (zvi (w_)), some (zvi ((0 : Nat))), none], ⟨rfl, (congrArg (fun z => some (zvi z)) (by omega)), (congrArg (fun z => some (zvi z)) (by omega)), rfl, rfl⟩, 0, rfl, rfl, rfl, rfl, rfl, rfl, (by omega), (by show zPO k (w ++ [34] ++ []) _; rw [List.append_nil]; exact p3hP2), (fun c j h0 h1 => ((p3bfr c j h0 h1).trans rfl))⟩
  · rintro nM lsM stM I1 L1 R1 S1 hz1 ⟨i, rfl, rfl, rfl, rfl, rfl, rfl, hi, hP1, fr⟩
    have li := l6 i
    have l2i := l2 i
    refine And.intro (zDX hD 0 rfl) (zrdR (v := some (k + 5)) (zDR hD 4 rfl) ?_)
    refine And.intro (zDP hD 5 rfl rfl (by omega) (by omega)) (fun v18 e18 r18 => ?_)
    have f18 : v18 = otl O j_ w_ := (e18.trans ((congrArg (I1 (k + 5)) (by omega)).trans ((fr (k + 5) (2 * j_ + w_) (by omega) (by omega)).trans l1)))
    refine And.intro ⟨(by omega), r18⟩ ⟨fun h19 => ?_, fun h19 => ?_⟩
    · refine And.intro (zDX hD 0 rfl) ⟨_, sn_V_say.up (by decide), ?_⟩
      refine ⟨k, (w ++ [34] ++ wBd (otc O j_ w_) i), (34 : Int), rfl, hD, hP1, (by simp only [List.length_append, List.length_cons, List.length_nil]; have z := wBd_l (g := otc O j_ w_) (m := i); omega), (by omega), ?_⟩
      intro I75o p75hP2 p75bfr
      refine hQ _ ?_ (fun c j h0 h1 => ((p75bfr c j h0 h1).trans ((fr c j h0 h1).trans rfl)))
      · have e : i = otl O j_ w_ := by omega
        rw [← e]
        unfold wQt
        rw [← List.append_assoc, ← List.append_assoc]
        exact p75hP2
    · refine And.intro (zDX hD 0 rfl) (zrdR (v := some (k + 6)) (zDR hD 5 rfl) ?_)
      refine And.intro (zDP hD 6 rfl rfl (by omega) (by omega)) (fun v37 e37 r37 => ?_)
      have f37 : v37 = otc O j_ w_ i := (e37.trans ((congrArg (I1 (k + 6)) (by omega)).trans ((fr (k + 6) (80 * j_ + 40 * w_ + i) (by omega) (by omega)).trans (l2i (by omega)))))
      have f37b : 0 ≤ v37 ∧ v37 ≤ 126 := (by have z := li (by omega); omega)
      refine And.intro ⟨r37, (zRb rfl)⟩ ⟨fun h44 => ?_, fun h44 => ?_⟩
      · refine And.intro (zDX hD 0 rfl) ⟨_, sn_V_say.up (by decide), ?_⟩
        refine ⟨k, (w ++ [34] ++ wBd (otc O j_ w_) i), (92 : Int), rfl, hD, hP1, (by simp only [List.length_append, List.length_cons, List.length_nil]; have z := wBd_l (g := otc O j_ w_) (m := i); omega), (by omega), ?_⟩
        intro I57o p57hP2 p57bfr
        refine And.intro (zDX hD 0 rfl) ⟨_, sn_V_say.up (by decide), ?_⟩
        refine ⟨k, ((w ++ [34] ++ wBd (otc O j_ w_) i) ++ [92]), (v37 : Int), rfl, hD, (by first | exact p57hP2 | exact hP1), (by simp only [List.length_append, List.length_cons, List.length_nil]; have z := wBd_l (g := otc O j_ w_) (m := i); omega), (by omega), ?_⟩
        intro I63o p63hP2 p63bfr
        refine ⟨((5000 - (i + 1)), 0, 0), zlt6 (by omega), [some (zvr (k)), some (zvi (j_)), some (zvi (w_)), some (zvi ((i + 1))), none], ⟨rfl, rfl, rfl, rfl, rfl⟩, (i + 1), rfl, rfl, rfl, rfl, rfl, rfl, (by omega), ?_, (fun c j h0 h1 => ((p63bfr c j h0 h1).trans ((p57bfr c j h0 h1).trans ((fr c j h0 h1).trans rfl))))⟩
        · show zPO k (w ++ [34] ++ (wBd (otc O j_ w_) i ++ (if otc O j_ w_ i = 34 ∨ otc O j_ w_ i = 92 then [92, otc O j_ w_ i] else [otc O j_ w_ i]))) _
          first
          | (rw [if_pos (by omega), ← List.append_assoc, ← wA1, ← f37]
             exact p63hP2)
          | (rw [if_neg (by omega), ← List.append_assoc, ← f37]
             exact p63hP2)
      · refine And.intro ⟨r37, (zRb rfl)⟩ ⟨fun h51 => ?_, fun h51 => ?_⟩
        · refine And.intro (zDX hD 0 rfl) ⟨_, sn_V_say.up (by decide), ?_⟩
          refine ⟨k, (w ++ [34] ++ wBd (otc O j_ w_) i), (v37 : Int), rfl, hD, (by first | exact p57hP2 | exact hP1), (by simp only [List.length_append, List.length_cons, List.length_nil]; have z := wBd_l (g := otc O j_ w_) (m := i); omega), (by omega), ?_⟩
          intro I63o p63hP2 p63bfr
          refine ⟨((5000 - (i + 1)), 0, 0), zlt6 (by omega), [some (zvr (k)), some (zvi (j_)), some (zvi (w_)), some (zvi ((i + 1))), none], ⟨rfl, rfl, rfl, rfl, rfl⟩, (i + 1), rfl, rfl, rfl, rfl, rfl, rfl, (by omega), ?_, (fun c j h0 h1 => ((p63bfr c j h0 h1).trans ((fr c j h0 h1).trans rfl)))⟩
          · show zPO k (w ++ [34] ++ (wBd (otc O j_ w_) i ++ (if otc O j_ w_ i = 34 ∨ otc O j_ w_ i = 92 then [92, otc O j_ w_ i] else [otc O j_ w_ i]))) _
            first
            | (rw [if_pos (by omega), ← List.append_assoc, ← wA1, ← f37]
               exact p63hP2)
            | (rw [if_neg (by omega), ← List.append_assoc, ← f37]
               exact p63hP2)
        · refine And.intro (zDX hD 0 rfl) ⟨_, sn_V_say.up (by decide), ?_⟩
          refine ⟨k, (w ++ [34] ++ wBd (otc O j_ w_) i), (92 : Int), rfl, hD, hP1, (by simp only [List.length_append, List.length_cons, List.length_nil]; have z := wBd_l (g := otc O j_ w_) (m := i); omega), (by omega), ?_⟩
          intro I57o p57hP2 p57bfr
          refine And.intro (zDX hD 0 rfl) ⟨_, sn_V_say.up (by decide), ?_⟩
          refine ⟨k, ((w ++ [34] ++ wBd (otc O j_ w_) i) ++ [92]), (v37 : Int), rfl, hD, (by first | exact p57hP2 | exact hP1), (by simp only [List.length_append, List.length_cons, List.length_nil]; have z := wBd_l (g := otc O j_ w_) (m := i); omega), (by omega), ?_⟩
          intro I63o p63hP2 p63bfr
          refine ⟨((5000 - (i + 1)), 0, 0), zlt6 (by omega), [some (zvr (k)), some (zvi (j_)), some (zvi (w_)), some (zvi ((i + 1))), none], ⟨rfl, rfl, rfl, rfl, rfl⟩, (i + 1), rfl, rfl, rfl, rfl, rfl, rfl, (by omega), ?_, (fun c j h0 h1 => ((p63bfr c j h0 h1).trans ((p57bfr c j h0 h1).trans ((fr c j h0 h1).trans rfl))))⟩
          · show zPO k (w ++ [34] ++ (wBd (otc O j_ w_) i ++ (if otc O j_ w_ i = 34 ∨ otc O j_ w_ i = 92 then [92, otc O j_ w_ i] else [otc O j_ w_ i]))) _
            first
            | (rw [if_pos (by omega), ← List.append_assoc, ← wA1, ← f37]
               exact p63hP2)
            | (rw [if_neg (by omega), ← List.append_assoc, ← f37]
               exact p63hP2))
def T_V_shd : ZT := fun args I L R S Q => ∃ (k : Nat) (w : List Int) (t : Int) (t_ : Nat) (fm : Int), args = [zvr k, zvi t] ∧ (zDy zT20 zF20 k R S) ∧ (zPO k w I) ∧ (t = t_ ∧ t_ ≤ 1000) ∧ (w.length + t_ ≤ 109000) ∧ (I k 1 = fm) ∧ (0 ≤ fm ∧ fm ≤ 1) ∧ ∀ (I' : ZI), (zPO k (w ++ wTm (if fm = 0 then 32 else 46) t_) I') → (∀ c j : Nat, ¬ (c = k ∧ j = 26) → ¬ c = k + 12 → I' c j = I c j) → Q none I' L R S
theorem sn_V_shd : ZSnd 2 20 42 T_V_shd := ZSnd.loops (zT20_42 1) (by
  rintro args I L R S Q hz ⟨k, w, t, t_, fm, rfl, hD, hP, ht, hl, hfm, hfm2, hQ⟩
  have hk40 := hD.1
  refine ⟨[2], fun nM tM lsM stM I1 L1 R1 S1 => match tM with
      | 2 => ∃ (i : Nat), nM = ((2000 - i), 0, 0) ∧ lsM = [some (zvr (k)), some (zvi (t_)), some (zvi (i))] ∧ stM = [] ∧ L1 = L ∧ R1 = R ∧ S1 = S ∧ (i ≤ t_) ∧ (zPO k (w ++ wTm (if fm = 0 then 32 else 46) i) I1) ∧ (∀ c j : Nat, ¬ (c = k ∧ j = 26) → ¬ c = k + 12 → I1 c j = I c j)
      | _ => False, rfl, ?_, ⟨?_, True.intro⟩⟩
  · refine ⟨((2000 - (0 : Nat)), 0, 0), [some (zvr (k)), some (zvi (t_)), some (zvi ((0 : Nat)))], ⟨rfl, (congrArg (fun z => some (zvi z)) (by omega)), rfl, rfl⟩, 0, rfl, rfl, rfl, rfl, rfl, rfl, (by omega), (by show zPO k (w ++ []) I; rw [List.append_nil]; exact hP), (fun c j h0 h1 => rfl)⟩
  · rintro nM lsM stM I1 L1 R1 S1 hz1 ⟨i, rfl, rfl, rfl, rfl, rfl, rfl, hi, hP1, fr⟩
    refine And.intro ⟨(by omega), (by omega)⟩ ⟨fun h4 => ?_, fun h4 => ?_⟩
    · refine hQ _ (by have e : i = t_ := (by omega); rw [← e]; exact hP1) (fun c j h0 h1 => ((fr c j h0 h1).trans rfl))
    · refine And.intro (zDX hD 0 rfl) (zrd (v := fm) ((fr k 1 (by omega) (by omega)).trans hfm) ?_)
      refine And.intro (by omega) ⟨fun h12 => ?_, fun h12 => ?_⟩
      · refine And.intro (zDX hD 0 rfl) ⟨_, sn_V_say.up (by decide), ?_⟩
        refine ⟨k, (w ++ wTm (if fm = 0 then 32 else 46) i), (46 : Int), rfl, hD, hP1, (by rw [List.length_append, wTm_l]; omega), (by omega), ?_⟩
        intro I22o p22hP2 p22bfr
        refine ⟨((2000 - (i + 1)), 0, 0), zlt6 (by omega), [some (zvr (k)), some (zvi (t_)), some (zvi ((i + 1)))], ⟨rfl, rfl, rfl, rfl⟩, (i + 1), rfl, rfl, rfl, rfl, rfl, rfl, (by omega), ?_, (fun c j h0 h1 => ((p22bfr c j h0 h1).trans ((fr c j h0 h1).trans rfl)))⟩
        · show zPO k (w ++ (wTm (if fm = 0 then 32 else 46) i ++ [if fm = 0 then 32 else 46])) _
          rw [← List.append_assoc]
          first
          | (have e : (if fm = 0 then 32 else 46 : Int) = 32 := if_pos (by omega)
             rw [e] at p22hP2 ⊢
             exact p22hP2)
          | (have e : (if fm = 0 then 32 else 46 : Int) = 46 := if_neg (by omega)
             rw [e] at p22hP2 ⊢
             exact p22hP2)
      · refine And.intro (zDX hD 0 rfl) ⟨_, sn_V_say.up (by decide), ?_⟩
        refine ⟨k, (w ++ wTm (if fm = 0 then 32 else 46) i), (32 : Int), rfl, hD, hP1, (by rw [List.length_append, wTm_l]; omega), (by omega), ?_⟩
        intro I22o p22hP2 p22bfr
        refine ⟨((2000 - (i + 1)), 0, 0), zlt6 (by omega), [some (zvr (k)), some (zvi (t_)), some (zvi ((i + 1)))], ⟨rfl, rfl, rfl, rfl⟩, (i + 1), rfl, rfl, rfl, rfl, rfl, rfl, (by omega), ?_, (fun c j h0 h1 => ((p22bfr c j h0 h1).trans ((fr c j h0 h1).trans rfl)))⟩
        · show zPO k (w ++ (wTm (if fm = 0 then 32 else 46) i ++ [if fm = 0 then 32 else 46])) _
          rw [← List.append_assoc]
          first
          | (have e : (if fm = 0 then 32 else 46 : Int) = 32 := if_pos (by omega)
             rw [e] at p22hP2 ⊢
             exact p22hP2)
          | (have e : (if fm = 0 then 32 else 46 : Int) = 46 := if_neg (by omega)
             rw [e] at p22hP2 ⊢
             exact p22hP2))
def T_V_chf : ZT := fun args I L R S Q => ∃ (k : Nat) (O : OoS) (a : Int) (f : Int) (f_ : Nat), args = [zvr k, zvi a, zvi f] ∧ (zDy zT20 zF20 k R S) ∧ (zOM k O I L) ∧ (oGd O) ∧ (f = f_ ∧ f_ ≤ ocn O) ∧ (-1 ≤ a ∧ a ≤ 199) ∧ ∀ (v : Int), ((v = -1 ∧ ∀ i, f_ ≤ i → i < ocn O → opa O i ≠ a) ∨ (f_ ≤ v ∧ v < ocn O ∧ opa O v.toNat = a ∧ ∀ i : Nat, f_ ≤ i → (i : Int) < v → opa O i ≠ a)) → (-1 ≤ v ∧ v ≤ 199) → Q (some (zvi (v))) I L R S
theorem sn_V_chf : ZSnd 1 20 5 T_V_chf := ZSnd.loops (zT20_5 0) (by
  rintro args I L R S Q hz ⟨k, O, a, f, f_, rfl, hD, hO, hG, hf, ha, hQ⟩
  have hk40 := hD.1
  obtain ⟨o1, o2, o3, o4⟩ := id hO
  obtain ⟨g1, g2, g3, g4, g5⟩ := id hG
  refine ⟨[2], fun nM tM lsM stM I1 L1 R1 S1 => match tM with
      | 2 => ∃ (i : Nat), nM = ((300 - i), 0, 0) ∧ lsM = [some (zvr (k)), some (zvi (a)), none, some (zvi (i))] ∧ stM = [] ∧ I1 = I ∧ L1 = L ∧ R1 = R ∧ S1 = S ∧ (f_ ≤ i ∧ i ≤ ocn O) ∧ (∀ t, f_ ≤ t → t < i → opa O t ≠ a)
      | _ => False, rfl, ?_, ⟨?_, True.intro⟩⟩
  · refine ⟨((300 - f_), 0, 0), [some (zvr (k)), some (zvi (a)), none, some (zvi (f_))], ⟨rfl, rfl, (congrArg (fun z => some (zvi z)) (by omega)), rfl⟩, f_, rfl, rfl, rfl, rfl, rfl, rfl, rfl, (by omega), (fun t h1 h2 => by omega)⟩
  · rintro nM lsM stM I1 L1 R1 S1 hz1 ⟨i, rfl, rfl, rfl, rfl, rfl, rfl, rfl, hi, hno⟩
    have pi := fun h => (o2 i h).2
    refine And.intro (zDX hD 0 rfl) (zrd (v := (ocn O)) o1 ?_)
    refine And.intro ⟨(by omega), (by omega)⟩ ⟨fun h7 => ?_, fun h7 => ?_⟩
    · refine hQ _ ?_ (by omega)
      · first
        | (refine Or.inr ⟨by omega, by omega, ?_, fun t h1 h2 => hno t h1 (by omega)⟩
           show opa O i = a
           omega)
        | exact Or.inl ⟨rfl, fun t h1 h2 => hno t h1 (by omega)⟩
    · refine And.intro (zDX hD 0 rfl) (zrdR (v := some (k + 3)) (zDR hD 2 rfl) ?_)
      refine And.intro (zDP hD 3 rfl rfl (by omega) (by omega)) (fun v15 e15 r15 => ?_)
      have f15 : v15 = opa O i := (e15.trans ((congrArg (I1 (k + 3)) (by omega)).trans (pi (by omega))))
      refine And.intro ⟨r15, (by omega)⟩ ⟨fun h17 => ?_, fun h17 => ?_⟩
      · refine ⟨((300 - (i + 1)), 0, 0), zlt6 (by omega), [some (zvr (k)), some (zvi (a)), none, some (zvi ((i + 1)))], ⟨rfl, rfl, rfl, rfl⟩, (i + 1), rfl, rfl, rfl, rfl, rfl, rfl, rfl, (by omega), ?_⟩
        · intro t h1 h2
          by_cases e : t = i
          · rw [e]
            omega
          · exact hno t h1 (by omega)
      · refine hQ _ ?_ (by omega)
        · first
          | (refine Or.inr ⟨by omega, by omega, ?_, fun t h1 h2 => hno t h1 (by omega)⟩
             show opa O i = a
             omega)
          | exact Or.inl ⟨rfl, fun t h1 h2 => hno t h1 (by omega)⟩)
def T_V_unt : ZT := fun args I L R S Q => ∃ (k : Nat) (c : Nat → Int) (n : Nat) (u : Int), args = [zvr k, zvi u] ∧ (zDy zT20 zF20 k R S) ∧ (zRM k c n I) ∧ (n ≤ 4000) ∧ (r32 u) ∧ ∀ (v : Int) (I' : ZI), (((u = 10 ∨ (32 ≤ u ∧ u ≤ 126)) ∧ n < 4000 ∧ v = 1 ∧ zRM k (upF c n u) (n + 1) I') ∨ (¬ ((u = 10 ∨ (32 ≤ u ∧ u ≤ 126)) ∧ n < 4000) ∧ v = 0 ∧ zRM k c n I')) → (∀ c j : Nat, ¬ (c = k ∧ j = 0) → ¬ (c = k ∧ j = 3) → ¬ (c = k + 1 ∧ j = n) → I' c j = I c j) → Q (some (zvi (v))) I' L R S
theorem sn_V_unt : ZSnd 1 20 52 T_V_unt := ZSnd.of (zT20_52 0) (by
  rintro args I L R S Q hz ⟨k, c, n, u, rfl, hD, hX, hn, hu, hQ⟩
  have hk40 := hD.1
  obtain ⟨x1, x2⟩ := id hX
  refine And.intro rfl ?_
  refine And.intro (zDX hD 0 rfl) ⟨_, (zWi (zRb rfl)), ?_⟩
  refine And.intro ⟨(by omega), (zRb rfl)⟩ ⟨fun h8 => ?_, fun h8 => ?_⟩
  · refine And.intro ⟨(by omega), (zRb rfl)⟩ ⟨fun h20 => ?_, fun h20 => ?_⟩
    · refine And.intro (zRb rfl) (zbt rfl ?_)
      refine And.intro (Or.inl rfl) ?_
      refine hQ _ _ ?_ (fun c j h0 h1 h2 => (zxcj h0 rfl))
      · first
        | exact Or.inr ⟨fun w => by omega, rfl, zRM_fr hX (fun x j h => zxcj (by omega) rfl)⟩
        | exact Or.inl ⟨by omega, by omega, rfl, zxe.trans (show _ = ((n + 1 : Nat) : Int) by omega), fun p hp => by
            by_cases e : p = n
            · rw [e, upF_at]
              exact zxu (by omega) (zxe' (by omega))
            · rw [upF_ne e]
              exact zxu (by omega) (zxs (by omega) (zxu (by omega) (x2 p (by omega))))⟩
    · refine And.intro (zRb rfl) (zbf rfl ?_)
      refine And.intro (zDX hD 0 rfl) (zrd (v := n) (zxs (by decide) x1) ?_)
      refine And.intro ⟨(by omega), (zRb rfl)⟩ ⟨fun h40 => ?_, fun h40 => ?_⟩
      · refine And.intro (zDX hD 0 rfl) (zrdR (v := some (k + 1)) (zDR hD 0 rfl) ?_)
        refine And.intro (zDX hD 0 rfl) (zrd (v := n) (zxs (by decide) x1) ?_)
        refine And.intro ⟨(by show 40 ≤ _; omega), (zDP hD 1 rfl rfl (by omega) (by omega))⟩ ⟨_, (zWi (by omega)), ?_⟩
        refine And.intro (zDX hD 0 rfl) (zrd (v := n) (zxu (by omega) (zxs (by decide) x1)) ?_)
        refine And.intro (zDX hD 0 rfl) ⟨_, (zWi (by omega)), ?_⟩
        refine And.intro (Or.inr rfl) ?_
        refine hQ _ _ ?_ (fun c j h0 h1 h2 => (zxcj h1 (zxcj (by omega) (zxcj h0 rfl))))
        · first
          | exact Or.inr ⟨fun w => by omega, rfl, zRM_fr hX (fun x j h => zxcj (by omega) rfl)⟩
          | exact Or.inl ⟨by omega, by omega, rfl, zxe.trans (show _ = ((n + 1 : Nat) : Int) by omega), fun p hp => by
              by_cases e : p = n
              · rw [e, upF_at]
                exact zxu (by omega) (zxe' (by omega))
              · rw [upF_ne e]
                exact zxu (by omega) (zxs (by omega) (zxu (by omega) (x2 p (by omega))))⟩
      · refine And.intro (Or.inl rfl) ?_
        refine hQ _ _ ?_ (fun c j h0 h1 h2 => (zxcj h0 rfl))
        · first
          | exact Or.inr ⟨fun w => by omega, rfl, zRM_fr hX (fun x j h => zxcj (by omega) rfl)⟩
          | exact Or.inl ⟨by omega, by omega, rfl, zxe.trans (show _ = ((n + 1 : Nat) : Int) by omega), fun p hp => by
              by_cases e : p = n
              · rw [e, upF_at]
                exact zxu (by omega) (zxe' (by omega))
              · rw [upF_ne e]
                exact zxu (by omega) (zxs (by omega) (zxu (by omega) (x2 p (by omega))))⟩
  · refine And.intro ⟨(by omega), (zRb rfl)⟩ ⟨fun h14 => ?_, fun h14 => ?_⟩
    · refine And.intro (zRb rfl) (zbf rfl ?_)
      refine And.intro (zDX hD 0 rfl) (zrd (v := n) (zxs (by decide) x1) ?_)
      refine And.intro ⟨(by omega), (zRb rfl)⟩ ⟨fun h40 => ?_, fun h40 => ?_⟩
      · refine And.intro (zDX hD 0 rfl) (zrdR (v := some (k + 1)) (zDR hD 0 rfl) ?_)
        refine And.intro (zDX hD 0 rfl) (zrd (v := n) (zxs (by decide) x1) ?_)
        refine And.intro ⟨(by show 40 ≤ _; omega), (zDP hD 1 rfl rfl (by omega) (by omega))⟩ ⟨_, (zWi (by omega)), ?_⟩
        refine And.intro (zDX hD 0 rfl) (zrd (v := n) (zxu (by omega) (zxs (by decide) x1)) ?_)
        refine And.intro (zDX hD 0 rfl) ⟨_, (zWi (by omega)), ?_⟩
        refine And.intro (Or.inr rfl) ?_
        refine hQ _ _ ?_ (fun c j h0 h1 h2 => (zxcj h1 (zxcj (by omega) (zxcj h0 rfl))))
        · first
          | exact Or.inr ⟨fun w => by omega, rfl, zRM_fr hX (fun x j h => zxcj (by omega) rfl)⟩
          | exact Or.inl ⟨by omega, by omega, rfl, zxe.trans (show _ = ((n + 1 : Nat) : Int) by omega), fun p hp => by
              by_cases e : p = n
              · rw [e, upF_at]
                exact zxu (by omega) (zxe' (by omega))
              · rw [upF_ne e]
                exact zxu (by omega) (zxs (by omega) (zxu (by omega) (x2 p (by omega))))⟩
      · refine And.intro (Or.inl rfl) ?_
        refine hQ _ _ ?_ (fun c j h0 h1 h2 => (zxcj h0 rfl))
        · first
          | exact Or.inr ⟨fun w => by omega, rfl, zRM_fr hX (fun x j h => zxcj (by omega) rfl)⟩
          | exact Or.inl ⟨by omega, by omega, rfl, zxe.trans (show _ = ((n + 1 : Nat) : Int) by omega), fun p hp => by
              by_cases e : p = n
              · rw [e, upF_at]
                exact zxu (by omega) (zxe' (by omega))
              · rw [upF_ne e]
                exact zxu (by omega) (zxs (by omega) (zxu (by omega) (x2 p (by omega))))⟩
    · refine And.intro ⟨(by omega), (zRb rfl)⟩ ⟨fun h20 => ?_, (fun h20 => False.elim (by omega))⟩
      refine And.intro (zRb rfl) (zbt rfl ?_)
      refine And.intro (Or.inl rfl) ?_
      refine hQ _ _ ?_ (fun c j h0 h1 h2 => (zxcj h0 rfl))
      · first
        | exact Or.inr ⟨fun w => by omega, rfl, zRM_fr hX (fun x j h => zxcj (by omega) rfl)⟩
        | exact Or.inl ⟨by omega, by omega, rfl, zxe.trans (show _ = ((n + 1 : Nat) : Int) by omega), fun p hp => by
            by_cases e : p = n
            · rw [e, upF_at]
              exact zxu (by omega) (zxe' (by omega))
            · rw [upF_ne e]
              exact zxu (by omega) (zxs (by omega) (zxu (by omega) (x2 p (by omega))))⟩)
def T_V_clr : ZT := fun args I L R S Q => ∃ (k : Nat), args = [zvr k] ∧ (zDy zT20 zF20 k R S) ∧ ∀ (I' : ZI), (I' k 3 = 0) → (∀ c j : Nat, ¬ (c = k ∧ j = 0) → ¬ (c = k ∧ j = 3) → I' c j = I c j) → Q none I' L R S
theorem sn_V_clr : ZSnd 1 20 6 T_V_clr := ZSnd.of (zT20_6 0) (by
  rintro args I L R S Q hz ⟨k, rfl, hD, hQ⟩
  have hk40 := hD.1
  refine And.intro rfl ?_
  refine And.intro (zDX hD 0 rfl) ⟨_, (zWi (zRb rfl)), ?_⟩
  refine And.intro (zDX hD 0 rfl) ⟨_, (zWi (zRb rfl)), ?_⟩
  refine hQ _ zxe (fun c j h0 h1 => (zxcj h1 (zxcj h0 rfl))))
