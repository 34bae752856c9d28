/-! wj -/
def T_V_own8 : ZT := fun args I L R S Q => ∃ (k : Nat) (w : List Int) (O : OoS) (j : Int) (j_ : Nat) (a_ : Nat) (fm : Int), args = [zvr k, zvi j] ∧ (zDy zT20 zF20 k R S) ∧ (zPO k w I) ∧ (zOM k O I L) ∧ (oGd O) ∧ (oNg O) ∧ (zOU k O I) ∧ (j = j_ ∧ j_ < ocn O) ∧ (okd O j_ = a_) ∧ (a_ ≤ 8) ∧ (I k 1 = fm) ∧ (0 ≤ fm ∧ fm ≤ 1) ∧ (w.length + 600 ≤ 110000) ∧ ∀ (I' : ZI), (zPO k (w ++ (if fm = 0 then [40] else []) ++ wOb O j_ a_) I') → (∀ c j : Nat, ¬ (c = k ∧ j = 26) → ¬ c = k + 12 → I' c j = I c j) → Q none I' L R S
theorem sn_V_own8 : ZSnd 4 20 45 T_V_own8 := ZSnd.loops (zT20_45 3) (by
  rintro args I L R S Q hz ⟨k, w, O, j, j_, a_, fm, rfl, hD, hP, hO, hG, hN, hU, hj, ha, ha8, hfm, hfm2, hl, hQ⟩
  have hk40 := hD.1
  obtain ⟨o1, o2, o3, o4⟩ := id hO
  obtain ⟨g1, g2, g3, g4, g5⟩ := id hG
  have hkd := (o2 j_ (by omega)).1
  have hfn5 := (tFn_b a_ (by omega)).1
  have hl40 : ∀ w, w < 2 → otl O j_ w ≤ 40 := fun w hw => (g4 j_ w (by omega) hw).2 (by omega)
  have hnm := fun w h => g3 j_ w (by omega) h
  refine ⟨[98], fun nM tM lsM stM I1 L1 R1 S1 => match tM with
      | 98 => ∃ (i : Nat) (wd : Nat) (nd : Nat) (e : Nat), nM = ((6 - i), 0, 0) ∧ lsM = [some (zvr (k)), some (zvi (j_)), some (zvi (nd)), some (zvi (wd)), some (zvi (e)), none, none, none] ∧ stM = [] ∧ L1 = L ∧ R1 = R ∧ S1 = S ∧ (i ≤ tFn a_) ∧ (i ≤ 5) ∧ ((a_ = 0 ∧ e = 0 ∧ i = 1) ∨ (1 ≤ a_ ∧ e = i)) ∧ (wd = oCi a_ 1 i) ∧ (nd = oCi a_ 0 i) ∧ (wd ≤ 2 ∧ nd ≤ 5) ∧ (zPO k (w ++ (if fm = 0 then [40] else []) ++ wWd a_ (tsb a_).length ++ wFs O j_ a_ i) I1) ∧ (∀ c j : Nat, ¬ (c = k ∧ j = 26) → ¬ c = k + 12 → I1 c j = I c j)
      | _ => False, rfl, ?_, ⟨?_, True.intro⟩⟩
  · refine And.intro (zDX hD 0 rfl) (zrdR (v := some (k + 2)) (zDR hD 1 rfl) ?_)
    refine And.intro (zDP hD 2 rfl rfl (by omega) (by omega)) (fun v5 e5 r5 => ?_)
    have f5 : v5 = a_ := (e5.trans ((congrArg (I (k + 2)) (by omega)).trans (hkd.trans ha)))
    refine And.intro ⟨r5, (zRb rfl)⟩ ⟨fun h8 => ?_, (fun h8 => False.elim (by omega))⟩
    refine And.intro (zDX hD 0 rfl) (zrd (v := fm) hfm ?_)
    refine And.intro (by omega) ⟨fun h51 => ?_, fun h51 => ?_⟩
    · refine And.intro (zDX hD 0 rfl) (zrdR (v := some (k + 2)) (zDR hD 1 rfl) ?_)
      refine And.intro (zDP hD 2 rfl rfl (by omega) (by omega)) (fun v66 e66 r66 => ?_)
      have f66 : v66 = a_ := (by first | exact e66.trans ((p57bfr (k + 2) _ (by omega) (by omega)).trans ((congrArg (I (k + 2)) (by omega)).trans (hkd.trans ha))) | exact e66.trans ((congrArg (I (k + 2)) (by omega)).trans (hkd.trans ha)))
      refine And.intro (zDX hD 0 rfl) ⟨_, sn_V_snm.up (by decide), ?_⟩
      refine ⟨k, (w ++ (if fm = 0 then [40] else [])), (v66 : Int), a_, rfl, hD, (by first | (rw [if_pos (by omega)]; exact p57hP2) | (rw [if_neg (by omega), List.append_nil]; exact hP)), (by first | omega | (have z3 := wHd_l (fm := fm); have z2 := wWd_b (a := a_) (by omega); simp only [List.length_append, List.length_cons, List.length_nil]; omega)), (by omega), ?_⟩
      intro I67o p67hP2 p67bfr
      refine And.intro (zDX hD 0 rfl) (zrdR (v := some (k + 2)) (zDR hD 1 rfl) ?_)
      refine And.intro (zDP hD 2 rfl rfl (by omega) (by omega)) (fun v75 e75 r75 => ?_)
      have f75 : v75 = a_ := (by first | exact e75.trans ((p67bfr (k + 2) _ (by omega) (by omega)).trans ((p57bfr (k + 2) _ (by omega) (by omega)).trans ((congrArg (I (k + 2)) (by omega)).trans (hkd.trans ha)))) | exact e75.trans ((p67bfr (k + 2) _ (by omega) (by omega)).trans ((congrArg (I (k + 2)) (by omega)).trans (hkd.trans ha))))
      refine And.intro r75 ⟨fun h76 => ?_, fun h76 => ?_⟩
      · refine ⟨((6 - (0 : Nat)), 0, 0), [some (zvr (k)), some (zvi (j_)), some (zvi ((0 : Nat))), some (zvi ((0 : Nat))), some (zvi ((0 : Nat))), none, none, none], ⟨rfl, (congrArg (fun z => some (zvi z)) (by omega)), rfl, rfl, rfl, rfl⟩, 0, 0, 0, 0, rfl, rfl, rfl, rfl, rfl, rfl, (by first | omega | (have e0 : a_ = 0 := (by omega); subst e0; exact Nat.le_refl 1)), (by omega), (by clear hQ; grind [xu]), (by first | rfl | (have e0 : a_ = 0 := (by omega); subst e0; rfl)), (by first | rfl | (have e0 : a_ = 0 := (by omega); subst e0; rfl)), (by omega), ?_, (fun c j h0 h1 => ((p67bfr c j h0 h1).trans rfl))⟩
        · first
          | (have e0 : a_ = 0 := by omega
             subst e0
             show zPO k (w ++ (if fm = 0 then [40] else []) ++ wWd 0 (tsb 0).length ++ ([] ++ ([32] ++ [51]))) _
             simpa only [List.append_assoc, List.nil_append, List.cons_append] using p88hP2)
          | (show zPO k (w ++ (if fm = 0 then [40] else []) ++ wWd a_ (tsb a_).length ++ []) _
             rw [List.append_nil]
             exact p67hP2)
      · refine And.intro (zDX hD 0 rfl) ⟨_, sn_V_say.up (by decide), ?_⟩
        refine ⟨k, (w ++ (if fm = 0 then [40] else []) ++ wWd a_ (tsb a_).length), (32 : Int), rfl, hD, p67hP2, (by first | omega | (have z3 := wHd_l (fm := fm); have z2 := wWd_b (a := a_) (by omega); simp only [List.length_append, List.length_cons, List.length_nil]; omega)), (by omega), ?_⟩
        intro I82o p82hP2 p82bfr
        refine And.intro (zDX hD 0 rfl) ⟨_, sn_V_say.up (by decide), ?_⟩
        refine ⟨k, (w ++ (if fm = 0 then [40] else []) ++ wWd a_ (tsb a_).length ++ [32]), (51 : Int), rfl, hD, p82hP2, (by first | omega | (have z3 := wHd_l (fm := fm); have z2 := wWd_b (a := a_) (by omega); simp only [List.length_append, List.length_cons, List.length_nil]; omega)), (by omega), ?_⟩
        intro I88o p88hP2 p88bfr
        refine ⟨((6 - (1 : Nat)), 0, 0), [some (zvr (k)), some (zvi (j_)), some (zvi ((0 : Nat))), some (zvi ((0 : Nat))), some (zvi ((0 : Nat))), none, none, none], ⟨rfl, (congrArg (fun z => some (zvi z)) (by omega)), rfl, rfl, rfl, rfl⟩, 1, 0, 0, 0, rfl, rfl, rfl, rfl, rfl, rfl, (by first | omega | (have e0 : a_ = 0 := (by omega); subst e0; exact Nat.le_refl 1)), (by omega), (by clear hQ; grind [xu]), (by first | rfl | (have e0 : a_ = 0 := (by omega); subst e0; rfl)), (by first | rfl | (have e0 : a_ = 0 := (by omega); subst e0; rfl)), (by omega), ?_, (fun c j h0 h1 => ((p88bfr c j h0 h1).trans ((p82bfr c j h0 h1).trans ((p67bfr c j h0 h1).trans rfl))))⟩
        · first
          | (have e0 : a_ = 0 := by omega
             subst e0
             show zPO k (w ++ (if fm = 0 then [40] else []) ++ wWd 0 (tsb 0).length ++ ([] ++ ([32] ++ [51]))) _
             simpa only [List.append_assoc, List.nil_append, List.cons_append] using p88hP2)
          | (show zPO k (w ++ (if fm = 0 then [40] else []) ++ wWd a_ (tsb a_).length ++ []) _
             rw [List.append_nil]
             exact p67hP2)
    · refine And.intro (zDX hD 0 rfl) ⟨_, sn_V_say.up (by decide), ?_⟩
      refine ⟨k, w, (40 : Int), rfl, hD, (by first | exact (zPO_fr hP (fun c j h => rfl)) | (clear hQ; grind [xu])), (by first | omega | (have z3 := wHd_l (fm := fm); have z2 := wWd_b (a := a_) (by omega); simp only [List.length_append, List.length_cons, List.length_nil]; omega)), (by omega), ?_⟩
      intro I57o p57hP2 p57bfr
      refine And.intro (zDX hD 0 rfl) (zrdR (v := some (k + 2)) (zDR hD 1 rfl) ?_)
      refine And.intro (zDP hD 2 rfl rfl (by omega) (by omega)) (fun v66 e66 r66 => ?_)
      have f66 : v66 = a_ := (by first | exact e66.trans ((p57bfr (k + 2) _ (by omega) (by omega)).trans ((congrArg (I (k + 2)) (by omega)).trans (hkd.trans ha))) | exact e66.trans ((congrArg (I (k + 2)) (by omega)).trans (hkd.trans ha)))
      refine And.intro (zDX hD 0 rfl) ⟨_, sn_V_snm.up (by decide), ?_⟩
      refine ⟨k, (w ++ (if fm = 0 then [40] else [])), (v66 : Int), a_, rfl, hD, (by first | (rw [if_pos (by omega)]; exact p57hP2) | (rw [if_neg (by omega), List.append_nil]; exact hP)), (by first | omega | (have z3 := wHd_l (fm := fm); have z2 := wWd_b (a := a_) (by omega); simp only [List.length_append, List.length_cons, List.length_nil]; omega)), (by omega), ?_⟩
      intro I67o p67hP2 p67bfr
      refine And.intro (zDX hD 0 rfl) (zrdR (v := some (k + 2)) (zDR hD 1 rfl) ?_)
      refine And.intro (zDP hD 2 rfl rfl (by omega) (by omega)) (fun v75 e75 r75 => ?_)
      have f75 : v75 = a_ := (by first | exact e75.trans ((p67bfr (k + 2) _ (by omega) (by omega)).trans ((p57bfr (k + 2) _ (by omega) (by omega)).trans ((congrArg (I (k + 2)) (by omega)).trans (hkd.trans ha)))) | exact e75.trans ((p67bfr (k + 2) _ (by omega) (by omega)).trans ((congrArg (I (k + 2)) (by omega)).trans (hkd.trans ha))))
      refine And.intro r75 ⟨fun h76 => ?_, fun h76 => ?_⟩
      · refine ⟨((6 - (0 : Nat)), 0, 0), [some (zvr (k)), some (zvi (j_)), some (zvi ((0 : Nat))), some (zvi ((0 : Nat))), some (zvi ((0 : Nat))), none, none, none], ⟨rfl, (congrArg (fun z => some (zvi z)) (by omega)), rfl, rfl, rfl, rfl⟩, 0, 0, 0, 0, rfl, rfl, rfl, rfl, rfl, rfl, (by first | omega | (have e0 : a_ = 0 := (by omega); subst e0; exact Nat.le_refl 1)), (by omega), (by clear hQ; grind [xu]), (by first | rfl | (have e0 : a_ = 0 := (by omega); subst e0; rfl)), (by first | rfl | (have e0 : a_ = 0 := (by omega); subst e0; rfl)), (by omega), ?_, (fun c j h0 h1 => ((p67bfr c j h0 h1).trans ((p57bfr c j h0 h1).trans rfl)))⟩
        · first
          | (have e0 : a_ = 0 := by omega
             subst e0
             show zPO k (w ++ (if fm = 0 then [40] else []) ++ wWd 0 (tsb 0).length ++ ([] ++ ([32] ++ [51]))) _
             simpa only [List.append_assoc, List.nil_append, List.cons_append] using p88hP2)
          | (show zPO k (w ++ (if fm = 0 then [40] else []) ++ wWd a_ (tsb a_).length ++ []) _
             rw [List.append_nil]
             exact p67hP2)
      · refine And.intro (zDX hD 0 rfl) ⟨_, sn_V_say.up (by decide), ?_⟩
        refine ⟨k, (w ++ (if fm = 0 then [40] else []) ++ wWd a_ (tsb a_).length), (32 : Int), rfl, hD, p67hP2, (by first | omega | (have z3 := wHd_l (fm := fm); have z2 := wWd_b (a := a_) (by omega); simp only [List.length_append, List.length_cons, List.length_nil]; omega)), (by omega), ?_⟩
        intro I82o p82hP2 p82bfr
        refine And.intro (zDX hD 0 rfl) ⟨_, sn_V_say.up (by decide), ?_⟩
        refine ⟨k, (w ++ (if fm = 0 then [40] else []) ++ wWd a_ (tsb a_).length ++ [32]), (51 : Int), rfl, hD, p82hP2, (by first | omega | (have z3 := wHd_l (fm := fm); have z2 := wWd_b (a := a_) (by omega); simp only [List.length_append, List.length_cons, List.length_nil]; omega)), (by omega), ?_⟩
        intro I88o p88hP2 p88bfr
        refine ⟨((6 - (1 : Nat)), 0, 0), [some (zvr (k)), some (zvi (j_)), some (zvi ((0 : Nat))), some (zvi ((0 : Nat))), some (zvi ((0 : Nat))), none, none, none], ⟨rfl, (congrArg (fun z => some (zvi z)) (by omega)), rfl, rfl, rfl, rfl⟩, 1, 0, 0, 0, rfl, rfl, rfl, rfl, rfl, rfl, (by first | omega | (have e0 : a_ = 0 := (by omega); subst e0; exact Nat.le_refl 1)), (by omega), (by clear hQ; grind [xu]), (by first | rfl | (have e0 : a_ = 0 := (by omega); subst e0; rfl)), (by first | rfl | (have e0 : a_ = 0 := (by omega); subst e0; rfl)), (by omega), ?_, (fun c j h0 h1 => ((p88bfr c j h0 h1).trans ((p82bfr c j h0 h1).trans ((p67bfr c j h0 h1).trans ((p57bfr c j h0 h1).trans rfl)))))⟩
        · first
          | (have e0 : a_ = 0 := by omega
             subst e0
             show zPO k (w ++ (if fm = 0 then [40] else []) ++ wWd 0 (tsb 0).length ++ ([] ++ ([32] ++ [51]))) _
             simpa only [List.append_assoc, List.nil_append, List.cons_append] using p88hP2)
          | (show zPO k (w ++ (if fm = 0 then [40] else []) ++ wWd a_ (tsb a_).length ++ []) _
             rw [List.append_nil]
             exact p67hP2)
  · rintro nM lsM stM I1 L1 R1 S1 hz1 ⟨i, wd, nd, e, rfl, rfl, rfl, rfl, rfl, rfl, hi, hi5, he, hwd, hnd, hb, hP1, fr⟩
    have os := fun (_ : Unit) (h : i < tFn a_) => tNc_s a_ (by omega) i (by omega)
    have ofo := fun (_ : Unit) (h : i < tFn a_) (h1 : 1 ≤ a_) => tFc_o a_ (by omega) h1 i h
    have ofn := fun (_ : Unit) (h1 : 1 ≤ a_) => (tFn_b a_ (by omega)).2.2.2 h1 i (by omega)
    have olo := fun (_ : Unit) (h : i < tFn a_) => tLo_b a_ (by omega) i (by omega)
    have onv := hnm nd
    refine And.intro (zDX hD 0 rfl) (zrdR (v := some (k + 2)) (zDR hD 1 rfl) ?_)
    refine And.intro (zDP hD 2 rfl rfl (by omega) (by omega)) (fun v103 e103 r103 => ?_)
    have f103 : v103 = a_ := (e103.trans ((congrArg (I1 (k + 2)) (by omega)).trans ((fr (k + 2) j_ (by omega) (by omega)).trans (hkd.trans ha))))
    refine ⟨_, sn_V_fld.up (by decide), ?_⟩
    refine ⟨(v103 : Int), a_, (e : Int), e, rfl, (by omega), (by omega), ?_⟩
    intro v106o p106hv p106bhv2
    refine And.intro (by omega) ⟨fun h109 => ?_, fun h109 => ?_⟩
    · refine hQ _ ?_ (fun c j h0 h1 => ((fr c j h0 h1).trans rfl))
      · have e9 : i = tFn a_ := by
          rcases he with q | q
          · have e0 := q.1
            subst e0
            have z : tFn 0 = 1 := rfl
            omega
          · have z := ofn () q.1
            rw [q.2] at p106hv
            omega
        unfold wOb
        rw [← List.append_assoc, ← e9]
        exact hP1
    · have t109 : 1 ≤ a_ ∧ e = i ∧ i < tFn a_ := (by rcases he with q | q; (exfalso; rw [q.1, q.2.1] at p106hv; have z : oFt 0 0 = 0 := rfl; omega); (have z := ofn () q.1; rw [q.2] at p106hv; exact ⟨q.1, q.2, by omega⟩))
      refine And.intro (zDX hD 0 rfl) ⟨_, sn_V_say.up (by decide), ?_⟩
      refine ⟨k, (w ++ (if fm = 0 then [40] else []) ++ wWd a_ (tsb a_).length ++ wFs O j_ a_ i), (32 : Int), rfl, hD, hP1, (by have z := wFs_l (O := O) (j := j_) (i := i) hl40 ha8 (by omega); have z2 := wWd_b (a := a_) (by omega); have z3 := wHd_l (fm := fm); simp only [List.length_append, List.length_cons, List.length_nil]; omega), (by omega), ?_⟩
      intro I115o p115hP2 p115bfr
      refine And.intro (zDX hD 0 rfl) (zrdR (v := some (k + 2)) (zDR hD 1 rfl) ?_)
      refine And.intro (zDP hD 2 rfl rfl (by omega) (by omega)) (fun v123 e123 r123 => ?_)
      have f123 : v123 = a_ := (e123.trans ((p115bfr (k + 2) _ (by omega) (by omega)).trans ((congrArg (I1 (k + 2)) (by omega)).trans ((fr (k + 2) j_ (by omega) (by omega)).trans (hkd.trans ha)))))
      refine ⟨_, sn_V_fld.up (by decide), ?_⟩
      refine ⟨(v123 : Int), a_, (e : Int), e, rfl, (by omega), (by omega), ?_⟩
      intro v126o p126hv p126bhv2
      refine And.intro ⟨(by omega), (zRb rfl)⟩ ⟨fun h134 => ?_, fun h134 => ?_⟩
      · have t134 : tFc a_ i ≠ 84 := (by have z := ofo () (by omega) (by omega); have z2 := t109.2.1; rw [z2] at p126hv; omega)
        have t134b : tFc a_ i ≠ 86 := (by have z := tFc_86 a_ (by omega) i (by omega); omega)
        have t134bb : tNc a_ i = oCi a_ 0 i := (if_neg (by omega))
        have t134bbb : nd ≤ 4 := (by have z := os () (by omega); have z5 : tNc a_ i = oCi a_ 0 i := if_neg (by omega); omega)
        refine And.intro (zDX hD 0 rfl) (zrdR (v := some (k + 4)) (zDR hD 3 rfl) ?_)
        refine And.intro (zDP hD 4 rfl rfl (by omega) (by omega)) (fun v158 e158 r158 => ?_)
        have f158 : v158 = onm O j_ nd := (e158.trans ((congrArg (L1 (k + 4)) (show _ = 5 * j_ + nd by omega)).trans (o3 j_ nd (by omega) (by omega))))
        have f158b : -1000000000 ≤ v158 ∧ v158 ≤ 1000000000 := (by have z := onv (by omega); have z1 := z.1; have z2 := z.2; omega)
        refine ⟨_, _, ⟨zW6i r158, zW6i (zRL rfl)⟩, fun z164 c164 => ?_⟩
        refine And.intro c164.2.2 ⟨fun h165 => ?_, fun h165 => ?_⟩
        · refine And.intro ⟨(by omega), (zRb rfl)⟩ ⟨fun h177 => ?_, fun h177 => ?_⟩
          · have t177 : tFc a_ i ≠ 78 := (by have z := ofo () (by omega) (by omega); have z2 := t109.2.1; rw [z2] at p126hv; omega)
            have t177b : -9999 ≤ onm O j_ nd ∧ onm O j_ nd ≤ 9999 := (by have z := olo () (by omega); have z3 := hN j_ a_ i (by omega) ha ha8 (by omega) (by omega) (by omega); rw [← hnd] at z3; omega)
            refine ⟨_, _, ⟨zW6i r158, zW6i (zRL rfl)⟩, fun z193 c193 => ?_⟩
            refine And.intro c193.2.2 ⟨fun h194 => ?_, (fun h194 => False.elim (by omega))⟩
            refine And.intro (zDX hD 0 rfl) ⟨_, sn_V_whl.up (by decide), ?_⟩
            refine ⟨_, _, (v158 : Int), rfl, hD, (by first | exact p171hP2 | exact p115hP2), (by have z := wFs_l (O := O) (j := j_) (i := i) hl40 ha8 (by omega); have z2 := wWd_b (a := a_) (by omega); have z3 := wHd_l (fm := fm); simp only [List.length_append, List.length_cons, List.length_nil]; omega), (by omega), ?_⟩
            intro I206o p206hP2 p206bfr
            refine ⟨((6 - (i + 1)), 0, 0), zlt6 (by omega), [some (zvr (k)), some (zvi (j_)), some (zvi ((nd + 1))), some (zvi (wd)), some (zvi ((e + 1))), none, none, none], ⟨rfl, rfl, rfl, rfl, rfl, rfl⟩, (i + 1), wd, (nd + 1), (e + 1), rfl, rfl, rfl, rfl, rfl, rfl, (by omega), (by omega), (Or.inr ⟨by omega, by omega⟩), (by have z := os () (by omega); omega), (by have z := os () (by omega); have z4 : tNc a_ (i + 1) = oCi a_ 0 (i + 1) := if_neg (by omega); have z5 : tNc a_ i = oCi a_ 0 i := if_neg (by omega); omega), (by have z := os () (by omega); have z5 : tNc a_ i = oCi a_ 0 i := if_neg (by omega); omega), ?_, (fun c j h0 h1 => ((p206bfr c j h0 h1).trans ((p115bfr c j h0 h1).trans ((fr c j h0 h1).trans rfl))))⟩
            · show zPO k (w ++ (if fm = 0 then [40] else []) ++ wWd a_ (tsb a_).length ++ (wFs O j_ a_ i ++ ([32] ++ wF1 O j_ a_ i))) _
              rw [← List.append_assoc, ← List.append_assoc]
              first
              | (have ef : wF1 O j_ a_ i = wQt (otc O j_ (oCi a_ 1 i)) (otl O j_ (oCi a_ 1 i)) := (if_neg (show ¬ tFc a_ i = 86 by have z := tFc_86 a_ (by omega) i (by omega); omega)).trans (if_pos (show tFc a_ i = 84 by omega))
                 rw [ef, ← hwd]
                 exact p140hP2)
              | (have ef : wF1 O j_ a_ i = [45] ++ (wWh (wAb v158 / 1000000) ++ wFr (wAb v158 % 1000000)) := by
                   rw [wF1_n (O := O) (j := j_) (a := a_) (i := i) (by omega) (by omega), t134bb, ← hnd, ← f158]
                   exact wNb_3 (by omega) (by omega)
                 rw [ef, ← List.append_assoc]
                 exact p183hP2)
              | (have ef : wF1 O j_ a_ i = (wWh (wAb v158 / 1000000) ++ wFr (wAb v158 % 1000000)) := by
                   rw [wF1_n (O := O) (j := j_) (a := a_) (i := i) (by omega) (by omega), t134bb, ← hnd, ← f158]
                   exact wNb_4 (by omega) (by omega)
                 rw [ef]
                 exact p183hP2)
              | (have ef : wF1 O j_ a_ i = [45] ++ wWh (0 - v158) := by
                   rw [wF1_n (O := O) (j := j_) (a := a_) (i := i) (by omega) (by omega), t134bb, ← hnd, ← f158]
                   exact wNb_5 (by omega) (by omega)
                 rw [ef, ← List.append_assoc]
                 exact p206hP2)
              | (have ef : wF1 O j_ a_ i = wWh v158 := by
                   rw [wF1_n (O := O) (j := j_) (a := a_) (i := i) (by omega) (by omega), t134bb, ← hnd, ← f158]
                   exact wNb_6 (by omega) (by omega)
                 rw [ef]
                 exact p206hP2)
          · have t177 : tFc a_ i = 78 := (by have z := ofo () (by omega) (by omega); have z2 := t109.2.1; rw [z2] at p126hv; omega)
            refine And.intro (zDX hD 0 rfl) ⟨_, sn_V_sln.up (by decide), ?_⟩
            refine ⟨_, _, (v158 : Int), rfl, hD, (by first | exact p171hP2 | exact p115hP2), (by have z := wFs_l (O := O) (j := j_) (i := i) hl40 ha8 (by omega); have z2 := wWd_b (a := a_) (by omega); have z3 := wHd_l (fm := fm); simp only [List.length_append, List.length_cons, List.length_nil]; omega), (by omega), ?_⟩
            intro I183o p183hP2 p183bfr
            refine ⟨((6 - (i + 1)), 0, 0), zlt6 (by omega), [some (zvr (k)), some (zvi (j_)), some (zvi ((nd + 1))), some (zvi (wd)), some (zvi ((e + 1))), none, none, none], ⟨rfl, rfl, rfl, rfl, rfl, rfl⟩, (i + 1), wd, (nd + 1), (e + 1), rfl, rfl, rfl, rfl, rfl, rfl, (by omega), (by omega), (Or.inr ⟨by omega, by omega⟩), (by have z := os () (by omega); omega), (by have z := os () (by omega); have z4 : tNc a_ (i + 1) = oCi a_ 0 (i + 1) := if_neg (by omega); have z5 : tNc a_ i = oCi a_ 0 i := if_neg (by omega); omega), (by have z := os () (by omega); have z5 : tNc a_ i = oCi a_ 0 i := if_neg (by omega); omega), ?_, (fun c j h0 h1 => ((p183bfr c j h0 h1).trans ((p115bfr c j h0 h1).trans ((fr c j h0 h1).trans rfl))))⟩
            · show zPO k (w ++ (if fm = 0 then [40] else []) ++ wWd a_ (tsb a_).length ++ (wFs O j_ a_ i ++ ([32] ++ wF1 O j_ a_ i))) _
              rw [← List.append_assoc, ← List.append_assoc]
              first
              | (have ef : wF1 O j_ a_ i = wQt (otc O j_ (oCi a_ 1 i)) (otl O j_ (oCi a_ 1 i)) := (if_neg (show ¬ tFc a_ i = 86 by have z := tFc_86 a_ (by omega) i (by omega); omega)).trans (if_pos (show tFc a_ i = 84 by omega))
                 rw [ef, ← hwd]
                 exact p140hP2)
              | (have ef : wF1 O j_ a_ i = [45] ++ (wWh (wAb v158 / 1000000) ++ wFr (wAb v158 % 1000000)) := by
                   rw [wF1_n (O := O) (j := j_) (a := a_) (i := i) (by omega) (by omega), t134bb, ← hnd, ← f158]
                   exact wNb_3 (by omega) (by omega)
                 rw [ef, ← List.append_assoc]
                 exact p183hP2)
              | (have ef : wF1 O j_ a_ i = (wWh (wAb v158 / 1000000) ++ wFr (wAb v158 % 1000000)) := by
                   rw [wF1_n (O := O) (j := j_) (a := a_) (i := i) (by omega) (by omega), t134bb, ← hnd, ← f158]
                   exact wNb_4 (by omega) (by omega)
                 rw [ef]
                 exact p183hP2)
              | (have ef : wF1 O j_ a_ i = [45] ++ wWh (0 - v158) := by
                   rw [wF1_n (O := O) (j := j_) (a := a_) (i := i) (by omega) (by omega), t134bb, ← hnd, ← f158]
                   exact wNb_5 (by omega) (by omega)
                 rw [ef, ← List.append_assoc]
                 exact p206hP2)
              | (have ef : wF1 O j_ a_ i = wWh v158 := by
                   rw [wF1_n (O := O) (j := j_) (a := a_) (i := i) (by omega) (by omega), t134bb, ← hnd, ← f158]
                   exact wNb_6 (by omega) (by omega)
                 rw [ef]
                 exact p206hP2)
        · refine And.intro (zDX hD 0 rfl) ⟨_, sn_V_say.up (by decide), ?_⟩
          refine ⟨k, ((w ++ (if fm = 0 then [40] else []) ++ wWd a_ (tsb a_).length ++ wFs O j_ a_ i) ++ [32]), (45 : Int), rfl, hD, p115hP2, (by have z := wFs_l (O := O) (j := j_) (i := i) hl40 ha8 (by omega); have z2 := wWd_b (a := a_) (by omega); have z3 := wHd_l (fm := fm); simp only [List.length_append, List.length_cons, List.length_nil]; omega), (by omega), ?_⟩
          intro I171o p171hP2 p171bfr
          refine And.intro ⟨(by omega), (zRb rfl)⟩ ⟨fun h177 => ?_, fun h177 => ?_⟩
          · have t177 : tFc a_ i ≠ 78 := (by have z := ofo () (by omega) (by omega); have z2 := t109.2.1; rw [z2] at p126hv; omega)
            have t177b : -9999 ≤ onm O j_ nd ∧ onm O j_ nd ≤ 9999 := (by have z := olo () (by omega); have z3 := hN j_ a_ i (by omega) ha ha8 (by omega) (by omega) (by omega); rw [← hnd] at z3; omega)
            refine ⟨_, _, ⟨zW6i r158, zW6i (zRL rfl)⟩, fun z193 c193 => ?_⟩
            refine And.intro c193.2.2 ⟨(fun h194 => False.elim (by omega)), fun h194 => ?_⟩
            refine And.intro (zDX hD 0 rfl) ⟨_, sn_V_whl.up (by decide), ?_⟩
            refine ⟨_, _, ((0 - v158) : Int), rfl, hD, (by first | exact p171hP2 | exact p115hP2), (by have z := wFs_l (O := O) (j := j_) (i := i) hl40 ha8 (by omega); have z2 := wWd_b (a := a_) (by omega); have z3 := wHd_l (fm := fm); simp only [List.length_append, List.length_cons, List.length_nil]; omega), (by omega), ?_⟩
            intro I206o p206hP2 p206bfr
            refine ⟨((6 - (i + 1)), 0, 0), zlt6 (by omega), [some (zvr (k)), some (zvi (j_)), some (zvi ((nd + 1))), some (zvi (wd)), some (zvi ((e + 1))), none, none, none], ⟨rfl, rfl, rfl, rfl, rfl, rfl⟩, (i + 1), wd, (nd + 1), (e + 1), rfl, rfl, rfl, rfl, rfl, rfl, (by omega), (by omega), (Or.inr ⟨by omega, by omega⟩), (by have z := os () (by omega); omega), (by have z := os () (by omega); have z4 : tNc a_ (i + 1) = oCi a_ 0 (i + 1) := if_neg (by omega); have z5 : tNc a_ i = oCi a_ 0 i := if_neg (by omega); omega), (by have z := os () (by omega); have z5 : tNc a_ i = oCi a_ 0 i := if_neg (by omega); omega), ?_, (fun c j h0 h1 => ((p206bfr c j h0 h1).trans ((p171bfr c j h0 h1).trans ((p115bfr c j h0 h1).trans ((fr c j h0 h1).trans rfl)))))⟩
            · show zPO k (w ++ (if fm = 0 then [40] else []) ++ wWd a_ (tsb a_).length ++ (wFs O j_ a_ i ++ ([32] ++ wF1 O j_ a_ i))) _
              rw [← List.append_assoc, ← List.append_assoc]
              first
              | (have ef : wF1 O j_ a_ i = wQt (otc O j_ (oCi a_ 1 i)) (otl O j_ (oCi a_ 1 i)) := (if_neg (show ¬ tFc a_ i = 86 by have z := tFc_86 a_ (by omega) i (by omega); omega)).trans (if_pos (show tFc a_ i = 84 by omega))
                 rw [ef, ← hwd]
                 exact p140hP2)
              | (have ef : wF1 O j_ a_ i = [45] ++ (wWh (wAb v158 / 1000000) ++ wFr (wAb v158 % 1000000)) := by
                   rw [wF1_n (O := O) (j := j_) (a := a_) (i := i) (by omega) (by omega), t134bb, ← hnd, ← f158]
                   exact wNb_3 (by omega) (by omega)
                 rw [ef, ← List.append_assoc]
                 exact p183hP2)
              | (have ef : wF1 O j_ a_ i = (wWh (wAb v158 / 1000000) ++ wFr (wAb v158 % 1000000)) := by
                   rw [wF1_n (O := O) (j := j_) (a := a_) (i := i) (by omega) (by omega), t134bb, ← hnd, ← f158]
                   exact wNb_4 (by omega) (by omega)
                 rw [ef]
                 exact p183hP2)
              | (have ef : wF1 O j_ a_ i = [45] ++ wWh (0 - v158) := by
                   rw [wF1_n (O := O) (j := j_) (a := a_) (i := i) (by omega) (by omega), t134bb, ← hnd, ← f158]
                   exact wNb_5 (by omega) (by omega)
                 rw [ef, ← List.append_assoc]
                 exact p206hP2)
              | (have ef : wF1 O j_ a_ i = wWh v158 := by
                   rw [wF1_n (O := O) (j := j_) (a := a_) (i := i) (by omega) (by omega), t134bb, ← hnd, ← f158]
                   exact wNb_6 (by omega) (by omega)
                 rw [ef]
                 exact p206hP2)
          · have t177 : tFc a_ i = 78 := (by have z := ofo () (by omega) (by omega); have z2 := t109.2.1; rw [z2] at p126hv; omega)
            refine And.intro (zDX hD 0 rfl) ⟨_, sn_V_sln.up (by decide), ?_⟩
            refine ⟨_, _, (v158 : Int), rfl, hD, (by first | exact p171hP2 | exact p115hP2), (by have z := wFs_l (O := O) (j := j_) (i := i) hl40 ha8 (by omega); have z2 := wWd_b (a := a_) (by omega); have z3 := wHd_l (fm := fm); simp only [List.length_append, List.length_cons, List.length_nil]; omega), (by omega), ?_⟩
            intro I183o p183hP2 p183bfr
            refine ⟨((6 - (i + 1)), 0, 0), zlt6 (by omega), [some (zvr (k)), some (zvi (j_)), some (zvi ((nd + 1))), some (zvi (wd)), some (zvi ((e + 1))), none, none, none], ⟨rfl, rfl, rfl, rfl, rfl, rfl⟩, (i + 1), wd, (nd + 1), (e + 1), rfl, rfl, rfl, rfl, rfl, rfl, (by omega), (by omega), (Or.inr ⟨by omega, by omega⟩), (by have z := os () (by omega); omega), (by have z := os () (by omega); have z4 : tNc a_ (i + 1) = oCi a_ 0 (i + 1) := if_neg (by omega); have z5 : tNc a_ i = oCi a_ 0 i := if_neg (by omega); omega), (by have z := os () (by omega); have z5 : tNc a_ i = oCi a_ 0 i := if_neg (by omega); omega), ?_, (fun c j h0 h1 => ((p183bfr c j h0 h1).trans ((p171bfr c j h0 h1).trans ((p115bfr c j h0 h1).trans ((fr c j h0 h1).trans rfl)))))⟩
            · show zPO k (w ++ (if fm = 0 then [40] else []) ++ wWd a_ (tsb a_).length ++ (wFs O j_ a_ i ++ ([32] ++ wF1 O j_ a_ i))) _
              rw [← List.append_assoc, ← List.append_assoc]
              first
              | (have ef : wF1 O j_ a_ i = wQt (otc O j_ (oCi a_ 1 i)) (otl O j_ (oCi a_ 1 i)) := (if_neg (show ¬ tFc a_ i = 86 by have z := tFc_86 a_ (by omega) i (by omega); omega)).trans (if_pos (show tFc a_ i = 84 by omega))
                 rw [ef, ← hwd]
                 exact p140hP2)
              | (have ef : wF1 O j_ a_ i = [45] ++ (wWh (wAb v158 / 1000000) ++ wFr (wAb v158 % 1000000)) := by
                   rw [wF1_n (O := O) (j := j_) (a := a_) (i := i) (by omega) (by omega), t134bb, ← hnd, ← f158]
                   exact wNb_3 (by omega) (by omega)
                 rw [ef, ← List.append_assoc]
                 exact p183hP2)
              | (have ef : wF1 O j_ a_ i = (wWh (wAb v158 / 1000000) ++ wFr (wAb v158 % 1000000)) := by
                   rw [wF1_n (O := O) (j := j_) (a := a_) (i := i) (by omega) (by omega), t134bb, ← hnd, ← f158]
                   exact wNb_4 (by omega) (by omega)
                 rw [ef]
                 exact p183hP2)
              | (have ef : wF1 O j_ a_ i = [45] ++ wWh (0 - v158) := by
                   rw [wF1_n (O := O) (j := j_) (a := a_) (i := i) (by omega) (by omega), t134bb, ← hnd, ← f158]
                   exact wNb_5 (by omega) (by omega)
                 rw [ef, ← List.append_assoc]
                 exact p206hP2)
              | (have ef : wF1 O j_ a_ i = wWh v158 := by
                   rw [wF1_n (O := O) (j := j_) (a := a_) (i := i) (by omega) (by omega), t134bb, ← hnd, ← f158]
                   exact wNb_6 (by omega) (by omega)
                 rw [ef]
                 exact p206hP2)
      · have t134 : tFc a_ i = 84 := (by have z := ofo () (by omega) (by omega); have z2 := t109.2.1; rw [z2] at p126hv; omega)
        refine And.intro (zDX hD 0 rfl) ⟨_, sn_V_sqt.up (by decide), ?_⟩
        refine ⟨k, ((w ++ (if fm = 0 then [40] else []) ++ wWd a_ (tsb a_).length ++ wFs O j_ a_ i) ++ [32]), O, (j_ : Int), j_, (wd : Int), wd, rfl, hD, p115hP2, (by have z9 := hl40 wd (by have z := os () (by omega); omega); have z := wFs_l (O := O) (j := j_) (i := i) hl40 ha8 (by omega); have z2 := wWd_b (a := a_) (by omega); have z3 := wHd_l (fm := fm); simp only [List.length_append, List.length_cons, List.length_nil]; omega), (by first | exact (zOM_fr hO (fun c j h => ((p115bfr c j (by omega) (by omega)).trans ((fr c j (by omega) (by omega)).trans rfl))) (fun c j h => rfl)) | (clear hQ; grind [xu])), (by first | exact hG | (clear hQ; grind [xu])), (by omega), ⟨by omega, by have z := os () (by omega); omega⟩, (by omega), ?_⟩
        intro I140o p140hP2 p140bfr
        refine ⟨((6 - (i + 1)), 0, 0), zlt6 (by omega), [some (zvr (k)), some (zvi (j_)), some (zvi (nd)), some (zvi ((wd + 1))), some (zvi ((e + 1))), none, none, none], ⟨rfl, rfl, rfl, rfl, rfl, rfl⟩, (i + 1), (wd + 1), nd, (e + 1), rfl, rfl, rfl, rfl, rfl, rfl, (by omega), (by omega), (Or.inr ⟨by omega, by omega⟩), (by have z := os () (by omega); omega), (by have z := os () (by omega); have z4 : tNc a_ (i + 1) = oCi a_ 0 (i + 1) := if_neg (by omega); have z5 : tNc a_ i = oCi a_ 0 i := if_neg (by omega); omega), (by have z := os () (by omega); have z5 : tNc a_ i = oCi a_ 0 i := if_neg (by omega); omega), ?_, (fun c j h0 h1 => ((p140bfr c j h0 h1).trans ((p115bfr c j h0 h1).trans ((fr c j h0 h1).trans rfl))))⟩
        · show zPO k (w ++ (if fm = 0 then [40] else []) ++ wWd a_ (tsb a_).length ++ (wFs O j_ a_ i ++ ([32] ++ wF1 O j_ a_ i))) _
          rw [← List.append_assoc, ← List.append_assoc]
          first
          | (have ef : wF1 O j_ a_ i = wQt (otc O j_ (oCi a_ 1 i)) (otl O j_ (oCi a_ 1 i)) := (if_neg (show ¬ tFc a_ i = 86 by have z := tFc_86 a_ (by omega) i (by omega); omega)).trans (if_pos (show tFc a_ i = 84 by omega))
             rw [ef, ← hwd]
             exact p140hP2)
          | (have ef : wF1 O j_ a_ i = [45] ++ (wWh (wAb v158 / 1000000) ++ wFr (wAb v158 % 1000000)) := by
               rw [wF1_n (O := O) (j := j_) (a := a_) (i := i) (by omega) (by omega), t134bb, ← hnd, ← f158]
               exact wNb_3 (by omega) (by omega)
             rw [ef, ← List.append_assoc]
             exact p183hP2)
          | (have ef : wF1 O j_ a_ i = (wWh (wAb v158 / 1000000) ++ wFr (wAb v158 % 1000000)) := by
               rw [wF1_n (O := O) (j := j_) (a := a_) (i := i) (by omega) (by omega), t134bb, ← hnd, ← f158]
               exact wNb_4 (by omega) (by omega)
             rw [ef]
             exact p183hP2)
          | (have ef : wF1 O j_ a_ i = [45] ++ wWh (0 - v158) := by
               rw [wF1_n (O := O) (j := j_) (a := a_) (i := i) (by omega) (by omega), t134bb, ← hnd, ← f158]
               exact wNb_5 (by omega) (by omega)
             rw [ef, ← List.append_assoc]
             exact p206hP2)
          | (have ef : wF1 O j_ a_ i = wWh v158 := by
               rw [wF1_n (O := O) (j := j_) (a := a_) (i := i) (by omega) (by omega), t134bb, ← hnd, ← f158]
               exact wNb_6 (by omega) (by omega)
             rw [ef]
             exact p206hP2))
