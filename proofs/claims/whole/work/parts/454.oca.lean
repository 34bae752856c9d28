/-! oc -/
def T_A_addG : ZT := fun args I L R S Q => ∃ (k : Nat) (rm : Nat) (c : Nat) (f : Nat → Nat → Int) (a : Int) (b : Int) (d : Int) (e : Int) (g : Int), args = [zvr k, zvi a, zvi b, zvi d, zvi e, zvi g] ∧ (zSh S) ∧ (zRs R) ∧ (zRw rm k R S) ∧ (zRT k rm c f I) ∧ (r32 a ∧ r32 b ∧ r32 d ∧ r32 e ∧ r32 g) ∧ ∀ (v : Int) (I' : ZI), (v = if c < rm then (c : Int) else -1) → (zRT k rm (if c < rm then c + 1 else c) (if c < rm then upR f c a b d e g else f) I') → (∀ c j : Nat, ¬ c = k + 1 → ¬ (c = k ∧ j = 2) → I' c j = I c j) → Q (some (zvi (v))) I' L R S
theorem sn_A_addG : ZSnd 1 7 0 T_A_addG := ZSnd.of (zT7_0 0) (by
  rintro args I L R S Q hz ⟨k, rm, c, f, a, b, d, e, g, rfl, hS, hR, hW, hT, hr, hQ⟩
  obtain ⟨w1, w2, w3, w4⟩ := id hT
  have h5 := hW.1
  refine And.intro rfl ?_
  refine And.intro (zWX hW) (zrd (v := c) w2 ?_)
  refine And.intro (zWX hW) (zrd (v := rm) w1 ?_)
  refine And.intro ⟨(by omega), (by omega)⟩ ⟨fun h8 => ?_, fun h8 => ?_⟩
  · refine And.intro (zWX hW) (zrd (v := c) w2 ?_)
    refine And.intro (zWX hW) (zrdR (v := some (k + 1)) (zWR hW) ?_)
    refine And.intro ⟨(by have := hW.1.1; show 40 ≤ _; omega), (zWP hW (by omega) (by omega))⟩ ⟨_, (zWi (by omega)), ?_⟩
    refine And.intro (zWX hW) (zrdR (v := some (k + 1)) (zWR hW) ?_)
    refine And.intro ⟨(by have := hW.1.1; show 40 ≤ _; omega), (zWP hW (by omega) (by omega))⟩ ⟨_, (zWi (by omega)), ?_⟩
    refine And.intro (zWX hW) (zrdR (v := some (k + 1)) (zWR hW) ?_)
    refine And.intro ⟨(by have := hW.1.1; show 40 ≤ _; omega), (zWP hW (by omega) (by omega))⟩ ⟨_, (zWi (by omega)), ?_⟩
    refine And.intro (zWX hW) (zrdR (v := some (k + 1)) (zWR hW) ?_)
    refine And.intro ⟨(by have := hW.1.1; show 40 ≤ _; omega), (zWP hW (by omega) (by omega))⟩ ⟨_, (zWi (by omega)), ?_⟩
    refine And.intro (zWX hW) (zrdR (v := some (k + 1)) (zWR hW) ?_)
    refine And.intro ⟨(by have := hW.1.1; show 40 ≤ _; omega), (zWP hW (by omega) (by omega))⟩ ⟨_, (zWi (by omega)), ?_⟩
    refine And.intro (zWX hW) (zrdR (v := some (k + 1)) (zWR hW) ?_)
    refine And.intro ⟨(by have := hW.1.1; show 40 ≤ _; omega), (zWP hW (by omega) (by omega))⟩ ⟨_, (zWi (zRb rfl)), ?_⟩
    refine And.intro (zWX hW) (zrd (v := c) (zxu (by omega) (zxu (by omega) (zxu (by omega) (zxu (by omega) (zxu (by omega) (zxu (by omega) w2)))))) ?_)
    refine And.intro (zWX hW) ⟨_, (zWi (by omega)), ?_⟩
    refine And.intro (zWX hW) (zrd (v := (c + 1)) zxe ?_)
    refine hQ _ _ (by first | (rw [if_neg (by omega)]) | (rw [if_pos (by omega)]; omega)) ?_ (fun c j h0 h1 => (zxcj h1 (zxu h0 (zxu h0 (zxu h0 (zxu h0 (zxu h0 (zxu h0 rfl))))))))
    · by_cases hc : c < rm
      · rw [if_pos hc, if_pos hc]
        first
        | (exfalso; omega)
        | (refine ⟨zxs (by decide) (zxu (by omega) (zxu (by omega) (zxu (by omega) (zxu (by omega) (zxu (by omega) (zxu (by omega) w1)))))), zxe.trans (by omega), hc, fun p q hp hq => ?_⟩
           refine zxu (by omega) ?_
           by_cases h : p = c
           · subst h
             unfold upR
             rw [if_pos rfl]
             have z9 : q = 0 ∨ q = 1 ∨ q = 2 ∨ q = 3 ∨ q = 4 ∨ q = 5 := by omega
             rcases z9 with rfl | rfl | rfl | rfl | rfl | rfl
             · rw [show 6 * p + 0 = ((p : Int) * 6).toNat by omega]
               exact zxs (by omega) (zxs (by omega) (zxs (by omega) (zxs (by omega) (zxs (by omega) zxe))))
             · rw [show 6 * p + 1 = ((p : Int) * 6 + 1).toNat by omega]
               exact zxs (by omega) (zxs (by omega) (zxs (by omega) (zxs (by omega) zxe)))
             · rw [show 6 * p + 2 = ((p : Int) * 6 + 2).toNat by omega]
               exact zxs (by omega) (zxs (by omega) (zxs (by omega) zxe))
             · rw [show 6 * p + 3 = ((p : Int) * 6 + 3).toNat by omega]
               exact zxs (by omega) (zxs (by omega) zxe)
             · rw [show 6 * p + 4 = ((p : Int) * 6 + 4).toNat by omega]
               exact zxs (by omega) zxe
             · rw [show 6 * p + 5 = ((p : Int) * 6 + 5).toNat by omega]
               exact zxe
           · rw [upR_ne h]
             exact zxs (by omega) (zxs (by omega) (zxs (by omega) (zxs (by omega) (zxs (by omega) (zxs (by omega) (w4 p q (by omega) hq)))))))
      · rw [if_neg hc, if_neg hc]
        first
        | exact hT
        | (exfalso; omega)
  · refine hQ _ _ (by first | (rw [if_neg (by omega)]) | (rw [if_pos (by omega)]; omega)) ?_ (fun c j h0 h1 => rfl)
    · by_cases hc : c < rm
      · rw [if_pos hc, if_pos hc]
        first
        | (exfalso; omega)
        | (refine ⟨zxs (by decide) (zxu (by omega) (zxu (by omega) (zxu (by omega) (zxu (by omega) (zxu (by omega) (zxu (by omega) w1)))))), zxe.trans (by omega), hc, fun p q hp hq => ?_⟩
           refine zxu (by omega) ?_
           by_cases h : p = c
           · subst h
             unfold upR
             rw [if_pos rfl]
             have z9 : q = 0 ∨ q = 1 ∨ q = 2 ∨ q = 3 ∨ q = 4 ∨ q = 5 := by omega
             rcases z9 with rfl | rfl | rfl | rfl | rfl | rfl
             · rw [show 6 * p + 0 = ((p : Int) * 6).toNat by omega]
               exact zxs (by omega) (zxs (by omega) (zxs (by omega) (zxs (by omega) (zxs (by omega) zxe))))
             · rw [show 6 * p + 1 = ((p : Int) * 6 + 1).toNat by omega]
               exact zxs (by omega) (zxs (by omega) (zxs (by omega) (zxs (by omega) zxe)))
             · rw [show 6 * p + 2 = ((p : Int) * 6 + 2).toNat by omega]
               exact zxs (by omega) (zxs (by omega) (zxs (by omega) zxe))
             · rw [show 6 * p + 3 = ((p : Int) * 6 + 3).toNat by omega]
               exact zxs (by omega) (zxs (by omega) zxe)
             · rw [show 6 * p + 4 = ((p : Int) * 6 + 4).toNat by omega]
               exact zxs (by omega) zxe
             · rw [show 6 * p + 5 = ((p : Int) * 6 + 5).toNat by omega]
               exact zxe
           · rw [upR_ne h]
             exact zxs (by omega) (zxs (by omega) (zxs (by omega) (zxs (by omega) (zxs (by omega) (zxs (by omega) (w4 p q (by omega) hq)))))))
      · rw [if_neg hc, if_neg hc]
        first
        | exact hT
        | (exfalso; omega))
def T_C_sof : ZT := fun args I L R S Q => ∃ (k : Nat) (O : OoS) (a : Int) (a_ : Nat) (x : Int), args = [zvr 63, zvi a] ∧ (zSh S) ∧ (zRs R) ∧ (R 63 0 = some k) ∧ (zDy zT2 zF2 k R S) ∧ (43 ≤ k ∧ k ≤ 52) ∧ (zOB k O I L) ∧ (oGd O) ∧ (a = a_ ∧ a_ < ocn O) ∧ (I 64 a_ = x) ∧ ∀ (v : Int), (v = x) → Q (some (zvi (v))) I L R S
theorem sn_C_sof : ZSnd 1 3 36 T_C_sof := ZSnd.of (zT3_36 0) (by
  rintro args I L R S Q hz ⟨k, O, a, a_, x, rfl, hS, hR, hob, hD, hk, hO, hG, ha, hx, hQ⟩
  obtain ⟨o1, o2, o3, o4⟩ := id hO
  obtain ⟨g1, g2, g3, g4, g5⟩ := id hG
  have hk40 := hD.1
  have hk1 := hk.1
  have hk2 := hk.2
  refine And.intro rfl ?_
  refine And.intro (by omega) ⟨(fun h1 => False.elim (by omega)), fun h1 => ?_⟩
  refine And.intro (zA_63 hS) (zrdR (v := some k) hob ?_)
  refine And.intro (zDX hD 0 rfl) (zrd (v := (ocn O)) o1 ?_)
  refine And.intro ⟨(by omega), (by omega)⟩ ⟨(fun h12 => False.elim (by omega)), fun h12 => ?_⟩
  refine And.intro (zA_63 hS) (zrdR (v := some 64) (zR_63_1 hR) ?_)
  refine And.intro (zP_64 hS (by omega) (by omega)) (fun v20 e20 r20 => ?_)
  have f20 : v20 = x := (e20.trans ((congrArg (I 64) (by omega)).trans hx))
  refine hQ _ (by omega))
def T_C_org : ZT := fun args I L R S Q => ∃ (k : Nat) (O : OoS) (d : JdS) (ob : Nat → Int) (K : Int) (p : Int) (s : Int) (n : Int) (n_ : Nat), args = [zvr 63, zvi s, zvi n] ∧ (zSh S) ∧ (zRs R) ∧ (R 63 0 = some k) ∧ (zDy zT2 zF2 k R S) ∧ (43 ≤ k ∧ k ≤ 52) ∧ (zOB k O I L) ∧ (oGd O) ∧ (zRT 65 16 (dns d + 1) (upR (cSR d ob) (dns d) K p (-1) 0 1) I) ∧ (jGd d) ∧ (dns d < 16) ∧ (n = n_ ∧ n_ < ocn O) ∧ (s = dns d) ∧ (∀ t, t < dns d → 0 ≤ ob t ∧ ob t < ocn O) ∧ ∀ (v : Int), (v = oRp O (d, ob) n_) → Q (some (zvi (v))) I L R S
theorem sn_C_org : ZSnd 4 3 33 T_C_org := ZSnd.loops (zT3_33 3) (by
  rintro args I L R S Q hz ⟨k, O, d, ob, K, p, s, n, n_, rfl, hS, hR, hob, hD, hk, hO, hG, hT, hJG, hns, hn, hs, hob2, hQ⟩
  obtain ⟨o1, o2, o3, o4⟩ := id hO
  obtain ⟨g1, g2, g3, g4, g5⟩ := id hG
  have hk40 := hD.1
  have hk1 := hk.1
  have hk2 := hk.2
  refine ⟨[7, 94], fun nM tM lsM stM I1 L1 R1 S1 => match tM with
      | 7 => ∃ (m : Nat) (f : Int), nM = (2, (201 - m), 0) ∧ lsM = [some (zvr (63)), some (zvi (s)), some (zvi (n_)), some (zvi (f)), some (zvi (m)), none] ∧ stM = [] ∧ I1 = I ∧ L1 = L ∧ R1 = R ∧ S1 = S ∧ (m ≤ ocn O) ∧ ((f = -1 ∧ ∀ j, j < m → ¬ oFp O n_ j) ∨ (0 ≤ f ∧ f < ocn O ∧ oFl O n_ = f)) ∧ (-1 ≤ f ∧ f + 1 ≤ ocn O)
      | 94 => ∃ (t : Nat) (f : Int), nM = (1, (17 - t), 0) ∧ lsM = [some (zvr (63)), some (zvi (s)), none, some (zvi (f)), some (zvi (t)), none] ∧ stM = [] ∧ I1 = I ∧ L1 = L ∧ R1 = R ∧ S1 = S ∧ (t ≤ dns d) ∧ (oFl O n_ = f) ∧ (-1 ≤ f ∧ f + 1 ≤ ocn O) ∧ (0 ≤ f → ∀ u, u < t → ¬ oRq O (d, ob) f.toNat u)
      | _ => False, rfl, ?_, ⟨?_, ?_, True.intro⟩⟩
  · refine ⟨(2, (201 - (n_ + 1)), 0), [some (zvr (63)), some (zvi (s)), some (zvi (n_)), some (zvi (((-1) : Int))), some (zvi ((n_ + 1))), none], ⟨rfl, rfl, (congrArg (fun z => some (zvi z)) (by omega)), (congrArg (fun z => some (zvi z)) (by omega)), (congrArg (fun z => some (zvi z)) (by omega)), rfl⟩, (n_ + 1), (-1), rfl, rfl, rfl, rfl, rfl, rfl, rfl, (by omega), (Or.inl ⟨rfl, fun j hj w => by have w1 := w.1; have w2 := (g2 j (by omega)).2.1; omega⟩), (by omega)⟩
  · rintro nM lsM stM I1 L1 R1 S1 hz1 ⟨m, f, rfl, rfl, rfl, rfl, rfl, rfl, rfl, hm, hf, hf2⟩
    refine And.intro (zA_63 hS) (zrdR (v := some k) hob ?_)
    refine And.intro (zDX hD 0 rfl) (zrd (v := (ocn O)) o1 ?_)
    refine And.intro ⟨(by omega), (by omega)⟩ ⟨fun h16 => ?_, fun h16 => ?_⟩
    · refine ⟨(1, (17 - (0 : Nat)), 0), zlt6 (by omega), [some (zvr (63)), some (zvi (s)), none, some (zvi (f)), some (zvi ((0 : Nat))), none], ⟨rfl, rfl, rfl, rfl, rfl⟩, 0, f, rfl, rfl, rfl, rfl, rfl, rfl, rfl, (by omega), ?_, (by omega), (fun _ u hu => absurd hu (Nat.not_lt_zero u))⟩
      · rcases hf with q | q
        · exact (zlow_no (fun b hb => q.2 b (by omega))).trans (by omega)
        · exact q.2.2
    · refine And.intro ⟨(by omega), (zRb rfl)⟩ ⟨fun h21 => ?_, fun h21 => ?_⟩
      · refine ⟨(1, (17 - (0 : Nat)), 0), zlt6 (by omega), [some (zvr (63)), some (zvi (s)), none, some (zvi (f)), some (zvi ((0 : Nat))), none], ⟨rfl, rfl, rfl, rfl, rfl⟩, 0, f, rfl, rfl, rfl, rfl, rfl, rfl, rfl, (by omega), ?_, (by omega), (fun _ u hu => absurd hu (Nat.not_lt_zero u))⟩
        · rcases hf with q | q
          · exact (zlow_no (fun b hb => q.2 b (by omega))).trans (by omega)
          · exact q.2.2
      · refine And.intro (zA_63 hS) (zrdR (v := some k) hob ?_)
        refine And.intro (zDX hD 0 rfl) ⟨_, sn_O_par.up (by decide), ?_⟩
        refine ⟨k, O, (m : Int), m, rfl, hS, hR, hD, (by first | exact (zOB_fr hO (fun c j h => rfl) (fun c j h => rfl)) | (clear hQ; grind [xu])), (by first | exact hG | (clear hQ; grind [xu])), (by omega), ?_⟩
        intro v30o p30hv p30bhv2
        refine And.intro ⟨(by omega), (by omega)⟩ ⟨fun h34 => ?_, fun h34 => ?_⟩
        · refine And.intro (zRb rfl) (zbt rfl ?_)
          refine ⟨(2, (201 - (m + 1)), 0), zlt6 (by omega), [some (zvr (63)), some (zvi (s)), some (zvi (n_)), some (zvi (((-1) : Int))), some (zvi ((m + 1))), none], ⟨rfl, rfl, rfl, (congrArg (fun z => some (zvi z)) (by omega)), rfl, rfl⟩, (m + 1), (-1), rfl, rfl, rfl, rfl, rfl, rfl, rfl, (by omega), ?_, (by omega)⟩
          · rcases hf with q | q
            · first
              | (refine Or.inr ⟨by omega, by omega, ?_⟩
                 rcases p72hv with w | w
                 · exact zlow_at ⟨by omega, by omega, w.2⟩ (fun b hb => q.2 b hb) (by omega)
                 · exfalso; omega)
              | (refine Or.inl ⟨rfl, fun j hj => ?_⟩
                 by_cases e : j = m
                 · rw [e]
                   intro w9
                   have a1 := w9.1
                   have a2 := w9.2.1
                   first
                   | omega
                   | (rcases p72hv with w | w
                      · omega
                      · exact w.2 w9.2.2)
                 · exact q.2 j (by omega))
            · exfalso; omega
        · refine And.intro (zA_63 hS) (zrdR (v := some k) hob ?_)
          refine And.intro (zDX hD 0 rfl) ⟨_, sn_O_kind.up (by decide), ?_⟩
          refine ⟨k, O, (m : Int), m, rfl, hS, hR, hD, (by first | exact (zOB_fr hO (fun c j h => rfl) (fun c j h => rfl)) | (clear hQ; grind [xu])), (by first | exact hG | (clear hQ; grind [xu])), (by omega), ?_⟩
          intro v43o p43hv p43bhv2
          refine And.intro ⟨(by omega), (zRb rfl)⟩ ⟨fun h48 => ?_, fun h48 => ?_⟩
          · refine And.intro (zRb rfl) (zbt rfl ?_)
            refine ⟨(2, (201 - (m + 1)), 0), zlt6 (by omega), [some (zvr (63)), some (zvi (s)), some (zvi (n_)), some (zvi (((-1) : Int))), some (zvi ((m + 1))), none], ⟨rfl, rfl, rfl, (congrArg (fun z => some (zvi z)) (by omega)), rfl, rfl⟩, (m + 1), (-1), rfl, rfl, rfl, rfl, rfl, rfl, rfl, (by omega), ?_, (by omega)⟩
            · rcases hf with q | q
              · first
                | (refine Or.inr ⟨by omega, by omega, ?_⟩
                   rcases p72hv with w | w
                   · exact zlow_at ⟨by omega, by omega, w.2⟩ (fun b hb => q.2 b hb) (by omega)
                   · exfalso; omega)
                | (refine Or.inl ⟨rfl, fun j hj => ?_⟩
                   by_cases e : j = m
                   · rw [e]
                     intro w9
                     have a1 := w9.1
                     have a2 := w9.2.1
                     first
                     | omega
                     | (rcases p72hv with w | w
                        · omega
                        · exact w.2 w9.2.2)
                   · exact q.2 j (by omega))
              · exfalso; omega
          · refine And.intro (zRb rfl) (zbf rfl ?_)
            refine And.intro (zA_63 hS) (zrdR (v := some k) hob ?_)
            refine And.intro (zDX hD 0 rfl) ⟨_, sn_O_of.up (by decide), ?_⟩
            refine ⟨k, O, (m : Int), m, (0 : Int), 0, rfl, hS, hR, hD, (by first | exact (zOB_fr hO (fun c j h => rfl) (fun c j h => rfl)) | (clear hQ; grind [xu])), (by first | exact hG | (clear hQ; grind [xu])), (by omega), (by omega), ?_⟩
            intro v72o p72hv p72bhv2
            refine And.intro (by omega) ⟨fun h75 => ?_, fun h75 => ?_⟩
            · refine ⟨(2, (201 - (m + 1)), 0), zlt6 (by omega), [some (zvr (63)), some (zvi (s)), some (zvi (n_)), some (zvi (((-1) : Int))), some (zvi ((m + 1))), none], ⟨rfl, rfl, rfl, (congrArg (fun z => some (zvi z)) (by omega)), rfl, rfl⟩, (m + 1), (-1), rfl, rfl, rfl, rfl, rfl, rfl, rfl, (by omega), ?_, (by omega)⟩
              · rcases hf with q | q
                · first
                  | (refine Or.inr ⟨by omega, by omega, ?_⟩
                     rcases p72hv with w | w
                     · exact zlow_at ⟨by omega, by omega, w.2⟩ (fun b hb => q.2 b hb) (by omega)
                     · exfalso; omega)
                  | (refine Or.inl ⟨rfl, fun j hj => ?_⟩
                     by_cases e : j = m
                     · rw [e]
                       intro w9
                       have a1 := w9.1
                       have a2 := w9.2.1
                       first
                       | omega
                       | (rcases p72hv with w | w
                          · omega
                          · exact w.2 w9.2.2)
                     · exact q.2 j (by omega))
                · exfalso; omega
            · refine ⟨(2, (201 - (m + 1)), 0), zlt6 (by omega), [some (zvr (63)), some (zvi (s)), some (zvi (n_)), some (zvi (m)), some (zvi ((m + 1))), none], ⟨rfl, rfl, rfl, rfl, rfl, rfl⟩, (m + 1), m, rfl, rfl, rfl, rfl, rfl, rfl, rfl, (by omega), ?_, (by omega)⟩
              · rcases hf with q | q
                · first
                  | (refine Or.inr ⟨by omega, by omega, ?_⟩
                     rcases p72hv with w | w
                     · exact zlow_at ⟨by omega, by omega, w.2⟩ (fun b hb => q.2 b hb) (by omega)
                     · exfalso; omega)
                  | (refine Or.inl ⟨rfl, fun j hj => ?_⟩
                     by_cases e : j = m
                     · rw [e]
                       intro w9
                       have a1 := w9.1
                       have a2 := w9.2.1
                       first
                       | omega
                       | (rcases p72hv with w | w
                          · omega
                          · exact w.2 w9.2.2)
                     · exact q.2 j (by omega))
                · exfalso; omega
  · rintro nM lsM stM I1 L1 R1 S1 hz1 ⟨t, f, rfl, rfl, rfl, rfl, rfl, rfl, rfl, ht, hf, hf2, hno⟩
    refine And.intro ⟨(by omega), (by omega)⟩ ⟨fun h97 => ?_, fun h97 => ?_⟩
    · refine hQ _ ?_
      · first
        | exact oRp_no hf (by by_cases e : f = -1; exact Or.inl e; exact Or.inr (fun u hu => hno (by omega) u (by omega)))
        | (rcases p131hv with w | w
           · exact oRp_at hf (by omega) (by omega) ⟨by show dbs d t = t; omega, w.2⟩ (hno (by omega))
           · exfalso; omega)
    · refine And.intro ⟨(by omega), (zRb rfl)⟩ ⟨fun h102 => ?_, fun h102 => ?_⟩
      · refine hQ _ ?_
        · first
          | exact oRp_no hf (by by_cases e : f = -1; exact Or.inl e; exact Or.inr (fun u hu => hno (by omega) u (by omega)))
          | (rcases p131hv with w | w
             · exact oRp_at hf (by omega) (by omega) ⟨by show dbs d t = t; omega, w.2⟩ (hno (by omega))
             · exfalso; omega)
      · refine And.intro (zA_63 hS) (Exists.intro _ (And.intro (zinl_ok (zT3_14 2)) (And.intro rfl ?_)))
        refine And.intro ⟨(by omega), (zRb rfl)⟩ ⟨(fun h2_108 => False.elim (by omega)), fun h2_108 => ?_⟩
        refine And.intro (zA_63 hS) (zrdR (v := some 65) (zR_63_2 hR) ?_)
        refine And.intro (zA_65 hS) ⟨_, sn_A_at.up (by decide), ?_⟩
        refine ⟨65, 16, (dns d + 1), (upR (cSR d ob) (dns d) K p (-1) 0 1), t, 2, (t : Int), (2 : Int), rfl, hS, hR, (zRw_65 hR hS), (by first | exact (zRT_fr hT (fun c j h => rfl)) | exact (zRT_fr hT (fun c j h => rfl)) | (clear hQ; grind [xu])), (by omega), (by omega), ?_⟩
        intro v11_108o p11_108hv p11_108bhr
        have g11_108 : v11_108o = dbs d t := (p11_108hv.trans (by rw [upR_ne (by omega)]; exact cSR_2))
        refine And.intro ⟨(by omega), (by omega)⟩ ⟨fun h15_108 => ?_, fun h15_108 => ?_⟩
        · refine And.intro (Or.inl rfl) ?_
          refine And.intro (zRb rfl) (zbt rfl ?_)
          refine ⟨(1, (17 - (t + 1)), 0), zlt6 (by omega), [some (zvr (63)), some (zvi (s)), none, some (zvi (f)), some (zvi ((t + 1))), none], ⟨rfl, rfl, rfl, rfl, rfl⟩, (t + 1), f, rfl, rfl, rfl, rfl, rfl, rfl, rfl, (by omega), (by omega), (by omega), ?_⟩
          · intro h0 u hu
            by_cases e : u = t
            · rw [e]
              intro w9
              have a1 : ((dbs d t : Nat) : Int) = t := by rw [w9.1]
              first
              | omega
              | (rcases p131hv with w | w
                 · omega
                 · exact w.2 w9.2)
            · exact hno h0 u (by omega)
        · refine And.intro (Or.inr rfl) ?_
          refine And.intro (zRb rfl) (zbf rfl ?_)
          refine And.intro (zA_63 hS) (zrdR (v := some k) hob ?_)
          refine And.intro (zA_63 hS) (zrdR (v := some 65) (zR_63_2 hR) ?_)
          refine And.intro (zA_65 hS) ⟨_, sn_A_at.up (by decide), ?_⟩
          refine ⟨65, 16, (dns d + 1), (upR (cSR d ob) (dns d) K p (-1) 0 1), t, 0, (t : Int), (0 : Int), rfl, hS, hR, (zRw_65 hR hS), (by first | exact (zRT_fr hT (fun c j h => rfl)) | exact (zRT_fr hT (fun c j h => rfl)) | (clear hQ; grind [xu])), (by omega), (by omega), ?_⟩
          intro v127o p127hv p127bhr
          have g127 : v127o = ob t := (p127hv.trans (by rw [upR_ne (by omega)]; exact cSR_0))
          have g127b : 0 ≤ v127o ∧ v127o + 1 ≤ ocn O := (by have w := hob2 t (by omega); omega)
          refine And.intro (zDX hD 0 rfl) ⟨_, sn_O_same.up (by decide), ?_⟩
          refine ⟨k, O, (f : Int), f.toNat, (1 : Int), 1, (v127o : Int), (ob t).toNat, (0 : Int), 0, rfl, hS, hR, hD, (by first | exact (zOB_fr hO (fun c j h => rfl) (fun c j h => rfl)) | (clear hQ; grind [xu])), (by first | exact hG | (clear hQ; grind [xu])), (by omega), (by omega), (by omega), (by omega), ?_⟩
          intro v131o p131hv p131bhv2
          refine And.intro (by omega) ⟨fun h134 => ?_, fun h134 => ?_⟩
          · refine ⟨(1, (17 - (t + 1)), 0), zlt6 (by omega), [some (zvr (63)), some (zvi (s)), none, some (zvi (f)), some (zvi ((t + 1))), none], ⟨rfl, rfl, rfl, rfl, rfl⟩, (t + 1), f, rfl, rfl, rfl, rfl, rfl, rfl, rfl, (by omega), (by omega), (by omega), ?_⟩
            · intro h0 u hu
              by_cases e : u = t
              · rw [e]
                intro w9
                have a1 : ((dbs d t : Nat) : Int) = t := by rw [w9.1]
                first
                | omega
                | (rcases p131hv with w | w
                   · omega
                   · exact w.2 w9.2)
              · exact hno h0 u (by omega)
          · refine hQ _ ?_
            · first
              | exact oRp_no hf (by by_cases e : f = -1; exact Or.inl e; exact Or.inr (fun u hu => hno (by omega) u (by omega)))
              | (rcases p131hv with w | w
                 · exact oRp_at hf (by omega) (by omega) ⟨by show dbs d t = t; omega, w.2⟩ (hno (by omega))
                 · exfalso; omega))
def T_C_mkr : ZT := fun args I L R S Q => ∃ (k : Nat) (O : OoS) (d : JdS) (ob : Nat → Int) (K : Int) (p : Int) (s : Int) (n : Int) (n_ : Nat), args = [zvr 63, zvi s, zvi n] ∧ (zSh S) ∧ (zRs R) ∧ (R 63 0 = some k) ∧ (zDy zT2 zF2 k R S) ∧ (43 ≤ k ∧ k ≤ 52) ∧ (zOB k O I L) ∧ (oGd O) ∧ (zRT 65 16 (dns d + 1) (upR (cSR d ob) (dns d) K p (-1) 0 1) I) ∧ (jGd d) ∧ (dns d < 16) ∧ (n = n_ ∧ n_ < ocn O) ∧ (s = dns d) ∧ (∀ t, t < dns d → 0 ≤ ob t ∧ ob t < ocn O) ∧ (∀ t : Nat, t < dns d → I 67 (16 * dbs d t + cc d t) = t) ∧ (I 67 (16 * dns d) = dns d) ∧ ∀ (I' : ZI), (zSA (djS d p (oRp O (d, ob) n_)) (upF ob (dns d) K) I') → (∀ c j : Nat, ¬ c = 66 → ¬ c = 67 → I' c j = I c j) → Q none I' L R S
theorem sn_C_mkr : ZSnd 5 3 27 T_C_mkr := ZSnd.of (zT3_27 4) (by
  rintro args I L R S Q hz ⟨k, O, d, ob, K, p, s, n, n_, rfl, hS, hR, hob, hD, hk, hO, hG, hT, hJG, hns, hn, hs, hob2, hc, hc2, hQ⟩
  obtain ⟨o1, o2, o3, o4⟩ := id hO
  obtain ⟨g1, g2, g3, g4, g5⟩ := id hG
  have hk40 := hD.1
  have hk1 := hk.1
  have hk2 := hk.2
  have hrb : oRp O (d, ob) n_ = -1 ∨ (0 ≤ oRp O (d, ob) n_ ∧ oRp O (d, ob) n_ < dns d ∧ dbs d (oRp O (d, ob) n_).toNat = oRp O (d, ob) n_) := oRp_b
  have hjn := jNc_le (dbs d) (oRp O (d, ob) n_).toNat (dns d)
  refine And.intro rfl ?_
  refine And.intro (zA_63 hS) ⟨_, sn_C_org.up (by decide), ?_⟩
  refine ⟨k, O, d, ob, K, p, (s : Int), (n : Int), n_, rfl, hS, hR, hob, hD, (by omega), (by first | exact (zOB_fr hO (fun c j h => rfl) (fun c j h => rfl)) | (clear hQ; grind [xu])), (by first | exact hG | (clear hQ; grind [xu])), (by first | exact (zRT_fr hT (fun c j h => rfl)) | exact (zRT_fr hT (fun c j h => rfl)) | (clear hQ; grind [xu])), (by first | exact hJG | (clear hQ; grind [xu])), (by omega), (by omega), (by omega), (by first | exact hob2 | (clear hQ; grind [xu])), ?_⟩
  intro v3o p3hv
  have g3 : -1 ≤ v3o ∧ v3o + 1 ≤ dns d := (by omega)
  have g3b : v3o = -1 ∨ dbs d v3o.toNat = v3o := (by rw [p3hv]; rcases hrb with q | q; exact Or.inl q; exact Or.inr q.2.2)
  refine And.intro (zA_63 hS) (zrdR (v := some 65) (zR_63_2 hR) ?_)
  refine And.intro ⟨(by omega), (zRb rfl)⟩ ⟨fun h15 => ?_, fun h15 => ?_⟩
  · refine And.intro (zA_65 hS) ⟨_, sn_A_set.up (by decide), ?_⟩
    refine ⟨65, 16, (dns d + 1), (upR (cSR d ob) (dns d) K p (-1) 0 1), (dns d), 2, (s : Int), (2 : Int), (v3o : Int), rfl, hS, hR, (zRw_65 hR hS), (by first | exact (zRT_fr hT (fun c j h => rfl)) | exact (zRT_fr hT (fun c j h => rfl)) | (clear hQ; grind [xu])), (by omega), (by omega), (by omega), ?_⟩
    intro I23o p23hT2 p23bfr
    refine And.intro ⟨(by omega), (zRb rfl)⟩ ⟨(fun h28 => False.elim (by omega)), fun h28 => ?_⟩
    refine And.intro (zA_63 hS) (Exists.intro _ (And.intro (zinl_ok (zT3_5 3)) (And.intro rfl ?_)))
    refine And.intro (zA_63 hS) (zrdR (v := some 65) (zR_63_2 hR) ?_)
    refine And.intro (zA_65 hS) ⟨_, sn_A_at.up (by decide), ?_⟩
    refine ⟨65, 16, (dns d + 1), (up2z (upR (cSR d ob) (dns d) K p (-1) 0 1) (dns d) 2 v3o), v3o.toNat, 4, (v3o : Int), (4 : Int), rfl, hS, hR, (zRw_65 hR hS), (by first | exact (zRT_fr hT (fun c j h => ((p23bfr c j (by omega)).trans rfl))) | exact (zRT_fr hT (fun c j h => ((p23bfr c j (by omega)).trans rfl))) | (clear hQ; grind [xu])), (by omega), (by omega), ?_⟩
    intro v6_33o p6_33hv p6_33bhr
    have g6_33 : v6_33o = jNc (dbs d) v3o.toNat (dns d) := (p6_33hv.trans ((up2z_ne (fun w => by omega)).trans ((upR_ne (by omega)).trans (cSR_4 (by omega)))))
    have g6_33b : 0 ≤ v6_33o ∧ v6_33o ≤ dns d := (by have w := jNc_le (dbs d) v3o.toNat (dns d); omega)
    refine And.intro (zA_63 hS) (zrdR (v := some 67) (zR_63_3 hR) ?_)
    refine And.intro ⟨(zx0 rfl), (zP_67 hS (by omega) (by omega))⟩ ⟨_, (zWi (by omega)), ?_⟩
    refine And.intro (zA_63 hS) (zrdR (v := some 65) (zR_63_2 hR) ?_)
    refine And.intro (zA_65 hS) ⟨_, sn_A_set.up (by decide), ?_⟩
    refine ⟨65, 16, (dns d + 1), (up2z (upR (cSR d ob) (dns d) K p (-1) 0 1) (dns d) 2 v3o), v3o.toNat, 4, (v3o : Int), (4 : Int), ((v6_33o + 1) : Int), rfl, hS, hR, (zRw_65 hR hS), (zRT_fr p23hT2 (fun c j h => zxu (by omega) rfl)), (by omega), (by omega), (by omega), ?_⟩
    intro I61o p61hT2 p61bfr
    refine And.intro (zA_63 hS) (zrdR (v := some 65) (zR_63_2 hR) ?_)
    refine And.intro (zA_65 hS) ⟨_, sn_A_set.up (by decide), ?_⟩
    refine ⟨65, 16, (dns d + 1), (up2z (up2z (upR (cSR d ob) (dns d) K p (-1) 0 1) (dns d) 2 v3o) v3o.toNat 4 (v6_33o + 1)), (dns d), 3, (s : Int), (3 : Int), (v6_33o : Int), rfl, hS, hR, (zRw_65 hR hS), p61hT2, (by omega), (by omega), (by omega), ?_⟩
    intro I72o p72hT2 p72bfr
    refine hQ _ ?_ (fun c j h0 h1 => ((p72bfr c j (by omega)).trans ((p61bfr c j (by omega)).trans (zxu h1 ((p23bfr c j (by omega)).trans rfl)))))
    · rw [← p3hv]
      first
      | (have e1 : v3o = -1 := (by omega)
         rw [e1]
         rw [hs] at p23hT2
         exact zSA_n hJG p23hT2 (fun t ht => (p23bfr 67 _ (by omega)).trans (hc t ht)) ((p23bfr 67 _ (by omega)).trans hc2))
      | (refine zSA_r (b := v3o.toNat) hJG ⟨by omega, by omega, by omega⟩ (g6_33) (by omega) p72hT2 (fun t ht => ?_) ?_
         · refine (p72bfr 67 _ (by omega)).trans ((p61bfr 67 _ (by omega)).trans (zxs ?_ ((p23bfr 67 _ (by omega)).trans (hc t ht))))
           have w1 := (hJG.2.1 t ht).1
           have w2 := cc_lt (d := d) ht
           have w3 := cc_16 hJG ht
           by_cases e : dbs d t = v3o.toNat
           · rw [e] at w2
             omega
           · omega
         · exact (p72bfr 67 _ (by omega)).trans ((p61bfr 67 _ (by omega)).trans ((zxe' (by omega)).trans (by omega))))
  · refine And.intro (zA_65 hS) ⟨_, sn_A_set.up (by decide), ?_⟩
    refine ⟨65, 16, (dns d + 1), (upR (cSR d ob) (dns d) K p (-1) 0 1), (dns d), 2, (s : Int), (2 : Int), (s : Int), rfl, hS, hR, (zRw_65 hR hS), (by first | exact (zRT_fr hT (fun c j h => rfl)) | exact (zRT_fr hT (fun c j h => rfl)) | (clear hQ; grind [xu])), (by omega), (by omega), (by omega), ?_⟩
    intro I23o p23hT2 p23bfr
    refine And.intro ⟨(by omega), (zRb rfl)⟩ ⟨fun h28 => ?_, (fun h28 => False.elim (by omega))⟩
    refine hQ _ ?_ (fun c j h0 h1 => ((p23bfr c j (by omega)).trans rfl))
    · rw [← p3hv]
      first
      | (have e1 : v3o = -1 := (by omega)
         rw [e1]
         rw [hs] at p23hT2
         exact zSA_n hJG p23hT2 (fun t ht => (p23bfr 67 _ (by omega)).trans (hc t ht)) ((p23bfr 67 _ (by omega)).trans hc2))
      | (refine zSA_r (b := v3o.toNat) hJG ⟨by omega, by omega, by omega⟩ (g6_33) (by omega) p72hT2 (fun t ht => ?_) ?_
         · refine (p72bfr 67 _ (by omega)).trans ((p61bfr 67 _ (by omega)).trans (zxs ?_ ((p23bfr 67 _ (by omega)).trans (hc t ht))))
           have w1 := (hJG.2.1 t ht).1
           have w2 := cc_lt (d := d) ht
           have w3 := cc_16 hJG ht
           by_cases e : dbs d t = v3o.toNat
           · rw [e] at w2
             omega
           · omega
         · exact (p72bfr 67 _ (by omega)).trans ((p61bfr 67 _ (by omega)).trans ((zxe' (by omega)).trans (by omega)))))
def T_C_fsh : ZT := fun args I L R S Q => ∃ (k : Nat) (O : OoS), args = [zvr 63] ∧ (zSh S) ∧ (zRs R) ∧ (R 63 0 = some k) ∧ (zDy zT2 zF2 k R S) ∧ (43 ≤ k ∧ k ≤ 52) ∧ (zOB k O I L) ∧ (oGd O) ∧ (I 65 1 = 16) ∧ ∀ (I' : ZI), (zSA (oDs O) (oSt O (ocn O)).2 I') → (∀ j : Nat, j < ocn O → I' 64 j = oSh O j) → (∀ c j : Nat, ¬ c = 64 → ¬ (c = 65 ∧ j = 2) → ¬ c = 66 → ¬ c = 67 → I' c j = I c j) → Q none I' L R S
theorem sn_C_fsh : ZSnd 6 3 8 T_C_fsh := ZSnd.loops (zT3_8 5) (by
  rintro args I L R S Q hz ⟨k, O, rfl, hS, hR, hob, hD, hk, hO, hG, hrm, hQ⟩
  obtain ⟨o1, o2, o3, o4⟩ := id hO
  obtain ⟨g1, g2, g3, g4, g5⟩ := id hG
  have hk40 := hD.1
  have hk1 := hk.1
  have hk2 := hk.2
  refine ⟨[10], fun nM tM lsM stM I1 L1 R1 S1 => match tM with
      | 10 => ∃ (m : Nat), nM = ((201 - m), 0, 0) ∧ lsM = [some (zvr (63)), some (zvi (m)), none] ∧ stM = [] ∧ L1 = L ∧ R1 = R ∧ S1 = S ∧ (m ≤ ocn O) ∧ (zSA (oSt O m).1 (oSt O m).2 I1) ∧ (∀ j : Nat, j < m → I1 64 j = oSh O j) ∧ (∀ c j : Nat, ¬ c = 64 → ¬ (c = 65 ∧ j = 2) → ¬ c = 66 → ¬ c = 67 → I1 c j = I c j)
      | _ => False, rfl, ?_, ⟨?_, True.intro⟩⟩
  · refine And.intro (zA_63 hS) (zrdR (v := some 65) (zR_63_2 hR) ?_)
    refine And.intro (zA_65 hS) ⟨_, (zWi (zRb rfl)), ?_⟩
    refine ⟨((201 - (0 : Nat)), 0, 0), [some (zvr (63)), some (zvi ((0 : Nat))), none], ⟨rfl, rfl, rfl⟩, 0, rfl, rfl, rfl, rfl, rfl, rfl, (by omega), (zSA_0 (zxs (by decide) hrm) zxe), (fun j h => absurd h (Nat.not_lt_zero j)), (fun c j h0 h1 h2 h3 => (zxcj h1 rfl))⟩
  · rintro nM lsM stM I1 L1 R1 S1 hz1 ⟨m, rfl, rfl, rfl, rfl, rfl, rfl, hm, hSA1, h641, fr⟩
    obtain ⟨hT1, hc1⟩ := id hSA1
    have hn1 := oSt_n (O := O) m
    have hgs := oSt_g hG (k := m)
    obtain ⟨u1, u2, u3, u4⟩ := id hT1
    have hcm : I1 65 2 = dns (oSt O m).1 := u2
    refine And.intro (zA_63 hS) (zrdR (v := some k) hob ?_)
    refine And.intro (zDX hD 0 rfl) (zrd (v := (ocn O)) ((fr k 0 (by omega) (by omega) (by omega) (by omega)).trans o1) ?_)
    refine And.intro ⟨(by omega), (by omega)⟩ ⟨fun h18 => ?_, fun h18 => ?_⟩
    · refine hQ _ ?_ (fun j hj => h641 j (by omega)) (fun c j h0 h1 h2 h3 => ((fr c j (by omega) (by omega) (by omega) (by omega)).trans rfl))
      · obtain rfl : m = ocn O := (by omega)
        exact hSA1
    · refine And.intro (zA_63 hS) (zrdR (v := some 64) (zR_63_1 hR) ?_)
      refine And.intro ⟨(zx0 rfl), (zP_64 hS (by omega) (by omega))⟩ ⟨_, (zWi (zRb rfl)), ?_⟩
      refine And.intro (zA_63 hS) (zrdR (v := some k) hob ?_)
      refine And.intro (zDX hD 0 rfl) ⟨_, sn_O_kind.up (by decide), ?_⟩
      refine ⟨k, O, (m : Int), m, rfl, hS, hR, hD, (by first | exact (zOB_fr hO (fun c j h => (zxcj (by omega) ((fr c j (by omega) (by omega) (by omega) (by omega)).trans rfl))) (fun c j h => rfl)) | (clear hQ; grind [xu])), (by first | exact hG | (clear hQ; grind [xu])), (by omega), ?_⟩
      intro v33o p33hv p33bhv2
      refine And.intro ⟨(by omega), (zRb rfl)⟩ ⟨fun h37 => ?_, fun h37 => ?_⟩
      · refine ⟨((201 - (m + 1)), 0, 0), zlt6 (by omega), [some (zvr (63)), some (zvi ((m + 1))), none], ⟨rfl, rfl, rfl⟩, (m + 1), rfl, rfl, rfl, rfl, rfl, rfl, (by omega), ?_, ?_, (fun c j h0 h1 h2 h3 => (zxu h0 ((fr c j (by omega) (by omega) (by omega) (by omega)).trans rfl)))⟩
        · first
          | (rw [oSt_f (fun w => by have w1 := w.1; have w2 := w.2; omega)]
             exact zSA_fr hSA1 (fun c j h => zxu (by omega) rfl))
          | (rw [oSt_t ⟨by omega, by omega⟩]
             show zSA (djS (oSt O m).1 (oPs O m) (oRp O (oSt O m) m)) (upF (oSt O m).2 (oSc O m) (m : Int)) _
             rw [← p64hv, show oSc O m = dns (oSt O m).1 by omega]
             exact p94hSA)
        · intro j hj
          by_cases e : j = m
          · rw [e]
            first
            | exact (zxe' (by omega)).trans (oSh_no (fun w => by have w1 := w.1; have w2 := w.2; omega)).symm
            | exact (p94bfr 64 _ (by omega) (by omega)).trans ((zxu (by omega) (zxe' (by omega))).trans (by rw [oSh_at ⟨by omega, by omega⟩]; omega))
          · first
            | exact zxs (by omega) (h641 j (by omega))
            | exact (p94bfr 64 _ (by omega) (by omega)).trans (zxu (by omega) (zxs (by omega) ((p70bbfr 64 _ (by omega) (by omega)).trans (zxs (by omega) (h641 j (by omega))))))
      · have t37 : 0 ≤ opa O m := (oPar hG (k := m) (by omega) (by omega)).2.1.1
        refine And.intro (zA_63 hS) (zrdR (v := some 65) (zR_63_2 hR) ?_)
        refine And.intro (zA_65 hS) (Exists.intro _ (And.intro (zinl_ok (zT7_2 4)) (And.intro rfl ?_)))
        refine And.intro (zA_65 hS) (fun v1_44 e1_44 r1_44 => ?_)
        have f1_44 : v1_44 = dns (oSt O m).1 := (e1_44.trans (zxu (by omega) hcm))
        refine And.intro (zA_65 hS) (zrd (v := 16) ((fr 65 1 (by omega) (by omega) (by omega) (by omega)).trans hrm) ?_)
        refine And.intro ⟨r1_44, (zRb rfl)⟩ ⟨fun h8_44 => ?_, fun h8_44 => ?_⟩
        · refine And.intro (Or.inl rfl) ?_
          refine And.intro (zRb rfl) (zbt rfl ?_)
          refine ⟨((201 - (m + 1)), 0, 0), zlt6 (by omega), [some (zvr (63)), some (zvi ((m + 1))), none], ⟨rfl, rfl, rfl⟩, (m + 1), rfl, rfl, rfl, rfl, rfl, rfl, (by omega), ?_, ?_, (fun c j h0 h1 h2 h3 => (zxu h0 ((fr c j (by omega) (by omega) (by omega) (by omega)).trans rfl)))⟩
          · first
            | (rw [oSt_f (fun w => by have w1 := w.1; have w2 := w.2; omega)]
               exact zSA_fr hSA1 (fun c j h => zxu (by omega) rfl))
            | (rw [oSt_t ⟨by omega, by omega⟩]
               show zSA (djS (oSt O m).1 (oPs O m) (oRp O (oSt O m) m)) (upF (oSt O m).2 (oSc O m) (m : Int)) _
               rw [← p64hv, show oSc O m = dns (oSt O m).1 by omega]
               exact p94hSA)
          · intro j hj
            by_cases e : j = m
            · rw [e]
              first
              | exact (zxe' (by omega)).trans (oSh_no (fun w => by have w1 := w.1; have w2 := w.2; omega)).symm
              | exact (p94bfr 64 _ (by omega) (by omega)).trans ((zxu (by omega) (zxe' (by omega))).trans (by rw [oSh_at ⟨by omega, by omega⟩]; omega))
            · first
              | exact zxs (by omega) (h641 j (by omega))
              | exact (p94bfr 64 _ (by omega) (by omega)).trans (zxu (by omega) (zxs (by omega) ((p70bbfr 64 _ (by omega) (by omega)).trans (zxs (by omega) (h641 j (by omega))))))
        · refine And.intro (Or.inr rfl) ?_
          refine And.intro (zRb rfl) (zbf rfl ?_)
          refine And.intro (zA_63 hS) (zrdR (v := some 65) (zR_63_2 hR) ?_)
          refine And.intro (zA_63 hS) (zrdR (v := some k) hob ?_)
          refine And.intro (zDX hD 0 rfl) ⟨_, sn_O_par.up (by decide), ?_⟩
          refine ⟨k, O, (m : Int), m, rfl, hS, hR, hD, (by first | exact (zOB_fr hO (fun c j h => (zxcj (by omega) ((fr c j (by omega) (by omega) (by omega) (by omega)).trans rfl))) (fun c j h => rfl)) | (clear hQ; grind [xu])), (by first | exact hG | (clear hQ; grind [xu])), (by omega), ?_⟩
          intro v61o p61hv p61bhv2
          refine And.intro (zA_63 hS) ⟨_, sn_C_sof.up (by decide), ?_⟩
          refine ⟨k, O, (v61o : Int), v61o.toNat, (oPs O m), rfl, hS, hR, hob, hD, (by omega), (by first | exact (zOB_fr hO (fun c j h => (zxcj (by omega) ((fr c j (by omega) (by omega) (by omega) (by omega)).trans rfl))) (fun c j h => rfl)) | (clear hQ; grind [xu])), (by first | exact hG | (clear hQ; grind [xu])), (by omega), (zxs (by omega) ((h641 v61o.toNat (by omega)).trans (by rw [p61hv]; exact (oPs_t (by omega)).symm))), ?_⟩
          intro v64o p64hv
          have g64 : -1 ≤ v64o ∧ v64o ≤ 15 := (by have w := oPs_b hG (k := m) (by omega); omega)
          refine And.intro (zA_65 hS) ⟨_, sn_A_add.up (by decide), ?_⟩
          refine ⟨65, 16, (dns (oSt O m).1), (cSR (oSt O m).1 (oSt O m).2), (m : Int), (v64o : Int), ((-1) : Int), (0 : Int), (1 : Int), rfl, hS, hR, (zRw_65 hR hS), (zRT_fr hT1 (fun c j h => zxu (by omega) rfl)), (by omega), (by omega), ?_⟩
          intro v70o I70o p70hv p70bhT2 p70bbfr
          have g70 : 0 ≤ v70o ∧ v70o ≤ 15 ∧ v70o = oSc O m := (by omega)
          refine And.intro (zA_63 hS) (zrdR (v := some 64) (zR_63_1 hR) ?_)
          refine And.intro ⟨(zx0 rfl), (zP_64 hS (by omega) (by omega))⟩ ⟨_, (zWi (by omega)), ?_⟩
          refine And.intro (zA_63 hS) (zrdR (v := some 67) (zR_63_3 hR) ?_)
          refine And.intro ⟨(zx0 rfl), (zP_67 hS (by omega) (by omega))⟩ ⟨_, (zWi (by omega)), ?_⟩
          refine And.intro (zA_63 hS) ⟨_, sn_C_mkr.up (by decide), ?_⟩
          refine ⟨k, O, (oSt O m).1, (oSt O m).2, (m : Int), v64o, (v70o : Int), (m : Int), m, rfl, hS, hR, hob, hD, (by omega), (by first | exact (zOB_fr hO (fun c j h => (zxcj (by omega) (zxcj (by omega) ((p70bbfr c j (by omega) (by omega)).trans (zxcj (by omega) ((fr c j (by omega) (by omega) (by omega) (by omega)).trans rfl)))))) (fun c j h => rfl)) | (clear hQ; grind [xu])), (by first | exact hG | (clear hQ; grind [xu])), (zRT_fr p70bhT2 (fun c j h => zxu (by omega) (zxu (by omega) rfl))), (hgs (by omega)), (by omega), (by omega), (by omega), (fun t ht => by obtain ⟨j, j1, j2, j3⟩ := oSt_i (O := O) (k := m) ht; omega), (fun t ht => by have w1 := ((hgs (by omega)).2.1 t ht).1; have w3 := cc_16 (hgs (by omega)) ht; exact zxs (by omega) (zxu (by omega) ((p70bbfr 67 _ (by omega) (by omega)).trans (zxu (by omega) (hc1 t ht))))), ((zxe' (by omega)).trans (by omega)), ?_⟩
          intro I94o p94hSA p94bfr
          refine ⟨((201 - (m + 1)), 0, 0), zlt6 (by omega), [some (zvr (63)), some (zvi ((m + 1))), none], ⟨rfl, rfl, rfl⟩, (m + 1), rfl, rfl, rfl, rfl, rfl, rfl, (by omega), ?_, ?_, (fun c j h0 h1 h2 h3 => ((p94bfr c j (by omega) (by omega)).trans (zxu h3 (zxu h0 ((p70bbfr c j (by omega) (by omega)).trans (zxu h0 ((fr c j (by omega) (by omega) (by omega) (by omega)).trans rfl)))))))⟩
          · first
            | (rw [oSt_f (fun w => by have w1 := w.1; have w2 := w.2; omega)]
               exact zSA_fr hSA1 (fun c j h => zxu (by omega) rfl))
            | (rw [oSt_t ⟨by omega, by omega⟩]
               show zSA (djS (oSt O m).1 (oPs O m) (oRp O (oSt O m) m)) (upF (oSt O m).2 (oSc O m) (m : Int)) _
               rw [← p64hv, show oSc O m = dns (oSt O m).1 by omega]
               exact p94hSA)
          · intro j hj
            by_cases e : j = m
            · rw [e]
              first
              | exact (zxe' (by omega)).trans (oSh_no (fun w => by have w1 := w.1; have w2 := w.2; omega)).symm
              | exact (p94bfr 64 _ (by omega) (by omega)).trans ((zxu (by omega) (zxe' (by omega))).trans (by rw [oSh_at ⟨by omega, by omega⟩]; omega))
            · first
              | exact zxs (by omega) (h641 j (by omega))
              | exact (p94bfr 64 _ (by omega) (by omega)).trans (zxu (by omega) (zxs (by omega) ((p70bbfr 64 _ (by omega) (by omega)).trans (zxs (by omega) (h641 j (by omega)))))))
