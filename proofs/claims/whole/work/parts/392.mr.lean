/-! mr -/
def T_A_mroute0 : ZT := fun args I L R S Q => ∃ (r : Int), args = [zvr 40, zvi r] ∧ (zSh S) ∧ (zRs R) ∧ (I 82 0 = -1) ∧ ∀ (I' : ZI), (I' 40 3 = 3) → (∀ c j : Nat, ¬ (c = 40 ∧ j = 3) → I' c j = I c j) → Q (some (zvi (-1))) I' L R S
theorem sn_A_mroute0 : ZSnd 8 11 41 T_A_mroute0 := ZSnd.of (zT11_41 7) (by
  rintro args I L R S Q hz ⟨r, rfl, hS, hR, hb0, hQ⟩
  refine And.intro rfl ?_
  refine And.intro (zA_40 hS) (zrdR (v := some 82) (zR_40_9 hR) ?_)
  refine And.intro (zA_82 hS) (zrd (v := (-1)) hb0 ?_)
  refine And.intro ⟨(zRb rfl), (zRb rfl)⟩ (zbf rfl ?_)
  refine And.intro (zA_40 hS) (Exists.intro _ (And.intro (zinl_ok (zT11_1 6)) (And.intro rfl ?_)))
  refine And.intro (zRb rfl) (zbf rfl ?_)
  refine And.intro (zA_40 hS) ⟨_, (zWi (zRb rfl)), ?_⟩
  refine And.intro (zRb rfl) (zbf rfl ?_)
  refine hQ _ (Eq.trans (b := ((-(-3)) : Int)) rfl (by omega)) (fun c j h0 => (zxcj h0 rfl)))
def T_A_mroute : ZT := fun args I L R S Q => ∃ (b : Nat) (s : BdS) (r : Int) (hb_ : Nat) (rb : Nat), args = [zvr 40, zvi r] ∧ (zSh S) ∧ (zRs R) ∧ (zBA b s I L) ∧ (1 ≤ b ∧ b ≤ 6) ∧ (r32 r) ∧ (bGd s) ∧ (∀ c, c < 1024 → bhi s c ≤ hb_) ∧ (∀ m, m < bnn s → 0 ≤ bN s m 4 ∧ bN s m 4 ≤ rb) ∧ (hb_ + 260 ≤ 400000) ∧ (rb + 1300 ≤ 1900000000) ∧ ∀ (v : Int) (I' : ZI) (L' : ZI), (v = if 0 ≤ bRtV s r then bRtV s r else -1) → (I' 40 3 = if 0 ≤ bRtV s r then 0 else -(bRtV s r)) → (zBA b (bRtS s r) I' L') → (bGd (bRtS s r) ∧ (∀ c, c < 1024 → bhi (bRtS s r) c ≤ hb_ + 240) ∧ (∀ m, m < bnn (bRtS s r) → 0 ≤ bN (bRtS s r) m 4 ∧ bN (bRtS s r) m 4 ≤ rb + 1200)) → (∀ c j : Nat, ¬ c = 85 → ¬ c = 86 → ¬ c = 91 → ¬ c = 92 → ¬ c = 93 → ¬ c = 101 → ¬ c = 99 → ¬ c = 100 → ¬ c = 103 → ¬ (c = 98 ∧ j = 5) → ¬ (c = 40 ∧ j = 3) → I' c j = I c j) → (∀ c j : Nat, ¬ c = 102 → ¬ (c = 82 ∧ j = 4) → L' c j = L c j) → Q (some (zvi (v))) I' L' R S
theorem sn_A_mroute : ZSnd 8 11 41 T_A_mroute := ZSnd.loops (zT11_41 7) (by
  rintro args I L R S Q hz ⟨b, s, r, hb_, rb, rfl, hS, hR, hBA, hb1, hr, hGd, hhi, hrp, hhb, hrb, hQ⟩
  obtain ⟨⟨hb0, hbw, hbh, hbd, hbs⟩, hnb, hcl, hPT, hNT, hwy, hco, hnd⟩ := id hBA
  obtain ⟨hP1, hP2, hP3, hP4⟩ := id hPT
  obtain ⟨hN1, hN2, hN3, hN4⟩ := id hNT
  obtain ⟨⟨⟨gW1, gW2⟩, ⟨gH1, gH2⟩, ⟨gD1, gD2⟩, gB9⟩, ⟨gnp, gnn⟩, gc, gp, gn, gco, gnd, gun⟩ := id hGd
  refine ⟨[38], fun nM tM lsM stM I1 L1 R1 S1 => match tM with
      | 38 => ∃ (t : BdS) (k : Nat), nM = ((21 - k), 0, 0) ∧ lsM = [some (zvr (40)), some (zvi (r)), some (zvi (k))] ∧ stM = [] ∧ R1 = R ∧ S1 = S ∧ ((k : Int) ≤ r ∧ 1 ≤ r ∧ r ≤ 20) ∧ (bRu (r.toNat - k) t = bRu r.toNat s) ∧ (zBA b t I1 L1) ∧ (bGd t ∧ (∀ c, c < 1024 → bhi t c ≤ hb_ + 12 * k) ∧ (∀ m, m < bnn t → 0 ≤ bN t m 4 ∧ bN t m 4 ≤ rb + 60 * k)) ∧ (∀ c j : Nat, ¬ c = 85 → ¬ c = 86 → ¬ c = 91 → ¬ c = 92 → ¬ c = 93 → ¬ c = 101 → ¬ c = 99 → ¬ c = 100 → ¬ c = 103 → ¬ (c = 98 ∧ j = 5) → I1 c j = I c j) ∧ (∀ c j : Nat, ¬ c = 102 → ¬ (c = 82 ∧ j = 4) → L1 c j = L c j)
      | _ => False, rfl, ?_, ⟨?_, True.intro⟩⟩
  · refine And.intro (zA_40 hS) (zrdR (v := some 82) (zR_40_9 hR) ?_)
    refine And.intro (zA_82 hS) (zrd (v := (b - 1)) hb0 ?_)
    refine And.intro ⟨(by omega), (zRb rfl)⟩ ⟨fun h8 => ?_, (fun h8 => False.elim (by omega))⟩
    refine And.intro ⟨(by omega), (zRb rfl)⟩ ⟨fun h20 => ?_, fun h20 => ?_⟩
    · refine And.intro (zA_40 hS) (Exists.intro _ (And.intro (zinl_ok (zT11_1 6)) (And.intro rfl ?_)))
      refine And.intro (zRb rfl) (zbf rfl ?_)
      refine And.intro (zA_40 hS) ⟨_, (zWi (zRb rfl)), ?_⟩
      refine And.intro (zRb rfl) (zbf rfl ?_)
      refine hQ _ _ _ ?_ ?_ ?_ ?_ (fun c j h0 h1 h2 h3 h4 h5 h6 h7 h8 h9 h10 => (zxcj h10 rfl)) (fun c j h0 h1 => rfl)
      · first
        | (have e8 : bRtV s r = -2 := if_neg (by omega)
           have e7 : bRtS s r = s := if_neg (by omega)
           rw [e8, if_neg (by decide)]
           try exact zxe)
        | (have e9 : bRu r.toNat s = t := by
             rw [← hlk]
             first
             | exact bRu_0 (by omega) _
             | (rw [show r.toNat - k = 0 by omega]
                rfl)
           have e8 : bRtV s r = bOpn t (bnn t) := (if_pos ⟨by omega, by omega⟩).trans (by rw [e9])
           have e7 : bRtS s r = t := (if_pos ⟨by omega, by omega⟩).trans e9
           rw [e8, if_pos (by omega)]
           first
           | omega
           | exact zxe)
      · first
        | (have e8 : bRtV s r = -2 := if_neg (by omega)
           have e7 : bRtS s r = s := if_neg (by omega)
           rw [e8, if_neg (by decide)]
           try exact zxe)
        | (have e9 : bRu r.toNat s = t := by
             rw [← hlk]
             first
             | exact bRu_0 (by omega) _
             | (rw [show r.toNat - k = 0 by omega]
                rfl)
           have e8 : bRtV s r = bOpn t (bnn t) := (if_pos ⟨by omega, by omega⟩).trans (by rw [e9])
           have e7 : bRtS s r = t := (if_pos ⟨by omega, by omega⟩).trans e9
           rw [e8, if_pos (by omega)]
           first
           | omega
           | exact zxe)
      · first
        | (have e8 : bRtV s r = -2 := if_neg (by omega)
           have e7 : bRtS s r = s := if_neg (by omega)
           rw [e7]
           exact zBA_fr hBA (fun c j h => zxcj (by omega) rfl) (fun c j h => rfl))
        | (have e9 : bRu r.toNat s = t := by
             rw [← hlk]
             first
             | exact bRu_0 (by omega) _
             | (rw [show r.toNat - k = 0 by omega]
                rfl)
           have e8 : bRtV s r = bOpn t (bnn t) := (if_pos ⟨by omega, by omega⟩).trans (by rw [e9])
           have e7 : bRtS s r = t := (if_pos ⟨by omega, by omega⟩).trans e9
           rw [e7]
           exact zBA_fr hB (fun c j h => zxcj (by omega) rfl) (fun c j h => rfl))
      · first
        | (have e8 : bRtV s r = -2 := if_neg (by omega)
           have e7 : bRtS s r = s := if_neg (by omega)
           rw [e7]
           exact ⟨hGd, fun c hc => by have := hhi c hc; omega, fun m hm => by have := hrp m hm; omega⟩)
        | (have e9 : bRu r.toNat s = t := by
             rw [← hlk]
             first
             | exact bRu_0 (by omega) _
             | (rw [show r.toNat - k = 0 by omega]
                rfl)
           have e8 : bRtV s r = bOpn t (bnn t) := (if_pos ⟨by omega, by omega⟩).trans (by rw [e9])
           have e7 : bRtS s r = t := (if_pos ⟨by omega, by omega⟩).trans e9
           rw [e7]
           exact ⟨hG.1, fun c hc => by have := hG.2.1 c hc; omega, fun m hm => by have := hG.2.2 m hm; omega⟩)
    · refine And.intro ⟨(by omega), (zRb rfl)⟩ ⟨fun h26 => ?_, fun h26 => ?_⟩
      · refine ⟨((21 - (0 : Nat)), 0, 0), [some (zvr (40)), some (zvi (r)), some (zvi ((0 : Nat)))], ⟨rfl, rfl, rfl, rfl⟩, s, 0, rfl, rfl, rfl, rfl, rfl, (by clear hQ; grind [xu]), rfl, hBA, ⟨hGd, hhi, fun m hm => by have := hrp m hm; omega⟩, (fun c j h0 h1 h2 h3 h4 h5 h6 h7 h8 h9 => rfl), (fun c j h0 h1 => rfl)⟩
      · refine And.intro (zA_40 hS) (Exists.intro _ (And.intro (zinl_ok (zT11_1 6)) (And.intro rfl ?_)))
        refine And.intro (zRb rfl) (zbf rfl ?_)
        refine And.intro (zA_40 hS) ⟨_, (zWi (zRb rfl)), ?_⟩
        refine And.intro (zRb rfl) (zbf rfl ?_)
        refine hQ _ _ _ ?_ ?_ ?_ ?_ (fun c j h0 h1 h2 h3 h4 h5 h6 h7 h8 h9 h10 => (zxcj h10 rfl)) (fun c j h0 h1 => rfl)
        · first
          | (have e8 : bRtV s r = -2 := if_neg (by omega)
             have e7 : bRtS s r = s := if_neg (by omega)
             rw [e8, if_neg (by decide)]
             try exact zxe)
          | (have e9 : bRu r.toNat s = t := by
               rw [← hlk]
               first
               | exact bRu_0 (by omega) _
               | (rw [show r.toNat - k = 0 by omega]
                  rfl)
             have e8 : bRtV s r = bOpn t (bnn t) := (if_pos ⟨by omega, by omega⟩).trans (by rw [e9])
             have e7 : bRtS s r = t := (if_pos ⟨by omega, by omega⟩).trans e9
             rw [e8, if_pos (by omega)]
             first
             | omega
             | exact zxe)
        · first
          | (have e8 : bRtV s r = -2 := if_neg (by omega)
             have e7 : bRtS s r = s := if_neg (by omega)
             rw [e8, if_neg (by decide)]
             try exact zxe)
          | (have e9 : bRu r.toNat s = t := by
               rw [← hlk]
               first
               | exact bRu_0 (by omega) _
               | (rw [show r.toNat - k = 0 by omega]
                  rfl)
             have e8 : bRtV s r = bOpn t (bnn t) := (if_pos ⟨by omega, by omega⟩).trans (by rw [e9])
             have e7 : bRtS s r = t := (if_pos ⟨by omega, by omega⟩).trans e9
             rw [e8, if_pos (by omega)]
             first
             | omega
             | exact zxe)
        · first
          | (have e8 : bRtV s r = -2 := if_neg (by omega)
             have e7 : bRtS s r = s := if_neg (by omega)
             rw [e7]
             exact zBA_fr hBA (fun c j h => zxcj (by omega) rfl) (fun c j h => rfl))
          | (have e9 : bRu r.toNat s = t := by
               rw [← hlk]
               first
               | exact bRu_0 (by omega) _
               | (rw [show r.toNat - k = 0 by omega]
                  rfl)
             have e8 : bRtV s r = bOpn t (bnn t) := (if_pos ⟨by omega, by omega⟩).trans (by rw [e9])
             have e7 : bRtS s r = t := (if_pos ⟨by omega, by omega⟩).trans e9
             rw [e7]
             exact zBA_fr hB (fun c j h => zxcj (by omega) rfl) (fun c j h => rfl))
        · first
          | (have e8 : bRtV s r = -2 := if_neg (by omega)
             have e7 : bRtS s r = s := if_neg (by omega)
             rw [e7]
             exact ⟨hGd, fun c hc => by have := hhi c hc; omega, fun m hm => by have := hrp m hm; omega⟩)
          | (have e9 : bRu r.toNat s = t := by
               rw [← hlk]
               first
               | exact bRu_0 (by omega) _
               | (rw [show r.toNat - k = 0 by omega]
                  rfl)
             have e8 : bRtV s r = bOpn t (bnn t) := (if_pos ⟨by omega, by omega⟩).trans (by rw [e9])
             have e7 : bRtS s r = t := (if_pos ⟨by omega, by omega⟩).trans e9
             rw [e7]
             exact ⟨hG.1, fun c hc => by have := hG.2.1 c hc; omega, fun m hm => by have := hG.2.2 m hm; omega⟩)
  · rintro nM lsM stM I1 L1 R1 S1 hz1 ⟨t, k, rfl, rfl, rfl, rfl, rfl, hk, hlk, hB, hG, fr, frL⟩
    have hop := bOpn_le t (bnn t)
    have hn12 : bnn t ≤ 12 := hG.1.2.1.2
    refine And.intro ⟨(by omega), (by omega)⟩ ⟨fun h40 => ?_, fun h40 => ?_⟩
    · refine And.intro (zA_40 hS) (zrdR (v := some 82) (zR_40_9 hR) ?_)
      refine And.intro (zA_82 hS) ⟨_, sn_A_opens.up (by decide), ?_⟩
      refine ⟨b, t, rfl, hS, hR, hB, ?_⟩
      intro v71o p71hv
      refine And.intro (zA_40 hS) (Exists.intro _ (And.intro (zinl_ok (zT11_1 6)) (And.intro rfl ?_)))
      refine And.intro (by omega) ⟨fun h2_74 => ?_, (fun h2_74 => False.elim (by omega))⟩
      refine And.intro (zA_40 hS) ⟨_, (zWi (zRb rfl)), ?_⟩
      refine And.intro (by omega) ⟨fun h15_74 => ?_, (fun h15_74 => False.elim (by omega))⟩
      refine hQ _ _ _ ?_ ?_ ?_ ?_ (fun c j h0 h1 h2 h3 h4 h5 h6 h7 h8 h9 h10 => (zxcj h10 ((fr c j (by omega) (by omega) (by omega) (by omega) (by omega) (by omega) (by omega) (by omega) (by omega) (by omega)).trans rfl))) (fun c j h0 h1 => ((frL c j (by omega) (by omega)).trans rfl))
      · first
        | (have e8 : bRtV s r = -2 := if_neg (by omega)
           have e7 : bRtS s r = s := if_neg (by omega)
           rw [e8, if_neg (by decide)]
           try exact zxe)
        | (have e9 : bRu r.toNat s = t := by
             rw [← hlk]
             first
             | exact bRu_0 (by omega) _
             | (rw [show r.toNat - k = 0 by omega]
                rfl)
           have e8 : bRtV s r = bOpn t (bnn t) := (if_pos ⟨by omega, by omega⟩).trans (by rw [e9])
           have e7 : bRtS s r = t := (if_pos ⟨by omega, by omega⟩).trans e9
           rw [e8, if_pos (by omega)]
           first
           | omega
           | exact zxe)
      · first
        | (have e8 : bRtV s r = -2 := if_neg (by omega)
           have e7 : bRtS s r = s := if_neg (by omega)
           rw [e8, if_neg (by decide)]
           try exact zxe)
        | (have e9 : bRu r.toNat s = t := by
             rw [← hlk]
             first
             | exact bRu_0 (by omega) _
             | (rw [show r.toNat - k = 0 by omega]
                rfl)
           have e8 : bRtV s r = bOpn t (bnn t) := (if_pos ⟨by omega, by omega⟩).trans (by rw [e9])
           have e7 : bRtS s r = t := (if_pos ⟨by omega, by omega⟩).trans e9
           rw [e8, if_pos (by omega)]
           first
           | omega
           | exact zxe)
      · first
        | (have e8 : bRtV s r = -2 := if_neg (by omega)
           have e7 : bRtS s r = s := if_neg (by omega)
           rw [e7]
           exact zBA_fr hBA (fun c j h => zxcj (by omega) rfl) (fun c j h => rfl))
        | (have e9 : bRu r.toNat s = t := by
             rw [← hlk]
             first
             | exact bRu_0 (by omega) _
             | (rw [show r.toNat - k = 0 by omega]
                rfl)
           have e8 : bRtV s r = bOpn t (bnn t) := (if_pos ⟨by omega, by omega⟩).trans (by rw [e9])
           have e7 : bRtS s r = t := (if_pos ⟨by omega, by omega⟩).trans e9
           rw [e7]
           exact zBA_fr hB (fun c j h => zxcj (by omega) rfl) (fun c j h => rfl))
      · first
        | (have e8 : bRtV s r = -2 := if_neg (by omega)
           have e7 : bRtS s r = s := if_neg (by omega)
           rw [e7]
           exact ⟨hGd, fun c hc => by have := hhi c hc; omega, fun m hm => by have := hrp m hm; omega⟩)
        | (have e9 : bRu r.toNat s = t := by
             rw [← hlk]
             first
             | exact bRu_0 (by omega) _
             | (rw [show r.toNat - k = 0 by omega]
                rfl)
           have e8 : bRtV s r = bOpn t (bnn t) := (if_pos ⟨by omega, by omega⟩).trans (by rw [e9])
           have e7 : bRtS s r = t := (if_pos ⟨by omega, by omega⟩).trans e9
           rw [e7]
           exact ⟨hG.1, fun c hc => by have := hG.2.1 c hc; omega, fun m hm => by have := hG.2.2 m hm; omega⟩)
    · refine And.intro (zA_40 hS) (zrdR (v := some 82) (zR_40_9 hR) ?_)
      refine And.intro (zA_82 hS) ⟨_, sn_A_opens.up (by decide), ?_⟩
      refine ⟨b, t, rfl, hS, hR, hB, ?_⟩
      intro v47o p47hv
      refine And.intro (by omega) ⟨fun h50 => ?_, fun h50 => ?_⟩
      · refine And.intro (zA_40 hS) (zrdR (v := some 82) (zR_40_9 hR) ?_)
        refine And.intro (zA_82 hS) ⟨_, sn_A_opens.up (by decide), ?_⟩
        refine ⟨b, t, rfl, hS, hR, hB, ?_⟩
        intro v71o p71hv
        refine And.intro (zA_40 hS) (Exists.intro _ (And.intro (zinl_ok (zT11_1 6)) (And.intro rfl ?_)))
        refine And.intro (by omega) ⟨fun h2_74 => ?_, (fun h2_74 => False.elim (by omega))⟩
        refine And.intro (zA_40 hS) ⟨_, (zWi (zRb rfl)), ?_⟩
        refine And.intro (by omega) ⟨fun h15_74 => ?_, (fun h15_74 => False.elim (by omega))⟩
        refine hQ _ _ _ ?_ ?_ ?_ ?_ (fun c j h0 h1 h2 h3 h4 h5 h6 h7 h8 h9 h10 => (zxcj h10 ((fr c j (by omega) (by omega) (by omega) (by omega) (by omega) (by omega) (by omega) (by omega) (by omega) (by omega)).trans rfl))) (fun c j h0 h1 => ((frL c j (by omega) (by omega)).trans rfl))
        · first
          | (have e8 : bRtV s r = -2 := if_neg (by omega)
             have e7 : bRtS s r = s := if_neg (by omega)
             rw [e8, if_neg (by decide)]
             try exact zxe)
          | (have e9 : bRu r.toNat s = t := by
               rw [← hlk]
               first
               | exact bRu_0 (by omega) _
               | (rw [show r.toNat - k = 0 by omega]
                  rfl)
             have e8 : bRtV s r = bOpn t (bnn t) := (if_pos ⟨by omega, by omega⟩).trans (by rw [e9])
             have e7 : bRtS s r = t := (if_pos ⟨by omega, by omega⟩).trans e9
             rw [e8, if_pos (by omega)]
             first
             | omega
             | exact zxe)
        · first
          | (have e8 : bRtV s r = -2 := if_neg (by omega)
             have e7 : bRtS s r = s := if_neg (by omega)
             rw [e8, if_neg (by decide)]
             try exact zxe)
          | (have e9 : bRu r.toNat s = t := by
               rw [← hlk]
               first
               | exact bRu_0 (by omega) _
               | (rw [show r.toNat - k = 0 by omega]
                  rfl)
             have e8 : bRtV s r = bOpn t (bnn t) := (if_pos ⟨by omega, by omega⟩).trans (by rw [e9])
             have e7 : bRtS s r = t := (if_pos ⟨by omega, by omega⟩).trans e9
             rw [e8, if_pos (by omega)]
             first
             | omega
             | exact zxe)
        · first
          | (have e8 : bRtV s r = -2 := if_neg (by omega)
             have e7 : bRtS s r = s := if_neg (by omega)
             rw [e7]
             exact zBA_fr hBA (fun c j h => zxcj (by omega) rfl) (fun c j h => rfl))
          | (have e9 : bRu r.toNat s = t := by
               rw [← hlk]
               first
               | exact bRu_0 (by omega) _
               | (rw [show r.toNat - k = 0 by omega]
                  rfl)
             have e8 : bRtV s r = bOpn t (bnn t) := (if_pos ⟨by omega, by omega⟩).trans (by rw [e9])
             have e7 : bRtS s r = t := (if_pos ⟨by omega, by omega⟩).trans e9
             rw [e7]
             exact zBA_fr hB (fun c j h => zxcj (by omega) rfl) (fun c j h => rfl))
        · first
          | (have e8 : bRtV s r = -2 := if_neg (by omega)
             have e7 : bRtS s r = s := if_neg (by omega)
             rw [e7]
             exact ⟨hGd, fun c hc => by have := hhi c hc; omega, fun m hm => by have := hrp m hm; omega⟩)
          | (have e9 : bRu r.toNat s = t := by
               rw [← hlk]
               first
               | exact bRu_0 (by omega) _
               | (rw [show r.toNat - k = 0 by omega]
                  rfl)
             have e8 : bRtV s r = bOpn t (bnn t) := (if_pos ⟨by omega, by omega⟩).trans (by rw [e9])
             have e7 : bRtS s r = t := (if_pos ⟨by omega, by omega⟩).trans e9
             rw [e7]
             exact ⟨hG.1, fun c hc => by have := hG.2.1 c hc; omega, fun m hm => by have := hG.2.2 m hm; omega⟩)
      · refine And.intro (zA_40 hS) (zrdR (v := some 98) (zR_40_10 hR) ?_)
        refine And.intro (zA_98 hS) ⟨_, sn_A_round.up (by decide), ?_⟩
        refine ⟨b, t, (hb_ + 12 * k), (rb + 60 * k), rfl, hS, hR, hB, hG.1, hG.2.1, (fun m hm => by have := hG.2.2 m hm; omega), (by omega), (by omega), ?_⟩
        intro I57o L57o p57hBA2 p57bhGd2 p57bbfr p57bbbfrL
        refine ⟨((21 - (k + 1)), 0, 0), zlt6 (by omega), [some (zvr (40)), some (zvi (r)), some (zvi ((k + 1)))], ⟨rfl, rfl, rfl, rfl⟩, (bGr t), (k + 1), rfl, rfl, rfl, rfl, rfl, (by first | exact hk | (clear hQ; grind [xu])), ?_, p57hBA2, ⟨p57bhGd2.1, fun c hc => by have := p57bhGd2.2.1 c hc; omega, fun m hm => by have := p57bhGd2.2.2.1 m hm; omega⟩, (fun c j h0 h1 h2 h3 h4 h5 h6 h7 h8 h9 => ((p57bbfr c j (by omega) (by omega) (by omega) (by omega) (by omega) (by omega) (by omega) (by omega) (by omega) (by omega)).trans ((fr c j (by omega) (by omega) (by omega) (by omega) (by omega) (by omega) (by omega) (by omega) (by omega) (by omega)).trans rfl))), (fun c j h0 h1 => ((p57bbbfrL c j (by omega) (by omega)).trans ((frL c j (by omega) (by omega)).trans rfl)))⟩
        · have e : bRu (r.toNat - (k + 1) + 1) t = if 0 < bOpn t (bnn t) then bRu (r.toNat - (k + 1)) (bGr t) else t := rfl
          rw [show r.toNat - k = r.toNat - (k + 1) + 1 by omega, e, if_pos (by omega)] at hlk
          exact hlk)
