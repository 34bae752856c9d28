/-! gb7 -/
def T_G_run : ZT := fun args I L R S Q => ∃ (k : Nat) (s : BdS) (r : Int) (hb_ : Nat) (rb : Nat), args = [zvr k, zvi r] ∧ (zDy zT17 zF17 k R S) ∧ (zBB k (-1) s I L) ∧ (bGd s) ∧ (r32 r) ∧ (∀ c, c < 1024 → bhi s c ≤ hb_) ∧ (∀ m, m < bnn s → 0 ≤ bN s m 4 ∧ bN s m 4 ≤ rb) ∧ (hb_ + 260 ≤ 400000) ∧ (rb + 1300 ≤ 1900000000) ∧ ∀ (v : Int) (I' : ZI) (L' : ZI), ((I' k 0 = 0 ∧ bRtV s r = v ∧ 0 ≤ v) ∨ (I' k 0 = 1 ∧ bRtV s r = -2)) → (zBB k (-1) (bRtS s r) I' L') → (bGd (bRtS s r) ∧ (∀ c, c < 1024 → bhi (bRtS s r) c ≤ hb_ + 240) ∧ (∀ m, m < bnn (bRtS s r) → 0 ≤ bN (bRtS s r) m 4 ∧ bN (bRtS s r) m 4 ≤ rb + 1200)) → (∀ c j : Nat, ¬ c = k + 3 → ¬ c = k + 10 → ¬ c = k + 11 → ¬ c = k + 12 → ¬ c = k + 14 → ¬ c = k + 15 → ¬ c = k + 17 → ¬ c = k + 18 → ¬ (c = k ∧ j = 21) → ¬ (c = k ∧ j = 0) → I' c j = I c j) → (∀ c j : Nat, ¬ c = k + 6 → ¬ c = k + 13 → ¬ c = k + 16 → ¬ (c = k ∧ j = 4) → L' c j = L c j) → Q (some (zvi (v))) I' L' R S
theorem sn_G_run : ZSnd 8 17 29 T_G_run := ZSnd.loops (zT17_29 7) (by
  rintro args I L R S Q hz ⟨k, s, r, hb_, rb, rfl, hd, hBB, hGd, hr, hhi, hrp, hhb, hrb, hQ⟩
  have hGz := bGd_z hGd
  have h5 := hd.1
  obtain ⟨⟨hbw, hbh, hbd, hbs, hbn⟩, hcl, hco, hpc, hne, hpi⟩ := id hBB
  obtain ⟨⟨⟨gW1, gW2⟩, ⟨gH1, gH2⟩, ⟨gD1, gD2⟩, gB9⟩, ⟨gnp, gnn⟩, gco⟩ := id hGz
  obtain ⟨m1, m2, hKe⟩ := gWH hGz
  have hKd : bK s = bW s * bH s * bD s := rfl
  refine ⟨[31], fun nM tM lsM stM I1 L1 R1 S1 => match tM with
      | 31 => ∃ (t : BdS) (j : Nat), nM = ((21 - j), 0, 0) ∧ lsM = [some (zvr (k)), some (zvi (r)), some (zvi (j))] ∧ stM = [] ∧ R1 = R ∧ S1 = S ∧ ((j : Int) ≤ r ∧ 1 ≤ r ∧ r ≤ 20) ∧ (bRu (r.toNat - j) t = bRu r.toNat s) ∧ (zBB k (-1) t I1 L1) ∧ (I1 k 0 = 0) ∧ (bGd t ∧ (∀ c, c < 1024 → bhi t c ≤ hb_ + 12 * j) ∧ (∀ m, m < bnn t → 0 ≤ bN t m 4 ∧ bN t m 4 ≤ rb + 60 * j)) ∧ (∀ c j : Nat, ¬ c = k + 3 → ¬ c = k + 10 → ¬ c = k + 11 → ¬ c = k + 12 → ¬ c = k + 14 → ¬ c = k + 15 → ¬ c = k + 17 → ¬ c = k + 18 → ¬ (c = k ∧ j = 21) → ¬ (c = k ∧ j = 0) → I1 c j = I c j) ∧ (∀ c j : Nat, ¬ c = k + 6 → ¬ c = k + 13 → ¬ c = k + 16 → ¬ (c = k ∧ j = 4) → L1 c j = L c j)
      | _ => False, rfl, ?_, ⟨?_, True.intro⟩⟩
  · refine And.intro ⟨(by omega), (zRb rfl)⟩ ⟨fun h3 => ?_, fun h3 => ?_⟩
    · refine And.intro (zDX hd 0 rfl) ⟨_, (zWi (zRb rfl)), ?_⟩
      refine And.intro (zDX hd 0 rfl) (zrd (v := 1) zxe ?_)
      refine And.intro (zRb rfl) (zbf rfl ?_)
      refine hQ _ _ _ ?_ ?_ ?_ (fun c j h0 h1 h2 h3 h4 h5 h6 h7 h8 h9 => (zxcj h9 rfl)) (fun c j h0 h1 h2 h3 => rfl)
      · first
        | (have e8 : bRtV s r = -2 := if_neg (by omega)
           have e7 : bRtS s r = s := if_neg (by omega)
           exact Or.inr ⟨zxe, e8⟩)
        | (have e9 : bRu r.toNat s = t := by
             rw [← hlk]
             first
             | exact bRu_0 (by omega) _
             | (rw [show r.toNat - j = 0 by omega]
                rfl)
           have e8 : bRtV s r = bOpn t (bnn t) := (if_pos ⟨by omega, by omega⟩).trans (by rw [e9])
           have e7 : bRtS s r = t := (if_pos ⟨by omega, by omega⟩).trans e9
           exact Or.inl ⟨h00, by rw [e8]; omega, by omega⟩)
      · first
        | (have e8 : bRtV s r = -2 := if_neg (by omega)
           have e7 : bRtS s r = s := if_neg (by omega)
           rw [e7]
           exact zBB_fr hBB (fun c j h => zxcj (by omega) rfl) (fun c j h => rfl))
        | (have e9 : bRu r.toNat s = t := by
             rw [← hlk]
             first
             | exact bRu_0 (by omega) _
             | (rw [show r.toNat - j = 0 by omega]
                rfl)
           have e8 : bRtV s r = bOpn t (bnn t) := (if_pos ⟨by omega, by omega⟩).trans (by rw [e9])
           have e7 : bRtS s r = t := (if_pos ⟨by omega, by omega⟩).trans e9
           rw [e7]
           exact hB)
      · first
        | (have e8 : bRtV s r = -2 := if_neg (by omega)
           have e7 : bRtS s r = s := if_neg (by omega)
           rw [e7]
           exact ⟨hGd, fun c hc => by have := hhi c hc; omega, fun m hm => by have := hrp m hm; omega⟩)
        | (have e9 : bRu r.toNat s = t := by
             rw [← hlk]
             first
             | exact bRu_0 (by omega) _
             | (rw [show r.toNat - j = 0 by omega]
                rfl)
           have e8 : bRtV s r = bOpn t (bnn t) := (if_pos ⟨by omega, by omega⟩).trans (by rw [e9])
           have e7 : bRtS s r = t := (if_pos ⟨by omega, by omega⟩).trans e9
           rw [e7]
           exact ⟨hG.1, fun c hc => by have := hG.2.1 c hc; omega, fun m hm => by have := hG.2.2 m hm; omega⟩)
    · refine And.intro ⟨(by omega), (zRb rfl)⟩ ⟨fun h9 => ?_, fun h9 => ?_⟩
      · refine And.intro (zDX hd 0 rfl) ⟨_, (zWi (zRb rfl)), ?_⟩
        refine And.intro (zDX hd 0 rfl) (zrd (v := 1) zxe ?_)
        refine And.intro (zRb rfl) (zbf rfl ?_)
        refine hQ _ _ _ ?_ ?_ ?_ (fun c j h0 h1 h2 h3 h4 h5 h6 h7 h8 h9 => (zxcj h9 rfl)) (fun c j h0 h1 h2 h3 => rfl)
        · first
          | (have e8 : bRtV s r = -2 := if_neg (by omega)
             have e7 : bRtS s r = s := if_neg (by omega)
             exact Or.inr ⟨zxe, e8⟩)
          | (have e9 : bRu r.toNat s = t := by
               rw [← hlk]
               first
               | exact bRu_0 (by omega) _
               | (rw [show r.toNat - j = 0 by omega]
                  rfl)
             have e8 : bRtV s r = bOpn t (bnn t) := (if_pos ⟨by omega, by omega⟩).trans (by rw [e9])
             have e7 : bRtS s r = t := (if_pos ⟨by omega, by omega⟩).trans e9
             exact Or.inl ⟨h00, by rw [e8]; omega, by omega⟩)
        · first
          | (have e8 : bRtV s r = -2 := if_neg (by omega)
             have e7 : bRtS s r = s := if_neg (by omega)
             rw [e7]
             exact zBB_fr hBB (fun c j h => zxcj (by omega) rfl) (fun c j h => rfl))
          | (have e9 : bRu r.toNat s = t := by
               rw [← hlk]
               first
               | exact bRu_0 (by omega) _
               | (rw [show r.toNat - j = 0 by omega]
                  rfl)
             have e8 : bRtV s r = bOpn t (bnn t) := (if_pos ⟨by omega, by omega⟩).trans (by rw [e9])
             have e7 : bRtS s r = t := (if_pos ⟨by omega, by omega⟩).trans e9
             rw [e7]
             exact hB)
        · first
          | (have e8 : bRtV s r = -2 := if_neg (by omega)
             have e7 : bRtS s r = s := if_neg (by omega)
             rw [e7]
             exact ⟨hGd, fun c hc => by have := hhi c hc; omega, fun m hm => by have := hrp m hm; omega⟩)
          | (have e9 : bRu r.toNat s = t := by
               rw [← hlk]
               first
               | exact bRu_0 (by omega) _
               | (rw [show r.toNat - j = 0 by omega]
                  rfl)
             have e8 : bRtV s r = bOpn t (bnn t) := (if_pos ⟨by omega, by omega⟩).trans (by rw [e9])
             have e7 : bRtS s r = t := (if_pos ⟨by omega, by omega⟩).trans e9
             rw [e7]
             exact ⟨hG.1, fun c hc => by have := hG.2.1 c hc; omega, fun m hm => by have := hG.2.2 m hm; omega⟩)
      · refine And.intro (zDX hd 0 rfl) ⟨_, (zWi (zRb rfl)), ?_⟩
        refine And.intro (zDX hd 0 rfl) (zrd (v := 0) zxe ?_)
        refine And.intro (zRb rfl) (zbt rfl ?_)
        refine ⟨((21 - (0 : Nat)), 0, 0), [some (zvr (k)), some (zvi (r)), some (zvi ((0 : Nat)))], ⟨rfl, rfl, rfl, rfl⟩, s, 0, rfl, rfl, rfl, rfl, rfl, (by clear hQ; grind [xu]), rfl, (zBB_fr hBB (fun c j h => zxcj (by omega) rfl) (fun c j h => rfl)), zxe, ⟨hGd, hhi, fun m hm => by have := hrp m hm; omega⟩, (fun c j h0 h1 h2 h3 h4 h5 h6 h7 h8 h9 => (zxcj h9 rfl)), (fun c j h0 h1 h2 h3 => rfl)⟩
  · rintro nM lsM stM I1 L1 R1 S1 hz1 ⟨t, j, rfl, rfl, rfl, rfl, rfl, hj, hlk, hB, h00, hG, fr, frL⟩
    have hop := bOpn_le t (bnn t)
    have hn12 : bnn t ≤ 12 := hG.1.2.1.2
    refine And.intro ⟨(by omega), (by omega)⟩ ⟨fun h33 => ?_, fun h33 => ?_⟩
    · refine And.intro (zDX hd 0 rfl) ⟨_, sn_G_opens.up (by decide), ?_⟩
      refine ⟨k, (-1), t, rfl, hd, hB, hG.1, ?_⟩
      intro v54o p54hv
      refine hQ _ _ _ ?_ ?_ ?_ (fun c j h0 h1 h2 h3 h4 h5 h6 h7 h8 h9 => ((fr c j (by omega) (by omega) (by omega) (by omega) (by omega) (by omega) (by omega) (by omega) (by omega) (by omega)).trans rfl)) (fun c j h0 h1 h2 h3 => ((frL c j (by omega) (by omega) (by omega) (by omega)).trans rfl))
      · first
        | (have e8 : bRtV s r = -2 := if_neg (by omega)
           have e7 : bRtS s r = s := if_neg (by omega)
           exact Or.inr ⟨zxe, e8⟩)
        | (have e9 : bRu r.toNat s = t := by
             rw [← hlk]
             first
             | exact bRu_0 (by omega) _
             | (rw [show r.toNat - j = 0 by omega]
                rfl)
           have e8 : bRtV s r = bOpn t (bnn t) := (if_pos ⟨by omega, by omega⟩).trans (by rw [e9])
           have e7 : bRtS s r = t := (if_pos ⟨by omega, by omega⟩).trans e9
           exact Or.inl ⟨h00, by rw [e8]; omega, by omega⟩)
      · first
        | (have e8 : bRtV s r = -2 := if_neg (by omega)
           have e7 : bRtS s r = s := if_neg (by omega)
           rw [e7]
           exact zBB_fr hBB (fun c j h => zxcj (by omega) rfl) (fun c j h => rfl))
        | (have e9 : bRu r.toNat s = t := by
             rw [← hlk]
             first
             | exact bRu_0 (by omega) _
             | (rw [show r.toNat - j = 0 by omega]
                rfl)
           have e8 : bRtV s r = bOpn t (bnn t) := (if_pos ⟨by omega, by omega⟩).trans (by rw [e9])
           have e7 : bRtS s r = t := (if_pos ⟨by omega, by omega⟩).trans e9
           rw [e7]
           exact hB)
      · first
        | (have e8 : bRtV s r = -2 := if_neg (by omega)
           have e7 : bRtS s r = s := if_neg (by omega)
           rw [e7]
           exact ⟨hGd, fun c hc => by have := hhi c hc; omega, fun m hm => by have := hrp m hm; omega⟩)
        | (have e9 : bRu r.toNat s = t := by
             rw [← hlk]
             first
             | exact bRu_0 (by omega) _
             | (rw [show r.toNat - j = 0 by omega]
                rfl)
           have e8 : bRtV s r = bOpn t (bnn t) := (if_pos ⟨by omega, by omega⟩).trans (by rw [e9])
           have e7 : bRtS s r = t := (if_pos ⟨by omega, by omega⟩).trans e9
           rw [e7]
           exact ⟨hG.1, fun c hc => by have := hG.2.1 c hc; omega, fun m hm => by have := hG.2.2 m hm; omega⟩)
    · refine And.intro (zDX hd 0 rfl) ⟨_, sn_G_opens.up (by decide), ?_⟩
      refine ⟨k, (-1), t, rfl, hd, hB, hG.1, ?_⟩
      intro v37o p37hv
      refine And.intro (by omega) ⟨fun h40 => ?_, fun h40 => ?_⟩
      · refine And.intro (zDX hd 0 rfl) ⟨_, sn_G_opens.up (by decide), ?_⟩
        refine ⟨k, (-1), t, rfl, hd, hB, hG.1, ?_⟩
        intro v54o p54hv
        refine hQ _ _ _ ?_ ?_ ?_ (fun c j h0 h1 h2 h3 h4 h5 h6 h7 h8 h9 => ((fr c j (by omega) (by omega) (by omega) (by omega) (by omega) (by omega) (by omega) (by omega) (by omega) (by omega)).trans rfl)) (fun c j h0 h1 h2 h3 => ((frL c j (by omega) (by omega) (by omega) (by omega)).trans rfl))
        · first
          | (have e8 : bRtV s r = -2 := if_neg (by omega)
             have e7 : bRtS s r = s := if_neg (by omega)
             exact Or.inr ⟨zxe, e8⟩)
          | (have e9 : bRu r.toNat s = t := by
               rw [← hlk]
               first
               | exact bRu_0 (by omega) _
               | (rw [show r.toNat - j = 0 by omega]
                  rfl)
             have e8 : bRtV s r = bOpn t (bnn t) := (if_pos ⟨by omega, by omega⟩).trans (by rw [e9])
             have e7 : bRtS s r = t := (if_pos ⟨by omega, by omega⟩).trans e9
             exact Or.inl ⟨h00, by rw [e8]; omega, by omega⟩)
        · first
          | (have e8 : bRtV s r = -2 := if_neg (by omega)
             have e7 : bRtS s r = s := if_neg (by omega)
             rw [e7]
             exact zBB_fr hBB (fun c j h => zxcj (by omega) rfl) (fun c j h => rfl))
          | (have e9 : bRu r.toNat s = t := by
               rw [← hlk]
               first
               | exact bRu_0 (by omega) _
               | (rw [show r.toNat - j = 0 by omega]
                  rfl)
             have e8 : bRtV s r = bOpn t (bnn t) := (if_pos ⟨by omega, by omega⟩).trans (by rw [e9])
             have e7 : bRtS s r = t := (if_pos ⟨by omega, by omega⟩).trans e9
             rw [e7]
             exact hB)
        · first
          | (have e8 : bRtV s r = -2 := if_neg (by omega)
             have e7 : bRtS s r = s := if_neg (by omega)
             rw [e7]
             exact ⟨hGd, fun c hc => by have := hhi c hc; omega, fun m hm => by have := hrp m hm; omega⟩)
          | (have e9 : bRu r.toNat s = t := by
               rw [← hlk]
               first
               | exact bRu_0 (by omega) _
               | (rw [show r.toNat - j = 0 by omega]
                  rfl)
             have e8 : bRtV s r = bOpn t (bnn t) := (if_pos ⟨by omega, by omega⟩).trans (by rw [e9])
             have e7 : bRtS s r = t := (if_pos ⟨by omega, by omega⟩).trans e9
             rw [e7]
             exact ⟨hG.1, fun c hc => by have := hG.2.1 c hc; omega, fun m hm => by have := hG.2.2 m hm; omega⟩)
      · refine And.intro (zDX hd 0 rfl) ⟨_, sn_G_turn.up (by decide), ?_⟩
        refine ⟨k, t, (hb_ + 12 * j), (rb + 60 * j), rfl, hd, hB, hG.1, hG.2.1, (fun m hm => by have := hG.2.2 m hm; omega), (by omega), (by omega), ?_⟩
        intro I44o L44o p44hBB2 p44bhGd2 p44bbfr p44bbbfrL
        refine ⟨((21 - (j + 1)), 0, 0), zlt6 (by omega), [some (zvr (k)), some (zvi (r)), some (zvi ((j + 1)))], ⟨rfl, rfl, rfl, rfl⟩, (bGr t), (j + 1), rfl, rfl, rfl, rfl, rfl, (by first | exact hj | (clear hQ; grind [xu])), ?_, p44hBB2, ((p44bbfr k 0 (by omega) (by omega) (by omega) (by omega) (by omega) (by omega) (by omega) (by omega) (by omega)).trans h00), ⟨p44bhGd2.1, fun c hc => by have := p44bhGd2.2.1 c hc; omega, fun m hm => by have := p44bhGd2.2.2.1 m hm; omega⟩, (fun c j h0 h1 h2 h3 h4 h5 h6 h7 h8 h9 => ((p44bbfr c j (by omega) (by omega) (by omega) (by omega) (by omega) (by omega) (by omega) (by omega) (by omega)).trans ((fr c j (by omega) (by omega) (by omega) (by omega) (by omega) (by omega) (by omega) (by omega) (by omega) (by omega)).trans rfl))), (fun c j h0 h1 h2 h3 => ((p44bbbfrL c j (by omega) (by omega) (by omega) (by omega)).trans ((frL c j (by omega) (by omega) (by omega) (by omega)).trans rfl)))⟩
        · have e : bRu (r.toNat - (j + 1) + 1) t = if 0 < bOpn t (bnn t) then bRu (r.toNat - (j + 1)) (bGr t) else t := rfl
          rw [show r.toNat - j = r.toNat - (j + 1) + 1 by omega, e, if_pos (by omega)] at hlk
          exact hlk)
def T_G_cost : ZT := fun args I L R S Q => ∃ (k : Nat) (s : BdS) (n : Int), args = [zvr k, zvi n] ∧ (zDy zT17 zF17 k R S) ∧ (zBB k (-1) s I L) ∧ (bGd s) ∧ (r32 n) ∧ ∀ (v : Int) (I' : ZI), ((I' k 0 = 0 ∧ 0 ≤ n ∧ n < bnn s ∧ v = gCo s n) ∨ (I' k 0 = 1 ∧ ¬ (0 ≤ n ∧ n < bnn s) ∧ gCo s n = -1)) → (∀ c j : Nat, ¬ (c = k ∧ j = 0) → I' c j = I c j) → Q (some (zvl (v))) I' L R S
theorem sn_G_cost : ZSnd 2 17 7 T_G_cost := ZSnd.of (zT17_7 1) (by
  rintro args I L R S Q hz ⟨k, s, n, rfl, hd, hBB, hGd, hr, hQ⟩
  have hGz := bGd_z hGd
  have h5 := hd.1
  obtain ⟨⟨hbw, hbh, hbd, hbs, hbn⟩, hcl, hco, hpc, hne, hpi⟩ := id hBB
  obtain ⟨⟨⟨gW1, gW2⟩, ⟨gH1, gH2⟩, ⟨gD1, gD2⟩, gB9⟩, ⟨gnp, gnn⟩, gco⟩ := id hGz
  obtain ⟨m1, m2, hKe⟩ := gWH hGz
  have hKd : bK s = bW s * bH s * bD s := rfl
  refine And.intro rfl ?_
  refine And.intro (zDX hd 0 rfl) (Exists.intro _ (And.intro (zinl_ok (zT17_13 0)) (And.intro rfl ?_)))
  refine And.intro (by omega) ⟨fun h1_3 => ?_, fun h1_3 => ?_⟩
  · refine And.intro (Or.inl rfl) ?_
    refine And.intro (zRb rfl) (zbt rfl ?_)
    refine And.intro (zDX hd 0 rfl) ⟨_, (zWi (zRb rfl)), ?_⟩
    refine And.intro (zDX hd 0 rfl) (zrd (v := 1) zxe ?_)
    refine And.intro (zRb rfl) (zbf rfl ?_)
    refine hQ _ _ ?_ (fun c j h0 => (zxcj h0 rfl))
    · unfold gCo
      first
      | (refine Or.inl ⟨zxe, by omega, by omega, ?_⟩
         first
         | (rw [if_pos ⟨by omega, by omega, by omega⟩]; omega)
         | (rw [if_neg (by omega)]))
      | (refine Or.inr ⟨zxe, by omega, ?_⟩
         rw [if_neg (by omega)])
  · refine And.intro (zDX hd 0 rfl) (zrd (v := (bnn s)) hbn ?_)
    refine And.intro ⟨(by omega), (by omega)⟩ ⟨fun h9_3 => ?_, fun h9_3 => ?_⟩
    · refine And.intro (Or.inl rfl) ?_
      refine And.intro (zRb rfl) (zbt rfl ?_)
      refine And.intro (zDX hd 0 rfl) ⟨_, (zWi (zRb rfl)), ?_⟩
      refine And.intro (zDX hd 0 rfl) (zrd (v := 1) zxe ?_)
      refine And.intro (zRb rfl) (zbf rfl ?_)
      refine hQ _ _ ?_ (fun c j h0 => (zxcj h0 rfl))
      · unfold gCo
        first
        | (refine Or.inl ⟨zxe, by omega, by omega, ?_⟩
           first
           | (rw [if_pos ⟨by omega, by omega, by omega⟩]; omega)
           | (rw [if_neg (by omega)]))
        | (refine Or.inr ⟨zxe, by omega, ?_⟩
           rw [if_neg (by omega)])
    · refine And.intro (Or.inr rfl) ?_
      refine And.intro (zRb rfl) (zbf rfl ?_)
      refine And.intro (zDX hd 0 rfl) ⟨_, (zWi (zRb rfl)), ?_⟩
      refine And.intro (zDX hd 0 rfl) (zrd (v := 0) zxe ?_)
      refine And.intro (zRb rfl) (zbt rfl ?_)
      refine And.intro (zDX hd 0 rfl) (zrdR (v := some (k + 10)) (zDR hd 9 rfl) ?_)
      refine And.intro (Or.inr (zDP hd 10 rfl rfl (by omega) (by omega))) (fun v33 e33 r33 => ?_)
      have f33 : v33 = bN s n.toNat 2 := (e33.trans (zxu (by omega) (hne n.toNat (by omega)).1))
      have f33b : v33 = 0 ∨ v33 = 1 := (by have := (hGd.2.2.2.2.1 n.toNat (by omega)).2.2.1; omega)
      refine And.intro r33 ⟨fun h34 => ?_, fun h34 => ?_⟩
      · refine hQ _ _ ?_ (fun c j h0 => (zxcj h0 rfl))
        · unfold gCo
          first
          | (refine Or.inl ⟨zxe, by omega, by omega, ?_⟩
             first
             | (rw [if_pos ⟨by omega, by omega, by omega⟩]; omega)
             | (rw [if_neg (by omega)]))
          | (refine Or.inr ⟨zxe, by omega, ?_⟩
             rw [if_neg (by omega)])
      · refine And.intro (zDX hd 0 rfl) (zrdR (v := some (k + 13)) (zDR hd 12 rfl) ?_)
        refine And.intro (zDP hd 13 rfl rfl (by omega) (by omega)) (fun v42 e42 r42 => ?_)
        have f42 : v42 = bN s n.toNat 3 := (e42.trans (((hne n.toNat (by omega)).2.2.2.1 (by omega)).2 (by omega)))
        refine hQ _ _ ?_ (fun c j h0 => (zxcj h0 rfl))
        · unfold gCo
          first
          | (refine Or.inl ⟨zxe, by omega, by omega, ?_⟩
             first
             | (rw [if_pos ⟨by omega, by omega, by omega⟩]; omega)
             | (rw [if_neg (by omega)]))
          | (refine Or.inr ⟨zxe, by omega, ?_⟩
             rw [if_neg (by omega)]))
def T_G_rip : ZT := fun args I L R S Q => ∃ (k : Nat) (s : BdS) (n : Int), args = [zvr k, zvi n] ∧ (zDy zT17 zF17 k R S) ∧ (zBB k (-1) s I L) ∧ (bGd s) ∧ (r32 n) ∧ ∀ (v : Int) (I' : ZI), (0 ≤ n → n < bnn s → v = bN s n.toNat 4) → (∀ c j : Nat, ¬ (c = k ∧ j = 0) → I' c j = I c j) → Q (some (zvi (v))) I' L R S
theorem sn_G_rip : ZSnd 2 17 27 T_G_rip := ZSnd.of (zT17_27 1) (by
  rintro args I L R S Q hz ⟨k, s, n, rfl, hd, hBB, hGd, hr, hQ⟩
  have hGz := bGd_z hGd
  have h5 := hd.1
  obtain ⟨⟨hbw, hbh, hbd, hbs, hbn⟩, hcl, hco, hpc, hne, hpi⟩ := id hBB
  obtain ⟨⟨⟨gW1, gW2⟩, ⟨gH1, gH2⟩, ⟨gD1, gD2⟩, gB9⟩, ⟨gnp, gnn⟩, gco⟩ := id hGz
  obtain ⟨m1, m2, hKe⟩ := gWH hGz
  have hKd : bK s = bW s * bH s * bD s := rfl
  refine And.intro rfl ?_
  refine And.intro (zDX hd 0 rfl) (Exists.intro _ (And.intro (zinl_ok (zT17_13 0)) (And.intro rfl ?_)))
  refine And.intro (by omega) ⟨fun h1_3 => ?_, fun h1_3 => ?_⟩
  · refine And.intro (Or.inl rfl) ?_
    refine And.intro (zRb rfl) (zbt rfl ?_)
    refine And.intro (zDX hd 0 rfl) ⟨_, (zWi (zRb rfl)), ?_⟩
    refine And.intro (zDX hd 0 rfl) (zrd (v := 1) zxe ?_)
    refine And.intro (zRb rfl) (zbt rfl ?_)
    refine hQ _ _ (fun h1 h2 => by omega) (fun c j h0 => (zxcj h0 rfl))
  · refine And.intro (zDX hd 0 rfl) (zrd (v := (bnn s)) hbn ?_)
    refine And.intro ⟨(by omega), (by omega)⟩ ⟨fun h9_3 => ?_, fun h9_3 => ?_⟩
    · refine And.intro (Or.inl rfl) ?_
      refine And.intro (zRb rfl) (zbt rfl ?_)
      refine And.intro (zDX hd 0 rfl) ⟨_, (zWi (zRb rfl)), ?_⟩
      refine And.intro (zDX hd 0 rfl) (zrd (v := 1) zxe ?_)
      refine And.intro (zRb rfl) (zbt rfl ?_)
      refine hQ _ _ (fun h1 h2 => by omega) (fun c j h0 => (zxcj h0 rfl))
    · refine And.intro (Or.inr rfl) ?_
      refine And.intro (zRb rfl) (zbf rfl ?_)
      refine And.intro (zDX hd 0 rfl) ⟨_, (zWi (zRb rfl)), ?_⟩
      refine And.intro (zDX hd 0 rfl) (zrd (v := 0) zxe ?_)
      refine And.intro (zRb rfl) (zbf rfl ?_)
      refine And.intro (zDX hd 0 rfl) (zrdR (v := some (k + 14)) (zDR hd 13 rfl) ?_)
      refine And.intro (zDP hd 14 rfl rfl (by omega) (by omega)) (fun v29 e29 r29 => ?_)
      have f29 : v29 = bN s n.toNat 4 := (e29.trans (zxu (by omega) (hne n.toNat (by omega)).2.2.1))
      refine hQ _ _ (fun h1 h2 => by omega) (fun c j h0 => (zxcj h0 rfl)))
def T_G_piece : ZT := fun args I L R S Q => ∃ (k : Nat) (s : BdS) (n : Int) (kk : Int) (w : Int), args = [zvr k, zvi n, zvi kk, zvi w] ∧ (zDy zT17 zF17 k R S) ∧ (zBB k (-1) s I L) ∧ (bGd s) ∧ (r32 n ∧ r32 kk ∧ r32 w) ∧ ∀ (v : Int) (I' : ZI), ((I' k 0 = 0 ∧ v = bWp s n kk w) ∨ (I' k 0 = 1 ∧ bWp s n kk w = -1)) → (∀ c j : Nat, ¬ (c = k ∧ j = 0) → I' c j = I c j) → Q (some (zvi (v))) I' L R S
theorem sn_G_piece : ZSnd 2 17 25 T_G_piece := ZSnd.of (zT17_25 1) (by
  rintro args I L R S Q hz ⟨k, s, n, kk, w, rfl, hd, hBB, hGd, hr, hQ⟩
  have hGz := bGd_z hGd
  have h5 := hd.1
  obtain ⟨⟨hbw, hbh, hbd, hbs, hbn⟩, hcl, hco, hpc, hne, hpi⟩ := id hBB
  obtain ⟨⟨⟨gW1, gW2⟩, ⟨gH1, gH2⟩, ⟨gD1, gD2⟩, gB9⟩, ⟨gnp, gnn⟩, gco⟩ := id hGz
  obtain ⟨m1, m2, hKe⟩ := gWH hGz
  have hKd : bK s = bW s * bH s * bD s := rfl
  refine And.intro rfl ?_
  refine And.intro (zDX hd 0 rfl) (Exists.intro _ (And.intro (zinl_ok (zT17_13 0)) (And.intro rfl ?_)))
  refine And.intro (by omega) ⟨fun h1_2 => ?_, fun h1_2 => ?_⟩
  · refine And.intro (Or.inl rfl) ?_
    refine And.intro (zRb rfl) (zbt rfl ?_)
    refine And.intro (zRb rfl) (zbt rfl ?_)
    refine And.intro (zDX hd 0 rfl) ⟨_, (zWi (zRb rfl)), ?_⟩
    refine And.intro (zDX hd 0 rfl) (zrd (v := 1) zxe ?_)
    refine And.intro (zRb rfl) (zbf rfl ?_)
    refine hQ _ _ ?_ (fun c j h0 => (zxcj h0 rfl))
    · unfold bWp
      first
      | (refine Or.inr ⟨zxe, ?_⟩
         by_cases q : 0 ≤ n ∧ n < bnn s ∧ bN s n.toNat 2 = 1 ∧ 0 ≤ kk ∧ kk < bwl s n.toNat
         · rw [if_pos q, if_neg (by omega), if_neg (by omega), if_neg (by omega)]
         · rw [if_neg q])
      | (refine Or.inl ⟨zxe, ?_⟩
         rw [if_pos ⟨by omega, by omega, by omega, by omega, by omega⟩]
         first
         | (rw [if_pos (by omega)]; first | exact p91hv | exact f108 | exact p115hv)
         | (rw [if_neg (by omega), if_pos (by omega)]; first | exact p91hv | exact f108 | exact p115hv)
         | (rw [if_neg (by omega), if_neg (by omega), if_pos (by omega)]; first | exact p91hv | exact f108 | exact p115hv))
  · refine And.intro (zDX hd 0 rfl) (zrd (v := (bnn s)) hbn ?_)
    refine And.intro ⟨(by omega), (by omega)⟩ ⟨fun h9_2 => ?_, fun h9_2 => ?_⟩
    · refine And.intro (Or.inl rfl) ?_
      refine And.intro (zRb rfl) (zbt rfl ?_)
      refine And.intro (zRb rfl) (zbt rfl ?_)
      refine And.intro (zDX hd 0 rfl) ⟨_, (zWi (zRb rfl)), ?_⟩
      refine And.intro (zDX hd 0 rfl) (zrd (v := 1) zxe ?_)
      refine And.intro (zRb rfl) (zbf rfl ?_)
      refine hQ _ _ ?_ (fun c j h0 => (zxcj h0 rfl))
      · unfold bWp
        first
        | (refine Or.inr ⟨zxe, ?_⟩
           by_cases q : 0 ≤ n ∧ n < bnn s ∧ bN s n.toNat 2 = 1 ∧ 0 ≤ kk ∧ kk < bwl s n.toNat
           · rw [if_pos q, if_neg (by omega), if_neg (by omega), if_neg (by omega)]
           · rw [if_neg q])
        | (refine Or.inl ⟨zxe, ?_⟩
           rw [if_pos ⟨by omega, by omega, by omega, by omega, by omega⟩]
           first
           | (rw [if_pos (by omega)]; first | exact p91hv | exact f108 | exact p115hv)
           | (rw [if_neg (by omega), if_pos (by omega)]; first | exact p91hv | exact f108 | exact p115hv)
           | (rw [if_neg (by omega), if_neg (by omega), if_pos (by omega)]; first | exact p91hv | exact f108 | exact p115hv))
    · refine And.intro (Or.inr rfl) ?_
      refine And.intro (zRb rfl) (zbf rfl ?_)
      refine And.intro (zDX hd 0 rfl) (zrdR (v := some (k + 10)) (zDR hd 9 rfl) ?_)
      refine And.intro (Or.inr (zDP hd 10 rfl rfl (by omega) (by omega))) (fun v13 e13 r13 => ?_)
      have f13 : v13 = bN s n.toNat 2 := (e13.trans (hne n.toNat (by omega)).1)
      have f13b : v13 = 0 ∨ v13 = 1 := (by have := (hGd.2.2.2.2.1 n.toNat (by omega)).2.2.1; omega)
      refine And.intro r13 ⟨fun h14 => ?_, fun h14 => ?_⟩
      · refine And.intro (zRb rfl) (zbt rfl ?_)
        refine And.intro (zDX hd 0 rfl) ⟨_, (zWi (zRb rfl)), ?_⟩
        refine And.intro (zDX hd 0 rfl) (zrd (v := 1) zxe ?_)
        refine And.intro (zRb rfl) (zbf rfl ?_)
        refine hQ _ _ ?_ (fun c j h0 => (zxcj h0 rfl))
        · unfold bWp
          first
          | (refine Or.inr ⟨zxe, ?_⟩
             by_cases q : 0 ≤ n ∧ n < bnn s ∧ bN s n.toNat 2 = 1 ∧ 0 ≤ kk ∧ kk < bwl s n.toNat
             · rw [if_pos q, if_neg (by omega), if_neg (by omega), if_neg (by omega)]
             · rw [if_neg q])
          | (refine Or.inl ⟨zxe, ?_⟩
             rw [if_pos ⟨by omega, by omega, by omega, by omega, by omega⟩]
             first
             | (rw [if_pos (by omega)]; first | exact p91hv | exact f108 | exact p115hv)
             | (rw [if_neg (by omega), if_pos (by omega)]; first | exact p91hv | exact f108 | exact p115hv)
             | (rw [if_neg (by omega), if_neg (by omega), if_pos (by omega)]; first | exact p91hv | exact f108 | exact p115hv))
      · refine And.intro (by omega) ⟨fun h18 => ?_, fun h18 => ?_⟩
        · refine And.intro (zRb rfl) (zbt rfl ?_)
          refine And.intro (zDX hd 0 rfl) ⟨_, (zWi (zRb rfl)), ?_⟩
          refine And.intro (zDX hd 0 rfl) (zrd (v := 1) zxe ?_)
          refine And.intro (zRb rfl) (zbf rfl ?_)
          refine hQ _ _ ?_ (fun c j h0 => (zxcj h0 rfl))
          · unfold bWp
            first
            | (refine Or.inr ⟨zxe, ?_⟩
               by_cases q : 0 ≤ n ∧ n < bnn s ∧ bN s n.toNat 2 = 1 ∧ 0 ≤ kk ∧ kk < bwl s n.toNat
               · rw [if_pos q, if_neg (by omega), if_neg (by omega), if_neg (by omega)]
               · rw [if_neg q])
            | (refine Or.inl ⟨zxe, ?_⟩
               rw [if_pos ⟨by omega, by omega, by omega, by omega, by omega⟩]
               first
               | (rw [if_pos (by omega)]; first | exact p91hv | exact f108 | exact p115hv)
               | (rw [if_neg (by omega), if_pos (by omega)]; first | exact p91hv | exact f108 | exact p115hv)
               | (rw [if_neg (by omega), if_neg (by omega), if_pos (by omega)]; first | exact p91hv | exact f108 | exact p115hv))
        · refine And.intro (zDX hd 0 rfl) (zrdR (v := some (k + 11)) (zDR hd 10 rfl) ?_)
          refine And.intro (zDP hd 11 rfl rfl (by omega) (by omega)) (fun v27 e27 r27 => ?_)
          have f27 : v27 = bwl s n.toNat := (e27.trans (hne n.toNat (by omega)).2.1)
          have f27b : v27 ≤ 1024 ∧ 0 ≤ v27 := (by have := (hGd.2.2.2.2.1 n.toNat (by omega)).2.2.2.2.1; omega)
          refine And.intro ⟨(by omega), r27⟩ ⟨fun h28 => ?_, fun h28 => ?_⟩
          · refine And.intro (zRb rfl) (zbt rfl ?_)
            refine And.intro (zDX hd 0 rfl) ⟨_, (zWi (zRb rfl)), ?_⟩
            refine And.intro (zDX hd 0 rfl) (zrd (v := 1) zxe ?_)
            refine And.intro (zRb rfl) (zbf rfl ?_)
            refine hQ _ _ ?_ (fun c j h0 => (zxcj h0 rfl))
            · unfold bWp
              first
              | (refine Or.inr ⟨zxe, ?_⟩
                 by_cases q : 0 ≤ n ∧ n < bnn s ∧ bN s n.toNat 2 = 1 ∧ 0 ≤ kk ∧ kk < bwl s n.toNat
                 · rw [if_pos q, if_neg (by omega), if_neg (by omega), if_neg (by omega)]
                 · rw [if_neg q])
              | (refine Or.inl ⟨zxe, ?_⟩
                 rw [if_pos ⟨by omega, by omega, by omega, by omega, by omega⟩]
                 first
                 | (rw [if_pos (by omega)]; first | exact p91hv | exact f108 | exact p115hv)
                 | (rw [if_neg (by omega), if_pos (by omega)]; first | exact p91hv | exact f108 | exact p115hv)
                 | (rw [if_neg (by omega), if_neg (by omega), if_pos (by omega)]; first | exact p91hv | exact f108 | exact p115hv))
          · refine And.intro (by omega) ⟨fun h32 => ?_, fun h32 => ?_⟩
            · refine And.intro (zRb rfl) (zbt rfl ?_)
              refine And.intro (zDX hd 0 rfl) ⟨_, (zWi (zRb rfl)), ?_⟩
              refine And.intro (zDX hd 0 rfl) (zrd (v := 1) zxe ?_)
              refine And.intro (zRb rfl) (zbf rfl ?_)
              refine hQ _ _ ?_ (fun c j h0 => (zxcj h0 rfl))
              · unfold bWp
                first
                | (refine Or.inr ⟨zxe, ?_⟩
                   by_cases q : 0 ≤ n ∧ n < bnn s ∧ bN s n.toNat 2 = 1 ∧ 0 ≤ kk ∧ kk < bwl s n.toNat
                   · rw [if_pos q, if_neg (by omega), if_neg (by omega), if_neg (by omega)]
                   · rw [if_neg q])
                | (refine Or.inl ⟨zxe, ?_⟩
                   rw [if_pos ⟨by omega, by omega, by omega, by omega, by omega⟩]
                   first
                   | (rw [if_pos (by omega)]; first | exact p91hv | exact f108 | exact p115hv)
                   | (rw [if_neg (by omega), if_pos (by omega)]; first | exact p91hv | exact f108 | exact p115hv)
                   | (rw [if_neg (by omega), if_neg (by omega), if_pos (by omega)]; first | exact p91hv | exact f108 | exact p115hv))
            · refine And.intro ⟨(by omega), (zRb rfl)⟩ ⟨fun h37 => ?_, fun h37 => ?_⟩
              · refine And.intro (zRb rfl) (zbt rfl ?_)
                refine And.intro (zDX hd 0 rfl) ⟨_, (zWi (zRb rfl)), ?_⟩
                refine And.intro (zDX hd 0 rfl) (zrd (v := 1) zxe ?_)
                refine And.intro (zRb rfl) (zbf rfl ?_)
                refine hQ _ _ ?_ (fun c j h0 => (zxcj h0 rfl))
                · unfold bWp
                  first
                  | (refine Or.inr ⟨zxe, ?_⟩
                     by_cases q : 0 ≤ n ∧ n < bnn s ∧ bN s n.toNat 2 = 1 ∧ 0 ≤ kk ∧ kk < bwl s n.toNat
                     · rw [if_pos q, if_neg (by omega), if_neg (by omega), if_neg (by omega)]
                     · rw [if_neg q])
                  | (refine Or.inl ⟨zxe, ?_⟩
                     rw [if_pos ⟨by omega, by omega, by omega, by omega, by omega⟩]
                     first
                     | (rw [if_pos (by omega)]; first | exact p91hv | exact f108 | exact p115hv)
                     | (rw [if_neg (by omega), if_pos (by omega)]; first | exact p91hv | exact f108 | exact p115hv)
                     | (rw [if_neg (by omega), if_neg (by omega), if_pos (by omega)]; first | exact p91hv | exact f108 | exact p115hv))
              · refine And.intro (zRb rfl) (zbf rfl ?_)
                refine And.intro (zDX hd 0 rfl) ⟨_, (zWi (zRb rfl)), ?_⟩
                refine And.intro (zDX hd 0 rfl) (zrd (v := 0) zxe ?_)
                refine And.intro (zRb rfl) (zbt rfl ?_)
                refine And.intro (zDX hd 0 rfl) (zrdR (v := some (k + 12)) (zDR hd 11 rfl) ?_)
                refine And.intro (zDP hd 12 rfl rfl (by omega) (by omega)) (fun v81 e81 r81 => ?_)
                have f81 : v81 = bwy s n.toNat kk.toNat := (e81.trans (zxu (by omega) ((congrArg (I (k + 12)) (by omega)).trans ((hne n.toNat (by omega)).2.2.2.2 kk.toNat (by omega)))))
                have f81b : 0 ≤ v81 ∧ v81 + 1 ≤ bK s := (by have := ((hGd.2.2.2.2.1 n.toNat (by omega)).2.2.2.2.2.2.1 kk.toNat (by omega)).1; have e9 : bW s * bH s * bD s = bK s := rfl; omega)
                refine And.intro (by omega) ⟨fun h85 => ?_, fun h85 => ?_⟩
                · refine And.intro ⟨(by omega), (zRb rfl)⟩ ⟨fun h99 => ?_, fun h99 => ?_⟩
                  · refine And.intro (zDX hd 0 rfl) ⟨_, sn_G_row.up (by decide), ?_⟩
                    refine ⟨k, (-1), s, (v81 : Int), (bwy s n.toNat kk.toNat), rfl, hd, (by first | exact (zBB_fr hBB (fun c j h => (zxcj (by omega) rfl)) (fun c j h => rfl)) | (clear hQ; grind [xu])), (by clear hQ; grind [xu]), (by omega), (by omega), ?_⟩
                    intro v115o p115hv p115bhv2
                    refine hQ _ _ ?_ (fun c j h0 => (zxcj h0 rfl))
                    · unfold bWp
                      first
                      | (refine Or.inr ⟨zxe, ?_⟩
                         by_cases q : 0 ≤ n ∧ n < bnn s ∧ bN s n.toNat 2 = 1 ∧ 0 ≤ kk ∧ kk < bwl s n.toNat
                         · rw [if_pos q, if_neg (by omega), if_neg (by omega), if_neg (by omega)]
                         · rw [if_neg q])
                      | (refine Or.inl ⟨zxe, ?_⟩
                         rw [if_pos ⟨by omega, by omega, by omega, by omega, by omega⟩]
                         first
                         | (rw [if_pos (by omega)]; first | exact p91hv | exact f108 | exact p115hv)
                         | (rw [if_neg (by omega), if_pos (by omega)]; first | exact p91hv | exact f108 | exact p115hv)
                         | (rw [if_neg (by omega), if_neg (by omega), if_pos (by omega)]; first | exact p91hv | exact f108 | exact p115hv))
                  · refine And.intro (zDX hd 0 rfl) (zrd (v := (bW s)) (zxs (by decide) hbw) ?_)
                    refine And.intro ⟨r81, (by omega), (by omega)⟩ (zdv (by omega) (fun q108 e108 => ?_))
                    have f108 : q108 = (bwy s n.toNat kk.toNat % bW s : Nat) := (by rw [e108, f81]; exact (Int.natCast_emod _ _).symm)
                    refine hQ _ _ ?_ (fun c j h0 => (zxcj h0 rfl))
                    · unfold bWp
                      first
                      | (refine Or.inr ⟨zxe, ?_⟩
                         by_cases q : 0 ≤ n ∧ n < bnn s ∧ bN s n.toNat 2 = 1 ∧ 0 ≤ kk ∧ kk < bwl s n.toNat
                         · rw [if_pos q, if_neg (by omega), if_neg (by omega), if_neg (by omega)]
                         · rw [if_neg q])
                      | (refine Or.inl ⟨zxe, ?_⟩
                         rw [if_pos ⟨by omega, by omega, by omega, by omega, by omega⟩]
                         first
                         | (rw [if_pos (by omega)]; first | exact p91hv | exact f108 | exact p115hv)
                         | (rw [if_neg (by omega), if_pos (by omega)]; first | exact p91hv | exact f108 | exact p115hv)
                         | (rw [if_neg (by omega), if_neg (by omega), if_pos (by omega)]; first | exact p91hv | exact f108 | exact p115hv))
                · refine And.intro (zDX hd 0 rfl) ⟨_, sn_G_lay.up (by decide), ?_⟩
                  refine ⟨k, (-1), s, (v81 : Int), (bwy s n.toNat kk.toNat), rfl, hd, (by first | exact (zBB_fr hBB (fun c j h => (zxcj (by omega) rfl)) (fun c j h => rfl)) | (clear hQ; grind [xu])), (by clear hQ; grind [xu]), (by omega), (by omega), ?_⟩
                  intro v91o p91hv p91bhv2
                  refine hQ _ _ ?_ (fun c j h0 => (zxcj h0 rfl))
                  · unfold bWp
                    first
                    | (refine Or.inr ⟨zxe, ?_⟩
                       by_cases q : 0 ≤ n ∧ n < bnn s ∧ bN s n.toNat 2 = 1 ∧ 0 ≤ kk ∧ kk < bwl s n.toNat
                       · rw [if_pos q, if_neg (by omega), if_neg (by omega), if_neg (by omega)]
                       · rw [if_neg q])
                    | (refine Or.inl ⟨zxe, ?_⟩
                       rw [if_pos ⟨by omega, by omega, by omega, by omega, by omega⟩]
                       first
                       | (rw [if_pos (by omega)]; first | exact p91hv | exact f108 | exact p115hv)
                       | (rw [if_neg (by omega), if_pos (by omega)]; first | exact p91hv | exact f108 | exact p115hv)
                       | (rw [if_neg (by omega), if_neg (by omega), if_pos (by omega)]; first | exact p91hv | exact f108 | exact p115hv)))
def T_G_op0 : ZT := fun args I L R S Q => ∃ (k : Nat) (s : BdS) (n : Int), args = [zvr k, zvi n] ∧ (zDy zT17 zF17 k R S) ∧ (zBB k (-1) s I L) ∧ (bGd s) ∧ (n = 0) ∧ ∀ (v : Int) (I' : ZI), ((v = -1 ∧ bOpn s (bnn s) = 0) ∨ (0 ≤ v ∧ 0 < bOpn s (bnn s))) → (∀ c j : Nat, ¬ (c = k ∧ j = 0) → I' c j = I c j) → Q (some (zvi (v))) I' L R S
theorem sn_G_op0 : ZSnd 2 17 22 T_G_op0 := ZSnd.loops (zT17_22 1) (by
  rintro args I L R S Q hz ⟨k, s, n, rfl, hd, hBB, hGd, ha, hQ⟩
  have hGz := bGd_z hGd
  have h5 := hd.1
  obtain ⟨⟨hbw, hbh, hbd, hbs, hbn⟩, hcl, hco, hpc, hne, hpi⟩ := id hBB
  obtain ⟨⟨⟨gW1, gW2⟩, ⟨gH1, gH2⟩, ⟨gD1, gD2⟩, gB9⟩, ⟨gnp, gnn⟩, gco⟩ := id hGz
  obtain ⟨m1, m2, hKe⟩ := gWH hGz
  have hKd : bK s = bW s * bH s * bD s := rfl
  refine ⟨[9], fun nM tM lsM stM I1 L1 R1 S1 => match tM with
      | 9 => ∃ (j : Nat), nM = ((13 - j), 0, 0) ∧ lsM = [some (zvr (k)), some (zvi (n)), some (zvi (0)), some (zvi (j))] ∧ stM = [] ∧ L1 = L ∧ R1 = R ∧ S1 = S ∧ (j ≤ bnn s) ∧ (bOpn s j = 0) ∧ (∀ c j : Nat, ¬ (c = k ∧ j = 0) → I1 c j = I c j)
      | _ => False, rfl, ?_, ⟨?_, True.intro⟩⟩
  · refine And.intro (zDX hd 0 rfl) ⟨_, (zWi (zRb rfl)), ?_⟩
    refine ⟨((13 - (0 : Nat)), 0, 0), [some (zvr (k)), some (zvi (n)), some (zvi (0)), some (zvi ((0 : Nat)))], ⟨rfl, rfl, (congrArg (fun z => some (zvi z)) (by omega)), rfl, rfl⟩, 0, rfl, rfl, rfl, rfl, rfl, rfl, (by omega), rfl, (fun c j h0 => (zxcj h0 rfl))⟩
  · rintro nM lsM stM I1 L1 R1 S1 hz1 ⟨j, rfl, rfl, rfl, rfl, rfl, rfl, hj, hz, fr⟩
    refine And.intro (zDX hd 0 rfl) (zrd (v := (bnn s)) ((fr k 5 (by omega)).trans hbn) ?_)
    refine And.intro ⟨(by omega), (by omega)⟩ ⟨fun h14 => ?_, fun h14 => ?_⟩
    · refine hQ _ _ ?_ (fun c j h0 => ((fr c j (by omega)).trans rfl))
      · first
        | (refine Or.inl ⟨rfl, ?_⟩
           obtain rfl : j = bnn s := (by omega)
           exact hz)
        | (refine Or.inr ⟨by omega, ?_⟩
           have w : bOpn s (j + 1) ≤ bOpn s (bnn s) := bOpn_mo (by omega)
           have hsx : bOpn s (j + 1) = bOpn s j + (if 0 < bN s j 1 ∧ bN s j 2 ≠ 1 then 1 else 0) := rfl
           rcases p23hv with w2 | w2
           · rw [if_pos w2.2] at hsx
             omega
           · exfalso; omega)
    · refine And.intro (by omega) ⟨(fun h18 => False.elim (by omega)), fun h18 => ?_⟩
      refine And.intro (zDX hd 0 rfl) ⟨_, sn_G_open.up (by decide), ?_⟩
      refine ⟨k, (-1), s, j, (j : Int), rfl, hd, (by first | exact (zBB_fr hBB (fun c j h => ((fr c j (by omega)).trans rfl)) (fun c j h => rfl)) | (clear hQ; grind [xu])), (by first | exact hGd | (clear hQ; grind [xu])), ⟨rfl, by omega⟩, ?_⟩
      intro v23o p23hv
      refine And.intro (by omega) ⟨fun h26 => ?_, fun h26 => ?_⟩
      · refine And.intro (zRb rfl) (zbf rfl ?_)
        refine hQ _ _ ?_ (fun c j h0 => ((fr c j (by omega)).trans rfl))
        · first
          | (refine Or.inl ⟨rfl, ?_⟩
             obtain rfl : j = bnn s := (by omega)
             exact hz)
          | (refine Or.inr ⟨by omega, ?_⟩
             have w : bOpn s (j + 1) ≤ bOpn s (bnn s) := bOpn_mo (by omega)
             have hsx : bOpn s (j + 1) = bOpn s j + (if 0 < bN s j 1 ∧ bN s j 2 ≠ 1 then 1 else 0) := rfl
             rcases p23hv with w2 | w2
             · rw [if_pos w2.2] at hsx
               omega
             · exfalso; omega)
      · refine ⟨((13 - (j + 1)), 0, 0), zlt6 (by omega), [some (zvr (k)), some (zvi (n)), some (zvi (0)), some (zvi ((j + 1)))], ⟨rfl, rfl, rfl, rfl, rfl⟩, (j + 1), rfl, rfl, rfl, rfl, rfl, rfl, (by omega), ?_, (fun c j h0 => ((fr c j (by omega)).trans rfl))⟩
        · have hsx : bOpn s (j + 1) = bOpn s j + (if 0 < bN s j 1 ∧ bN s j 2 ≠ 1 then 1 else 0) := rfl
          rcases p23hv with w | w
          · exfalso; omega
          · rw [hsx, if_neg w.2, hz])
def T_G_bkg : ZT := fun args I L R S Q => ∃ (k : Nat) (s : BdS) (n : Int) (kk : Int), args = [zvr k, zvi n, zvi kk] ∧ (zDy zT17 zF17 k R S) ∧ (zBB k (-1) s I L) ∧ (bGd s) ∧ (r32 n ∧ r32 kk) ∧ (gB5 s) ∧ ∀ (v : Int) (I' : ZI), ((I' k 0 = 0 ∧ v = bBlk s n kk) ∨ (I' k 0 = 1 ∧ bBlk s n kk = -1)) → (∀ c j : Nat, ¬ (c = k ∧ j = 0) → I' c j = I c j) → Q (some (zvi (v))) I' L R S
theorem sn_G_bkg : ZSnd 2 17 2 T_G_bkg := ZSnd.loops (zT17_2 1) (by
  rintro args I L R S Q hz ⟨k, s, n, kk, rfl, hd, hBB, hGd, hr, hB5, hQ⟩
  have hGz := bGd_z hGd
  have h5 := hd.1
  obtain ⟨⟨hbw, hbh, hbd, hbs, hbn⟩, hcl, hco, hpc, hne, hpi⟩ := id hBB
  obtain ⟨⟨⟨gW1, gW2⟩, ⟨gH1, gH2⟩, ⟨gD1, gD2⟩, gB9⟩, ⟨gnp, gnn⟩, gco⟩ := id hGz
  obtain ⟨m1, m2, hKe⟩ := gWH hGz
  have hKd : bK s = bW s * bH s * bD s := rfl
  refine ⟨[31], fun nM tM lsM stM I1 L1 R1 S1 => match tM with
      | 31 => ∃ (j : Nat) (l : Int), nM = ((13 - j), 0, 0) ∧ lsM = [some (zvr (k)), some (zvi (n)), some (zvi (kk)), some (zvi (l)), some (zvi (j))] ∧ stM = [] ∧ L1 = L ∧ R1 = R ∧ S1 = S ∧ (j ≤ bnn s) ∧ (0 ≤ n ∧ n < bnn s) ∧ (I1 k 0 = 0) ∧ (kk - 12 ≤ l ∧ l ≤ kk ∧ kk ≤ 2147483647 ∧ -2147483648 ≤ kk ∧ (l = kk ∨ 0 ≤ l + 12) ∧ kk - j ≤ l) ∧ (bNth (bN s n.toNat 5) (12 - j) j l = bNth (bN s n.toNat 5) 12 0 kk) ∧ (∀ c j : Nat, ¬ (c = k ∧ j = 0) → I1 c j = I c j)
      | _ => False, rfl, ?_, ⟨?_, True.intro⟩⟩
  · refine And.intro (zDX hd 0 rfl) (Exists.intro _ (And.intro (zinl_ok (zT17_13 0)) (And.intro rfl ?_)))
    refine And.intro (by omega) ⟨fun h1_3 => ?_, fun h1_3 => ?_⟩
    · refine And.intro (Or.inl rfl) ?_
      refine And.intro (zRb rfl) (zbt rfl ?_)
      refine And.intro (zDX hd 0 rfl) ⟨_, (zWi (zRb rfl)), ?_⟩
      refine And.intro (zDX hd 0 rfl) (zrd (v := 1) zxe ?_)
      refine And.intro (zRb rfl) (zbf rfl ?_)
      refine hQ _ _ ?_ (fun c j h0 => (zxcj h0 rfl))
      · unfold bBlk
        first
        | (refine Or.inr ⟨zxe, ?_⟩
           rw [if_neg (by omega)])
        | (refine Or.inl ⟨h00, ?_⟩
           rw [if_pos (by omega), ← hl]
           first
           | (rw [bNth_no (12 - j) j (fun b h1 h2 => hB5 n.toNat (by omega) b (by omega) (by omega))])
           | (rw [bNth_neg 12 0 (by omega)] at hl; omega)
           | (rw [hl, bNth_neg 12 0 (by omega)])
           | (have hb : bBit (bN s n.toNat 5) j := (by show zand _ 1 ≠ 0; rw [← f49]; omega)
              rw [show 12 - j = (12 - (j + 1)) + 1 by omega, bNth_t hb, if_pos (by omega)]))
    · refine And.intro (zDX hd 0 rfl) (zrd (v := (bnn s)) hbn ?_)
      refine And.intro ⟨(by omega), (by omega)⟩ ⟨fun h9_3 => ?_, fun h9_3 => ?_⟩
      · refine And.intro (Or.inl rfl) ?_
        refine And.intro (zRb rfl) (zbt rfl ?_)
        refine And.intro (zDX hd 0 rfl) ⟨_, (zWi (zRb rfl)), ?_⟩
        refine And.intro (zDX hd 0 rfl) (zrd (v := 1) zxe ?_)
        refine And.intro (zRb rfl) (zbf rfl ?_)
        refine hQ _ _ ?_ (fun c j h0 => (zxcj h0 rfl))
        · unfold bBlk
          first
          | (refine Or.inr ⟨zxe, ?_⟩
             rw [if_neg (by omega)])
          | (refine Or.inl ⟨h00, ?_⟩
             rw [if_pos (by omega), ← hl]
             first
             | (rw [bNth_no (12 - j) j (fun b h1 h2 => hB5 n.toNat (by omega) b (by omega) (by omega))])
             | (rw [bNth_neg 12 0 (by omega)] at hl; omega)
             | (rw [hl, bNth_neg 12 0 (by omega)])
             | (have hb : bBit (bN s n.toNat 5) j := (by show zand _ 1 ≠ 0; rw [← f49]; omega)
                rw [show 12 - j = (12 - (j + 1)) + 1 by omega, bNth_t hb, if_pos (by omega)]))
      · refine And.intro (Or.inr rfl) ?_
        refine And.intro (zRb rfl) (zbf rfl ?_)
        refine And.intro (zDX hd 0 rfl) ⟨_, (zWi (zRb rfl)), ?_⟩
        refine And.intro (zDX hd 0 rfl) (zrd (v := 0) zxe ?_)
        refine And.intro (zRb rfl) (zbt rfl ?_)
        refine ⟨((13 - (0 : Nat)), 0, 0), [some (zvr (k)), some (zvi (n)), some (zvi (kk)), some (zvi (kk)), some (zvi ((0 : Nat)))], ⟨rfl, rfl, rfl, rfl, rfl, rfl⟩, 0, kk, rfl, rfl, rfl, rfl, rfl, rfl, (by omega), (by omega), zxe, (by omega), rfl, (fun c j h0 => (zxcj h0 rfl))⟩
  · rintro nM lsM stM I1 L1 R1 S1 hz1 ⟨j, l, rfl, rfl, rfl, rfl, rfl, rfl, hj, hn9, h00, hll, hl, fr⟩
    refine And.intro (zDX hd 0 rfl) (zrd (v := (bnn s)) ((fr k 5 (by omega)).trans hbn) ?_)
    refine And.intro ⟨(by omega), (by omega)⟩ ⟨fun h37 => ?_, fun h37 => ?_⟩
    · refine hQ _ _ ?_ (fun c j h0 => ((fr c j (by omega)).trans rfl))
      · unfold bBlk
        first
        | (refine Or.inr ⟨zxe, ?_⟩
           rw [if_neg (by omega)])
        | (refine Or.inl ⟨h00, ?_⟩
           rw [if_pos (by omega), ← hl]
           first
           | (rw [bNth_no (12 - j) j (fun b h1 h2 => hB5 n.toNat (by omega) b (by omega) (by omega))])
           | (rw [bNth_neg 12 0 (by omega)] at hl; omega)
           | (rw [hl, bNth_neg 12 0 (by omega)])
           | (have hb : bBit (bN s n.toNat 5) j := (by show zand _ 1 ≠ 0; rw [← f49]; omega)
              rw [show 12 - j = (12 - (j + 1)) + 1 by omega, bNth_t hb, if_pos (by omega)]))
    · refine And.intro (by omega) ⟨fun h41 => ?_, fun h41 => ?_⟩
      · refine hQ _ _ ?_ (fun c j h0 => ((fr c j (by omega)).trans rfl))
        · unfold bBlk
          first
          | (refine Or.inr ⟨zxe, ?_⟩
             rw [if_neg (by omega)])
          | (refine Or.inl ⟨h00, ?_⟩
             rw [if_pos (by omega), ← hl]
             first
             | (rw [bNth_no (12 - j) j (fun b h1 h2 => hB5 n.toNat (by omega) b (by omega) (by omega))])
             | (rw [bNth_neg 12 0 (by omega)] at hl; omega)
             | (rw [hl, bNth_neg 12 0 (by omega)])
             | (have hb : bBit (bN s n.toNat 5) j := (by show zand _ 1 ≠ 0; rw [← f49]; omega)
                rw [show 12 - j = (12 - (j + 1)) + 1 by omega, bNth_t hb, if_pos (by omega)]))
      · refine And.intro (zDX hd 0 rfl) (zrdR (v := some (k + 15)) (zDR hd 14 rfl) ?_)
        refine And.intro (zDP hd 15 rfl rfl (by omega) (by omega)) (fun v49 e49 r49 => ?_)
        have f49 : v49 = bN s n.toNat 5 := (e49.trans ((fr (k + 15) n.toNat (by omega)).trans ((hne n.toNat (by omega)).2.2.2.1 (by omega)).1))
        have b54 : (zand (zshr v49 j) 1) = (zshr v49 j) % 2 := zand1 _
        refine And.intro zr_and ⟨fun h55 => ?_, fun h55 => ?_⟩
        · refine And.intro (by omega) ⟨fun h62 => ?_, fun h62 => ?_⟩
          · refine ⟨((13 - (j + 1)), 0, 0), zlt6 (by omega), [some (zvr (k)), some (zvi (n)), some (zvi (kk)), some (zvi ((l + (-1)))), some (zvi ((j + 1)))], ⟨rfl, rfl, rfl, rfl, rfl, rfl⟩, (j + 1), (l + (-1)), rfl, rfl, rfl, rfl, rfl, rfl, (by omega), (by omega), h00, (by omega), ?_, (fun c j h0 => ((fr c j (by omega)).trans rfl))⟩
            · rw [← hl, show 12 - j = (12 - (j + 1)) + 1 by omega]
              first
              | (have hb : bBit (bN s n.toNat 5) j := (by show zand _ 1 ≠ 0; rw [← f49]; omega)
                 rw [bNth_t hb, if_neg (by omega)]
                 rfl)
              | (have hb : ¬ bBit (bN s n.toNat 5) j := (fun w => by have w2 : zand (zshr (bN s n.toNat 5) j) 1 ≠ 0 := w; rw [← f49] at w2; omega)
                 rw [bNth_f hb])
          · refine hQ _ _ ?_ (fun c j h0 => ((fr c j (by omega)).trans rfl))
            · unfold bBlk
              first
              | (refine Or.inr ⟨zxe, ?_⟩
                 rw [if_neg (by omega)])
              | (refine Or.inl ⟨h00, ?_⟩
                 rw [if_pos (by omega), ← hl]
                 first
                 | (rw [bNth_no (12 - j) j (fun b h1 h2 => hB5 n.toNat (by omega) b (by omega) (by omega))])
                 | (rw [bNth_neg 12 0 (by omega)] at hl; omega)
                 | (rw [hl, bNth_neg 12 0 (by omega)])
                 | (have hb : bBit (bN s n.toNat 5) j := (by show zand _ 1 ≠ 0; rw [← f49]; omega)
                    rw [show 12 - j = (12 - (j + 1)) + 1 by omega, bNth_t hb, if_pos (by omega)]))
        · refine ⟨((13 - (j + 1)), 0, 0), zlt6 (by omega), [some (zvr (k)), some (zvi (n)), some (zvi (kk)), some (zvi (l)), some (zvi ((j + 1)))], ⟨rfl, rfl, rfl, rfl, rfl, rfl⟩, (j + 1), l, rfl, rfl, rfl, rfl, rfl, rfl, (by omega), (by omega), h00, (by omega), ?_, (fun c j h0 => ((fr c j (by omega)).trans rfl))⟩
          · rw [← hl, show 12 - j = (12 - (j + 1)) + 1 by omega]
            first
            | (have hb : bBit (bN s n.toNat 5) j := (by show zand _ 1 ≠ 0; rw [← f49]; omega)
               rw [bNth_t hb, if_neg (by omega)]
               rfl)
            | (have hb : ¬ bBit (bN s n.toNat 5) j := (fun w => by have w2 : zand (zshr (bN s n.toNat 5) j) 1 ≠ 0 := w; rw [← f49] at w2; omega)
               rw [bNth_f hb]))
def T_G_bar : ZT := fun args I L R S Q => ∃ (k : Nat) (s : BdS) (l : Int) (i : Int) (j : Int), args = [zvr k, zvi l, zvi i, zvi j] ∧ (zDy zT17 zF17 k R S) ∧ (zBB k (-1) s I L) ∧ (bGd s) ∧ (r32 l ∧ r32 i ∧ r32 j) ∧ ∀ (v : Int) (I' : ZI), ((v = 1 ∧ 0 ≤ cxI (bW s) (bH s) (bD s) l i j ∧ bba s (cxI (bW s) (bH s) (bD s) l i j).toNat = 0 ∧ bho s (cxI (bW s) (bH s) (bD s) l i j).toNat = -1) ∨ (v = 0 ∧ (cxI (bW s) (bH s) (bD s) l i j = -1 ∨ bba s (cxI (bW s) (bH s) (bD s) l i j).toNat ≠ 0 ∨ bho s (cxI (bW s) (bH s) (bD s) l i j).toNat ≠ -1))) → (zBB k (-1) (if v = 1 then bBar s (cxI (bW s) (bH s) (bD s) l i j).toNat else s) I' L) → (∀ c j : Nat, ¬ (c = k ∧ j = 0) → ¬ c = k + 5 → I' c j = I c j) → Q (some (zvi (v))) I' L R S
theorem sn_G_bar : ZSnd 2 17 1 T_G_bar := ZSnd.of (zT17_1 1) (by
  rintro args I L R S Q hz ⟨k, s, l, i, j, rfl, hd, hBB, hGd, hr, hQ⟩
  have hGz := bGd_z hGd
  have h5 := hd.1
  obtain ⟨⟨hbw, hbh, hbd, hbs, hbn⟩, hcl, hco, hpc, hne, hpi⟩ := id hBB
  obtain ⟨⟨⟨gW1, gW2⟩, ⟨gH1, gH2⟩, ⟨gD1, gD2⟩, gB9⟩, ⟨gnp, gnn⟩, gco⟩ := id hGz
  obtain ⟨m1, m2, hKe⟩ := gWH hGz
  have hKd : bK s = bW s * bH s * bD s := rfl
  refine And.intro rfl ?_
  refine And.intro (zDX hd 0 rfl) ⟨_, sn_G_cell.up (by decide), ?_⟩
  refine ⟨k, (-1), s, (l : Int), (i : Int), (j : Int), rfl, hd, (by first | exact (zBB_fr hBB (fun c j h => rfl) (fun c j h => rfl)) | (clear hQ; grind [xu])), (by clear hQ; grind [xu]), (by omega), ?_⟩
  intro v4o p4hv p4bhv2
  refine And.intro ⟨(by omega), (zRb rfl)⟩ ⟨fun h13 => ?_, fun h13 => ?_⟩
  · refine And.intro (zDX hd 0 rfl) ⟨_, (zWi (zRb rfl)), ?_⟩
    refine And.intro (zDX hd 0 rfl) (zrd (v := 0) zxe ?_)
    refine And.intro (zRb rfl) (zbf rfl ?_)
    refine And.intro (zDX hd 0 rfl) (zrdR (v := some (k + 5)) (zDR hd 4 rfl) ?_)
    refine And.intro (Or.inr (zDP hd 5 rfl rfl (by omega) (by omega))) (fun v37 e37 r37 => ?_)
    have f37 : v37 = bba s v4o.toNat := (e37.trans (zxu (by omega) (hcl v4o.toNat (by omega)).2.2.1))
    have f37b : 0 ≤ v37 ∧ v37 ≤ 1 := (by have := (hGd.2.2.1 v4o.toNat (by omega)).1; omega)
    refine And.intro r37 ⟨fun h38 => ?_, fun h38 => ?_⟩
    · refine And.intro (Or.inl rfl) ?_
      refine hQ _ _ ?_ ?_ (fun c j h0 h1 => (zxcj h0 rfl))
      · rw [← p4hv]
        first
        | exact Or.inl ⟨rfl, by omega, by omega, by omega⟩
        | exact Or.inr ⟨rfl, Or.inl (by omega)⟩
        | exact Or.inr ⟨rfl, Or.inr (Or.inl (by omega))⟩
        | exact Or.inr ⟨rfl, Or.inr (Or.inr (by omega))⟩
      · first
        | (rw [if_neg (by decide)]
           exact zBB_fr hBB (fun c j h => zxcj (by omega) rfl) (fun c j h => rfl))
        | (rw [if_pos rfl, ← p4hv]
           refine zBB_bar hBB (fun c => ?_) (fun c j h => zxu (by omega) (zxcj (by omega) rfl)) (fun c j h => rfl)
           by_cases e : c = v4o.toNat
           · rw [if_pos e, e]; exact zxe
           · rw [if_neg e]; exact zxs e (zxu (by omega) rfl))
    · refine And.intro (zDX hd 0 rfl) (zrdR (v := some (k + 3)) (zDR hd 2 rfl) ?_)
      refine And.intro (zDP hd 3 rfl rfl (by omega) (by omega)) (fun v47 e47 r47 => ?_)
      have f47 : v47 = bho s v4o.toNat := (e47.trans (zxu (by omega) (hcl v4o.toNat (by omega)).1))
      refine And.intro ⟨r47, (zRb rfl)⟩ ⟨fun h49 => ?_, fun h49 => ?_⟩
      · refine And.intro (zDX hd 0 rfl) (zrdR (v := some (k + 5)) (zDR hd 4 rfl) ?_)
        refine And.intro ⟨(by show 40 ≤ _; omega), Or.inr ⟨(zDP hd 5 rfl rfl (by omega) (by omega)), (Or.inr rfl)⟩⟩ ?_
        refine And.intro (Or.inr rfl) ?_
        refine hQ _ _ ?_ ?_ (fun c j h0 h1 => (zxu h1 (zxcj h0 rfl)))
        · rw [← p4hv]
          first
          | exact Or.inl ⟨rfl, by omega, by omega, by omega⟩
          | exact Or.inr ⟨rfl, Or.inl (by omega)⟩
          | exact Or.inr ⟨rfl, Or.inr (Or.inl (by omega))⟩
          | exact Or.inr ⟨rfl, Or.inr (Or.inr (by omega))⟩
        · first
          | (rw [if_neg (by decide)]
             exact zBB_fr hBB (fun c j h => zxcj (by omega) rfl) (fun c j h => rfl))
          | (rw [if_pos rfl, ← p4hv]
             refine zBB_bar hBB (fun c => ?_) (fun c j h => zxu (by omega) (zxcj (by omega) rfl)) (fun c j h => rfl)
             by_cases e : c = v4o.toNat
             · rw [if_pos e, e]; exact zxe
             · rw [if_neg e]; exact zxs e (zxu (by omega) rfl))
      · refine And.intro (Or.inl rfl) ?_
        refine hQ _ _ ?_ ?_ (fun c j h0 h1 => (zxcj h0 rfl))
        · rw [← p4hv]
          first
          | exact Or.inl ⟨rfl, by omega, by omega, by omega⟩
          | exact Or.inr ⟨rfl, Or.inl (by omega)⟩
          | exact Or.inr ⟨rfl, Or.inr (Or.inl (by omega))⟩
          | exact Or.inr ⟨rfl, Or.inr (Or.inr (by omega))⟩
        · first
          | (rw [if_neg (by decide)]
             exact zBB_fr hBB (fun c j h => zxcj (by omega) rfl) (fun c j h => rfl))
          | (rw [if_pos rfl, ← p4hv]
             refine zBB_bar hBB (fun c => ?_) (fun c j h => zxu (by omega) (zxcj (by omega) rfl)) (fun c j h => rfl)
             by_cases e : c = v4o.toNat
             · rw [if_pos e, e]; exact zxe
             · rw [if_neg e]; exact zxs e (zxu (by omega) rfl))
  · refine And.intro (zDX hd 0 rfl) ⟨_, (zWi (zRb rfl)), ?_⟩
    refine And.intro (zDX hd 0 rfl) (zrd (v := 1) zxe ?_)
    refine And.intro (zRb rfl) (zbt rfl ?_)
    refine And.intro (Or.inl rfl) ?_
    refine hQ _ _ ?_ ?_ (fun c j h0 h1 => (zxcj h0 rfl))
    · rw [← p4hv]
      first
      | exact Or.inl ⟨rfl, by omega, by omega, by omega⟩
      | exact Or.inr ⟨rfl, Or.inl (by omega)⟩
      | exact Or.inr ⟨rfl, Or.inr (Or.inl (by omega))⟩
      | exact Or.inr ⟨rfl, Or.inr (Or.inr (by omega))⟩
    · first
      | (rw [if_neg (by decide)]
         exact zBB_fr hBB (fun c j h => zxcj (by omega) rfl) (fun c j h => rfl))
      | (rw [if_pos rfl, ← p4hv]
         refine zBB_bar hBB (fun c => ?_) (fun c j h => zxu (by omega) (zxcj (by omega) rfl)) (fun c j h => rfl)
         by_cases e : c = v4o.toNat
         · rw [if_pos e, e]; exact zxe
         · rw [if_neg e]; exact zxs e (zxu (by omega) rfl)))
def T_G_cst : ZT := fun args I L R S Q => ∃ (k : Nat) (s : BdS) (l : Int) (a : Int) (y : Int) (n : Int), args = [zvr k, zvi l, zvi a, zvi y, zvi n] ∧ (zDy zT17 zF17 k R S) ∧ (zBB k (-1) s I L) ∧ (bGd s) ∧ (r32 l ∧ r32 a ∧ r32 y ∧ r32 n) ∧ ∀ (v : Int) (I' : ZI), ((I' k 0 = 0 ∧ (0 ≤ l ∧ l < bD s ∧ 0 ≤ a ∧ a ≤ 50 ∧ 0 ≤ y ∧ y ≤ 50 ∧ 0 ≤ n ∧ n ≤ 50)) ∨ ((I' k 0 = 1 ∨ I' k 0 = 2) ∧ ¬ (0 ≤ l ∧ l < bD s ∧ 0 ≤ a ∧ a ≤ 50 ∧ 0 ≤ y ∧ y ≤ 50 ∧ 0 ≤ n ∧ n ≤ 50))) → (zBB k (-1) (if (0 ≤ l ∧ l < bD s ∧ 0 ≤ a ∧ a ≤ 50 ∧ 0 ≤ y ∧ y ≤ 50 ∧ 0 ≤ n ∧ n ≤ 50) then bCst s l.toNat a.toNat y.toNat n.toNat else s) I' L) → (∀ c j : Nat, ¬ (c = k ∧ j = 0) → ¬ c = k + 7 → ¬ c = k + 8 → ¬ c = k + 9 → I' c j = I c j) → Q (some (zvi (v))) I' L R S
theorem sn_G_cst : ZSnd 2 17 6 T_G_cst := ZSnd.of (zT17_6 1) (by
  rintro args I L R S Q hz ⟨k, s, l, a, y, n, rfl, hd, hBB, hGd, hr, hQ⟩
  have hGz := bGd_z hGd
  have h5 := hd.1
  obtain ⟨⟨hbw, hbh, hbd, hbs, hbn⟩, hcl, hco, hpc, hne, hpi⟩ := id hBB
  obtain ⟨⟨⟨gW1, gW2⟩, ⟨gH1, gH2⟩, ⟨gD1, gD2⟩, gB9⟩, ⟨gnp, gnn⟩, gco⟩ := id hGz
  obtain ⟨m1, m2, hKe⟩ := gWH hGz
  have hKd : bK s = bW s * bH s * bD s := rfl
  refine And.intro rfl ?_
  refine And.intro (by omega) ⟨fun h2 => ?_, fun h2 => ?_⟩
  · refine And.intro (zDX hd 0 rfl) ⟨_, (zWi (zRb rfl)), ?_⟩
    refine And.intro (zDX hd 0 rfl) (zrd (v := 1) zxe ?_)
    refine And.intro (zRb rfl) (zbf rfl ?_)
    refine And.intro (Or.inl rfl) ?_
    refine hQ _ _ ?_ ?_ (fun c j h0 h1 h2 h3 => (zxcj h0 rfl))
    · first
      | exact Or.inl ⟨zxu (by omega) (zxu (by omega) (zxu (by omega) zxe)), by omega⟩
      | exact Or.inr ⟨Or.inl zxe, by omega⟩
      | exact Or.inr ⟨Or.inr zxe, by omega⟩
    · first
      | (rw [if_neg (by omega)]
         exact zBB_fr hBB (fun c j h => zxcj (by omega) rfl) (fun c j h => rfl))
      | (rw [if_pos (by omega)]
         refine zBB_cst hBB (fun z => ?_) (fun z => ?_) (fun z => ?_) (fun c j h => zxu (by omega) (zxu (by omega) (zxu (by omega) (zxcj (by omega) rfl)))) (fun c j h => rfl)
         · by_cases e : z = l.toNat
           · rw [if_pos e, e]; exact (zxu (by omega) (zxu (by omega) zxe)).trans (by omega)
           · rw [if_neg e]; exact zxu (by omega) (zxu (by omega) (zxs e (zxu (by omega) rfl)))
         · by_cases e : z = l.toNat
           · rw [if_pos e, e]; exact (zxu (by omega) zxe).trans (by omega)
           · rw [if_neg e]; exact zxu (by omega) (zxs e (zxu (by omega) (zxu (by omega) rfl)))
         · by_cases e : z = l.toNat
           · rw [if_pos e, e]; exact (zxe).trans (by omega)
           · rw [if_neg e]; exact zxs e (zxu (by omega) (zxu (by omega) (zxu (by omega) rfl))))
  · refine And.intro (zDX hd 0 rfl) (zrd (v := (bD s)) hbd ?_)
    refine And.intro ⟨(by omega), (by omega)⟩ ⟨fun h10 => ?_, fun h10 => ?_⟩
    · refine Exists.intro _ (And.intro (zinl_ok (zT17_12 0)) (And.intro rfl ?_))
      refine And.intro (by omega) ⟨fun h1_18 => ?_, fun h1_18 => ?_⟩
      · refine And.intro (Or.inl rfl) ?_
        refine And.intro (zRb rfl) (zbt rfl ?_)
        refine And.intro (zDX hd 0 rfl) ⟨_, (zWi (zRb rfl)), ?_⟩
        refine And.intro (zDX hd 0 rfl) (zrd (v := 2) zxe ?_)
        refine And.intro (zRb rfl) (zbf rfl ?_)
        refine And.intro (Or.inl rfl) ?_
        refine hQ _ _ ?_ ?_ (fun c j h0 h1 h2 h3 => (zxcj h0 rfl))
        · first
          | exact Or.inl ⟨zxu (by omega) (zxu (by omega) (zxu (by omega) zxe)), by omega⟩
          | exact Or.inr ⟨Or.inl zxe, by omega⟩
          | exact Or.inr ⟨Or.inr zxe, by omega⟩
        · first
          | (rw [if_neg (by omega)]
             exact zBB_fr hBB (fun c j h => zxcj (by omega) rfl) (fun c j h => rfl))
          | (rw [if_pos (by omega)]
             refine zBB_cst hBB (fun z => ?_) (fun z => ?_) (fun z => ?_) (fun c j h => zxu (by omega) (zxu (by omega) (zxu (by omega) (zxcj (by omega) rfl)))) (fun c j h => rfl)
             · by_cases e : z = l.toNat
               · rw [if_pos e, e]; exact (zxu (by omega) (zxu (by omega) zxe)).trans (by omega)
               · rw [if_neg e]; exact zxu (by omega) (zxu (by omega) (zxs e (zxu (by omega) rfl)))
             · by_cases e : z = l.toNat
               · rw [if_pos e, e]; exact (zxu (by omega) zxe).trans (by omega)
               · rw [if_neg e]; exact zxu (by omega) (zxs e (zxu (by omega) (zxu (by omega) rfl)))
             · by_cases e : z = l.toNat
               · rw [if_pos e, e]; exact (zxe).trans (by omega)
               · rw [if_neg e]; exact zxs e (zxu (by omega) (zxu (by omega) (zxu (by omega) rfl))))
      · refine And.intro ⟨(by omega), (zRb rfl)⟩ ⟨fun h7_18 => ?_, fun h7_18 => ?_⟩
        · refine And.intro (Or.inl rfl) ?_
          refine And.intro (zRb rfl) (zbt rfl ?_)
          refine And.intro (zDX hd 0 rfl) ⟨_, (zWi (zRb rfl)), ?_⟩
          refine And.intro (zDX hd 0 rfl) (zrd (v := 2) zxe ?_)
          refine And.intro (zRb rfl) (zbf rfl ?_)
          refine And.intro (Or.inl rfl) ?_
          refine hQ _ _ ?_ ?_ (fun c j h0 h1 h2 h3 => (zxcj h0 rfl))
          · first
            | exact Or.inl ⟨zxu (by omega) (zxu (by omega) (zxu (by omega) zxe)), by omega⟩
            | exact Or.inr ⟨Or.inl zxe, by omega⟩
            | exact Or.inr ⟨Or.inr zxe, by omega⟩
          · first
            | (rw [if_neg (by omega)]
               exact zBB_fr hBB (fun c j h => zxcj (by omega) rfl) (fun c j h => rfl))
            | (rw [if_pos (by omega)]
               refine zBB_cst hBB (fun z => ?_) (fun z => ?_) (fun z => ?_) (fun c j h => zxu (by omega) (zxu (by omega) (zxu (by omega) (zxcj (by omega) rfl)))) (fun c j h => rfl)
               · by_cases e : z = l.toNat
                 · rw [if_pos e, e]; exact (zxu (by omega) (zxu (by omega) zxe)).trans (by omega)
                 · rw [if_neg e]; exact zxu (by omega) (zxu (by omega) (zxs e (zxu (by omega) rfl)))
               · by_cases e : z = l.toNat
                 · rw [if_pos e, e]; exact (zxu (by omega) zxe).trans (by omega)
                 · rw [if_neg e]; exact zxu (by omega) (zxs e (zxu (by omega) (zxu (by omega) rfl)))
               · by_cases e : z = l.toNat
                 · rw [if_pos e, e]; exact (zxe).trans (by omega)
                 · rw [if_neg e]; exact zxs e (zxu (by omega) (zxu (by omega) (zxu (by omega) rfl))))
        · refine And.intro (Or.inr rfl) ?_
          refine And.intro (zRb rfl) (zbf rfl ?_)
          refine Exists.intro _ (And.intro (zinl_ok (zT17_12 0)) (And.intro rfl ?_))
          refine And.intro (by omega) ⟨fun h1_25 => ?_, fun h1_25 => ?_⟩
          · refine And.intro (Or.inl rfl) ?_
            refine And.intro (zRb rfl) (zbt rfl ?_)
            refine And.intro (zDX hd 0 rfl) ⟨_, (zWi (zRb rfl)), ?_⟩
            refine And.intro (zDX hd 0 rfl) (zrd (v := 2) zxe ?_)
            refine And.intro (zRb rfl) (zbf rfl ?_)
            refine And.intro (Or.inl rfl) ?_
            refine hQ _ _ ?_ ?_ (fun c j h0 h1 h2 h3 => (zxcj h0 rfl))
            · first
              | exact Or.inl ⟨zxu (by omega) (zxu (by omega) (zxu (by omega) zxe)), by omega⟩
              | exact Or.inr ⟨Or.inl zxe, by omega⟩
              | exact Or.inr ⟨Or.inr zxe, by omega⟩
            · first
              | (rw [if_neg (by omega)]
                 exact zBB_fr hBB (fun c j h => zxcj (by omega) rfl) (fun c j h => rfl))
              | (rw [if_pos (by omega)]
                 refine zBB_cst hBB (fun z => ?_) (fun z => ?_) (fun z => ?_) (fun c j h => zxu (by omega) (zxu (by omega) (zxu (by omega) (zxcj (by omega) rfl)))) (fun c j h => rfl)
                 · by_cases e : z = l.toNat
                   · rw [if_pos e, e]; exact (zxu (by omega) (zxu (by omega) zxe)).trans (by omega)
                   · rw [if_neg e]; exact zxu (by omega) (zxu (by omega) (zxs e (zxu (by omega) rfl)))
                 · by_cases e : z = l.toNat
                   · rw [if_pos e, e]; exact (zxu (by omega) zxe).trans (by omega)
                   · rw [if_neg e]; exact zxu (by omega) (zxs e (zxu (by omega) (zxu (by omega) rfl)))
                 · by_cases e : z = l.toNat
                   · rw [if_pos e, e]; exact (zxe).trans (by omega)
                   · rw [if_neg e]; exact zxs e (zxu (by omega) (zxu (by omega) (zxu (by omega) rfl))))
          · refine And.intro ⟨(by omega), (zRb rfl)⟩ ⟨fun h7_25 => ?_, fun h7_25 => ?_⟩
            · refine And.intro (Or.inl rfl) ?_
              refine And.intro (zRb rfl) (zbt rfl ?_)
              refine And.intro (zDX hd 0 rfl) ⟨_, (zWi (zRb rfl)), ?_⟩
              refine And.intro (zDX hd 0 rfl) (zrd (v := 2) zxe ?_)
              refine And.intro (zRb rfl) (zbf rfl ?_)
              refine And.intro (Or.inl rfl) ?_
              refine hQ _ _ ?_ ?_ (fun c j h0 h1 h2 h3 => (zxcj h0 rfl))
              · first
                | exact Or.inl ⟨zxu (by omega) (zxu (by omega) (zxu (by omega) zxe)), by omega⟩
                | exact Or.inr ⟨Or.inl zxe, by omega⟩
                | exact Or.inr ⟨Or.inr zxe, by omega⟩
              · first
                | (rw [if_neg (by omega)]
                   exact zBB_fr hBB (fun c j h => zxcj (by omega) rfl) (fun c j h => rfl))
                | (rw [if_pos (by omega)]
                   refine zBB_cst hBB (fun z => ?_) (fun z => ?_) (fun z => ?_) (fun c j h => zxu (by omega) (zxu (by omega) (zxu (by omega) (zxcj (by omega) rfl)))) (fun c j h => rfl)
                   · by_cases e : z = l.toNat
                     · rw [if_pos e, e]; exact (zxu (by omega) (zxu (by omega) zxe)).trans (by omega)
                     · rw [if_neg e]; exact zxu (by omega) (zxu (by omega) (zxs e (zxu (by omega) rfl)))
                   · by_cases e : z = l.toNat
                     · rw [if_pos e, e]; exact (zxu (by omega) zxe).trans (by omega)
                     · rw [if_neg e]; exact zxu (by omega) (zxs e (zxu (by omega) (zxu (by omega) rfl)))
                   · by_cases e : z = l.toNat
                     · rw [if_pos e, e]; exact (zxe).trans (by omega)
                     · rw [if_neg e]; exact zxs e (zxu (by omega) (zxu (by omega) (zxu (by omega) rfl))))
            · refine And.intro (Or.inr rfl) ?_
              refine And.intro (zRb rfl) (zbf rfl ?_)
              refine Exists.intro _ (And.intro (zinl_ok (zT17_12 0)) (And.intro rfl ?_))
              refine And.intro (by omega) ⟨fun h1_33 => ?_, fun h1_33 => ?_⟩
              · refine And.intro (Or.inl rfl) ?_
                refine And.intro (zRb rfl) (zbt rfl ?_)
                refine And.intro (zDX hd 0 rfl) ⟨_, (zWi (zRb rfl)), ?_⟩
                refine And.intro (zDX hd 0 rfl) (zrd (v := 2) zxe ?_)
                refine And.intro (zRb rfl) (zbf rfl ?_)
                refine And.intro (Or.inl rfl) ?_
                refine hQ _ _ ?_ ?_ (fun c j h0 h1 h2 h3 => (zxcj h0 rfl))
                · first
                  | exact Or.inl ⟨zxu (by omega) (zxu (by omega) (zxu (by omega) zxe)), by omega⟩
                  | exact Or.inr ⟨Or.inl zxe, by omega⟩
                  | exact Or.inr ⟨Or.inr zxe, by omega⟩
                · first
                  | (rw [if_neg (by omega)]
                     exact zBB_fr hBB (fun c j h => zxcj (by omega) rfl) (fun c j h => rfl))
                  | (rw [if_pos (by omega)]
                     refine zBB_cst hBB (fun z => ?_) (fun z => ?_) (fun z => ?_) (fun c j h => zxu (by omega) (zxu (by omega) (zxu (by omega) (zxcj (by omega) rfl)))) (fun c j h => rfl)
                     · by_cases e : z = l.toNat
                       · rw [if_pos e, e]; exact (zxu (by omega) (zxu (by omega) zxe)).trans (by omega)
                       · rw [if_neg e]; exact zxu (by omega) (zxu (by omega) (zxs e (zxu (by omega) rfl)))
                     · by_cases e : z = l.toNat
                       · rw [if_pos e, e]; exact (zxu (by omega) zxe).trans (by omega)
                       · rw [if_neg e]; exact zxu (by omega) (zxs e (zxu (by omega) (zxu (by omega) rfl)))
                     · by_cases e : z = l.toNat
                       · rw [if_pos e, e]; exact (zxe).trans (by omega)
                       · rw [if_neg e]; exact zxs e (zxu (by omega) (zxu (by omega) (zxu (by omega) rfl))))
              · refine And.intro ⟨(by omega), (zRb rfl)⟩ ⟨fun h7_33 => ?_, fun h7_33 => ?_⟩
                · refine And.intro (Or.inl rfl) ?_
                  refine And.intro (zRb rfl) (zbt rfl ?_)
                  refine And.intro (zDX hd 0 rfl) ⟨_, (zWi (zRb rfl)), ?_⟩
                  refine And.intro (zDX hd 0 rfl) (zrd (v := 2) zxe ?_)
                  refine And.intro (zRb rfl) (zbf rfl ?_)
                  refine And.intro (Or.inl rfl) ?_
                  refine hQ _ _ ?_ ?_ (fun c j h0 h1 h2 h3 => (zxcj h0 rfl))
                  · first
                    | exact Or.inl ⟨zxu (by omega) (zxu (by omega) (zxu (by omega) zxe)), by omega⟩
                    | exact Or.inr ⟨Or.inl zxe, by omega⟩
                    | exact Or.inr ⟨Or.inr zxe, by omega⟩
                  · first
                    | (rw [if_neg (by omega)]
                       exact zBB_fr hBB (fun c j h => zxcj (by omega) rfl) (fun c j h => rfl))
                    | (rw [if_pos (by omega)]
                       refine zBB_cst hBB (fun z => ?_) (fun z => ?_) (fun z => ?_) (fun c j h => zxu (by omega) (zxu (by omega) (zxu (by omega) (zxcj (by omega) rfl)))) (fun c j h => rfl)
                       · by_cases e : z = l.toNat
                         · rw [if_pos e, e]; exact (zxu (by omega) (zxu (by omega) zxe)).trans (by omega)
                         · rw [if_neg e]; exact zxu (by omega) (zxu (by omega) (zxs e (zxu (by omega) rfl)))
                       · by_cases e : z = l.toNat
                         · rw [if_pos e, e]; exact (zxu (by omega) zxe).trans (by omega)
                         · rw [if_neg e]; exact zxu (by omega) (zxs e (zxu (by omega) (zxu (by omega) rfl)))
                       · by_cases e : z = l.toNat
                         · rw [if_pos e, e]; exact (zxe).trans (by omega)
                         · rw [if_neg e]; exact zxs e (zxu (by omega) (zxu (by omega) (zxu (by omega) rfl))))
                · refine And.intro (Or.inr rfl) ?_
                  refine And.intro (zRb rfl) (zbf rfl ?_)
                  refine And.intro (zDX hd 0 rfl) ⟨_, (zWi (zRb rfl)), ?_⟩
                  refine And.intro (zDX hd 0 rfl) (zrd (v := 0) zxe ?_)
                  refine And.intro (zRb rfl) (zbt rfl ?_)
                  refine And.intro (zDX hd 0 rfl) (zrdR (v := some (k + 7)) (zDR hd 6 rfl) ?_)
                  refine And.intro (zDP hd 7 rfl rfl (by omega) (by omega)) (fun v61 e61 r61 => ?_)
                  refine And.intro ⟨r61, (by omega)⟩ ⟨fun h63 => ?_, fun h63 => ?_⟩
                  · refine And.intro (zDX hd 0 rfl) (zrdR (v := some (k + 7)) (zDR hd 6 rfl) ?_)
                    refine And.intro ⟨(by show 40 ≤ _; omega), (zDP hd 7 rfl rfl (by omega) (by omega))⟩ ⟨_, (zWi (by omega)), ?_⟩
                    refine And.intro (zDX hd 0 rfl) (zrdR (v := some (k + 8)) (zDR hd 7 rfl) ?_)
                    refine And.intro ⟨(by show 40 ≤ _; omega), (zDP hd 8 rfl rfl (by omega) (by omega))⟩ ⟨_, (zWi (by omega)), ?_⟩
                    refine And.intro (zDX hd 0 rfl) (zrdR (v := some (k + 9)) (zDR hd 8 rfl) ?_)
                    refine And.intro ⟨(by show 40 ≤ _; omega), (zDP hd 9 rfl rfl (by omega) (by omega))⟩ ⟨_, (zWi (by omega)), ?_⟩
                    refine And.intro (Or.inr rfl) ?_
                    refine hQ _ _ ?_ ?_ (fun c j h0 h1 h2 h3 => (zxu h3 (zxu h2 (zxu h1 (zxcj h0 rfl)))))
                    · first
                      | exact Or.inl ⟨zxu (by omega) (zxu (by omega) (zxu (by omega) zxe)), by omega⟩
                      | exact Or.inr ⟨Or.inl zxe, by omega⟩
                      | exact Or.inr ⟨Or.inr zxe, by omega⟩
                    · first
                      | (rw [if_neg (by omega)]
                         exact zBB_fr hBB (fun c j h => zxcj (by omega) rfl) (fun c j h => rfl))
                      | (rw [if_pos (by omega)]
                         refine zBB_cst hBB (fun z => ?_) (fun z => ?_) (fun z => ?_) (fun c j h => zxu (by omega) (zxu (by omega) (zxu (by omega) (zxcj (by omega) rfl)))) (fun c j h => rfl)
                         · by_cases e : z = l.toNat
                           · rw [if_pos e, e]; exact (zxu (by omega) (zxu (by omega) zxe)).trans (by omega)
                           · rw [if_neg e]; exact zxu (by omega) (zxu (by omega) (zxs e (zxu (by omega) rfl)))
                         · by_cases e : z = l.toNat
                           · rw [if_pos e, e]; exact (zxu (by omega) zxe).trans (by omega)
                           · rw [if_neg e]; exact zxu (by omega) (zxs e (zxu (by omega) (zxu (by omega) rfl)))
                         · by_cases e : z = l.toNat
                           · rw [if_pos e, e]; exact (zxe).trans (by omega)
                           · rw [if_neg e]; exact zxs e (zxu (by omega) (zxu (by omega) (zxu (by omega) rfl))))
                  · refine And.intro (zDX hd 0 rfl) (zrdR (v := some (k + 8)) (zDR hd 7 rfl) ?_)
                    refine And.intro (zDP hd 8 rfl rfl (by omega) (by omega)) (fun v71 e71 r71 => ?_)
                    refine And.intro ⟨r71, (by omega)⟩ ⟨fun h73 => ?_, fun h73 => ?_⟩
                    · refine And.intro (zDX hd 0 rfl) (zrdR (v := some (k + 7)) (zDR hd 6 rfl) ?_)
                      refine And.intro ⟨(by show 40 ≤ _; omega), (zDP hd 7 rfl rfl (by omega) (by omega))⟩ ⟨_, (zWi (by omega)), ?_⟩
                      refine And.intro (zDX hd 0 rfl) (zrdR (v := some (k + 8)) (zDR hd 7 rfl) ?_)
                      refine And.intro ⟨(by show 40 ≤ _; omega), (zDP hd 8 rfl rfl (by omega) (by omega))⟩ ⟨_, (zWi (by omega)), ?_⟩
                      refine And.intro (zDX hd 0 rfl) (zrdR (v := some (k + 9)) (zDR hd 8 rfl) ?_)
                      refine And.intro ⟨(by show 40 ≤ _; omega), (zDP hd 9 rfl rfl (by omega) (by omega))⟩ ⟨_, (zWi (by omega)), ?_⟩
                      refine And.intro (Or.inr rfl) ?_
                      refine hQ _ _ ?_ ?_ (fun c j h0 h1 h2 h3 => (zxu h3 (zxu h2 (zxu h1 (zxcj h0 rfl)))))
                      · first
                        | exact Or.inl ⟨zxu (by omega) (zxu (by omega) (zxu (by omega) zxe)), by omega⟩
                        | exact Or.inr ⟨Or.inl zxe, by omega⟩
                        | exact Or.inr ⟨Or.inr zxe, by omega⟩
                      · first
                        | (rw [if_neg (by omega)]
                           exact zBB_fr hBB (fun c j h => zxcj (by omega) rfl) (fun c j h => rfl))
                        | (rw [if_pos (by omega)]
                           refine zBB_cst hBB (fun z => ?_) (fun z => ?_) (fun z => ?_) (fun c j h => zxu (by omega) (zxu (by omega) (zxu (by omega) (zxcj (by omega) rfl)))) (fun c j h => rfl)
                           · by_cases e : z = l.toNat
                             · rw [if_pos e, e]; exact (zxu (by omega) (zxu (by omega) zxe)).trans (by omega)
                             · rw [if_neg e]; exact zxu (by omega) (zxu (by omega) (zxs e (zxu (by omega) rfl)))
                           · by_cases e : z = l.toNat
                             · rw [if_pos e, e]; exact (zxu (by omega) zxe).trans (by omega)
                             · rw [if_neg e]; exact zxu (by omega) (zxs e (zxu (by omega) (zxu (by omega) rfl)))
                           · by_cases e : z = l.toNat
                             · rw [if_pos e, e]; exact (zxe).trans (by omega)
                             · rw [if_neg e]; exact zxs e (zxu (by omega) (zxu (by omega) (zxu (by omega) rfl))))
                    · refine And.intro (zDX hd 0 rfl) (zrdR (v := some (k + 9)) (zDR hd 8 rfl) ?_)
                      refine And.intro (zDP hd 9 rfl rfl (by omega) (by omega)) (fun v81 e81 r81 => ?_)
                      refine And.intro ⟨r81, (by omega)⟩ ⟨fun h84 => ?_, fun h84 => ?_⟩
                      · refine And.intro (zDX hd 0 rfl) (zrdR (v := some (k + 7)) (zDR hd 6 rfl) ?_)
                        refine And.intro ⟨(by show 40 ≤ _; omega), (zDP hd 7 rfl rfl (by omega) (by omega))⟩ ⟨_, (zWi (by omega)), ?_⟩
                        refine And.intro (zDX hd 0 rfl) (zrdR (v := some (k + 8)) (zDR hd 7 rfl) ?_)
                        refine And.intro ⟨(by show 40 ≤ _; omega), (zDP hd 8 rfl rfl (by omega) (by omega))⟩ ⟨_, (zWi (by omega)), ?_⟩
                        refine And.intro (zDX hd 0 rfl) (zrdR (v := some (k + 9)) (zDR hd 8 rfl) ?_)
                        refine And.intro ⟨(by show 40 ≤ _; omega), (zDP hd 9 rfl rfl (by omega) (by omega))⟩ ⟨_, (zWi (by omega)), ?_⟩
                        refine And.intro (Or.inl rfl) ?_
                        refine hQ _ _ ?_ ?_ (fun c j h0 h1 h2 h3 => (zxu h3 (zxu h2 (zxu h1 (zxcj h0 rfl)))))
                        · first
                          | exact Or.inl ⟨zxu (by omega) (zxu (by omega) (zxu (by omega) zxe)), by omega⟩
                          | exact Or.inr ⟨Or.inl zxe, by omega⟩
                          | exact Or.inr ⟨Or.inr zxe, by omega⟩
                        · first
                          | (rw [if_neg (by omega)]
                             exact zBB_fr hBB (fun c j h => zxcj (by omega) rfl) (fun c j h => rfl))
                          | (rw [if_pos (by omega)]
                             refine zBB_cst hBB (fun z => ?_) (fun z => ?_) (fun z => ?_) (fun c j h => zxu (by omega) (zxu (by omega) (zxu (by omega) (zxcj (by omega) rfl)))) (fun c j h => rfl)
                             · by_cases e : z = l.toNat
                               · rw [if_pos e, e]; exact (zxu (by omega) (zxu (by omega) zxe)).trans (by omega)
                               · rw [if_neg e]; exact zxu (by omega) (zxu (by omega) (zxs e (zxu (by omega) rfl)))
                             · by_cases e : z = l.toNat
                               · rw [if_pos e, e]; exact (zxu (by omega) zxe).trans (by omega)
                               · rw [if_neg e]; exact zxu (by omega) (zxs e (zxu (by omega) (zxu (by omega) rfl)))
                             · by_cases e : z = l.toNat
                               · rw [if_pos e, e]; exact (zxe).trans (by omega)
                               · rw [if_neg e]; exact zxs e (zxu (by omega) (zxu (by omega) (zxu (by omega) rfl))))
                      · refine And.intro (zDX hd 0 rfl) (zrdR (v := some (k + 7)) (zDR hd 6 rfl) ?_)
                        refine And.intro ⟨(by show 40 ≤ _; omega), (zDP hd 7 rfl rfl (by omega) (by omega))⟩ ⟨_, (zWi (by omega)), ?_⟩
                        refine And.intro (zDX hd 0 rfl) (zrdR (v := some (k + 8)) (zDR hd 7 rfl) ?_)
                        refine And.intro ⟨(by show 40 ≤ _; omega), (zDP hd 8 rfl rfl (by omega) (by omega))⟩ ⟨_, (zWi (by omega)), ?_⟩
                        refine And.intro (zDX hd 0 rfl) (zrdR (v := some (k + 9)) (zDR hd 8 rfl) ?_)
                        refine And.intro ⟨(by show 40 ≤ _; omega), (zDP hd 9 rfl rfl (by omega) (by omega))⟩ ⟨_, (zWi (by omega)), ?_⟩
                        refine And.intro (Or.inr rfl) ?_
                        refine hQ _ _ ?_ ?_ (fun c j h0 h1 h2 h3 => (zxu h3 (zxu h2 (zxu h1 (zxcj h0 rfl)))))
                        · first
                          | exact Or.inl ⟨zxu (by omega) (zxu (by omega) (zxu (by omega) zxe)), by omega⟩
                          | exact Or.inr ⟨Or.inl zxe, by omega⟩
                          | exact Or.inr ⟨Or.inr zxe, by omega⟩
                        · first
                          | (rw [if_neg (by omega)]
                             exact zBB_fr hBB (fun c j h => zxcj (by omega) rfl) (fun c j h => rfl))
                          | (rw [if_pos (by omega)]
                             refine zBB_cst hBB (fun z => ?_) (fun z => ?_) (fun z => ?_) (fun c j h => zxu (by omega) (zxu (by omega) (zxu (by omega) (zxcj (by omega) rfl)))) (fun c j h => rfl)
                             · by_cases e : z = l.toNat
                               · rw [if_pos e, e]; exact (zxu (by omega) (zxu (by omega) zxe)).trans (by omega)
                               · rw [if_neg e]; exact zxu (by omega) (zxu (by omega) (zxs e (zxu (by omega) rfl)))
                             · by_cases e : z = l.toNat
                               · rw [if_pos e, e]; exact (zxu (by omega) zxe).trans (by omega)
                               · rw [if_neg e]; exact zxu (by omega) (zxs e (zxu (by omega) (zxu (by omega) rfl)))
                             · by_cases e : z = l.toNat
                               · rw [if_pos e, e]; exact (zxe).trans (by omega)
                               · rw [if_neg e]; exact zxs e (zxu (by omega) (zxu (by omega) (zxu (by omega) rfl))))
    · refine And.intro (zDX hd 0 rfl) ⟨_, (zWi (zRb rfl)), ?_⟩
      refine And.intro (zDX hd 0 rfl) (zrd (v := 1) zxe ?_)
      refine And.intro (zRb rfl) (zbf rfl ?_)
      refine And.intro (Or.inl rfl) ?_
      refine hQ _ _ ?_ ?_ (fun c j h0 h1 h2 h3 => (zxcj h0 rfl))
      · first
        | exact Or.inl ⟨zxu (by omega) (zxu (by omega) (zxu (by omega) zxe)), by omega⟩
        | exact Or.inr ⟨Or.inl zxe, by omega⟩
        | exact Or.inr ⟨Or.inr zxe, by omega⟩
      · first
        | (rw [if_neg (by omega)]
           exact zBB_fr hBB (fun c j h => zxcj (by omega) rfl) (fun c j h => rfl))
        | (rw [if_pos (by omega)]
           refine zBB_cst hBB (fun z => ?_) (fun z => ?_) (fun z => ?_) (fun c j h => zxu (by omega) (zxu (by omega) (zxu (by omega) (zxcj (by omega) rfl)))) (fun c j h => rfl)
           · by_cases e : z = l.toNat
             · rw [if_pos e, e]; exact (zxu (by omega) (zxu (by omega) zxe)).trans (by omega)
             · rw [if_neg e]; exact zxu (by omega) (zxu (by omega) (zxs e (zxu (by omega) rfl)))
           · by_cases e : z = l.toNat
             · rw [if_pos e, e]; exact (zxu (by omega) zxe).trans (by omega)
             · rw [if_neg e]; exact zxu (by omega) (zxs e (zxu (by omega) (zxu (by omega) rfl)))
           · by_cases e : z = l.toNat
             · rw [if_pos e, e]; exact (zxe).trans (by omega)
             · rw [if_neg e]; exact zxs e (zxu (by omega) (zxu (by omega) (zxu (by omega) rfl)))))
def T_G_net : ZT := fun args I L R S Q => ∃ (k : Nat) (s : BdS), args = [zvr k] ∧ (zDy zT17 zF17 k R S) ∧ (zBB k (-1) s I L) ∧ (bnn s < 12) ∧ ∀ (v : Int) (I' : ZI), (v = bnn s) → (∀ sn : Int, zBB k (-1) (s.1, bsd s, bho s, bba s, bhi s, bpa s, bnp s, bP s, bnn s + 1, upR (bN s) (bnn s) sn 0 0 0 0, upF (bwl s) (bnn s) 0, bwy s, bco s, bnd s) I' L) → (∀ c j : Nat, ¬ (c = k ∧ j = 0) → ¬ (c = k ∧ j = 5) → I' c j = I c j) → Q (some (zvi (v))) I' L R S
theorem sn_G_net : ZSnd 1 17 20 T_G_net := ZSnd.of (zT17_20 0) (by
  rintro args I L R S Q hz ⟨k, s, rfl, hd, hBB, hnn, hQ⟩
  have h5 := hd.1
  obtain ⟨⟨hbw, hbh, hbd, hbs, hbn⟩, hcl, hco, hpc, hne, hpi⟩ := id hBB
  refine And.intro rfl ?_
  refine And.intro (zDX hd 0 rfl) ⟨_, (zWi (zRb rfl)), ?_⟩
  refine And.intro (zDX hd 0 rfl) (zrd (v := (bnn s)) (zxs (by decide) hbn) ?_)
  refine And.intro ⟨(by omega), (zRb rfl)⟩ ⟨fun h11 => ?_, (fun h11 => False.elim (by omega))⟩
  refine And.intro (zDX hd 0 rfl) (zrd (v := (bnn s)) (zxs (by decide) hbn) ?_)
  refine And.intro (zDX hd 0 rfl) ⟨_, (zWi (by omega)), ?_⟩
  refine And.intro (zDX hd 0 rfl) (zrd (v := ((bnn s) + 1)) zxe ?_)
  refine hQ _ _ (by omega) (fun sn => zBB_net hBB hnn zxe (fun c j h => zxcj (by omega) (zxcj (by omega) rfl)) (fun c j h => rfl)) (fun c j h0 h1 => (zxcj h1 (zxcj h0 rfl))))
def T_G_pin : ZT := fun args I L R S Q => ∃ (k : Nat) (s : BdS) (n : Nat) (x : Int) (l : Int) (i : Int) (j : Int), args = [zvr k, zvi x, zvi l, zvi i, zvi j] ∧ (zDy zT17 zF17 k R S) ∧ (zBB k (-1) s I L) ∧ (bGd s) ∧ (x = n ∧ n < bnn s) ∧ (r32 l ∧ r32 i ∧ r32 j) ∧ (cxI (bW s) (bH s) (bD s) l i j ≠ -1) ∧ ∀ (v : Int) (I' : ZI), ((v = 1 ∧ bFree s n (cxI (bW s) (bH s) (bD s) l i j).toNat) ∨ (v = 0 ∧ ¬ bFree s n (cxI (bW s) (bH s) (bD s) l i j).toNat)) → (v = 1 → ∀ t o : Int, zBB k (-1) (bPad s n (cxI (bW s) (bH s) (bD s) l i j).toNat t o) I' L) → (v = 0 → zBB k (-1) s I' L) → (∀ c j : Nat, ¬ (c = k ∧ j = 0) → ¬ c = k + 1 → ¬ c = k + 2 → ¬ c = k + 3 → ¬ c = k + 4 → ¬ c = k + 10 → ¬ c = k + 11 → I' c j = I c j) → Q (some (zvi (v))) I' L R S
theorem sn_G_pin : ZSnd 2 17 26 T_G_pin := ZSnd.of (zT17_26 1) (by
  rintro args I L R S Q hz ⟨k, s, n, x, l, i, j, rfl, hd, hBB, hGd, hxn, hr, hcx, hQ⟩
  have hGz := bGd_z hGd
  have h5 := hd.1
  obtain ⟨⟨hbw, hbh, hbd, hbs, hbn⟩, hcl, hco, hpc, hne, hpi⟩ := id hBB
  obtain ⟨⟨⟨gW1, gW2⟩, ⟨gH1, gH2⟩, ⟨gD1, gD2⟩, gB9⟩, ⟨gnp, gnn⟩, gco⟩ := id hGz
  obtain ⟨m1, m2, hKe⟩ := gWH hGz
  have hKd : bK s = bW s * bH s * bD s := rfl
  have hb5 := (by have w := hGd.2.2.2.2.1 n hxn.2; exact w.2.1)
  have hxn0 : x.toNat = n := by have := hxn.1; omega
  refine And.intro rfl ?_
  refine And.intro (zDX hd 0 rfl) ⟨_, sn_G_cell.up (by decide), ?_⟩
  refine ⟨k, (-1), s, (l : Int), (i : Int), (j : Int), rfl, hd, (by first | exact (zBB_fr hBB (fun c j h => rfl) (fun c j h => rfl)) | (clear hQ; grind [xu])), (by clear hQ; grind [xu]), (by omega), ?_⟩
  intro v5o p5hv p5bhv2
  have g5 : 0 ≤ v5o := (by omega)
  have g5b : bFree s n v5o.toNat ↔ (bba s v5o.toNat = 0 ∧ ¬ (bpa s v5o.toNat ≠ -1 ∧ bho s v5o.toNat = n) ∧ (bho s v5o.toNat = -1 ∨ bho s v5o.toNat = n) ∧ bcn (bP s) n (bnp s) ≠ 5) := (gFree hGd hxn.2 (by omega))
  refine And.intro (zDX hd 0 rfl) (Exists.intro _ (And.intro (zinl_ok (zT17_13 0)) (And.intro rfl ?_)))
  refine And.intro (by omega) ⟨(fun h1_13 => False.elim (by omega)), fun h1_13 => ?_⟩
  refine And.intro (zDX hd 0 rfl) (zrd (v := (bnn s)) hbn ?_)
  refine And.intro ⟨(by omega), (by omega)⟩ ⟨(fun h9_13 => False.elim (by omega)), fun h9_13 => ?_⟩
  refine And.intro (Or.inr rfl) ?_
  refine And.intro (zRb rfl) (zbf rfl ?_)
  refine And.intro ⟨(by omega), (zRb rfl)⟩ ⟨(fun h22 => False.elim (by omega)), fun h22 => ?_⟩
  refine And.intro (zDX hd 0 rfl) ⟨_, (zWi (zRb rfl)), ?_⟩
  refine And.intro (zDX hd 0 rfl) (zrd (v := 0) zxe ?_)
  refine And.intro (zRb rfl) (zbt rfl ?_)
  refine And.intro (zDX hd 0 rfl) (zrdR (v := some (k + 4)) (zDR hd 3 rfl) ?_)
  refine And.intro (Or.inr (zDP hd 4 rfl rfl (by omega) (by omega))) (fun v48 e48 r48 => ?_)
  have f48 : (v48 = 0 ∧ bpa s v5o.toNat = -1) ∨ (v48 = 1 ∧ bpa s v5o.toNat ≠ -1) := (gIf (e48.trans (zxu (by omega) (hcl v5o.toNat (by omega)).2.1)))
  refine And.intro r48 ⟨fun h49 => ?_, fun h49 => ?_⟩
  · refine And.intro (zDX hd 0 rfl) (zrdR (v := some (k + 5)) (zDR hd 4 rfl) ?_)
    refine And.intro (Or.inr (zDP hd 5 rfl rfl (by omega) (by omega))) (fun v76 e76 r76 => ?_)
    have f76 : v76 = bba s v5o.toNat := (e76.trans (zxu (by omega) (hcl v5o.toNat (by omega)).2.2.1))
    refine And.intro r76 ⟨fun h77 => ?_, fun h77 => ?_⟩
    · refine And.intro (Or.inl rfl) ?_
      refine hQ _ _ ?_ ?_ (fun hv0 => by first | exact absurd hv0 (by decide) | exact zBB_fr hBB (fun c j h => zxcj (by omega) rfl) (fun c j h => rfl)) (fun c j h0 h1 h2 h3 h4 h5 h6 => (zxcj h0 rfl))
      · rw [← p5hv]
        first
        | exact Or.inl ⟨rfl, g5b.2 ⟨by omega, by omega, by omega, by omega⟩⟩
        | (refine Or.inr ⟨rfl, fun w => ?_⟩
           have w2 := g5b.1 w
           omega)
      · intro hv1 t o
        first
        | exact absurd hv1 (by decide)
        | (rw [← p5hv]
           refine zBB_pad p121hBB2 (gPd_of (f := bN s) hGd) hxn.2 gnn (by omega) (fun d => ?_) (fun d => ?_) (fun m => ?_) (fun z => ?_) (fun c j h => zxu (by omega) (zxu (by omega) (zxu (by omega) (zxu (by omega) rfl)))) (fun c j h => rfl)
           · refine zxu (by omega) ?_
             by_cases e : d = v5o.toNat
             · rw [if_pos e, e]; exact zxe.trans hxn.1
             · rw [if_neg e]; exact zxs e (zxu (by omega) (zxu (by omega) rfl))
           · by_cases e : d = v5o.toNat
             · rw [if_pos e, e]; exact zxe
             · rw [if_neg e]; exact zxs e (zxu (by omega) (zxu (by omega) (zxu (by omega) rfl)))
           · refine zxu (by omega) (zxu (by omega) ?_)
             by_cases e : m = n
             · rw [if_pos e]; exact (zxe' (by omega)).trans (by omega)
             · rw [if_neg e]; exact zxs (by omega) (zxu (by omega) rfl)
           · refine zxu (by omega) (zxu (by omega) (zxu (by omega) ?_))
             by_cases e : z = 5 * n + bcn (bP s) n (bnp s)
             · rw [if_pos e, show z = (5 * x + v136).toNat by omega]; exact zxe.trans (by omega)
             · rw [if_neg e]; exact zxs (by omega) rfl)
    · refine And.intro (zRb rfl) (zbf rfl ?_)
      refine And.intro (zDX hd 0 rfl) (zrdR (v := some (k + 3)) (zDR hd 2 rfl) ?_)
      refine And.intro (zDP hd 3 rfl rfl (by omega) (by omega)) (fun v91 e91 r91 => ?_)
      have f91 : v91 = bho s v5o.toNat := (e91.trans (zxu (by omega) (hcl v5o.toNat (by omega)).1))
      refine And.intro ⟨r91, (zRb rfl)⟩ ⟨fun h93 => ?_, fun h93 => ?_⟩
      · refine And.intro (zDX hd 0 rfl) (zrdR (v := some (k + 1)) (zDR hd 0 rfl) ?_)
        refine And.intro (zDP hd 1 rfl rfl (by omega) (by omega)) (fun v112 e112 r112 => ?_)
        have f112 : v112 = bcn (bP s) n (bnp s) := (e112.trans (zxu (by omega) ((congrArg (I (k + 1)) (by omega)).trans (hpc n (by omega)).1)))
        refine And.intro ⟨r112, (zRb rfl)⟩ ⟨fun h114 => ?_, fun h114 => ?_⟩
        · refine And.intro (zDX hd 0 rfl) ⟨_, sn_G_let.up (by decide), ?_⟩
          refine ⟨k, (-1), s, n, (x : Int), rfl, hd, (by first | exact (zBB_fr hBB (fun c j h => (zxcj (by omega) rfl)) (fun c j h => rfl)) | (clear hQ; grind [xu])), (by clear hQ; grind [xu]), (by omega), ?_⟩
          intro I121o p121hBB2 p121bfr
          refine And.intro (zDX hd 0 rfl) (zrdR (v := some (k + 2)) (zDR hd 1 rfl) ?_)
          refine And.intro (zDX hd 0 rfl) (zrdR (v := some (k + 1)) (zDR hd 0 rfl) ?_)
          refine And.intro (zDP hd 1 rfl rfl (by omega) (by omega)) (fun v136 e136 r136 => ?_)
          have f136 : v136 = bcn (bP s) n (bnp s) := (e136.trans ((p121bfr (k + 1) _ (by omega) (by omega) (by omega)).trans (zxu (by omega) ((congrArg (I (k + 1)) (by omega)).trans (hpc n (by omega)).1))))
          refine And.intro ⟨(by show 40 ≤ _; omega), (zDP hd 2 rfl rfl (by omega) (by omega))⟩ ⟨_, (zWi (by omega)), ?_⟩
          refine And.intro (zDX hd 0 rfl) (zrdR (v := some (k + 1)) (zDR hd 0 rfl) ?_)
          refine And.intro (zDP hd 1 rfl rfl (by omega) (by omega)) (fun v147 e147 r147 => ?_)
          have f147 : v147 = bcn (bP s) n (bnp s) := (e147.trans (zxu (by omega) ((p121bfr (k + 1) _ (by omega) (by omega) (by omega)).trans (zxu (by omega) ((congrArg (I (k + 1)) (by omega)).trans (hpc n (by omega)).1)))))
          refine And.intro ⟨(by show 40 ≤ _; omega), (zDP hd 1 rfl rfl (by omega) (by omega))⟩ ⟨_, (zWi (by omega)), ?_⟩
          refine And.intro (zDX hd 0 rfl) (zrdR (v := some (k + 3)) (zDR hd 2 rfl) ?_)
          refine And.intro ⟨(by show 40 ≤ _; omega), (zDP hd 3 rfl rfl (by omega) (by omega))⟩ ⟨_, (zWi (by omega)), ?_⟩
          refine And.intro (zDX hd 0 rfl) (zrdR (v := some (k + 4)) (zDR hd 3 rfl) ?_)
          refine And.intro ⟨(by show 40 ≤ _; omega), Or.inr ⟨(zDP hd 4 rfl rfl (by omega) (by omega)), (Or.inr rfl)⟩⟩ ?_
          refine And.intro (Or.inr rfl) ?_
          refine hQ _ _ ?_ ?_ (fun hv0 => by first | exact absurd hv0 (by decide) | exact zBB_fr hBB (fun c j h => zxcj (by omega) rfl) (fun c j h => rfl)) (fun c j h0 h1 h2 h3 h4 h5 h6 => (zxu h4 (zxu h3 (zxu h1 (zxu h2 ((p121bfr c j (by omega) (by omega) (by omega)).trans (zxcj h0 rfl)))))))
          · rw [← p5hv]
            first
            | exact Or.inl ⟨rfl, g5b.2 ⟨by omega, by omega, by omega, by omega⟩⟩
            | (refine Or.inr ⟨rfl, fun w => ?_⟩
               have w2 := g5b.1 w
               omega)
          · intro hv1 t o
            first
            | exact absurd hv1 (by decide)
            | (rw [← p5hv]
               refine zBB_pad p121hBB2 (gPd_of (f := bN s) hGd) hxn.2 gnn (by omega) (fun d => ?_) (fun d => ?_) (fun m => ?_) (fun z => ?_) (fun c j h => zxu (by omega) (zxu (by omega) (zxu (by omega) (zxu (by omega) rfl)))) (fun c j h => rfl)
               · refine zxu (by omega) ?_
                 by_cases e : d = v5o.toNat
                 · rw [if_pos e, e]; exact zxe.trans hxn.1
                 · rw [if_neg e]; exact zxs e (zxu (by omega) (zxu (by omega) rfl))
               · by_cases e : d = v5o.toNat
                 · rw [if_pos e, e]; exact zxe
                 · rw [if_neg e]; exact zxs e (zxu (by omega) (zxu (by omega) (zxu (by omega) rfl)))
               · refine zxu (by omega) (zxu (by omega) ?_)
                 by_cases e : m = n
                 · rw [if_pos e]; exact (zxe' (by omega)).trans (by omega)
                 · rw [if_neg e]; exact zxs (by omega) (zxu (by omega) rfl)
               · refine zxu (by omega) (zxu (by omega) (zxu (by omega) ?_))
                 by_cases e : z = 5 * n + bcn (bP s) n (bnp s)
                 · rw [if_pos e, show z = (5 * x + v136).toNat by omega]; exact zxe.trans (by omega)
                 · rw [if_neg e]; exact zxs (by omega) rfl)
        · refine And.intro (Or.inl rfl) ?_
          refine hQ _ _ ?_ ?_ (fun hv0 => by first | exact absurd hv0 (by decide) | exact zBB_fr hBB (fun c j h => zxcj (by omega) rfl) (fun c j h => rfl)) (fun c j h0 h1 h2 h3 h4 h5 h6 => (zxcj h0 rfl))
          · rw [← p5hv]
            first
            | exact Or.inl ⟨rfl, g5b.2 ⟨by omega, by omega, by omega, by omega⟩⟩
            | (refine Or.inr ⟨rfl, fun w => ?_⟩
               have w2 := g5b.1 w
               omega)
          · intro hv1 t o
            first
            | exact absurd hv1 (by decide)
            | (rw [← p5hv]
               refine zBB_pad p121hBB2 (gPd_of (f := bN s) hGd) hxn.2 gnn (by omega) (fun d => ?_) (fun d => ?_) (fun m => ?_) (fun z => ?_) (fun c j h => zxu (by omega) (zxu (by omega) (zxu (by omega) (zxu (by omega) rfl)))) (fun c j h => rfl)
               · refine zxu (by omega) ?_
                 by_cases e : d = v5o.toNat
                 · rw [if_pos e, e]; exact zxe.trans hxn.1
                 · rw [if_neg e]; exact zxs e (zxu (by omega) (zxu (by omega) rfl))
               · by_cases e : d = v5o.toNat
                 · rw [if_pos e, e]; exact zxe
                 · rw [if_neg e]; exact zxs e (zxu (by omega) (zxu (by omega) (zxu (by omega) rfl)))
               · refine zxu (by omega) (zxu (by omega) ?_)
                 by_cases e : m = n
                 · rw [if_pos e]; exact (zxe' (by omega)).trans (by omega)
                 · rw [if_neg e]; exact zxs (by omega) (zxu (by omega) rfl)
               · refine zxu (by omega) (zxu (by omega) (zxu (by omega) ?_))
                 by_cases e : z = 5 * n + bcn (bP s) n (bnp s)
                 · rw [if_pos e, show z = (5 * x + v136).toNat by omega]; exact zxe.trans (by omega)
                 · rw [if_neg e]; exact zxs (by omega) rfl)
      · refine And.intro (zDX hd 0 rfl) (zrdR (v := some (k + 3)) (zDR hd 2 rfl) ?_)
        refine And.intro (zDP hd 3 rfl rfl (by omega) (by omega)) (fun v102 e102 r102 => ?_)
        have f102 : v102 = bho s v5o.toNat := (e102.trans (zxu (by omega) (hcl v5o.toNat (by omega)).1))
        refine And.intro ⟨r102, (by omega)⟩ ⟨fun h104 => ?_, fun h104 => ?_⟩
        · refine And.intro (Or.inl rfl) ?_
          refine hQ _ _ ?_ ?_ (fun hv0 => by first | exact absurd hv0 (by decide) | exact zBB_fr hBB (fun c j h => zxcj (by omega) rfl) (fun c j h => rfl)) (fun c j h0 h1 h2 h3 h4 h5 h6 => (zxcj h0 rfl))
          · rw [← p5hv]
            first
            | exact Or.inl ⟨rfl, g5b.2 ⟨by omega, by omega, by omega, by omega⟩⟩
            | (refine Or.inr ⟨rfl, fun w => ?_⟩
               have w2 := g5b.1 w
               omega)
          · intro hv1 t o
            first
            | exact absurd hv1 (by decide)
            | (rw [← p5hv]
               refine zBB_pad p121hBB2 (gPd_of (f := bN s) hGd) hxn.2 gnn (by omega) (fun d => ?_) (fun d => ?_) (fun m => ?_) (fun z => ?_) (fun c j h => zxu (by omega) (zxu (by omega) (zxu (by omega) (zxu (by omega) rfl)))) (fun c j h => rfl)
               · refine zxu (by omega) ?_
                 by_cases e : d = v5o.toNat
                 · rw [if_pos e, e]; exact zxe.trans hxn.1
                 · rw [if_neg e]; exact zxs e (zxu (by omega) (zxu (by omega) rfl))
               · by_cases e : d = v5o.toNat
                 · rw [if_pos e, e]; exact zxe
                 · rw [if_neg e]; exact zxs e (zxu (by omega) (zxu (by omega) (zxu (by omega) rfl)))
               · refine zxu (by omega) (zxu (by omega) ?_)
                 by_cases e : m = n
                 · rw [if_pos e]; exact (zxe' (by omega)).trans (by omega)
                 · rw [if_neg e]; exact zxs (by omega) (zxu (by omega) rfl)
               · refine zxu (by omega) (zxu (by omega) (zxu (by omega) ?_))
                 by_cases e : z = 5 * n + bcn (bP s) n (bnp s)
                 · rw [if_pos e, show z = (5 * x + v136).toNat by omega]; exact zxe.trans (by omega)
                 · rw [if_neg e]; exact zxs (by omega) rfl)
        · refine And.intro (zDX hd 0 rfl) (zrdR (v := some (k + 1)) (zDR hd 0 rfl) ?_)
          refine And.intro (zDP hd 1 rfl rfl (by omega) (by omega)) (fun v112 e112 r112 => ?_)
          have f112 : v112 = bcn (bP s) n (bnp s) := (e112.trans (zxu (by omega) ((congrArg (I (k + 1)) (by omega)).trans (hpc n (by omega)).1)))
          refine And.intro ⟨r112, (zRb rfl)⟩ ⟨fun h114 => ?_, fun h114 => ?_⟩
          · refine And.intro (zDX hd 0 rfl) ⟨_, sn_G_let.up (by decide), ?_⟩
            refine ⟨k, (-1), s, n, (x : Int), rfl, hd, (by first | exact (zBB_fr hBB (fun c j h => (zxcj (by omega) rfl)) (fun c j h => rfl)) | (clear hQ; grind [xu])), (by clear hQ; grind [xu]), (by omega), ?_⟩
            intro I121o p121hBB2 p121bfr
            refine And.intro (zDX hd 0 rfl) (zrdR (v := some (k + 2)) (zDR hd 1 rfl) ?_)
            refine And.intro (zDX hd 0 rfl) (zrdR (v := some (k + 1)) (zDR hd 0 rfl) ?_)
            refine And.intro (zDP hd 1 rfl rfl (by omega) (by omega)) (fun v136 e136 r136 => ?_)
            have f136 : v136 = bcn (bP s) n (bnp s) := (e136.trans ((p121bfr (k + 1) _ (by omega) (by omega) (by omega)).trans (zxu (by omega) ((congrArg (I (k + 1)) (by omega)).trans (hpc n (by omega)).1))))
            refine And.intro ⟨(by show 40 ≤ _; omega), (zDP hd 2 rfl rfl (by omega) (by omega))⟩ ⟨_, (zWi (by omega)), ?_⟩
            refine And.intro (zDX hd 0 rfl) (zrdR (v := some (k + 1)) (zDR hd 0 rfl) ?_)
            refine And.intro (zDP hd 1 rfl rfl (by omega) (by omega)) (fun v147 e147 r147 => ?_)
            have f147 : v147 = bcn (bP s) n (bnp s) := (e147.trans (zxu (by omega) ((p121bfr (k + 1) _ (by omega) (by omega) (by omega)).trans (zxu (by omega) ((congrArg (I (k + 1)) (by omega)).trans (hpc n (by omega)).1)))))
            refine And.intro ⟨(by show 40 ≤ _; omega), (zDP hd 1 rfl rfl (by omega) (by omega))⟩ ⟨_, (zWi (by omega)), ?_⟩
            refine And.intro (zDX hd 0 rfl) (zrdR (v := some (k + 3)) (zDR hd 2 rfl) ?_)
            refine And.intro ⟨(by show 40 ≤ _; omega), (zDP hd 3 rfl rfl (by omega) (by omega))⟩ ⟨_, (zWi (by omega)), ?_⟩
            refine And.intro (zDX hd 0 rfl) (zrdR (v := some (k + 4)) (zDR hd 3 rfl) ?_)
            refine And.intro ⟨(by show 40 ≤ _; omega), Or.inr ⟨(zDP hd 4 rfl rfl (by omega) (by omega)), (Or.inr rfl)⟩⟩ ?_
            refine And.intro (Or.inr rfl) ?_
            refine hQ _ _ ?_ ?_ (fun hv0 => by first | exact absurd hv0 (by decide) | exact zBB_fr hBB (fun c j h => zxcj (by omega) rfl) (fun c j h => rfl)) (fun c j h0 h1 h2 h3 h4 h5 h6 => (zxu h4 (zxu h3 (zxu h1 (zxu h2 ((p121bfr c j (by omega) (by omega) (by omega)).trans (zxcj h0 rfl)))))))
            · rw [← p5hv]
              first
              | exact Or.inl ⟨rfl, g5b.2 ⟨by omega, by omega, by omega, by omega⟩⟩
              | (refine Or.inr ⟨rfl, fun w => ?_⟩
                 have w2 := g5b.1 w
                 omega)
            · intro hv1 t o
              first
              | exact absurd hv1 (by decide)
              | (rw [← p5hv]
                 refine zBB_pad p121hBB2 (gPd_of (f := bN s) hGd) hxn.2 gnn (by omega) (fun d => ?_) (fun d => ?_) (fun m => ?_) (fun z => ?_) (fun c j h => zxu (by omega) (zxu (by omega) (zxu (by omega) (zxu (by omega) rfl)))) (fun c j h => rfl)
                 · refine zxu (by omega) ?_
                   by_cases e : d = v5o.toNat
                   · rw [if_pos e, e]; exact zxe.trans hxn.1
                   · rw [if_neg e]; exact zxs e (zxu (by omega) (zxu (by omega) rfl))
                 · by_cases e : d = v5o.toNat
                   · rw [if_pos e, e]; exact zxe
                   · rw [if_neg e]; exact zxs e (zxu (by omega) (zxu (by omega) (zxu (by omega) rfl)))
                 · refine zxu (by omega) (zxu (by omega) ?_)
                   by_cases e : m = n
                   · rw [if_pos e]; exact (zxe' (by omega)).trans (by omega)
                   · rw [if_neg e]; exact zxs (by omega) (zxu (by omega) rfl)
                 · refine zxu (by omega) (zxu (by omega) (zxu (by omega) ?_))
                   by_cases e : z = 5 * n + bcn (bP s) n (bnp s)
                   · rw [if_pos e, show z = (5 * x + v136).toNat by omega]; exact zxe.trans (by omega)
                   · rw [if_neg e]; exact zxs (by omega) rfl)
          · refine And.intro (Or.inl rfl) ?_
            refine hQ _ _ ?_ ?_ (fun hv0 => by first | exact absurd hv0 (by decide) | exact zBB_fr hBB (fun c j h => zxcj (by omega) rfl) (fun c j h => rfl)) (fun c j h0 h1 h2 h3 h4 h5 h6 => (zxcj h0 rfl))
            · rw [← p5hv]
              first
              | exact Or.inl ⟨rfl, g5b.2 ⟨by omega, by omega, by omega, by omega⟩⟩
              | (refine Or.inr ⟨rfl, fun w => ?_⟩
                 have w2 := g5b.1 w
                 omega)
            · intro hv1 t o
              first
              | exact absurd hv1 (by decide)
              | (rw [← p5hv]
                 refine zBB_pad p121hBB2 (gPd_of (f := bN s) hGd) hxn.2 gnn (by omega) (fun d => ?_) (fun d => ?_) (fun m => ?_) (fun z => ?_) (fun c j h => zxu (by omega) (zxu (by omega) (zxu (by omega) (zxu (by omega) rfl)))) (fun c j h => rfl)
                 · refine zxu (by omega) ?_
                   by_cases e : d = v5o.toNat
                   · rw [if_pos e, e]; exact zxe.trans hxn.1
                   · rw [if_neg e]; exact zxs e (zxu (by omega) (zxu (by omega) rfl))
                 · by_cases e : d = v5o.toNat
                   · rw [if_pos e, e]; exact zxe
                   · rw [if_neg e]; exact zxs e (zxu (by omega) (zxu (by omega) (zxu (by omega) rfl)))
                 · refine zxu (by omega) (zxu (by omega) ?_)
                   by_cases e : m = n
                   · rw [if_pos e]; exact (zxe' (by omega)).trans (by omega)
                   · rw [if_neg e]; exact zxs (by omega) (zxu (by omega) rfl)
                 · refine zxu (by omega) (zxu (by omega) (zxu (by omega) ?_))
                   by_cases e : z = 5 * n + bcn (bP s) n (bnp s)
                   · rw [if_pos e, show z = (5 * x + v136).toNat by omega]; exact zxe.trans (by omega)
                   · rw [if_neg e]; exact zxs (by omega) rfl)
  · refine And.intro (zDX hd 0 rfl) (zrdR (v := some (k + 3)) (zDR hd 2 rfl) ?_)
    refine And.intro (zDP hd 3 rfl rfl (by omega) (by omega)) (fun v58 e58 r58 => ?_)
    have f58 : v58 = bho s v5o.toNat := (e58.trans (zxu (by omega) (hcl v5o.toNat (by omega)).1))
    refine And.intro ⟨r58, (by omega)⟩ ⟨fun h60 => ?_, fun h60 => ?_⟩
    · refine And.intro (zDX hd 0 rfl) (zrdR (v := some (k + 5)) (zDR hd 4 rfl) ?_)
      refine And.intro (Or.inr (zDP hd 5 rfl rfl (by omega) (by omega))) (fun v76 e76 r76 => ?_)
      have f76 : v76 = bba s v5o.toNat := (e76.trans (zxu (by omega) (hcl v5o.toNat (by omega)).2.2.1))
      refine And.intro r76 ⟨fun h77 => ?_, fun h77 => ?_⟩
      · refine And.intro (Or.inl rfl) ?_
        refine hQ _ _ ?_ ?_ (fun hv0 => by first | exact absurd hv0 (by decide) | exact zBB_fr hBB (fun c j h => zxcj (by omega) rfl) (fun c j h => rfl)) (fun c j h0 h1 h2 h3 h4 h5 h6 => (zxcj h0 rfl))
        · rw [← p5hv]
          first
          | exact Or.inl ⟨rfl, g5b.2 ⟨by omega, by omega, by omega, by omega⟩⟩
          | (refine Or.inr ⟨rfl, fun w => ?_⟩
             have w2 := g5b.1 w
             omega)
        · intro hv1 t o
          first
          | exact absurd hv1 (by decide)
          | (rw [← p5hv]
             refine zBB_pad p121hBB2 (gPd_of (f := bN s) hGd) hxn.2 gnn (by omega) (fun d => ?_) (fun d => ?_) (fun m => ?_) (fun z => ?_) (fun c j h => zxu (by omega) (zxu (by omega) (zxu (by omega) (zxu (by omega) rfl)))) (fun c j h => rfl)
             · refine zxu (by omega) ?_
               by_cases e : d = v5o.toNat
               · rw [if_pos e, e]; exact zxe.trans hxn.1
               · rw [if_neg e]; exact zxs e (zxu (by omega) (zxu (by omega) rfl))
             · by_cases e : d = v5o.toNat
               · rw [if_pos e, e]; exact zxe
               · rw [if_neg e]; exact zxs e (zxu (by omega) (zxu (by omega) (zxu (by omega) rfl)))
             · refine zxu (by omega) (zxu (by omega) ?_)
               by_cases e : m = n
               · rw [if_pos e]; exact (zxe' (by omega)).trans (by omega)
               · rw [if_neg e]; exact zxs (by omega) (zxu (by omega) rfl)
             · refine zxu (by omega) (zxu (by omega) (zxu (by omega) ?_))
               by_cases e : z = 5 * n + bcn (bP s) n (bnp s)
               · rw [if_pos e, show z = (5 * x + v136).toNat by omega]; exact zxe.trans (by omega)
               · rw [if_neg e]; exact zxs (by omega) rfl)
      · refine And.intro (zRb rfl) (zbf rfl ?_)
        refine And.intro (zDX hd 0 rfl) (zrdR (v := some (k + 3)) (zDR hd 2 rfl) ?_)
        refine And.intro (zDP hd 3 rfl rfl (by omega) (by omega)) (fun v91 e91 r91 => ?_)
        have f91 : v91 = bho s v5o.toNat := (e91.trans (zxu (by omega) (hcl v5o.toNat (by omega)).1))
        refine And.intro ⟨r91, (zRb rfl)⟩ ⟨fun h93 => ?_, fun h93 => ?_⟩
        · refine And.intro (zDX hd 0 rfl) (zrdR (v := some (k + 1)) (zDR hd 0 rfl) ?_)
          refine And.intro (zDP hd 1 rfl rfl (by omega) (by omega)) (fun v112 e112 r112 => ?_)
          have f112 : v112 = bcn (bP s) n (bnp s) := (e112.trans (zxu (by omega) ((congrArg (I (k + 1)) (by omega)).trans (hpc n (by omega)).1)))
          refine And.intro ⟨r112, (zRb rfl)⟩ ⟨fun h114 => ?_, fun h114 => ?_⟩
          · refine And.intro (zDX hd 0 rfl) ⟨_, sn_G_let.up (by decide), ?_⟩
            refine ⟨k, (-1), s, n, (x : Int), rfl, hd, (by first | exact (zBB_fr hBB (fun c j h => (zxcj (by omega) rfl)) (fun c j h => rfl)) | (clear hQ; grind [xu])), (by clear hQ; grind [xu]), (by omega), ?_⟩
            intro I121o p121hBB2 p121bfr
            refine And.intro (zDX hd 0 rfl) (zrdR (v := some (k + 2)) (zDR hd 1 rfl) ?_)
            refine And.intro (zDX hd 0 rfl) (zrdR (v := some (k + 1)) (zDR hd 0 rfl) ?_)
            refine And.intro (zDP hd 1 rfl rfl (by omega) (by omega)) (fun v136 e136 r136 => ?_)
            have f136 : v136 = bcn (bP s) n (bnp s) := (e136.trans ((p121bfr (k + 1) _ (by omega) (by omega) (by omega)).trans (zxu (by omega) ((congrArg (I (k + 1)) (by omega)).trans (hpc n (by omega)).1))))
            refine And.intro ⟨(by show 40 ≤ _; omega), (zDP hd 2 rfl rfl (by omega) (by omega))⟩ ⟨_, (zWi (by omega)), ?_⟩
            refine And.intro (zDX hd 0 rfl) (zrdR (v := some (k + 1)) (zDR hd 0 rfl) ?_)
            refine And.intro (zDP hd 1 rfl rfl (by omega) (by omega)) (fun v147 e147 r147 => ?_)
            have f147 : v147 = bcn (bP s) n (bnp s) := (e147.trans (zxu (by omega) ((p121bfr (k + 1) _ (by omega) (by omega) (by omega)).trans (zxu (by omega) ((congrArg (I (k + 1)) (by omega)).trans (hpc n (by omega)).1)))))
            refine And.intro ⟨(by show 40 ≤ _; omega), (zDP hd 1 rfl rfl (by omega) (by omega))⟩ ⟨_, (zWi (by omega)), ?_⟩
            refine And.intro (zDX hd 0 rfl) (zrdR (v := some (k + 3)) (zDR hd 2 rfl) ?_)
            refine And.intro ⟨(by show 40 ≤ _; omega), (zDP hd 3 rfl rfl (by omega) (by omega))⟩ ⟨_, (zWi (by omega)), ?_⟩
            refine And.intro (zDX hd 0 rfl) (zrdR (v := some (k + 4)) (zDR hd 3 rfl) ?_)
            refine And.intro ⟨(by show 40 ≤ _; omega), Or.inr ⟨(zDP hd 4 rfl rfl (by omega) (by omega)), (Or.inr rfl)⟩⟩ ?_
            refine And.intro (Or.inr rfl) ?_
            refine hQ _ _ ?_ ?_ (fun hv0 => by first | exact absurd hv0 (by decide) | exact zBB_fr hBB (fun c j h => zxcj (by omega) rfl) (fun c j h => rfl)) (fun c j h0 h1 h2 h3 h4 h5 h6 => (zxu h4 (zxu h3 (zxu h1 (zxu h2 ((p121bfr c j (by omega) (by omega) (by omega)).trans (zxcj h0 rfl)))))))
            · rw [← p5hv]
              first
              | exact Or.inl ⟨rfl, g5b.2 ⟨by omega, by omega, by omega, by omega⟩⟩
              | (refine Or.inr ⟨rfl, fun w => ?_⟩
                 have w2 := g5b.1 w
                 omega)
            · intro hv1 t o
              first
              | exact absurd hv1 (by decide)
              | (rw [← p5hv]
                 refine zBB_pad p121hBB2 (gPd_of (f := bN s) hGd) hxn.2 gnn (by omega) (fun d => ?_) (fun d => ?_) (fun m => ?_) (fun z => ?_) (fun c j h => zxu (by omega) (zxu (by omega) (zxu (by omega) (zxu (by omega) rfl)))) (fun c j h => rfl)
                 · refine zxu (by omega) ?_
                   by_cases e : d = v5o.toNat
                   · rw [if_pos e, e]; exact zxe.trans hxn.1
                   · rw [if_neg e]; exact zxs e (zxu (by omega) (zxu (by omega) rfl))
                 · by_cases e : d = v5o.toNat
                   · rw [if_pos e, e]; exact zxe
                   · rw [if_neg e]; exact zxs e (zxu (by omega) (zxu (by omega) (zxu (by omega) rfl)))
                 · refine zxu (by omega) (zxu (by omega) ?_)
                   by_cases e : m = n
                   · rw [if_pos e]; exact (zxe' (by omega)).trans (by omega)
                   · rw [if_neg e]; exact zxs (by omega) (zxu (by omega) rfl)
                 · refine zxu (by omega) (zxu (by omega) (zxu (by omega) ?_))
                   by_cases e : z = 5 * n + bcn (bP s) n (bnp s)
                   · rw [if_pos e, show z = (5 * x + v136).toNat by omega]; exact zxe.trans (by omega)
                   · rw [if_neg e]; exact zxs (by omega) rfl)
          · refine And.intro (Or.inl rfl) ?_
            refine hQ _ _ ?_ ?_ (fun hv0 => by first | exact absurd hv0 (by decide) | exact zBB_fr hBB (fun c j h => zxcj (by omega) rfl) (fun c j h => rfl)) (fun c j h0 h1 h2 h3 h4 h5 h6 => (zxcj h0 rfl))
            · rw [← p5hv]
              first
              | exact Or.inl ⟨rfl, g5b.2 ⟨by omega, by omega, by omega, by omega⟩⟩
              | (refine Or.inr ⟨rfl, fun w => ?_⟩
                 have w2 := g5b.1 w
                 omega)
            · intro hv1 t o
              first
              | exact absurd hv1 (by decide)
              | (rw [← p5hv]
                 refine zBB_pad p121hBB2 (gPd_of (f := bN s) hGd) hxn.2 gnn (by omega) (fun d => ?_) (fun d => ?_) (fun m => ?_) (fun z => ?_) (fun c j h => zxu (by omega) (zxu (by omega) (zxu (by omega) (zxu (by omega) rfl)))) (fun c j h => rfl)
                 · refine zxu (by omega) ?_
                   by_cases e : d = v5o.toNat
                   · rw [if_pos e, e]; exact zxe.trans hxn.1
                   · rw [if_neg e]; exact zxs e (zxu (by omega) (zxu (by omega) rfl))
                 · by_cases e : d = v5o.toNat
                   · rw [if_pos e, e]; exact zxe
                   · rw [if_neg e]; exact zxs e (zxu (by omega) (zxu (by omega) (zxu (by omega) rfl)))
                 · refine zxu (by omega) (zxu (by omega) ?_)
                   by_cases e : m = n
                   · rw [if_pos e]; exact (zxe' (by omega)).trans (by omega)
                   · rw [if_neg e]; exact zxs (by omega) (zxu (by omega) rfl)
                 · refine zxu (by omega) (zxu (by omega) (zxu (by omega) ?_))
                   by_cases e : z = 5 * n + bcn (bP s) n (bnp s)
                   · rw [if_pos e, show z = (5 * x + v136).toNat by omega]; exact zxe.trans (by omega)
                   · rw [if_neg e]; exact zxs (by omega) rfl)
        · refine And.intro (zDX hd 0 rfl) (zrdR (v := some (k + 3)) (zDR hd 2 rfl) ?_)
          refine And.intro (zDP hd 3 rfl rfl (by omega) (by omega)) (fun v102 e102 r102 => ?_)
          have f102 : v102 = bho s v5o.toNat := (e102.trans (zxu (by omega) (hcl v5o.toNat (by omega)).1))
          refine And.intro ⟨r102, (by omega)⟩ ⟨fun h104 => ?_, (fun h104 => False.elim (by omega))⟩
          refine And.intro (Or.inl rfl) ?_
          refine hQ _ _ ?_ ?_ (fun hv0 => by first | exact absurd hv0 (by decide) | exact zBB_fr hBB (fun c j h => zxcj (by omega) rfl) (fun c j h => rfl)) (fun c j h0 h1 h2 h3 h4 h5 h6 => (zxcj h0 rfl))
          · rw [← p5hv]
            first
            | exact Or.inl ⟨rfl, g5b.2 ⟨by omega, by omega, by omega, by omega⟩⟩
            | (refine Or.inr ⟨rfl, fun w => ?_⟩
               have w2 := g5b.1 w
               omega)
          · intro hv1 t o
            first
            | exact absurd hv1 (by decide)
            | (rw [← p5hv]
               refine zBB_pad p121hBB2 (gPd_of (f := bN s) hGd) hxn.2 gnn (by omega) (fun d => ?_) (fun d => ?_) (fun m => ?_) (fun z => ?_) (fun c j h => zxu (by omega) (zxu (by omega) (zxu (by omega) (zxu (by omega) rfl)))) (fun c j h => rfl)
               · refine zxu (by omega) ?_
                 by_cases e : d = v5o.toNat
                 · rw [if_pos e, e]; exact zxe.trans hxn.1
                 · rw [if_neg e]; exact zxs e (zxu (by omega) (zxu (by omega) rfl))
               · by_cases e : d = v5o.toNat
                 · rw [if_pos e, e]; exact zxe
                 · rw [if_neg e]; exact zxs e (zxu (by omega) (zxu (by omega) (zxu (by omega) rfl)))
               · refine zxu (by omega) (zxu (by omega) ?_)
                 by_cases e : m = n
                 · rw [if_pos e]; exact (zxe' (by omega)).trans (by omega)
                 · rw [if_neg e]; exact zxs (by omega) (zxu (by omega) rfl)
               · refine zxu (by omega) (zxu (by omega) (zxu (by omega) ?_))
                 by_cases e : z = 5 * n + bcn (bP s) n (bnp s)
                 · rw [if_pos e, show z = (5 * x + v136).toNat by omega]; exact zxe.trans (by omega)
                 · rw [if_neg e]; exact zxs (by omega) rfl)
    · refine And.intro (zDX hd 0 rfl) (zrdR (v := some (k + 5)) (zDR hd 4 rfl) ?_)
      refine And.intro (Or.inr (zDP hd 5 rfl rfl (by omega) (by omega))) (fun v76 e76 r76 => ?_)
      have f76 : v76 = bba s v5o.toNat := (e76.trans (zxu (by omega) (hcl v5o.toNat (by omega)).2.2.1))
      refine And.intro r76 ⟨fun h77 => ?_, fun h77 => ?_⟩
      · refine And.intro (Or.inl rfl) ?_
        refine hQ _ _ ?_ ?_ (fun hv0 => by first | exact absurd hv0 (by decide) | exact zBB_fr hBB (fun c j h => zxcj (by omega) rfl) (fun c j h => rfl)) (fun c j h0 h1 h2 h3 h4 h5 h6 => (zxcj h0 rfl))
        · rw [← p5hv]
          first
          | exact Or.inl ⟨rfl, g5b.2 ⟨by omega, by omega, by omega, by omega⟩⟩
          | (refine Or.inr ⟨rfl, fun w => ?_⟩
             have w2 := g5b.1 w
             omega)
        · intro hv1 t o
          first
          | exact absurd hv1 (by decide)
          | (rw [← p5hv]
             refine zBB_pad p121hBB2 (gPd_of (f := bN s) hGd) hxn.2 gnn (by omega) (fun d => ?_) (fun d => ?_) (fun m => ?_) (fun z => ?_) (fun c j h => zxu (by omega) (zxu (by omega) (zxu (by omega) (zxu (by omega) rfl)))) (fun c j h => rfl)
             · refine zxu (by omega) ?_
               by_cases e : d = v5o.toNat
               · rw [if_pos e, e]; exact zxe.trans hxn.1
               · rw [if_neg e]; exact zxs e (zxu (by omega) (zxu (by omega) rfl))
             · by_cases e : d = v5o.toNat
               · rw [if_pos e, e]; exact zxe
               · rw [if_neg e]; exact zxs e (zxu (by omega) (zxu (by omega) (zxu (by omega) rfl)))
             · refine zxu (by omega) (zxu (by omega) ?_)
               by_cases e : m = n
               · rw [if_pos e]; exact (zxe' (by omega)).trans (by omega)
               · rw [if_neg e]; exact zxs (by omega) (zxu (by omega) rfl)
             · refine zxu (by omega) (zxu (by omega) (zxu (by omega) ?_))
               by_cases e : z = 5 * n + bcn (bP s) n (bnp s)
               · rw [if_pos e, show z = (5 * x + v136).toNat by omega]; exact zxe.trans (by omega)
               · rw [if_neg e]; exact zxs (by omega) rfl)
      · refine And.intro (zRb rfl) (zbt rfl ?_)
        refine And.intro (Or.inl rfl) ?_
        refine hQ _ _ ?_ ?_ (fun hv0 => by first | exact absurd hv0 (by decide) | exact zBB_fr hBB (fun c j h => zxcj (by omega) rfl) (fun c j h => rfl)) (fun c j h0 h1 h2 h3 h4 h5 h6 => (zxcj h0 rfl))
        · rw [← p5hv]
          first
          | exact Or.inl ⟨rfl, g5b.2 ⟨by omega, by omega, by omega, by omega⟩⟩
          | (refine Or.inr ⟨rfl, fun w => ?_⟩
             have w2 := g5b.1 w
             omega)
        · intro hv1 t o
          first
          | exact absurd hv1 (by decide)
          | (rw [← p5hv]
             refine zBB_pad p121hBB2 (gPd_of (f := bN s) hGd) hxn.2 gnn (by omega) (fun d => ?_) (fun d => ?_) (fun m => ?_) (fun z => ?_) (fun c j h => zxu (by omega) (zxu (by omega) (zxu (by omega) (zxu (by omega) rfl)))) (fun c j h => rfl)
             · refine zxu (by omega) ?_
               by_cases e : d = v5o.toNat
               · rw [if_pos e, e]; exact zxe.trans hxn.1
               · rw [if_neg e]; exact zxs e (zxu (by omega) (zxu (by omega) rfl))
             · by_cases e : d = v5o.toNat
               · rw [if_pos e, e]; exact zxe
               · rw [if_neg e]; exact zxs e (zxu (by omega) (zxu (by omega) (zxu (by omega) rfl)))
             · refine zxu (by omega) (zxu (by omega) ?_)
               by_cases e : m = n
               · rw [if_pos e]; exact (zxe' (by omega)).trans (by omega)
               · rw [if_neg e]; exact zxs (by omega) (zxu (by omega) rfl)
             · refine zxu (by omega) (zxu (by omega) (zxu (by omega) ?_))
               by_cases e : z = 5 * n + bcn (bP s) n (bnp s)
               · rw [if_pos e, show z = (5 * x + v136).toNat by omega]; exact zxe.trans (by omega)
               · rw [if_neg e]; exact zxs (by omega) rfl))
