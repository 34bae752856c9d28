/-! bd7 -/
theorem zBA_addN {b : Nat} {s : BdS} {I I' L L' : ZI} {f : Nat → Nat → Int} (h : zBA b s I L) (hN : zRT 90 12 (bnn s + 1) f I') (h93 : I' 93 (bnn s) = 0) (hf : ∀ c j, 82 ≤ c ∧ c ≤ 97 ∧ c ≠ 90 ∧ c ≠ 91 ∧ ¬ (c = 93 ∧ j = bnn s) → I' c j = I c j) (hl : ∀ c j, c = 82 → L' c j = L c j) : zBA b (s.1, bsd s, bho s, bba s, bhi s, bpa s, bnp s, bP s, bnn s + 1, f, upF (bwl s) (bnn s) 0, bwy s, bco s, bnd s) I' L' := by
  obtain ⟨⟨q1, q2, q3, q4, q5⟩, h2, h3, h4, h5, h6, h7, h8⟩ := h
  refine ⟨⟨(hf 82 0 (by omega)).trans q1, (hf 82 1 (by omega)).trans q2, (hf 82 2 (by omega)).trans q3, (hf 82 3 (by omega)).trans q4, (hl 82 4 rfl).trans q5⟩, fun c x a b => (hf 83 _ (by omega)).trans (h2 c x a b), fun c hc => ⟨(hf 84 c (by omega)).trans (h3 c hc).1, (hf 85 c (by omega)).trans (h3 c hc).2.1, (hf 86 c (by omega)).trans (h3 c hc).2.2.1, (hf 87 c (by omega)).trans (h3 c hc).2.2.2⟩,
    zRT_fr h4 (fun c j q => hf c j (by omega)), hN, fun n hn => ?_, fun l hl => ⟨(hf 94 l (by omega)).trans (h7 l hl).1, (hf 95 l (by omega)).trans (h7 l hl).2.1, (hf 96 l (by omega)).trans (h7 l hl).2.2⟩, fun x hx => (hf 97 x (by omega)).trans (h8 x hx)⟩
  show I' 93 n = ((upF (bwl s) (bnn s) 0 n : Nat) : Int) ∧ ∀ k : Nat, k < upF (bwl s) (bnn s) 0 n → I' 92 (1024 * n + k) = bwy s n k
  by_cases e : n = bnn s
  · subst e
    rw [upF_at]
    exact ⟨h93, fun k hk => absurd hk (Nat.not_lt_zero k)⟩
  · rw [upF_ne e]
    have hn2 : n < bnn s + 1 := hn
    exact ⟨(hf 93 n (by omega)).trans (h6 n (by omega)).1, fun k hk => (hf 92 _ (by omega)).trans ((h6 n (by omega)).2 k hk)⟩
theorem bPut_2 {b : Nat} {s : BdS} {t o l i j : Int} (hb : b ≠ 0) (h : bSn s t o = -1 ∨ cxI (bW s) (bH s) (bD s) l i j = -1) : bPutV b s t o l i j = -2 ∧ bPutS b s t o l i j = s := ⟨(if_neg hb).trans (if_pos h), (if_neg hb).trans (if_pos h)⟩
theorem bPut_4 {b : Nat} {s : BdS} {t o l i j : Int} (hb : b ≠ 0) (h : ¬ (bSn s t o = -1 ∨ cxI (bW s) (bH s) (bD s) l i j = -1)) (hp : bHas s t o) : bPutV b s t o l i j = -4 ∧ bPutS b s t o l i j = s := ⟨(if_neg hb).trans ((if_neg h).trans (zite_t hp)), (if_neg hb).trans ((if_neg h).trans (zite_t hp))⟩
theorem bPut_1 {b : Nat} {s : BdS} {t o l i j : Int} (hb : b ≠ 0) (h : ¬ (bSn s t o = -1 ∨ cxI (bW s) (bH s) (bD s) l i j = -1)) (hp : ¬ bHas s t o) (hf : bnp s = 40 ∨ (bRt s (bSn s t o) = -1 ∧ bnn s = 12)) : bPutV b s t o l i j = -1 ∧ bPutS b s t o l i j = s := ⟨(if_neg hb).trans ((if_neg h).trans ((zite_f hp).trans (if_pos hf))), (if_neg hb).trans ((if_neg h).trans ((zite_f hp).trans (if_pos hf)))⟩
theorem bPut_f {b : Nat} {s : BdS} {t o l i j : Int} (hb : b ≠ 0) (h : ¬ (bSn s t o = -1 ∨ cxI (bW s) (bH s) (bD s) l i j = -1)) (hp : ¬ bHas s t o) (hf : ¬ (bnp s = 40 ∨ (bRt s (bSn s t o) = -1 ∧ bnn s = 12))) (hr : ¬ bFree (bRs s (bSn s t o)) (bRn s (bSn s t o)) (cxI (bW s) (bH s) (bD s) l i j).toNat) : bPutV b s t o l i j = -4 ∧ bPutS b s t o l i j = bRs s (bSn s t o) := ⟨(if_neg hb).trans ((if_neg h).trans ((zite_f hp).trans ((if_neg hf).trans (zite_f hr)))), (if_neg hb).trans ((if_neg h).trans ((zite_f hp).trans ((if_neg hf).trans (zite_f hr))))⟩
theorem bPut_k {b : Nat} {s : BdS} {t o l i j : Int} (hb : b ≠ 0) (h : ¬ (bSn s t o = -1 ∨ cxI (bW s) (bH s) (bD s) l i j = -1)) (hp : ¬ bHas s t o) (hf : ¬ (bnp s = 40 ∨ (bRt s (bSn s t o) = -1 ∧ bnn s = 12))) (hr : bFree (bRs s (bSn s t o)) (bRn s (bSn s t o)) (cxI (bW s) (bH s) (bD s) l i j).toNat) : bPutV b s t o l i j = bnp s ∧ bPutS b s t o l i j = bPad (bRs s (bSn s t o)) (bRn s (bSn s t o)) (cxI (bW s) (bH s) (bD s) l i j).toNat t o := ⟨(if_neg hb).trans ((if_neg h).trans ((zite_f hp).trans ((if_neg hf).trans (zite_t hr)))), (if_neg hb).trans ((if_neg h).trans ((zite_f hp).trans ((if_neg hf).trans (zite_t hr))))⟩
theorem bRs_o {s : BdS} {sn : Int} (h : bRt s sn ≠ -1) : bRs s sn = s ∧ bRn s sn = (bRt s sn).toNat := ⟨if_neg h, if_neg h⟩
theorem bRs_n {s : BdS} {sn : Int} (h : bRt s sn = -1) : bRs s sn = (s.1, bsd s, bho s, bba s, bhi s, bpa s, bnp s, bP s, bnn s + 1, upR (bN s) (bnn s) sn 0 0 0 0, upF (bwl s) (bnn s) 0, bwy s, bco s, bnd s) ∧ bRn s sn = bnn s := ⟨if_pos h, if_pos h⟩
def T_A_put0 : ZT := fun args I L R S Q => ∃ (t : Int) (o : Int) (l : Int) (i : Int) (j : Int), args = [zvr 82, zvi t, zvi o, zvi l, zvi i, zvi j] ∧ (zSh S) ∧ (zRs R) ∧ (I 82 0 = -1) ∧ Q (some (zvi (-3))) I L R S
theorem sn_A_put0 : ZSnd 3 0 0 T_A_put0 := ZSnd.of (zT0_0 2) (by
  rintro args I L R S Q hz ⟨t, o, l, i, j, rfl, hS, hR, hb0, hQ⟩
  refine And.intro rfl ?_
  refine And.intro (zA_82 hS) (zrd (v := (-1)) hb0 ?_)
  refine And.intro ⟨(zRb rfl), (zRb rfl)⟩ (zbf rfl ?_)
  refine hQ )
def T_A_put : ZT := fun args I L R S Q => ∃ (b : Nat) (s : BdS) (t : Int) (o : Int) (l : Int) (i : Int) (j : Int), args = [zvr 82, zvi t, zvi o, zvi l, zvi i, zvi j] ∧ (zSh S) ∧ (zRs R) ∧ (zBA b s I L) ∧ (bGd s) ∧ (1 ≤ b ∧ b ≤ 6) ∧ (r32 t ∧ r32 o ∧ r32 l ∧ r32 i ∧ r32 j) ∧ ∀ (v : Int) (I' : ZI), (v = bPutV b s t o l i j) → (zBA b (bPutS b s t o l i j) I' L) → (∀ c j : Nat, ¬ c = 86 → ¬ c = 87 → ¬ c = 89 → ¬ (c = 88 ∧ j = 2) → ¬ (c = 90 ∧ j = 2) → ¬ c = 91 → ¬ c = 93 → I' c j = I c j) → Q (some (zvi (v))) I' L R S
theorem sn_A_put : ZSnd 3 0 0 T_A_put := ZSnd.of (zT0_0 2) (by
  rintro args I L R S Q hz ⟨b, s, t, o, l, i, j, rfl, hS, hR, hBA, hGd, hb1, hr, hQ⟩
  obtain ⟨⟨hb0, hbw, hbh, hbd, hbs⟩, hnb, hcl, hPT, hNT, hwy, hco, hnd⟩ := id hBA
  obtain ⟨hP1, hP2, hP3, hP4⟩ := id hPT
  obtain ⟨hN1, hN2, hN3, hN4⟩ := id hNT
  obtain ⟨⟨⟨gW1, gW2⟩, ⟨gH1, gH2⟩, ⟨gD1, gD2⟩, gB9⟩, ⟨gnp, gnn⟩, gc, gp, gn, gco, gnd, gun⟩ := id hGd
  refine And.intro rfl ?_
  refine And.intro (zA_82 hS) (zrd (v := (b - 1)) hb0 ?_)
  refine And.intro ⟨(by omega), (zRb rfl)⟩ ⟨fun h5 => ?_, (fun h5 => False.elim (by omega))⟩
  refine And.intro (zA_82 hS) (Exists.intro _ (And.intro (zinl_ok (zT0_23 1)) (And.intro rfl ?_)))
  refine And.intro (by omega) ⟨fun h1_14 => ?_, fun h1_14 => ?_⟩
  · refine And.intro (zRb rfl) (zbt rfl ?_)
    refine And.intro (zA_82 hS) ⟨_, sn_A_cell.up (by decide), ?_⟩
    refine ⟨(bW s), (bH s), (bD s), (l : Int), (i : Int), (j : Int), rfl, hS, hR, hbw, hbh, hbd, (by omega), gB9, (by omega), ?_⟩
    intro v25o p25hv p25bhv2
    refine And.intro ⟨(zRb rfl), (zRb rfl)⟩ (zbt rfl ?_)
    refine hQ _ _ ?_ ?_ (fun c j h0 h1 h2 h3 h4 h5 h6 => rfl)
    · first
      | exact (bPut_2 (by omega) (Or.inl (if_neg (by omega)))).1.symm
      | exact (bPut_2 (by omega) (by omega)).1.symm
      | exact (bPut_4 (by omega) (by omega) (by rcases p48hv with w | w; exact w.2; exfalso; omega)).1.symm
      | exact (bPut_1 (by omega) (by omega) (fun h => by rcases p48hv with w | w; exfalso; omega; obtain ⟨p, a, b, c⟩ := h; exact w.2 p a ⟨b, c⟩) (by omega)).1.symm
      | exact g200.trans (bPut_k (by omega) (by omega) (fun h => by rcases p48hv with w | w; exfalso; omega; obtain ⟨p, a, b, c⟩ := h; exact w.2 p a ⟨b, c⟩) (by omega) (by
          first
          | (rw [t96.1, t96.2, ← p25hv]
             exact ⟨by omega, by omega, by omega, by omega⟩)
          | (rw [g109.1, g109.2, ← p25hv]
             rw [p109hv] at p173hv
             exact ⟨show bba s v25o.toNat = 0 by omega, show bpa s v25o.toNat = -1 by omega, show bho s v25o.toNat = -1 ∨ bho s v25o.toNat = bnn s by omega, (by have e9 := p173hv; have e8 : v173o < 5 := (by omega); rw [e9] at e8; exact e8)⟩))).1.symm
      | exact (bPut_f (by omega) (by omega) (fun h => by rcases p48hv with w | w; exfalso; omega; obtain ⟨p, a, b, c⟩ := h; exact w.2 p a ⟨b, c⟩) (by omega) (fun h => by
          first
          | (rw [t96.1, t96.2, ← p25hv] at h
             obtain ⟨h1, h2, h3, h4⟩ := h
             omega)
          | (rw [g109.1, g109.2, ← p25hv] at h
             obtain ⟨h1, h2, h3, h4⟩ := h
             have h1' : bba s v25o.toNat = 0 := h1
             have h2' : bpa s v25o.toNat = -1 := h2
             have h3' : bho s v25o.toNat = -1 ∨ bho s v25o.toNat = bnn s := h3
             first
             | omega
             | (rw [p109hv] at p173hv
                have h4' : v173o < 5 := by rw [p173hv]; exact h4
                omega)))).1.symm
    · first
      | (rw [(bPut_2 (by omega) (Or.inl (if_neg (by omega)))).2]
         exact hBA)
      | (rw [(bPut_2 (by omega) (by omega)).2]
         exact hBA)
      | (rw [(bPut_4 (by omega) (by omega) (by rcases p48hv with w | w; exact w.2; exfalso; omega)).2]
         exact hBA)
      | (rw [(bPut_1 (by omega) (by omega) (fun h => by rcases p48hv with w | w; exfalso; omega; obtain ⟨p, a, b, c⟩ := h; exact w.2 p a ⟨b, c⟩) (by omega)).2]
         exact hBA)
      | (have e25 : v25o = (((cxI (bW s) (bH s) (bD s) l i j).toNat : Nat) : Int) := by omega
         rw [(bPut_k (by omega) (by omega) (fun h => by rcases p48hv with w | w; exfalso; omega; obtain ⟨p, a, b, c⟩ := h; exact w.2 p a ⟨b, c⟩) (by omega) (by
          first
          | (rw [t96.1, t96.2, ← p25hv]
             exact ⟨by omega, by omega, by omega, by omega⟩)
          | (rw [g109.1, g109.2, ← p25hv]
             rw [p109hv] at p173hv
             exact ⟨show bba s v25o.toNat = 0 by omega, show bpa s v25o.toNat = -1 by omega, show bho s v25o.toNat = -1 ∨ bho s v25o.toNat = bnn s by omega, (by have e9 := p173hv; have e8 : v173o < 5 := (by omega); rw [e9] at e8; exact e8)⟩))).2]
         have z1 := zBA_P p186hBA2 p200bhT2 (fun c j q => p200bbfr c j (by omega) (by omega)) (fun c j _ => rfl)
         have z2 := zBA_N z1 p224hT2 (fun c j q => p224bfr c j (by omega)) (fun c j _ => rfl)
         obtain ⟨a1, a2, a3, a4, a5, a6, a7, a8⟩ := z2
         have e19 : v219o = bN (bRs s (bSn s t o)) (bRn s (bSn s t o)) 1 := p219hv.trans (up2z_ne (by omega))
         rw [e19] at a5
         have a4' : zRT 88 40 (bnp (bRs s (bSn s t o)) + 1) (upR (bP (bRs s (bSn s t o))) (bnp (bRs s (bSn s t o))) t o ((((cxI (bW s) (bH s) (bD s) l i j).toNat : Nat)) : Int) ((bRn s (bSn s t o) : Nat) : Int) 0) I224o := by
           first
           | (have e60 : v60o = ((bRn s (bSn s t o) : Nat) : Int) := by omega
              rw [← e25, ← e60]
              exact a4)
           | (have e60 : v109o = ((bRn s (bSn s t o) : Nat) : Int) := by omega
              rw [← e25, ← e60]
              exact a4)
         refine ⟨a1, a2, fun x hx => ⟨(a3 x hx).1, (a3 x hx).2.1, ?_, ?_⟩, a4', a5, a6, a7, a8⟩
         · show _ = if x = (cxI (bW s) (bH s) (bD s) l i j).toNat then ((bRn s (bSn s t o) : Nat) : Int) else bho (bLet (bRs s (bSn s t o)) (bRn s (bSn s t o))) x
           by_cases e : x = (cxI (bW s) (bH s) (bD s) l i j).toNat
           · rw [if_pos e, show x = v25o.toNat by omega]
             exact zxe.trans (by omega)
           · rw [if_neg e]
             exact zxs (by omega) (a3 x hx).2.2.1
         · show _ = upF (bpa (bRs s (bSn s t o))) (cxI (bW s) (bH s) (bD s) l i j).toNat (bnp (bRs s (bSn s t o)) : Int) x
           by_cases e : x = (cxI (bW s) (bH s) (bD s) l i j).toNat
           · rw [e, upF_at, show (cxI (bW s) (bH s) (bD s) l i j).toNat = v25o.toNat by omega]
             exact zxu (by decide) (zxe.trans p200hv)
           · rw [upF_ne e]
             exact zxu (by decide) (zxs (by omega) (a3 x hx).2.2.2))
      | (rw [(bPut_f (by omega) (by omega) (fun h => by rcases p48hv with w | w; exfalso; omega; obtain ⟨p, a, b, c⟩ := h; exact w.2 p a ⟨b, c⟩) (by omega) (fun h => by
          first
          | (rw [t96.1, t96.2, ← p25hv] at h
             obtain ⟨h1, h2, h3, h4⟩ := h
             omega)
          | (rw [g109.1, g109.2, ← p25hv] at h
             obtain ⟨h1, h2, h3, h4⟩ := h
             have h1' : bba s v25o.toNat = 0 := h1
             have h2' : bpa s v25o.toNat = -1 := h2
             have h3' : bho s v25o.toNat = -1 ∨ bho s v25o.toNat = bnn s := h3
             first
             | omega
             | (rw [p109hv] at p173hv
                have h4' : v173o < 5 := by rw [p173hv]; exact h4
                omega)))).2]
         first
         | (rw [t96.1]
            exact hBA)
         | (rw [g109.1]
            exact zBA_addN hBA (zRT_fr p109bhT2 (fun c j q => zxcj (by omega) rfl)) (by rw [show bnn s = v109o.toNat by omega]; exact zxe) (fun c j q => zxcj (by omega) (p109bbfr c j (by omega) (by omega))) (fun c j _ => rfl)))
  · refine And.intro ⟨(by omega), (zRb rfl)⟩ ⟨fun h7_14 => ?_, fun h7_14 => ?_⟩
    · refine And.intro (zRb rfl) (zbt rfl ?_)
      refine And.intro (zA_82 hS) ⟨_, sn_A_cell.up (by decide), ?_⟩
      refine ⟨(bW s), (bH s), (bD s), (l : Int), (i : Int), (j : Int), rfl, hS, hR, hbw, hbh, hbd, (by omega), gB9, (by omega), ?_⟩
      intro v25o p25hv p25bhv2
      refine And.intro ⟨(zRb rfl), (zRb rfl)⟩ (zbt rfl ?_)
      refine hQ _ _ ?_ ?_ (fun c j h0 h1 h2 h3 h4 h5 h6 => rfl)
      · first
        | exact (bPut_2 (by omega) (Or.inl (if_neg (by omega)))).1.symm
        | exact (bPut_2 (by omega) (by omega)).1.symm
        | exact (bPut_4 (by omega) (by omega) (by rcases p48hv with w | w; exact w.2; exfalso; omega)).1.symm
        | exact (bPut_1 (by omega) (by omega) (fun h => by rcases p48hv with w | w; exfalso; omega; obtain ⟨p, a, b, c⟩ := h; exact w.2 p a ⟨b, c⟩) (by omega)).1.symm
        | exact g200.trans (bPut_k (by omega) (by omega) (fun h => by rcases p48hv with w | w; exfalso; omega; obtain ⟨p, a, b, c⟩ := h; exact w.2 p a ⟨b, c⟩) (by omega) (by
            first
            | (rw [t96.1, t96.2, ← p25hv]
               exact ⟨by omega, by omega, by omega, by omega⟩)
            | (rw [g109.1, g109.2, ← p25hv]
               rw [p109hv] at p173hv
               exact ⟨show bba s v25o.toNat = 0 by omega, show bpa s v25o.toNat = -1 by omega, show bho s v25o.toNat = -1 ∨ bho s v25o.toNat = bnn s by omega, (by have e9 := p173hv; have e8 : v173o < 5 := (by omega); rw [e9] at e8; exact e8)⟩))).1.symm
        | exact (bPut_f (by omega) (by omega) (fun h => by rcases p48hv with w | w; exfalso; omega; obtain ⟨p, a, b, c⟩ := h; exact w.2 p a ⟨b, c⟩) (by omega) (fun h => by
            first
            | (rw [t96.1, t96.2, ← p25hv] at h
               obtain ⟨h1, h2, h3, h4⟩ := h
               omega)
            | (rw [g109.1, g109.2, ← p25hv] at h
               obtain ⟨h1, h2, h3, h4⟩ := h
               have h1' : bba s v25o.toNat = 0 := h1
               have h2' : bpa s v25o.toNat = -1 := h2
               have h3' : bho s v25o.toNat = -1 ∨ bho s v25o.toNat = bnn s := h3
               first
               | omega
               | (rw [p109hv] at p173hv
                  have h4' : v173o < 5 := by rw [p173hv]; exact h4
                  omega)))).1.symm
      · first
        | (rw [(bPut_2 (by omega) (Or.inl (if_neg (by omega)))).2]
           exact hBA)
        | (rw [(bPut_2 (by omega) (by omega)).2]
           exact hBA)
        | (rw [(bPut_4 (by omega) (by omega) (by rcases p48hv with w | w; exact w.2; exfalso; omega)).2]
           exact hBA)
        | (rw [(bPut_1 (by omega) (by omega) (fun h => by rcases p48hv with w | w; exfalso; omega; obtain ⟨p, a, b, c⟩ := h; exact w.2 p a ⟨b, c⟩) (by omega)).2]
           exact hBA)
        | (have e25 : v25o = (((cxI (bW s) (bH s) (bD s) l i j).toNat : Nat) : Int) := by omega
           rw [(bPut_k (by omega) (by omega) (fun h => by rcases p48hv with w | w; exfalso; omega; obtain ⟨p, a, b, c⟩ := h; exact w.2 p a ⟨b, c⟩) (by omega) (by
            first
            | (rw [t96.1, t96.2, ← p25hv]
               exact ⟨by omega, by omega, by omega, by omega⟩)
            | (rw [g109.1, g109.2, ← p25hv]
               rw [p109hv] at p173hv
               exact ⟨show bba s v25o.toNat = 0 by omega, show bpa s v25o.toNat = -1 by omega, show bho s v25o.toNat = -1 ∨ bho s v25o.toNat = bnn s by omega, (by have e9 := p173hv; have e8 : v173o < 5 := (by omega); rw [e9] at e8; exact e8)⟩))).2]
           have z1 := zBA_P p186hBA2 p200bhT2 (fun c j q => p200bbfr c j (by omega) (by omega)) (fun c j _ => rfl)
           have z2 := zBA_N z1 p224hT2 (fun c j q => p224bfr c j (by omega)) (fun c j _ => rfl)
           obtain ⟨a1, a2, a3, a4, a5, a6, a7, a8⟩ := z2
           have e19 : v219o = bN (bRs s (bSn s t o)) (bRn s (bSn s t o)) 1 := p219hv.trans (up2z_ne (by omega))
           rw [e19] at a5
           have a4' : zRT 88 40 (bnp (bRs s (bSn s t o)) + 1) (upR (bP (bRs s (bSn s t o))) (bnp (bRs s (bSn s t o))) t o ((((cxI (bW s) (bH s) (bD s) l i j).toNat : Nat)) : Int) ((bRn s (bSn s t o) : Nat) : Int) 0) I224o := by
             first
             | (have e60 : v60o = ((bRn s (bSn s t o) : Nat) : Int) := by omega
                rw [← e25, ← e60]
                exact a4)
             | (have e60 : v109o = ((bRn s (bSn s t o) : Nat) : Int) := by omega
                rw [← e25, ← e60]
                exact a4)
           refine ⟨a1, a2, fun x hx => ⟨(a3 x hx).1, (a3 x hx).2.1, ?_, ?_⟩, a4', a5, a6, a7, a8⟩
           · show _ = if x = (cxI (bW s) (bH s) (bD s) l i j).toNat then ((bRn s (bSn s t o) : Nat) : Int) else bho (bLet (bRs s (bSn s t o)) (bRn s (bSn s t o))) x
             by_cases e : x = (cxI (bW s) (bH s) (bD s) l i j).toNat
             · rw [if_pos e, show x = v25o.toNat by omega]
               exact zxe.trans (by omega)
             · rw [if_neg e]
               exact zxs (by omega) (a3 x hx).2.2.1
           · show _ = upF (bpa (bRs s (bSn s t o))) (cxI (bW s) (bH s) (bD s) l i j).toNat (bnp (bRs s (bSn s t o)) : Int) x
             by_cases e : x = (cxI (bW s) (bH s) (bD s) l i j).toNat
             · rw [e, upF_at, show (cxI (bW s) (bH s) (bD s) l i j).toNat = v25o.toNat by omega]
               exact zxu (by decide) (zxe.trans p200hv)
             · rw [upF_ne e]
               exact zxu (by decide) (zxs (by omega) (a3 x hx).2.2.2))
        | (rw [(bPut_f (by omega) (by omega) (fun h => by rcases p48hv with w | w; exfalso; omega; obtain ⟨p, a, b, c⟩ := h; exact w.2 p a ⟨b, c⟩) (by omega) (fun h => by
            first
            | (rw [t96.1, t96.2, ← p25hv] at h
               obtain ⟨h1, h2, h3, h4⟩ := h
               omega)
            | (rw [g109.1, g109.2, ← p25hv] at h
               obtain ⟨h1, h2, h3, h4⟩ := h
               have h1' : bba s v25o.toNat = 0 := h1
               have h2' : bpa s v25o.toNat = -1 := h2
               have h3' : bho s v25o.toNat = -1 ∨ bho s v25o.toNat = bnn s := h3
               first
               | omega
               | (rw [p109hv] at p173hv
                  have h4' : v173o < 5 := by rw [p173hv]; exact h4
                  omega)))).2]
           first
           | (rw [t96.1]
              exact hBA)
           | (rw [g109.1]
              exact zBA_addN hBA (zRT_fr p109bhT2 (fun c j q => zxcj (by omega) rfl)) (by rw [show bnn s = v109o.toNat by omega]; exact zxe) (fun c j q => zxcj (by omega) (p109bbfr c j (by omega) (by omega))) (fun c j _ => rfl)))
    · refine And.intro (by omega) ⟨fun h11_14 => ?_, fun h11_14 => ?_⟩
      · refine And.intro (zRb rfl) (zbt rfl ?_)
        refine And.intro (zA_82 hS) ⟨_, sn_A_cell.up (by decide), ?_⟩
        refine ⟨(bW s), (bH s), (bD s), (l : Int), (i : Int), (j : Int), rfl, hS, hR, hbw, hbh, hbd, (by omega), gB9, (by omega), ?_⟩
        intro v25o p25hv p25bhv2
        refine And.intro ⟨(zRb rfl), (zRb rfl)⟩ (zbt rfl ?_)
        refine hQ _ _ ?_ ?_ (fun c j h0 h1 h2 h3 h4 h5 h6 => rfl)
        · first
          | exact (bPut_2 (by omega) (Or.inl (if_neg (by omega)))).1.symm
          | exact (bPut_2 (by omega) (by omega)).1.symm
          | exact (bPut_4 (by omega) (by omega) (by rcases p48hv with w | w; exact w.2; exfalso; omega)).1.symm
          | exact (bPut_1 (by omega) (by omega) (fun h => by rcases p48hv with w | w; exfalso; omega; obtain ⟨p, a, b, c⟩ := h; exact w.2 p a ⟨b, c⟩) (by omega)).1.symm
          | exact g200.trans (bPut_k (by omega) (by omega) (fun h => by rcases p48hv with w | w; exfalso; omega; obtain ⟨p, a, b, c⟩ := h; exact w.2 p a ⟨b, c⟩) (by omega) (by
              first
              | (rw [t96.1, t96.2, ← p25hv]
                 exact ⟨by omega, by omega, by omega, by omega⟩)
              | (rw [g109.1, g109.2, ← p25hv]
                 rw [p109hv] at p173hv
                 exact ⟨show bba s v25o.toNat = 0 by omega, show bpa s v25o.toNat = -1 by omega, show bho s v25o.toNat = -1 ∨ bho s v25o.toNat = bnn s by omega, (by have e9 := p173hv; have e8 : v173o < 5 := (by omega); rw [e9] at e8; exact e8)⟩))).1.symm
          | exact (bPut_f (by omega) (by omega) (fun h => by rcases p48hv with w | w; exfalso; omega; obtain ⟨p, a, b, c⟩ := h; exact w.2 p a ⟨b, c⟩) (by omega) (fun h => by
              first
              | (rw [t96.1, t96.2, ← p25hv] at h
                 obtain ⟨h1, h2, h3, h4⟩ := h
                 omega)
              | (rw [g109.1, g109.2, ← p25hv] at h
                 obtain ⟨h1, h2, h3, h4⟩ := h
                 have h1' : bba s v25o.toNat = 0 := h1
                 have h2' : bpa s v25o.toNat = -1 := h2
                 have h3' : bho s v25o.toNat = -1 ∨ bho s v25o.toNat = bnn s := h3
                 first
                 | omega
                 | (rw [p109hv] at p173hv
                    have h4' : v173o < 5 := by rw [p173hv]; exact h4
                    omega)))).1.symm
        · first
          | (rw [(bPut_2 (by omega) (Or.inl (if_neg (by omega)))).2]
             exact hBA)
          | (rw [(bPut_2 (by omega) (by omega)).2]
             exact hBA)
          | (rw [(bPut_4 (by omega) (by omega) (by rcases p48hv with w | w; exact w.2; exfalso; omega)).2]
             exact hBA)
          | (rw [(bPut_1 (by omega) (by omega) (fun h => by rcases p48hv with w | w; exfalso; omega; obtain ⟨p, a, b, c⟩ := h; exact w.2 p a ⟨b, c⟩) (by omega)).2]
             exact hBA)
          | (have e25 : v25o = (((cxI (bW s) (bH s) (bD s) l i j).toNat : Nat) : Int) := by omega
             rw [(bPut_k (by omega) (by omega) (fun h => by rcases p48hv with w | w; exfalso; omega; obtain ⟨p, a, b, c⟩ := h; exact w.2 p a ⟨b, c⟩) (by omega) (by
              first
              | (rw [t96.1, t96.2, ← p25hv]
                 exact ⟨by omega, by omega, by omega, by omega⟩)
              | (rw [g109.1, g109.2, ← p25hv]
                 rw [p109hv] at p173hv
                 exact ⟨show bba s v25o.toNat = 0 by omega, show bpa s v25o.toNat = -1 by omega, show bho s v25o.toNat = -1 ∨ bho s v25o.toNat = bnn s by omega, (by have e9 := p173hv; have e8 : v173o < 5 := (by omega); rw [e9] at e8; exact e8)⟩))).2]
             have z1 := zBA_P p186hBA2 p200bhT2 (fun c j q => p200bbfr c j (by omega) (by omega)) (fun c j _ => rfl)
             have z2 := zBA_N z1 p224hT2 (fun c j q => p224bfr c j (by omega)) (fun c j _ => rfl)
             obtain ⟨a1, a2, a3, a4, a5, a6, a7, a8⟩ := z2
             have e19 : v219o = bN (bRs s (bSn s t o)) (bRn s (bSn s t o)) 1 := p219hv.trans (up2z_ne (by omega))
             rw [e19] at a5
             have a4' : zRT 88 40 (bnp (bRs s (bSn s t o)) + 1) (upR (bP (bRs s (bSn s t o))) (bnp (bRs s (bSn s t o))) t o ((((cxI (bW s) (bH s) (bD s) l i j).toNat : Nat)) : Int) ((bRn s (bSn s t o) : Nat) : Int) 0) I224o := by
               first
               | (have e60 : v60o = ((bRn s (bSn s t o) : Nat) : Int) := by omega
                  rw [← e25, ← e60]
                  exact a4)
               | (have e60 : v109o = ((bRn s (bSn s t o) : Nat) : Int) := by omega
                  rw [← e25, ← e60]
                  exact a4)
             refine ⟨a1, a2, fun x hx => ⟨(a3 x hx).1, (a3 x hx).2.1, ?_, ?_⟩, a4', a5, a6, a7, a8⟩
             · show _ = if x = (cxI (bW s) (bH s) (bD s) l i j).toNat then ((bRn s (bSn s t o) : Nat) : Int) else bho (bLet (bRs s (bSn s t o)) (bRn s (bSn s t o))) x
               by_cases e : x = (cxI (bW s) (bH s) (bD s) l i j).toNat
               · rw [if_pos e, show x = v25o.toNat by omega]
                 exact zxe.trans (by omega)
               · rw [if_neg e]
                 exact zxs (by omega) (a3 x hx).2.2.1
             · show _ = upF (bpa (bRs s (bSn s t o))) (cxI (bW s) (bH s) (bD s) l i j).toNat (bnp (bRs s (bSn s t o)) : Int) x
               by_cases e : x = (cxI (bW s) (bH s) (bD s) l i j).toNat
               · rw [e, upF_at, show (cxI (bW s) (bH s) (bD s) l i j).toNat = v25o.toNat by omega]
                 exact zxu (by decide) (zxe.trans p200hv)
               · rw [upF_ne e]
                 exact zxu (by decide) (zxs (by omega) (a3 x hx).2.2.2))
          | (rw [(bPut_f (by omega) (by omega) (fun h => by rcases p48hv with w | w; exfalso; omega; obtain ⟨p, a, b, c⟩ := h; exact w.2 p a ⟨b, c⟩) (by omega) (fun h => by
              first
              | (rw [t96.1, t96.2, ← p25hv] at h
                 obtain ⟨h1, h2, h3, h4⟩ := h
                 omega)
              | (rw [g109.1, g109.2, ← p25hv] at h
                 obtain ⟨h1, h2, h3, h4⟩ := h
                 have h1' : bba s v25o.toNat = 0 := h1
                 have h2' : bpa s v25o.toNat = -1 := h2
                 have h3' : bho s v25o.toNat = -1 ∨ bho s v25o.toNat = bnn s := h3
                 first
                 | omega
                 | (rw [p109hv] at p173hv
                    have h4' : v173o < 5 := by rw [p173hv]; exact h4
                    omega)))).2]
             first
             | (rw [t96.1]
                exact hBA)
             | (rw [g109.1]
                exact zBA_addN hBA (zRT_fr p109bhT2 (fun c j q => zxcj (by omega) rfl)) (by rw [show bnn s = v109o.toNat by omega]; exact zxe) (fun c j q => zxcj (by omega) (p109bbfr c j (by omega) (by omega))) (fun c j _ => rfl)))
      · refine And.intro ⟨(by omega), (zRb rfl)⟩ ⟨fun h17_14 => ?_, fun h17_14 => ?_⟩
        · refine And.intro (zRb rfl) (zbt rfl ?_)
          refine And.intro (zA_82 hS) ⟨_, sn_A_cell.up (by decide), ?_⟩
          refine ⟨(bW s), (bH s), (bD s), (l : Int), (i : Int), (j : Int), rfl, hS, hR, hbw, hbh, hbd, (by omega), gB9, (by omega), ?_⟩
          intro v25o p25hv p25bhv2
          refine And.intro ⟨(zRb rfl), (zRb rfl)⟩ (zbt rfl ?_)
          refine hQ _ _ ?_ ?_ (fun c j h0 h1 h2 h3 h4 h5 h6 => rfl)
          · first
            | exact (bPut_2 (by omega) (Or.inl (if_neg (by omega)))).1.symm
            | exact (bPut_2 (by omega) (by omega)).1.symm
            | exact (bPut_4 (by omega) (by omega) (by rcases p48hv with w | w; exact w.2; exfalso; omega)).1.symm
            | exact (bPut_1 (by omega) (by omega) (fun h => by rcases p48hv with w | w; exfalso; omega; obtain ⟨p, a, b, c⟩ := h; exact w.2 p a ⟨b, c⟩) (by omega)).1.symm
            | exact g200.trans (bPut_k (by omega) (by omega) (fun h => by rcases p48hv with w | w; exfalso; omega; obtain ⟨p, a, b, c⟩ := h; exact w.2 p a ⟨b, c⟩) (by omega) (by
                first
                | (rw [t96.1, t96.2, ← p25hv]
                   exact ⟨by omega, by omega, by omega, by omega⟩)
                | (rw [g109.1, g109.2, ← p25hv]
                   rw [p109hv] at p173hv
                   exact ⟨show bba s v25o.toNat = 0 by omega, show bpa s v25o.toNat = -1 by omega, show bho s v25o.toNat = -1 ∨ bho s v25o.toNat = bnn s by omega, (by have e9 := p173hv; have e8 : v173o < 5 := (by omega); rw [e9] at e8; exact e8)⟩))).1.symm
            | exact (bPut_f (by omega) (by omega) (fun h => by rcases p48hv with w | w; exfalso; omega; obtain ⟨p, a, b, c⟩ := h; exact w.2 p a ⟨b, c⟩) (by omega) (fun h => by
                first
                | (rw [t96.1, t96.2, ← p25hv] at h
                   obtain ⟨h1, h2, h3, h4⟩ := h
                   omega)
                | (rw [g109.1, g109.2, ← p25hv] at h
                   obtain ⟨h1, h2, h3, h4⟩ := h
                   have h1' : bba s v25o.toNat = 0 := h1
                   have h2' : bpa s v25o.toNat = -1 := h2
                   have h3' : bho s v25o.toNat = -1 ∨ bho s v25o.toNat = bnn s := h3
                   first
                   | omega
                   | (rw [p109hv] at p173hv
                      have h4' : v173o < 5 := by rw [p173hv]; exact h4
                      omega)))).1.symm
          · first
            | (rw [(bPut_2 (by omega) (Or.inl (if_neg (by omega)))).2]
               exact hBA)
            | (rw [(bPut_2 (by omega) (by omega)).2]
               exact hBA)
            | (rw [(bPut_4 (by omega) (by omega) (by rcases p48hv with w | w; exact w.2; exfalso; omega)).2]
               exact hBA)
            | (rw [(bPut_1 (by omega) (by omega) (fun h => by rcases p48hv with w | w; exfalso; omega; obtain ⟨p, a, b, c⟩ := h; exact w.2 p a ⟨b, c⟩) (by omega)).2]
               exact hBA)
            | (have e25 : v25o = (((cxI (bW s) (bH s) (bD s) l i j).toNat : Nat) : Int) := by omega
               rw [(bPut_k (by omega) (by omega) (fun h => by rcases p48hv with w | w; exfalso; omega; obtain ⟨p, a, b, c⟩ := h; exact w.2 p a ⟨b, c⟩) (by omega) (by
                first
                | (rw [t96.1, t96.2, ← p25hv]
                   exact ⟨by omega, by omega, by omega, by omega⟩)
                | (rw [g109.1, g109.2, ← p25hv]
                   rw [p109hv] at p173hv
                   exact ⟨show bba s v25o.toNat = 0 by omega, show bpa s v25o.toNat = -1 by omega, show bho s v25o.toNat = -1 ∨ bho s v25o.toNat = bnn s by omega, (by have e9 := p173hv; have e8 : v173o < 5 := (by omega); rw [e9] at e8; exact e8)⟩))).2]
               have z1 := zBA_P p186hBA2 p200bhT2 (fun c j q => p200bbfr c j (by omega) (by omega)) (fun c j _ => rfl)
               have z2 := zBA_N z1 p224hT2 (fun c j q => p224bfr c j (by omega)) (fun c j _ => rfl)
               obtain ⟨a1, a2, a3, a4, a5, a6, a7, a8⟩ := z2
               have e19 : v219o = bN (bRs s (bSn s t o)) (bRn s (bSn s t o)) 1 := p219hv.trans (up2z_ne (by omega))
               rw [e19] at a5
               have a4' : zRT 88 40 (bnp (bRs s (bSn s t o)) + 1) (upR (bP (bRs s (bSn s t o))) (bnp (bRs s (bSn s t o))) t o ((((cxI (bW s) (bH s) (bD s) l i j).toNat : Nat)) : Int) ((bRn s (bSn s t o) : Nat) : Int) 0) I224o := by
                 first
                 | (have e60 : v60o = ((bRn s (bSn s t o) : Nat) : Int) := by omega
                    rw [← e25, ← e60]
                    exact a4)
                 | (have e60 : v109o = ((bRn s (bSn s t o) : Nat) : Int) := by omega
                    rw [← e25, ← e60]
                    exact a4)
               refine ⟨a1, a2, fun x hx => ⟨(a3 x hx).1, (a3 x hx).2.1, ?_, ?_⟩, a4', a5, a6, a7, a8⟩
               · show _ = if x = (cxI (bW s) (bH s) (bD s) l i j).toNat then ((bRn s (bSn s t o) : Nat) : Int) else bho (bLet (bRs s (bSn s t o)) (bRn s (bSn s t o))) x
                 by_cases e : x = (cxI (bW s) (bH s) (bD s) l i j).toNat
                 · rw [if_pos e, show x = v25o.toNat by omega]
                   exact zxe.trans (by omega)
                 · rw [if_neg e]
                   exact zxs (by omega) (a3 x hx).2.2.1
               · show _ = upF (bpa (bRs s (bSn s t o))) (cxI (bW s) (bH s) (bD s) l i j).toNat (bnp (bRs s (bSn s t o)) : Int) x
                 by_cases e : x = (cxI (bW s) (bH s) (bD s) l i j).toNat
                 · rw [e, upF_at, show (cxI (bW s) (bH s) (bD s) l i j).toNat = v25o.toNat by omega]
                   exact zxu (by decide) (zxe.trans p200hv)
                 · rw [upF_ne e]
                   exact zxu (by decide) (zxs (by omega) (a3 x hx).2.2.2))
            | (rw [(bPut_f (by omega) (by omega) (fun h => by rcases p48hv with w | w; exfalso; omega; obtain ⟨p, a, b, c⟩ := h; exact w.2 p a ⟨b, c⟩) (by omega) (fun h => by
                first
                | (rw [t96.1, t96.2, ← p25hv] at h
                   obtain ⟨h1, h2, h3, h4⟩ := h
                   omega)
                | (rw [g109.1, g109.2, ← p25hv] at h
                   obtain ⟨h1, h2, h3, h4⟩ := h
                   have h1' : bba s v25o.toNat = 0 := h1
                   have h2' : bpa s v25o.toNat = -1 := h2
                   have h3' : bho s v25o.toNat = -1 ∨ bho s v25o.toNat = bnn s := h3
                   first
                   | omega
                   | (rw [p109hv] at p173hv
                      have h4' : v173o < 5 := by rw [p173hv]; exact h4
                      omega)))).2]
               first
               | (rw [t96.1]
                  exact hBA)
               | (rw [g109.1]
                  exact zBA_addN hBA (zRT_fr p109bhT2 (fun c j q => zxcj (by omega) rfl)) (by rw [show bnn s = v109o.toNat by omega]; exact zxe) (fun c j q => zxcj (by omega) (p109bbfr c j (by omega) (by omega))) (fun c j _ => rfl)))
        · refine And.intro (zRb rfl) (zbf rfl ?_)
          refine And.intro (zA_82 hS) (zrdR (v := some 97) (zR_82_17 hR) ?_)
          refine And.intro (zP_97 hS (by omega) (by omega)) (fun v40_14 e40_14 r40_14 => ?_)
          have f40_14 : v40_14 = bnd s (16 * t.toNat + o.toNat) := (e40_14.trans ((congrArg (I 97) (by omega)).trans (hnd (16 * t.toNat + o.toNat) (by omega))))
          have f40_14b : -1 ≤ v40_14 ∧ v40_14 ≤ 959 := (by have := gnd (16 * t.toNat + o.toNat) (by omega); omega)
          have f40_14bb : bSn s t o = v40_14 := (by unfold bSn; rw [if_pos (by omega)]; exact f40_14.symm)
          refine And.intro (zA_82 hS) ⟨_, sn_A_cell.up (by decide), ?_⟩
          refine ⟨(bW s), (bH s), (bD s), (l : Int), (i : Int), (j : Int), rfl, hS, hR, hbw, hbh, hbd, (by omega), gB9, (by omega), ?_⟩
          intro v25o p25hv p25bhv2
          refine And.intro ⟨r40_14, (zRb rfl)⟩ ⟨fun h33 => ?_, fun h33 => ?_⟩
          · refine hQ _ _ ?_ ?_ (fun c j h0 h1 h2 h3 h4 h5 h6 => rfl)
            · first
              | exact (bPut_2 (by omega) (Or.inl (if_neg (by omega)))).1.symm
              | exact (bPut_2 (by omega) (by omega)).1.symm
              | exact (bPut_4 (by omega) (by omega) (by rcases p48hv with w | w; exact w.2; exfalso; omega)).1.symm
              | exact (bPut_1 (by omega) (by omega) (fun h => by rcases p48hv with w | w; exfalso; omega; obtain ⟨p, a, b, c⟩ := h; exact w.2 p a ⟨b, c⟩) (by omega)).1.symm
              | exact g200.trans (bPut_k (by omega) (by omega) (fun h => by rcases p48hv with w | w; exfalso; omega; obtain ⟨p, a, b, c⟩ := h; exact w.2 p a ⟨b, c⟩) (by omega) (by
                  first
                  | (rw [t96.1, t96.2, ← p25hv]
                     exact ⟨by omega, by omega, by omega, by omega⟩)
                  | (rw [g109.1, g109.2, ← p25hv]
                     rw [p109hv] at p173hv
                     exact ⟨show bba s v25o.toNat = 0 by omega, show bpa s v25o.toNat = -1 by omega, show bho s v25o.toNat = -1 ∨ bho s v25o.toNat = bnn s by omega, (by have e9 := p173hv; have e8 : v173o < 5 := (by omega); rw [e9] at e8; exact e8)⟩))).1.symm
              | exact (bPut_f (by omega) (by omega) (fun h => by rcases p48hv with w | w; exfalso; omega; obtain ⟨p, a, b, c⟩ := h; exact w.2 p a ⟨b, c⟩) (by omega) (fun h => by
                  first
                  | (rw [t96.1, t96.2, ← p25hv] at h
                     obtain ⟨h1, h2, h3, h4⟩ := h
                     omega)
                  | (rw [g109.1, g109.2, ← p25hv] at h
                     obtain ⟨h1, h2, h3, h4⟩ := h
                     have h1' : bba s v25o.toNat = 0 := h1
                     have h2' : bpa s v25o.toNat = -1 := h2
                     have h3' : bho s v25o.toNat = -1 ∨ bho s v25o.toNat = bnn s := h3
                     first
                     | omega
                     | (rw [p109hv] at p173hv
                        have h4' : v173o < 5 := by rw [p173hv]; exact h4
                        omega)))).1.symm
            · first
              | (rw [(bPut_2 (by omega) (Or.inl (if_neg (by omega)))).2]
                 exact hBA)
              | (rw [(bPut_2 (by omega) (by omega)).2]
                 exact hBA)
              | (rw [(bPut_4 (by omega) (by omega) (by rcases p48hv with w | w; exact w.2; exfalso; omega)).2]
                 exact hBA)
              | (rw [(bPut_1 (by omega) (by omega) (fun h => by rcases p48hv with w | w; exfalso; omega; obtain ⟨p, a, b, c⟩ := h; exact w.2 p a ⟨b, c⟩) (by omega)).2]
                 exact hBA)
              | (have e25 : v25o = (((cxI (bW s) (bH s) (bD s) l i j).toNat : Nat) : Int) := by omega
                 rw [(bPut_k (by omega) (by omega) (fun h => by rcases p48hv with w | w; exfalso; omega; obtain ⟨p, a, b, c⟩ := h; exact w.2 p a ⟨b, c⟩) (by omega) (by
                  first
                  | (rw [t96.1, t96.2, ← p25hv]
                     exact ⟨by omega, by omega, by omega, by omega⟩)
                  | (rw [g109.1, g109.2, ← p25hv]
                     rw [p109hv] at p173hv
                     exact ⟨show bba s v25o.toNat = 0 by omega, show bpa s v25o.toNat = -1 by omega, show bho s v25o.toNat = -1 ∨ bho s v25o.toNat = bnn s by omega, (by have e9 := p173hv; have e8 : v173o < 5 := (by omega); rw [e9] at e8; exact e8)⟩))).2]
                 have z1 := zBA_P p186hBA2 p200bhT2 (fun c j q => p200bbfr c j (by omega) (by omega)) (fun c j _ => rfl)
                 have z2 := zBA_N z1 p224hT2 (fun c j q => p224bfr c j (by omega)) (fun c j _ => rfl)
                 obtain ⟨a1, a2, a3, a4, a5, a6, a7, a8⟩ := z2
                 have e19 : v219o = bN (bRs s (bSn s t o)) (bRn s (bSn s t o)) 1 := p219hv.trans (up2z_ne (by omega))
                 rw [e19] at a5
                 have a4' : zRT 88 40 (bnp (bRs s (bSn s t o)) + 1) (upR (bP (bRs s (bSn s t o))) (bnp (bRs s (bSn s t o))) t o ((((cxI (bW s) (bH s) (bD s) l i j).toNat : Nat)) : Int) ((bRn s (bSn s t o) : Nat) : Int) 0) I224o := by
                   first
                   | (have e60 : v60o = ((bRn s (bSn s t o) : Nat) : Int) := by omega
                      rw [← e25, ← e60]
                      exact a4)
                   | (have e60 : v109o = ((bRn s (bSn s t o) : Nat) : Int) := by omega
                      rw [← e25, ← e60]
                      exact a4)
                 refine ⟨a1, a2, fun x hx => ⟨(a3 x hx).1, (a3 x hx).2.1, ?_, ?_⟩, a4', a5, a6, a7, a8⟩
                 · show _ = if x = (cxI (bW s) (bH s) (bD s) l i j).toNat then ((bRn s (bSn s t o) : Nat) : Int) else bho (bLet (bRs s (bSn s t o)) (bRn s (bSn s t o))) x
                   by_cases e : x = (cxI (bW s) (bH s) (bD s) l i j).toNat
                   · rw [if_pos e, show x = v25o.toNat by omega]
                     exact zxe.trans (by omega)
                   · rw [if_neg e]
                     exact zxs (by omega) (a3 x hx).2.2.1
                 · show _ = upF (bpa (bRs s (bSn s t o))) (cxI (bW s) (bH s) (bD s) l i j).toNat (bnp (bRs s (bSn s t o)) : Int) x
                   by_cases e : x = (cxI (bW s) (bH s) (bD s) l i j).toNat
                   · rw [e, upF_at, show (cxI (bW s) (bH s) (bD s) l i j).toNat = v25o.toNat by omega]
                     exact zxu (by decide) (zxe.trans p200hv)
                   · rw [upF_ne e]
                     exact zxu (by decide) (zxs (by omega) (a3 x hx).2.2.2))
              | (rw [(bPut_f (by omega) (by omega) (fun h => by rcases p48hv with w | w; exfalso; omega; obtain ⟨p, a, b, c⟩ := h; exact w.2 p a ⟨b, c⟩) (by omega) (fun h => by
                  first
                  | (rw [t96.1, t96.2, ← p25hv] at h
                     obtain ⟨h1, h2, h3, h4⟩ := h
                     omega)
                  | (rw [g109.1, g109.2, ← p25hv] at h
                     obtain ⟨h1, h2, h3, h4⟩ := h
                     have h1' : bba s v25o.toNat = 0 := h1
                     have h2' : bpa s v25o.toNat = -1 := h2
                     have h3' : bho s v25o.toNat = -1 ∨ bho s v25o.toNat = bnn s := h3
                     first
                     | omega
                     | (rw [p109hv] at p173hv
                        have h4' : v173o < 5 := by rw [p173hv]; exact h4
                        omega)))).2]
                 first
                 | (rw [t96.1]
                    exact hBA)
                 | (rw [g109.1]
                    exact zBA_addN hBA (zRT_fr p109bhT2 (fun c j q => zxcj (by omega) rfl)) (by rw [show bnn s = v109o.toNat by omega]; exact zxe) (fun c j q => zxcj (by omega) (p109bbfr c j (by omega) (by omega))) (fun c j _ => rfl)))
          · refine And.intro ⟨(by omega), (zRb rfl)⟩ ⟨fun h39 => ?_, fun h39 => ?_⟩
            · have t39 : 0 ≤ v25o := (by omega)
              refine And.intro (zA_82 hS) ⟨_, sn_A_hasPad.up (by decide), ?_⟩
              refine ⟨b, s, (t : Int), (o : Int), rfl, hS, hR, hBA, (by omega), ?_⟩
              intro v48o p48hv
              refine And.intro (by omega) ⟨fun h51 => ?_, fun h51 => ?_⟩
              · refine And.intro (zA_82 hS) ⟨_, sn_A_route.up (by decide), ?_⟩
                refine ⟨b, s, (v40_14 : Int), rfl, hS, hR, hBA, (by omega), ?_⟩
                intro v60o p60hv
                have g60 : v60o = -1 ∨ (0 ≤ v60o ∧ v60o < bnn s) := (by rcases zlow_sp (fun n => bN s n 0 = v40_14) (bnn s) with w9 | ⟨r9, w9⟩; left; rw [p60hv]; exact w9.1; right; rw [p60hv, w9.2.1]; omega)
                have g60b : -1 ≤ v60o ∧ v60o ≤ 11 := (by omega)
                have g60bb : bRt s (bSn s t o) = v60o := (by rw [f40_14bb]; exact p60hv.symm)
                refine And.intro (zA_82 hS) (zrdR (v := some 88) (zR_82_10 hR) ?_)
                refine And.intro (zA_88 hS) (Exists.intro _ (And.intro (zinl_ok (zT7_2 1)) (And.intro rfl ?_)))
                refine And.intro (zA_88 hS) (zrd (v := (bnp s)) hP2 ?_)
                refine And.intro (zA_88 hS) (zrd (v := 40) hP1 ?_)
                refine And.intro ⟨(by omega), (zRb rfl)⟩ ⟨fun h8_69 => ?_, fun h8_69 => ?_⟩
                · refine And.intro (Or.inl rfl) ?_
                  refine And.intro (zRb rfl) (zbt rfl ?_)
                  refine hQ _ _ ?_ ?_ (fun c j h0 h1 h2 h3 h4 h5 h6 => rfl)
                  · first
                    | exact (bPut_2 (by omega) (Or.inl (if_neg (by omega)))).1.symm
                    | exact (bPut_2 (by omega) (by omega)).1.symm
                    | exact (bPut_4 (by omega) (by omega) (by rcases p48hv with w | w; exact w.2; exfalso; omega)).1.symm
                    | exact (bPut_1 (by omega) (by omega) (fun h => by rcases p48hv with w | w; exfalso; omega; obtain ⟨p, a, b, c⟩ := h; exact w.2 p a ⟨b, c⟩) (by omega)).1.symm
                    | exact g200.trans (bPut_k (by omega) (by omega) (fun h => by rcases p48hv with w | w; exfalso; omega; obtain ⟨p, a, b, c⟩ := h; exact w.2 p a ⟨b, c⟩) (by omega) (by
                        first
                        | (rw [t96.1, t96.2, ← p25hv]
                           exact ⟨by omega, by omega, by omega, by omega⟩)
                        | (rw [g109.1, g109.2, ← p25hv]
                           rw [p109hv] at p173hv
                           exact ⟨show bba s v25o.toNat = 0 by omega, show bpa s v25o.toNat = -1 by omega, show bho s v25o.toNat = -1 ∨ bho s v25o.toNat = bnn s by omega, (by have e9 := p173hv; have e8 : v173o < 5 := (by omega); rw [e9] at e8; exact e8)⟩))).1.symm
                    | exact (bPut_f (by omega) (by omega) (fun h => by rcases p48hv with w | w; exfalso; omega; obtain ⟨p, a, b, c⟩ := h; exact w.2 p a ⟨b, c⟩) (by omega) (fun h => by
                        first
                        | (rw [t96.1, t96.2, ← p25hv] at h
                           obtain ⟨h1, h2, h3, h4⟩ := h
                           omega)
                        | (rw [g109.1, g109.2, ← p25hv] at h
                           obtain ⟨h1, h2, h3, h4⟩ := h
                           have h1' : bba s v25o.toNat = 0 := h1
                           have h2' : bpa s v25o.toNat = -1 := h2
                           have h3' : bho s v25o.toNat = -1 ∨ bho s v25o.toNat = bnn s := h3
                           first
                           | omega
                           | (rw [p109hv] at p173hv
                              have h4' : v173o < 5 := by rw [p173hv]; exact h4
                              omega)))).1.symm
                  · first
                    | (rw [(bPut_2 (by omega) (Or.inl (if_neg (by omega)))).2]
                       exact hBA)
                    | (rw [(bPut_2 (by omega) (by omega)).2]
                       exact hBA)
                    | (rw [(bPut_4 (by omega) (by omega) (by rcases p48hv with w | w; exact w.2; exfalso; omega)).2]
                       exact hBA)
                    | (rw [(bPut_1 (by omega) (by omega) (fun h => by rcases p48hv with w | w; exfalso; omega; obtain ⟨p, a, b, c⟩ := h; exact w.2 p a ⟨b, c⟩) (by omega)).2]
                       exact hBA)
                    | (have e25 : v25o = (((cxI (bW s) (bH s) (bD s) l i j).toNat : Nat) : Int) := by omega
                       rw [(bPut_k (by omega) (by omega) (fun h => by rcases p48hv with w | w; exfalso; omega; obtain ⟨p, a, b, c⟩ := h; exact w.2 p a ⟨b, c⟩) (by omega) (by
                        first
                        | (rw [t96.1, t96.2, ← p25hv]
                           exact ⟨by omega, by omega, by omega, by omega⟩)
                        | (rw [g109.1, g109.2, ← p25hv]
                           rw [p109hv] at p173hv
                           exact ⟨show bba s v25o.toNat = 0 by omega, show bpa s v25o.toNat = -1 by omega, show bho s v25o.toNat = -1 ∨ bho s v25o.toNat = bnn s by omega, (by have e9 := p173hv; have e8 : v173o < 5 := (by omega); rw [e9] at e8; exact e8)⟩))).2]
                       have z1 := zBA_P p186hBA2 p200bhT2 (fun c j q => p200bbfr c j (by omega) (by omega)) (fun c j _ => rfl)
                       have z2 := zBA_N z1 p224hT2 (fun c j q => p224bfr c j (by omega)) (fun c j _ => rfl)
                       obtain ⟨a1, a2, a3, a4, a5, a6, a7, a8⟩ := z2
                       have e19 : v219o = bN (bRs s (bSn s t o)) (bRn s (bSn s t o)) 1 := p219hv.trans (up2z_ne (by omega))
                       rw [e19] at a5
                       have a4' : zRT 88 40 (bnp (bRs s (bSn s t o)) + 1) (upR (bP (bRs s (bSn s t o))) (bnp (bRs s (bSn s t o))) t o ((((cxI (bW s) (bH s) (bD s) l i j).toNat : Nat)) : Int) ((bRn s (bSn s t o) : Nat) : Int) 0) I224o := by
                         first
                         | (have e60 : v60o = ((bRn s (bSn s t o) : Nat) : Int) := by omega
                            rw [← e25, ← e60]
                            exact a4)
                         | (have e60 : v109o = ((bRn s (bSn s t o) : Nat) : Int) := by omega
                            rw [← e25, ← e60]
                            exact a4)
                       refine ⟨a1, a2, fun x hx => ⟨(a3 x hx).1, (a3 x hx).2.1, ?_, ?_⟩, a4', a5, a6, a7, a8⟩
                       · show _ = if x = (cxI (bW s) (bH s) (bD s) l i j).toNat then ((bRn s (bSn s t o) : Nat) : Int) else bho (bLet (bRs s (bSn s t o)) (bRn s (bSn s t o))) x
                         by_cases e : x = (cxI (bW s) (bH s) (bD s) l i j).toNat
                         · rw [if_pos e, show x = v25o.toNat by omega]
                           exact zxe.trans (by omega)
                         · rw [if_neg e]
                           exact zxs (by omega) (a3 x hx).2.2.1
                       · show _ = upF (bpa (bRs s (bSn s t o))) (cxI (bW s) (bH s) (bD s) l i j).toNat (bnp (bRs s (bSn s t o)) : Int) x
                         by_cases e : x = (cxI (bW s) (bH s) (bD s) l i j).toNat
                         · rw [e, upF_at, show (cxI (bW s) (bH s) (bD s) l i j).toNat = v25o.toNat by omega]
                           exact zxu (by decide) (zxe.trans p200hv)
                         · rw [upF_ne e]
                           exact zxu (by decide) (zxs (by omega) (a3 x hx).2.2.2))
                    | (rw [(bPut_f (by omega) (by omega) (fun h => by rcases p48hv with w | w; exfalso; omega; obtain ⟨p, a, b, c⟩ := h; exact w.2 p a ⟨b, c⟩) (by omega) (fun h => by
                        first
                        | (rw [t96.1, t96.2, ← p25hv] at h
                           obtain ⟨h1, h2, h3, h4⟩ := h
                           omega)
                        | (rw [g109.1, g109.2, ← p25hv] at h
                           obtain ⟨h1, h2, h3, h4⟩ := h
                           have h1' : bba s v25o.toNat = 0 := h1
                           have h2' : bpa s v25o.toNat = -1 := h2
                           have h3' : bho s v25o.toNat = -1 ∨ bho s v25o.toNat = bnn s := h3
                           first
                           | omega
                           | (rw [p109hv] at p173hv
                              have h4' : v173o < 5 := by rw [p173hv]; exact h4
                              omega)))).2]
                       first
                       | (rw [t96.1]
                          exact hBA)
                       | (rw [g109.1]
                          exact zBA_addN hBA (zRT_fr p109bhT2 (fun c j q => zxcj (by omega) rfl)) (by rw [show bnn s = v109o.toNat by omega]; exact zxe) (fun c j q => zxcj (by omega) (p109bbfr c j (by omega) (by omega))) (fun c j _ => rfl)))
                · refine And.intro (Or.inr rfl) ?_
                  refine And.intro (zRb rfl) (zbf rfl ?_)
                  refine And.intro ⟨(by omega), (zRb rfl)⟩ ⟨fun h78 => ?_, fun h78 => ?_⟩
                  · refine And.intro ⟨(by omega), (zRb rfl)⟩ ⟨fun h96 => ?_, (fun h96 => False.elim (by omega))⟩
                    have t96 : bRs s (bSn s t o) = s ∧ bRn s (bSn s t o) = v60o.toNat := (by have q := bRs_o (s := s) (sn := bSn s t o) (by omega); rw [g60bb] at q; exact q)
                    refine And.intro (zA_82 hS) (zrdR (v := some 84) (zR_82_6 hR) ?_)
                    refine And.intro (Or.inr (zP_84 hS (by omega) (by omega))) (fun v128 e128 r128 => ?_)
                    have f128 : v128 = bba s v25o.toNat := (e128.trans (rfl.trans ((congrArg (I 84) (by omega)).trans (hcl v25o.toNat (by omega)).1)))
                    have f128b : v128 ≤ 1 ∧ 0 ≤ v128 := (by have := (gc v25o.toNat (by omega)).1; omega)
                    refine And.intro r128 ⟨fun h129 => ?_, fun h129 => ?_⟩
                    · refine And.intro (zRb rfl) (zbt rfl ?_)
                      refine hQ _ _ ?_ ?_ (fun c j h0 h1 h2 h3 h4 h5 h6 => rfl)
                      · first
                        | exact (bPut_2 (by omega) (Or.inl (if_neg (by omega)))).1.symm
                        | exact (bPut_2 (by omega) (by omega)).1.symm
                        | exact (bPut_4 (by omega) (by omega) (by rcases p48hv with w | w; exact w.2; exfalso; omega)).1.symm
                        | exact (bPut_1 (by omega) (by omega) (fun h => by rcases p48hv with w | w; exfalso; omega; obtain ⟨p, a, b, c⟩ := h; exact w.2 p a ⟨b, c⟩) (by omega)).1.symm
                        | exact g200.trans (bPut_k (by omega) (by omega) (fun h => by rcases p48hv with w | w; exfalso; omega; obtain ⟨p, a, b, c⟩ := h; exact w.2 p a ⟨b, c⟩) (by omega) (by
                            first
                            | (rw [t96.1, t96.2, ← p25hv]
                               exact ⟨by omega, by omega, by omega, by omega⟩)
                            | (rw [g109.1, g109.2, ← p25hv]
                               rw [p109hv] at p173hv
                               exact ⟨show bba s v25o.toNat = 0 by omega, show bpa s v25o.toNat = -1 by omega, show bho s v25o.toNat = -1 ∨ bho s v25o.toNat = bnn s by omega, (by have e9 := p173hv; have e8 : v173o < 5 := (by omega); rw [e9] at e8; exact e8)⟩))).1.symm
                        | exact (bPut_f (by omega) (by omega) (fun h => by rcases p48hv with w | w; exfalso; omega; obtain ⟨p, a, b, c⟩ := h; exact w.2 p a ⟨b, c⟩) (by omega) (fun h => by
                            first
                            | (rw [t96.1, t96.2, ← p25hv] at h
                               obtain ⟨h1, h2, h3, h4⟩ := h
                               omega)
                            | (rw [g109.1, g109.2, ← p25hv] at h
                               obtain ⟨h1, h2, h3, h4⟩ := h
                               have h1' : bba s v25o.toNat = 0 := h1
                               have h2' : bpa s v25o.toNat = -1 := h2
                               have h3' : bho s v25o.toNat = -1 ∨ bho s v25o.toNat = bnn s := h3
                               first
                               | omega
                               | (rw [p109hv] at p173hv
                                  have h4' : v173o < 5 := by rw [p173hv]; exact h4
                                  omega)))).1.symm
                      · first
                        | (rw [(bPut_2 (by omega) (Or.inl (if_neg (by omega)))).2]
                           exact hBA)
                        | (rw [(bPut_2 (by omega) (by omega)).2]
                           exact hBA)
                        | (rw [(bPut_4 (by omega) (by omega) (by rcases p48hv with w | w; exact w.2; exfalso; omega)).2]
                           exact hBA)
                        | (rw [(bPut_1 (by omega) (by omega) (fun h => by rcases p48hv with w | w; exfalso; omega; obtain ⟨p, a, b, c⟩ := h; exact w.2 p a ⟨b, c⟩) (by omega)).2]
                           exact hBA)
                        | (have e25 : v25o = (((cxI (bW s) (bH s) (bD s) l i j).toNat : Nat) : Int) := by omega
                           rw [(bPut_k (by omega) (by omega) (fun h => by rcases p48hv with w | w; exfalso; omega; obtain ⟨p, a, b, c⟩ := h; exact w.2 p a ⟨b, c⟩) (by omega) (by
                            first
                            | (rw [t96.1, t96.2, ← p25hv]
                               exact ⟨by omega, by omega, by omega, by omega⟩)
                            | (rw [g109.1, g109.2, ← p25hv]
                               rw [p109hv] at p173hv
                               exact ⟨show bba s v25o.toNat = 0 by omega, show bpa s v25o.toNat = -1 by omega, show bho s v25o.toNat = -1 ∨ bho s v25o.toNat = bnn s by omega, (by have e9 := p173hv; have e8 : v173o < 5 := (by omega); rw [e9] at e8; exact e8)⟩))).2]
                           have z1 := zBA_P p186hBA2 p200bhT2 (fun c j q => p200bbfr c j (by omega) (by omega)) (fun c j _ => rfl)
                           have z2 := zBA_N z1 p224hT2 (fun c j q => p224bfr c j (by omega)) (fun c j _ => rfl)
                           obtain ⟨a1, a2, a3, a4, a5, a6, a7, a8⟩ := z2
                           have e19 : v219o = bN (bRs s (bSn s t o)) (bRn s (bSn s t o)) 1 := p219hv.trans (up2z_ne (by omega))
                           rw [e19] at a5
                           have a4' : zRT 88 40 (bnp (bRs s (bSn s t o)) + 1) (upR (bP (bRs s (bSn s t o))) (bnp (bRs s (bSn s t o))) t o ((((cxI (bW s) (bH s) (bD s) l i j).toNat : Nat)) : Int) ((bRn s (bSn s t o) : Nat) : Int) 0) I224o := by
                             first
                             | (have e60 : v60o = ((bRn s (bSn s t o) : Nat) : Int) := by omega
                                rw [← e25, ← e60]
                                exact a4)
                             | (have e60 : v109o = ((bRn s (bSn s t o) : Nat) : Int) := by omega
                                rw [← e25, ← e60]
                                exact a4)
                           refine ⟨a1, a2, fun x hx => ⟨(a3 x hx).1, (a3 x hx).2.1, ?_, ?_⟩, a4', a5, a6, a7, a8⟩
                           · show _ = if x = (cxI (bW s) (bH s) (bD s) l i j).toNat then ((bRn s (bSn s t o) : Nat) : Int) else bho (bLet (bRs s (bSn s t o)) (bRn s (bSn s t o))) x
                             by_cases e : x = (cxI (bW s) (bH s) (bD s) l i j).toNat
                             · rw [if_pos e, show x = v25o.toNat by omega]
                               exact zxe.trans (by omega)
                             · rw [if_neg e]
                               exact zxs (by omega) (a3 x hx).2.2.1
                           · show _ = upF (bpa (bRs s (bSn s t o))) (cxI (bW s) (bH s) (bD s) l i j).toNat (bnp (bRs s (bSn s t o)) : Int) x
                             by_cases e : x = (cxI (bW s) (bH s) (bD s) l i j).toNat
                             · rw [e, upF_at, show (cxI (bW s) (bH s) (bD s) l i j).toNat = v25o.toNat by omega]
                               exact zxu (by decide) (zxe.trans p200hv)
                             · rw [upF_ne e]
                               exact zxu (by decide) (zxs (by omega) (a3 x hx).2.2.2))
                        | (rw [(bPut_f (by omega) (by omega) (fun h => by rcases p48hv with w | w; exfalso; omega; obtain ⟨p, a, b, c⟩ := h; exact w.2 p a ⟨b, c⟩) (by omega) (fun h => by
                            first
                            | (rw [t96.1, t96.2, ← p25hv] at h
                               obtain ⟨h1, h2, h3, h4⟩ := h
                               omega)
                            | (rw [g109.1, g109.2, ← p25hv] at h
                               obtain ⟨h1, h2, h3, h4⟩ := h
                               have h1' : bba s v25o.toNat = 0 := h1
                               have h2' : bpa s v25o.toNat = -1 := h2
                               have h3' : bho s v25o.toNat = -1 ∨ bho s v25o.toNat = bnn s := h3
                               first
                               | omega
                               | (rw [p109hv] at p173hv
                                  have h4' : v173o < 5 := by rw [p173hv]; exact h4
                                  omega)))).2]
                           first
                           | (rw [t96.1]
                              exact hBA)
                           | (rw [g109.1]
                              exact zBA_addN hBA (zRT_fr p109bhT2 (fun c j q => zxcj (by omega) rfl)) (by rw [show bnn s = v109o.toNat by omega]; exact zxe) (fun c j q => zxcj (by omega) (p109bbfr c j (by omega) (by omega))) (fun c j _ => rfl)))
                    · refine And.intro (zA_82 hS) (zrdR (v := some 87) (zR_82_9 hR) ?_)
                      refine And.intro (zP_87 hS (by omega) (by omega)) (fun v138 e138 r138 => ?_)
                      have f138 : v138 = bpa s v25o.toNat := (e138.trans (rfl.trans ((congrArg (I 87) (by omega)).trans (hcl v25o.toNat (by omega)).2.2.2)))
                      refine And.intro ⟨r138, (zRb rfl)⟩ ⟨fun h140 => ?_, fun h140 => ?_⟩
                      · refine And.intro (zRb rfl) (zbt rfl ?_)
                        refine hQ _ _ ?_ ?_ (fun c j h0 h1 h2 h3 h4 h5 h6 => rfl)
                        · first
                          | exact (bPut_2 (by omega) (Or.inl (if_neg (by omega)))).1.symm
                          | exact (bPut_2 (by omega) (by omega)).1.symm
                          | exact (bPut_4 (by omega) (by omega) (by rcases p48hv with w | w; exact w.2; exfalso; omega)).1.symm
                          | exact (bPut_1 (by omega) (by omega) (fun h => by rcases p48hv with w | w; exfalso; omega; obtain ⟨p, a, b, c⟩ := h; exact w.2 p a ⟨b, c⟩) (by omega)).1.symm
                          | exact g200.trans (bPut_k (by omega) (by omega) (fun h => by rcases p48hv with w | w; exfalso; omega; obtain ⟨p, a, b, c⟩ := h; exact w.2 p a ⟨b, c⟩) (by omega) (by
                              first
                              | (rw [t96.1, t96.2, ← p25hv]
                                 exact ⟨by omega, by omega, by omega, by omega⟩)
                              | (rw [g109.1, g109.2, ← p25hv]
                                 rw [p109hv] at p173hv
                                 exact ⟨show bba s v25o.toNat = 0 by omega, show bpa s v25o.toNat = -1 by omega, show bho s v25o.toNat = -1 ∨ bho s v25o.toNat = bnn s by omega, (by have e9 := p173hv; have e8 : v173o < 5 := (by omega); rw [e9] at e8; exact e8)⟩))).1.symm
                          | exact (bPut_f (by omega) (by omega) (fun h => by rcases p48hv with w | w; exfalso; omega; obtain ⟨p, a, b, c⟩ := h; exact w.2 p a ⟨b, c⟩) (by omega) (fun h => by
                              first
                              | (rw [t96.1, t96.2, ← p25hv] at h
                                 obtain ⟨h1, h2, h3, h4⟩ := h
                                 omega)
                              | (rw [g109.1, g109.2, ← p25hv] at h
                                 obtain ⟨h1, h2, h3, h4⟩ := h
                                 have h1' : bba s v25o.toNat = 0 := h1
                                 have h2' : bpa s v25o.toNat = -1 := h2
                                 have h3' : bho s v25o.toNat = -1 ∨ bho s v25o.toNat = bnn s := h3
                                 first
                                 | omega
                                 | (rw [p109hv] at p173hv
                                    have h4' : v173o < 5 := by rw [p173hv]; exact h4
                                    omega)))).1.symm
                        · first
                          | (rw [(bPut_2 (by omega) (Or.inl (if_neg (by omega)))).2]
                             exact hBA)
                          | (rw [(bPut_2 (by omega) (by omega)).2]
                             exact hBA)
                          | (rw [(bPut_4 (by omega) (by omega) (by rcases p48hv with w | w; exact w.2; exfalso; omega)).2]
                             exact hBA)
                          | (rw [(bPut_1 (by omega) (by omega) (fun h => by rcases p48hv with w | w; exfalso; omega; obtain ⟨p, a, b, c⟩ := h; exact w.2 p a ⟨b, c⟩) (by omega)).2]
                             exact hBA)
                          | (have e25 : v25o = (((cxI (bW s) (bH s) (bD s) l i j).toNat : Nat) : Int) := by omega
                             rw [(bPut_k (by omega) (by omega) (fun h => by rcases p48hv with w | w; exfalso; omega; obtain ⟨p, a, b, c⟩ := h; exact w.2 p a ⟨b, c⟩) (by omega) (by
                              first
                              | (rw [t96.1, t96.2, ← p25hv]
                                 exact ⟨by omega, by omega, by omega, by omega⟩)
                              | (rw [g109.1, g109.2, ← p25hv]
                                 rw [p109hv] at p173hv
                                 exact ⟨show bba s v25o.toNat = 0 by omega, show bpa s v25o.toNat = -1 by omega, show bho s v25o.toNat = -1 ∨ bho s v25o.toNat = bnn s by omega, (by have e9 := p173hv; have e8 : v173o < 5 := (by omega); rw [e9] at e8; exact e8)⟩))).2]
                             have z1 := zBA_P p186hBA2 p200bhT2 (fun c j q => p200bbfr c j (by omega) (by omega)) (fun c j _ => rfl)
                             have z2 := zBA_N z1 p224hT2 (fun c j q => p224bfr c j (by omega)) (fun c j _ => rfl)
                             obtain ⟨a1, a2, a3, a4, a5, a6, a7, a8⟩ := z2
                             have e19 : v219o = bN (bRs s (bSn s t o)) (bRn s (bSn s t o)) 1 := p219hv.trans (up2z_ne (by omega))
                             rw [e19] at a5
                             have a4' : zRT 88 40 (bnp (bRs s (bSn s t o)) + 1) (upR (bP (bRs s (bSn s t o))) (bnp (bRs s (bSn s t o))) t o ((((cxI (bW s) (bH s) (bD s) l i j).toNat : Nat)) : Int) ((bRn s (bSn s t o) : Nat) : Int) 0) I224o := by
                               first
                               | (have e60 : v60o = ((bRn s (bSn s t o) : Nat) : Int) := by omega
                                  rw [← e25, ← e60]
                                  exact a4)
                               | (have e60 : v109o = ((bRn s (bSn s t o) : Nat) : Int) := by omega
                                  rw [← e25, ← e60]
                                  exact a4)
                             refine ⟨a1, a2, fun x hx => ⟨(a3 x hx).1, (a3 x hx).2.1, ?_, ?_⟩, a4', a5, a6, a7, a8⟩
                             · show _ = if x = (cxI (bW s) (bH s) (bD s) l i j).toNat then ((bRn s (bSn s t o) : Nat) : Int) else bho (bLet (bRs s (bSn s t o)) (bRn s (bSn s t o))) x
                               by_cases e : x = (cxI (bW s) (bH s) (bD s) l i j).toNat
                               · rw [if_pos e, show x = v25o.toNat by omega]
                                 exact zxe.trans (by omega)
                               · rw [if_neg e]
                                 exact zxs (by omega) (a3 x hx).2.2.1
                             · show _ = upF (bpa (bRs s (bSn s t o))) (cxI (bW s) (bH s) (bD s) l i j).toNat (bnp (bRs s (bSn s t o)) : Int) x
                               by_cases e : x = (cxI (bW s) (bH s) (bD s) l i j).toNat
                               · rw [e, upF_at, show (cxI (bW s) (bH s) (bD s) l i j).toNat = v25o.toNat by omega]
                                 exact zxu (by decide) (zxe.trans p200hv)
                               · rw [upF_ne e]
                                 exact zxu (by decide) (zxs (by omega) (a3 x hx).2.2.2))
                          | (rw [(bPut_f (by omega) (by omega) (fun h => by rcases p48hv with w | w; exfalso; omega; obtain ⟨p, a, b, c⟩ := h; exact w.2 p a ⟨b, c⟩) (by omega) (fun h => by
                              first
                              | (rw [t96.1, t96.2, ← p25hv] at h
                                 obtain ⟨h1, h2, h3, h4⟩ := h
                                 omega)
                              | (rw [g109.1, g109.2, ← p25hv] at h
                                 obtain ⟨h1, h2, h3, h4⟩ := h
                                 have h1' : bba s v25o.toNat = 0 := h1
                                 have h2' : bpa s v25o.toNat = -1 := h2
                                 have h3' : bho s v25o.toNat = -1 ∨ bho s v25o.toNat = bnn s := h3
                                 first
                                 | omega
                                 | (rw [p109hv] at p173hv
                                    have h4' : v173o < 5 := by rw [p173hv]; exact h4
                                    omega)))).2]
                             first
                             | (rw [t96.1]
                                exact hBA)
                             | (rw [g109.1]
                                exact zBA_addN hBA (zRT_fr p109bhT2 (fun c j q => zxcj (by omega) rfl)) (by rw [show bnn s = v109o.toNat by omega]; exact zxe) (fun c j q => zxcj (by omega) (p109bbfr c j (by omega) (by omega))) (fun c j _ => rfl)))
                      · refine And.intro (zA_82 hS) ⟨_, sn_A_hby.up (by decide), ?_⟩
                        refine ⟨(v25o : Int), (v60o : Int), (v25o).toNat, (bho s v25o.toNat), rfl, hS, hR, (by omega), (by first | exact (hcl v25o.toNat (by omega)).2.2.1 | exact (zxcj (by omega) ((p109bbfr 86 v25o.toNat (by omega) (by omega)).trans (hcl v25o.toNat (by omega)).2.2.1))), (by omega), ?_⟩
                        intro v148o p148hv
                        refine And.intro (by omega) ⟨fun h151 => ?_, fun h151 => ?_⟩
                        · refine And.intro (zRb rfl) (zbt rfl ?_)
                          refine hQ _ _ ?_ ?_ (fun c j h0 h1 h2 h3 h4 h5 h6 => rfl)
                          · first
                            | exact (bPut_2 (by omega) (Or.inl (if_neg (by omega)))).1.symm
                            | exact (bPut_2 (by omega) (by omega)).1.symm
                            | exact (bPut_4 (by omega) (by omega) (by rcases p48hv with w | w; exact w.2; exfalso; omega)).1.symm
                            | exact (bPut_1 (by omega) (by omega) (fun h => by rcases p48hv with w | w; exfalso; omega; obtain ⟨p, a, b, c⟩ := h; exact w.2 p a ⟨b, c⟩) (by omega)).1.symm
                            | exact g200.trans (bPut_k (by omega) (by omega) (fun h => by rcases p48hv with w | w; exfalso; omega; obtain ⟨p, a, b, c⟩ := h; exact w.2 p a ⟨b, c⟩) (by omega) (by
                                first
                                | (rw [t96.1, t96.2, ← p25hv]
                                   exact ⟨by omega, by omega, by omega, by omega⟩)
                                | (rw [g109.1, g109.2, ← p25hv]
                                   rw [p109hv] at p173hv
                                   exact ⟨show bba s v25o.toNat = 0 by omega, show bpa s v25o.toNat = -1 by omega, show bho s v25o.toNat = -1 ∨ bho s v25o.toNat = bnn s by omega, (by have e9 := p173hv; have e8 : v173o < 5 := (by omega); rw [e9] at e8; exact e8)⟩))).1.symm
                            | exact (bPut_f (by omega) (by omega) (fun h => by rcases p48hv with w | w; exfalso; omega; obtain ⟨p, a, b, c⟩ := h; exact w.2 p a ⟨b, c⟩) (by omega) (fun h => by
                                first
                                | (rw [t96.1, t96.2, ← p25hv] at h
                                   obtain ⟨h1, h2, h3, h4⟩ := h
                                   omega)
                                | (rw [g109.1, g109.2, ← p25hv] at h
                                   obtain ⟨h1, h2, h3, h4⟩ := h
                                   have h1' : bba s v25o.toNat = 0 := h1
                                   have h2' : bpa s v25o.toNat = -1 := h2
                                   have h3' : bho s v25o.toNat = -1 ∨ bho s v25o.toNat = bnn s := h3
                                   first
                                   | omega
                                   | (rw [p109hv] at p173hv
                                      have h4' : v173o < 5 := by rw [p173hv]; exact h4
                                      omega)))).1.symm
                          · first
                            | (rw [(bPut_2 (by omega) (Or.inl (if_neg (by omega)))).2]
                               exact hBA)
                            | (rw [(bPut_2 (by omega) (by omega)).2]
                               exact hBA)
                            | (rw [(bPut_4 (by omega) (by omega) (by rcases p48hv with w | w; exact w.2; exfalso; omega)).2]
                               exact hBA)
                            | (rw [(bPut_1 (by omega) (by omega) (fun h => by rcases p48hv with w | w; exfalso; omega; obtain ⟨p, a, b, c⟩ := h; exact w.2 p a ⟨b, c⟩) (by omega)).2]
                               exact hBA)
                            | (have e25 : v25o = (((cxI (bW s) (bH s) (bD s) l i j).toNat : Nat) : Int) := by omega
                               rw [(bPut_k (by omega) (by omega) (fun h => by rcases p48hv with w | w; exfalso; omega; obtain ⟨p, a, b, c⟩ := h; exact w.2 p a ⟨b, c⟩) (by omega) (by
                                first
                                | (rw [t96.1, t96.2, ← p25hv]
                                   exact ⟨by omega, by omega, by omega, by omega⟩)
                                | (rw [g109.1, g109.2, ← p25hv]
                                   rw [p109hv] at p173hv
                                   exact ⟨show bba s v25o.toNat = 0 by omega, show bpa s v25o.toNat = -1 by omega, show bho s v25o.toNat = -1 ∨ bho s v25o.toNat = bnn s by omega, (by have e9 := p173hv; have e8 : v173o < 5 := (by omega); rw [e9] at e8; exact e8)⟩))).2]
                               have z1 := zBA_P p186hBA2 p200bhT2 (fun c j q => p200bbfr c j (by omega) (by omega)) (fun c j _ => rfl)
                               have z2 := zBA_N z1 p224hT2 (fun c j q => p224bfr c j (by omega)) (fun c j _ => rfl)
                               obtain ⟨a1, a2, a3, a4, a5, a6, a7, a8⟩ := z2
                               have e19 : v219o = bN (bRs s (bSn s t o)) (bRn s (bSn s t o)) 1 := p219hv.trans (up2z_ne (by omega))
                               rw [e19] at a5
                               have a4' : zRT 88 40 (bnp (bRs s (bSn s t o)) + 1) (upR (bP (bRs s (bSn s t o))) (bnp (bRs s (bSn s t o))) t o ((((cxI (bW s) (bH s) (bD s) l i j).toNat : Nat)) : Int) ((bRn s (bSn s t o) : Nat) : Int) 0) I224o := by
                                 first
                                 | (have e60 : v60o = ((bRn s (bSn s t o) : Nat) : Int) := by omega
                                    rw [← e25, ← e60]
                                    exact a4)
                                 | (have e60 : v109o = ((bRn s (bSn s t o) : Nat) : Int) := by omega
                                    rw [← e25, ← e60]
                                    exact a4)
                               refine ⟨a1, a2, fun x hx => ⟨(a3 x hx).1, (a3 x hx).2.1, ?_, ?_⟩, a4', a5, a6, a7, a8⟩
                               · show _ = if x = (cxI (bW s) (bH s) (bD s) l i j).toNat then ((bRn s (bSn s t o) : Nat) : Int) else bho (bLet (bRs s (bSn s t o)) (bRn s (bSn s t o))) x
                                 by_cases e : x = (cxI (bW s) (bH s) (bD s) l i j).toNat
                                 · rw [if_pos e, show x = v25o.toNat by omega]
                                   exact zxe.trans (by omega)
                                 · rw [if_neg e]
                                   exact zxs (by omega) (a3 x hx).2.2.1
                               · show _ = upF (bpa (bRs s (bSn s t o))) (cxI (bW s) (bH s) (bD s) l i j).toNat (bnp (bRs s (bSn s t o)) : Int) x
                                 by_cases e : x = (cxI (bW s) (bH s) (bD s) l i j).toNat
                                 · rw [e, upF_at, show (cxI (bW s) (bH s) (bD s) l i j).toNat = v25o.toNat by omega]
                                   exact zxu (by decide) (zxe.trans p200hv)
                                 · rw [upF_ne e]
                                   exact zxu (by decide) (zxs (by omega) (a3 x hx).2.2.2))
                            | (rw [(bPut_f (by omega) (by omega) (fun h => by rcases p48hv with w | w; exfalso; omega; obtain ⟨p, a, b, c⟩ := h; exact w.2 p a ⟨b, c⟩) (by omega) (fun h => by
                                first
                                | (rw [t96.1, t96.2, ← p25hv] at h
                                   obtain ⟨h1, h2, h3, h4⟩ := h
                                   omega)
                                | (rw [g109.1, g109.2, ← p25hv] at h
                                   obtain ⟨h1, h2, h3, h4⟩ := h
                                   have h1' : bba s v25o.toNat = 0 := h1
                                   have h2' : bpa s v25o.toNat = -1 := h2
                                   have h3' : bho s v25o.toNat = -1 ∨ bho s v25o.toNat = bnn s := h3
                                   first
                                   | omega
                                   | (rw [p109hv] at p173hv
                                      have h4' : v173o < 5 := by rw [p173hv]; exact h4
                                      omega)))).2]
                               first
                               | (rw [t96.1]
                                  exact hBA)
                               | (rw [g109.1]
                                  exact zBA_addN hBA (zRT_fr p109bhT2 (fun c j q => zxcj (by omega) rfl)) (by rw [show bnn s = v109o.toNat by omega]; exact zxe) (fun c j q => zxcj (by omega) (p109bbfr c j (by omega) (by omega))) (fun c j _ => rfl)))
                        · refine And.intro (zRb rfl) (zbf rfl ?_)
                          refine And.intro (zA_82 hS) (zrdR (v := some 90) (zR_82_11 hR) ?_)
                          refine And.intro (zA_90 hS) ⟨_, sn_A_at.up (by decide), ?_⟩
                          refine ⟨_, _, _, _, (v60o).toNat, 1, (v60o : Int), (1 : Int), rfl, hS, hR, (zRw_90 hR hS), (by first | exact hNT | exact (zRT_fr p109bhT2 (fun c j q => zxcj (by omega) rfl))), (by omega), (by omega), ?_⟩
                          intro v173o p173hv p173bhr
                          refine And.intro ⟨(by omega), (zRb rfl)⟩ ⟨fun h177 => ?_, fun h177 => ?_⟩
                          · refine And.intro (zA_82 hS) ⟨_, sn_A_letGo.up (by decide), ?_⟩
                            refine ⟨b, (bRs s (bSn s t o)), (bRn s (bSn s t o)), (v60o : Int), rfl, hS, hR, (by
  first
  | (rw [t96.1]
     exact hBA)
  | (rw [g109.1]
     exact zBA_addN hBA (zRT_fr p109bhT2 (fun c j q => zxcj (by omega) rfl)) (by rw [show bnn s = v109o.toNat by omega]; exact zxe) (fun c j q => zxcj (by omega) (p109bbfr c j (by omega) (by omega))) (fun c j _ => rfl))), (by
  first
  | (rw [t96.1, t96.2]; omega)
  | (rw [g109.1, g109.2]; exact ⟨by omega, Nat.lt_succ_self _⟩)), (by
  first
  | (rw [t96.1, t96.2]
     have q := gn v60o.toNat (by omega)
     exact ⟨q.2.2.2.2.1, fun k hk => ⟨Nat.lt_of_lt_of_le (q.2.2.2.2.2.2.1 k hk).1 gB9, (q.2.2.2.2.2.2.1 k hk).2⟩, q.2.2.2.2.2.2.2⟩)
  | (rw [g109.1, g109.2]
     refine ⟨(show upF (bwl s) (bnn s) 0 (bnn s) ≤ 1024 by rw [upF_at]; omega), fun k hk => absurd (show k < upF (bwl s) (bnn s) 0 (bnn s) from hk) (by rw [upF_at]; omega), fun c hc h9 _ => ?_⟩
     exfalso
     have w := gc c hc
     have h8 : bho s c = bnn s := h9
     omega)), ?_⟩
                            intro I186o p186hBA2 p186bfr
                            refine And.intro (zA_82 hS) (zrdR (v := some 88) (zR_82_10 hR) ?_)
                            refine And.intro (zA_88 hS) ⟨_, sn_A_add.up (by decide), ?_⟩
                            refine ⟨_, _, _, _, (t : Int), (o : Int), (v25o : Int), (v60o : Int), (0 : Int), rfl, hS, hR, (zRw_88 hR hS), p186hBA2.2.2.2.1, (show bnp (bRs s (bSn s t o)) < 40 from by
  first
  | (rw [t96.1]; omega)
  | (rw [g109.1]; show bnp s < 40; omega)), (by omega), ?_⟩
                            intro v200o I200o p200hv p200bhT2 p200bbfr
                            have g200 : v200o = bnp s := (p200hv.trans (show ((bnp (bRs s (bSn s t o)) : Nat) : Int) = bnp s from by first | rw [t96.1] | rw [g109.1]))
                            refine And.intro (zA_82 hS) (zrdR (v := some 90) (zR_82_11 hR) ?_)
                            refine And.intro (zA_82 hS) (zrdR (v := some 90) (zR_82_11 hR) ?_)
                            refine And.intro (zA_90 hS) ⟨_, sn_A_at.up (by decide), ?_⟩
                            refine ⟨_, _, _, _, (bRn s (bSn s t o)), 1, (v60o : Int), (1 : Int), rfl, hS, hR, (zRw_90 hR hS), (zRT_fr p186hBA2.2.2.2.2.1 (fun c j q => p200bbfr c j (by omega) (by omega))), (show _ = (bRn s (bSn s t o) : Int) ∧ bRn s (bSn s t o) < bnn (bRs s (bSn s t o)) from by
  first
  | (rw [t96.1, t96.2]; omega)
  | (rw [g109.1, g109.2]; exact ⟨by omega, Nat.lt_succ_self _⟩)), (by omega), ?_⟩
                            intro v219o p219hv p219bhr
                            have g219 : v219o = v173o := by
                              have e9 : v173o = bN (bRs s (bSn s t o)) (bRn s (bSn s t o)) 1 := by
                                first
                                | (rw [t96.1, t96.2]; exact p173hv)
                                | (rw [g109.1, g109.2]; rw [p109hv] at p173hv; exact p173hv)
                              rw [e9]
                              exact p219hv.trans (up2z_ne (by omega))
                            refine And.intro (zA_90 hS) ⟨_, sn_A_set.up (by decide), ?_⟩
                            refine ⟨_, _, _, _, (bRn s (bSn s t o)), 1, (v60o : Int), (1 : Int), ((v219o + 1) : Int), rfl, hS, hR, (zRw_90 hR hS), (zRT_fr p186hBA2.2.2.2.2.1 (fun c j q => p200bbfr c j (by omega) (by omega))), (show _ = (bRn s (bSn s t o) : Int) ∧ bRn s (bSn s t o) < bnn (bRs s (bSn s t o)) from by
  first
  | (rw [t96.1, t96.2]; omega)
  | (rw [g109.1, g109.2]; exact ⟨by omega, Nat.lt_succ_self _⟩)), (by omega), (by omega), ?_⟩
                            intro I224o p224hT2 p224bfr
                            refine And.intro (zA_82 hS) (zrdR (v := some 87) (zR_82_9 hR) ?_)
                            refine And.intro ⟨(zx0 rfl), (zP_87 hS (by omega) (by omega))⟩ ⟨_, (zWi (by omega)), ?_⟩
                            refine And.intro (zA_82 hS) (zrdR (v := some 86) (zR_82_8 hR) ?_)
                            refine And.intro ⟨(zx0 rfl), (zP_86 hS (by omega) (by omega))⟩ ⟨_, (zWi (by omega)), ?_⟩
                            refine hQ _ _ ?_ ?_ (fun c j h0 h1 h2 h3 h4 h5 h6 => (zxu h0 (zxu h1 ((p224bfr c j (by omega)).trans ((p200bbfr c j (by omega) (by omega)).trans ((p186bfr c j (by omega) (by omega) (by omega)).trans rfl))))))
                            · first
                              | exact (bPut_2 (by omega) (Or.inl (if_neg (by omega)))).1.symm
                              | exact (bPut_2 (by omega) (by omega)).1.symm
                              | exact (bPut_4 (by omega) (by omega) (by rcases p48hv with w | w; exact w.2; exfalso; omega)).1.symm
                              | exact (bPut_1 (by omega) (by omega) (fun h => by rcases p48hv with w | w; exfalso; omega; obtain ⟨p, a, b, c⟩ := h; exact w.2 p a ⟨b, c⟩) (by omega)).1.symm
                              | exact g200.trans (bPut_k (by omega) (by omega) (fun h => by rcases p48hv with w | w; exfalso; omega; obtain ⟨p, a, b, c⟩ := h; exact w.2 p a ⟨b, c⟩) (by omega) (by
                                  first
                                  | (rw [t96.1, t96.2, ← p25hv]
                                     exact ⟨by omega, by omega, by omega, by omega⟩)
                                  | (rw [g109.1, g109.2, ← p25hv]
                                     rw [p109hv] at p173hv
                                     exact ⟨show bba s v25o.toNat = 0 by omega, show bpa s v25o.toNat = -1 by omega, show bho s v25o.toNat = -1 ∨ bho s v25o.toNat = bnn s by omega, (by have e9 := p173hv; have e8 : v173o < 5 := (by omega); rw [e9] at e8; exact e8)⟩))).1.symm
                              | exact (bPut_f (by omega) (by omega) (fun h => by rcases p48hv with w | w; exfalso; omega; obtain ⟨p, a, b, c⟩ := h; exact w.2 p a ⟨b, c⟩) (by omega) (fun h => by
                                  first
                                  | (rw [t96.1, t96.2, ← p25hv] at h
                                     obtain ⟨h1, h2, h3, h4⟩ := h
                                     omega)
                                  | (rw [g109.1, g109.2, ← p25hv] at h
                                     obtain ⟨h1, h2, h3, h4⟩ := h
                                     have h1' : bba s v25o.toNat = 0 := h1
                                     have h2' : bpa s v25o.toNat = -1 := h2
                                     have h3' : bho s v25o.toNat = -1 ∨ bho s v25o.toNat = bnn s := h3
                                     first
                                     | omega
                                     | (rw [p109hv] at p173hv
                                        have h4' : v173o < 5 := by rw [p173hv]; exact h4
                                        omega)))).1.symm
                            · first
                              | (rw [(bPut_2 (by omega) (Or.inl (if_neg (by omega)))).2]
                                 exact hBA)
                              | (rw [(bPut_2 (by omega) (by omega)).2]
                                 exact hBA)
                              | (rw [(bPut_4 (by omega) (by omega) (by rcases p48hv with w | w; exact w.2; exfalso; omega)).2]
                                 exact hBA)
                              | (rw [(bPut_1 (by omega) (by omega) (fun h => by rcases p48hv with w | w; exfalso; omega; obtain ⟨p, a, b, c⟩ := h; exact w.2 p a ⟨b, c⟩) (by omega)).2]
                                 exact hBA)
                              | (have e25 : v25o = (((cxI (bW s) (bH s) (bD s) l i j).toNat : Nat) : Int) := by omega
                                 rw [(bPut_k (by omega) (by omega) (fun h => by rcases p48hv with w | w; exfalso; omega; obtain ⟨p, a, b, c⟩ := h; exact w.2 p a ⟨b, c⟩) (by omega) (by
                                  first
                                  | (rw [t96.1, t96.2, ← p25hv]
                                     exact ⟨by omega, by omega, by omega, by omega⟩)
                                  | (rw [g109.1, g109.2, ← p25hv]
                                     rw [p109hv] at p173hv
                                     exact ⟨show bba s v25o.toNat = 0 by omega, show bpa s v25o.toNat = -1 by omega, show bho s v25o.toNat = -1 ∨ bho s v25o.toNat = bnn s by omega, (by have e9 := p173hv; have e8 : v173o < 5 := (by omega); rw [e9] at e8; exact e8)⟩))).2]
                                 have z1 := zBA_P p186hBA2 p200bhT2 (fun c j q => p200bbfr c j (by omega) (by omega)) (fun c j _ => rfl)
                                 have z2 := zBA_N z1 p224hT2 (fun c j q => p224bfr c j (by omega)) (fun c j _ => rfl)
                                 obtain ⟨a1, a2, a3, a4, a5, a6, a7, a8⟩ := z2
                                 have e19 : v219o = bN (bRs s (bSn s t o)) (bRn s (bSn s t o)) 1 := p219hv.trans (up2z_ne (by omega))
                                 rw [e19] at a5
                                 have a4' : zRT 88 40 (bnp (bRs s (bSn s t o)) + 1) (upR (bP (bRs s (bSn s t o))) (bnp (bRs s (bSn s t o))) t o ((((cxI (bW s) (bH s) (bD s) l i j).toNat : Nat)) : Int) ((bRn s (bSn s t o) : Nat) : Int) 0) I224o := by
                                   first
                                   | (have e60 : v60o = ((bRn s (bSn s t o) : Nat) : Int) := by omega
                                      rw [← e25, ← e60]
                                      exact a4)
                                   | (have e60 : v109o = ((bRn s (bSn s t o) : Nat) : Int) := by omega
                                      rw [← e25, ← e60]
                                      exact a4)
                                 refine ⟨a1, a2, fun x hx => ⟨(a3 x hx).1, (a3 x hx).2.1, ?_, ?_⟩, a4', a5, a6, a7, a8⟩
                                 · show _ = if x = (cxI (bW s) (bH s) (bD s) l i j).toNat then ((bRn s (bSn s t o) : Nat) : Int) else bho (bLet (bRs s (bSn s t o)) (bRn s (bSn s t o))) x
                                   by_cases e : x = (cxI (bW s) (bH s) (bD s) l i j).toNat
                                   · rw [if_pos e, show x = v25o.toNat by omega]
                                     exact zxe.trans (by omega)
                                   · rw [if_neg e]
                                     exact zxs (by omega) (a3 x hx).2.2.1
                                 · show _ = upF (bpa (bRs s (bSn s t o))) (cxI (bW s) (bH s) (bD s) l i j).toNat (bnp (bRs s (bSn s t o)) : Int) x
                                   by_cases e : x = (cxI (bW s) (bH s) (bD s) l i j).toNat
                                   · rw [e, upF_at, show (cxI (bW s) (bH s) (bD s) l i j).toNat = v25o.toNat by omega]
                                     exact zxu (by decide) (zxe.trans p200hv)
                                   · rw [upF_ne e]
                                     exact zxu (by decide) (zxs (by omega) (a3 x hx).2.2.2))
                              | (rw [(bPut_f (by omega) (by omega) (fun h => by rcases p48hv with w | w; exfalso; omega; obtain ⟨p, a, b, c⟩ := h; exact w.2 p a ⟨b, c⟩) (by omega) (fun h => by
                                  first
                                  | (rw [t96.1, t96.2, ← p25hv] at h
                                     obtain ⟨h1, h2, h3, h4⟩ := h
                                     omega)
                                  | (rw [g109.1, g109.2, ← p25hv] at h
                                     obtain ⟨h1, h2, h3, h4⟩ := h
                                     have h1' : bba s v25o.toNat = 0 := h1
                                     have h2' : bpa s v25o.toNat = -1 := h2
                                     have h3' : bho s v25o.toNat = -1 ∨ bho s v25o.toNat = bnn s := h3
                                     first
                                     | omega
                                     | (rw [p109hv] at p173hv
                                        have h4' : v173o < 5 := by rw [p173hv]; exact h4
                                        omega)))).2]
                                 first
                                 | (rw [t96.1]
                                    exact hBA)
                                 | (rw [g109.1]
                                    exact zBA_addN hBA (zRT_fr p109bhT2 (fun c j q => zxcj (by omega) rfl)) (by rw [show bnn s = v109o.toNat by omega]; exact zxe) (fun c j q => zxcj (by omega) (p109bbfr c j (by omega) (by omega))) (fun c j _ => rfl)))
                          · refine hQ _ _ ?_ ?_ (fun c j h0 h1 h2 h3 h4 h5 h6 => rfl)
                            · first
                              | exact (bPut_2 (by omega) (Or.inl (if_neg (by omega)))).1.symm
                              | exact (bPut_2 (by omega) (by omega)).1.symm
                              | exact (bPut_4 (by omega) (by omega) (by rcases p48hv with w | w; exact w.2; exfalso; omega)).1.symm
                              | exact (bPut_1 (by omega) (by omega) (fun h => by rcases p48hv with w | w; exfalso; omega; obtain ⟨p, a, b, c⟩ := h; exact w.2 p a ⟨b, c⟩) (by omega)).1.symm
                              | exact g200.trans (bPut_k (by omega) (by omega) (fun h => by rcases p48hv with w | w; exfalso; omega; obtain ⟨p, a, b, c⟩ := h; exact w.2 p a ⟨b, c⟩) (by omega) (by
                                  first
                                  | (rw [t96.1, t96.2, ← p25hv]
                                     exact ⟨by omega, by omega, by omega, by omega⟩)
                                  | (rw [g109.1, g109.2, ← p25hv]
                                     rw [p109hv] at p173hv
                                     exact ⟨show bba s v25o.toNat = 0 by omega, show bpa s v25o.toNat = -1 by omega, show bho s v25o.toNat = -1 ∨ bho s v25o.toNat = bnn s by omega, (by have e9 := p173hv; have e8 : v173o < 5 := (by omega); rw [e9] at e8; exact e8)⟩))).1.symm
                              | exact (bPut_f (by omega) (by omega) (fun h => by rcases p48hv with w | w; exfalso; omega; obtain ⟨p, a, b, c⟩ := h; exact w.2 p a ⟨b, c⟩) (by omega) (fun h => by
                                  first
                                  | (rw [t96.1, t96.2, ← p25hv] at h
                                     obtain ⟨h1, h2, h3, h4⟩ := h
                                     omega)
                                  | (rw [g109.1, g109.2, ← p25hv] at h
                                     obtain ⟨h1, h2, h3, h4⟩ := h
                                     have h1' : bba s v25o.toNat = 0 := h1
                                     have h2' : bpa s v25o.toNat = -1 := h2
                                     have h3' : bho s v25o.toNat = -1 ∨ bho s v25o.toNat = bnn s := h3
                                     first
                                     | omega
                                     | (rw [p109hv] at p173hv
                                        have h4' : v173o < 5 := by rw [p173hv]; exact h4
                                        omega)))).1.symm
                            · first
                              | (rw [(bPut_2 (by omega) (Or.inl (if_neg (by omega)))).2]
                                 exact hBA)
                              | (rw [(bPut_2 (by omega) (by omega)).2]
                                 exact hBA)
                              | (rw [(bPut_4 (by omega) (by omega) (by rcases p48hv with w | w; exact w.2; exfalso; omega)).2]
                                 exact hBA)
                              | (rw [(bPut_1 (by omega) (by omega) (fun h => by rcases p48hv with w | w; exfalso; omega; obtain ⟨p, a, b, c⟩ := h; exact w.2 p a ⟨b, c⟩) (by omega)).2]
                                 exact hBA)
                              | (have e25 : v25o = (((cxI (bW s) (bH s) (bD s) l i j).toNat : Nat) : Int) := by omega
                                 rw [(bPut_k (by omega) (by omega) (fun h => by rcases p48hv with w | w; exfalso; omega; obtain ⟨p, a, b, c⟩ := h; exact w.2 p a ⟨b, c⟩) (by omega) (by
                                  first
                                  | (rw [t96.1, t96.2, ← p25hv]
                                     exact ⟨by omega, by omega, by omega, by omega⟩)
                                  | (rw [g109.1, g109.2, ← p25hv]
                                     rw [p109hv] at p173hv
                                     exact ⟨show bba s v25o.toNat = 0 by omega, show bpa s v25o.toNat = -1 by omega, show bho s v25o.toNat = -1 ∨ bho s v25o.toNat = bnn s by omega, (by have e9 := p173hv; have e8 : v173o < 5 := (by omega); rw [e9] at e8; exact e8)⟩))).2]
                                 have z1 := zBA_P p186hBA2 p200bhT2 (fun c j q => p200bbfr c j (by omega) (by omega)) (fun c j _ => rfl)
                                 have z2 := zBA_N z1 p224hT2 (fun c j q => p224bfr c j (by omega)) (fun c j _ => rfl)
                                 obtain ⟨a1, a2, a3, a4, a5, a6, a7, a8⟩ := z2
                                 have e19 : v219o = bN (bRs s (bSn s t o)) (bRn s (bSn s t o)) 1 := p219hv.trans (up2z_ne (by omega))
                                 rw [e19] at a5
                                 have a4' : zRT 88 40 (bnp (bRs s (bSn s t o)) + 1) (upR (bP (bRs s (bSn s t o))) (bnp (bRs s (bSn s t o))) t o ((((cxI (bW s) (bH s) (bD s) l i j).toNat : Nat)) : Int) ((bRn s (bSn s t o) : Nat) : Int) 0) I224o := by
                                   first
                                   | (have e60 : v60o = ((bRn s (bSn s t o) : Nat) : Int) := by omega
                                      rw [← e25, ← e60]
                                      exact a4)
                                   | (have e60 : v109o = ((bRn s (bSn s t o) : Nat) : Int) := by omega
                                      rw [← e25, ← e60]
                                      exact a4)
                                 refine ⟨a1, a2, fun x hx => ⟨(a3 x hx).1, (a3 x hx).2.1, ?_, ?_⟩, a4', a5, a6, a7, a8⟩
                                 · show _ = if x = (cxI (bW s) (bH s) (bD s) l i j).toNat then ((bRn s (bSn s t o) : Nat) : Int) else bho (bLet (bRs s (bSn s t o)) (bRn s (bSn s t o))) x
                                   by_cases e : x = (cxI (bW s) (bH s) (bD s) l i j).toNat
                                   · rw [if_pos e, show x = v25o.toNat by omega]
                                     exact zxe.trans (by omega)
                                   · rw [if_neg e]
                                     exact zxs (by omega) (a3 x hx).2.2.1
                                 · show _ = upF (bpa (bRs s (bSn s t o))) (cxI (bW s) (bH s) (bD s) l i j).toNat (bnp (bRs s (bSn s t o)) : Int) x
                                   by_cases e : x = (cxI (bW s) (bH s) (bD s) l i j).toNat
                                   · rw [e, upF_at, show (cxI (bW s) (bH s) (bD s) l i j).toNat = v25o.toNat by omega]
                                     exact zxu (by decide) (zxe.trans p200hv)
                                   · rw [upF_ne e]
                                     exact zxu (by decide) (zxs (by omega) (a3 x hx).2.2.2))
                              | (rw [(bPut_f (by omega) (by omega) (fun h => by rcases p48hv with w | w; exfalso; omega; obtain ⟨p, a, b, c⟩ := h; exact w.2 p a ⟨b, c⟩) (by omega) (fun h => by
                                  first
                                  | (rw [t96.1, t96.2, ← p25hv] at h
                                     obtain ⟨h1, h2, h3, h4⟩ := h
                                     omega)
                                  | (rw [g109.1, g109.2, ← p25hv] at h
                                     obtain ⟨h1, h2, h3, h4⟩ := h
                                     have h1' : bba s v25o.toNat = 0 := h1
                                     have h2' : bpa s v25o.toNat = -1 := h2
                                     have h3' : bho s v25o.toNat = -1 ∨ bho s v25o.toNat = bnn s := h3
                                     first
                                     | omega
                                     | (rw [p109hv] at p173hv
                                        have h4' : v173o < 5 := by rw [p173hv]; exact h4
                                        omega)))).2]
                                 first
                                 | (rw [t96.1]
                                    exact hBA)
                                 | (rw [g109.1]
                                    exact zBA_addN hBA (zRT_fr p109bhT2 (fun c j q => zxcj (by omega) rfl)) (by rw [show bnn s = v109o.toNat by omega]; exact zxe) (fun c j q => zxcj (by omega) (p109bbfr c j (by omega) (by omega))) (fun c j _ => rfl)))
                  · refine And.intro (zA_82 hS) (zrdR (v := some 90) (zR_82_11 hR) ?_)
                    refine And.intro (zA_90 hS) (Exists.intro _ (And.intro (zinl_ok (zT7_2 1)) (And.intro rfl ?_)))
                    refine And.intro (zA_90 hS) (zrd (v := (bnn s)) hN2 ?_)
                    refine And.intro (zA_90 hS) (zrd (v := 12) hN1 ?_)
                    refine And.intro ⟨(by omega), (zRb rfl)⟩ ⟨fun h8_85 => ?_, fun h8_85 => ?_⟩
                    · refine And.intro (Or.inl rfl) ?_
                      refine And.intro (zRb rfl) (zbf rfl ?_)
                      refine hQ _ _ ?_ ?_ (fun c j h0 h1 h2 h3 h4 h5 h6 => rfl)
                      · first
                        | exact (bPut_2 (by omega) (Or.inl (if_neg (by omega)))).1.symm
                        | exact (bPut_2 (by omega) (by omega)).1.symm
                        | exact (bPut_4 (by omega) (by omega) (by rcases p48hv with w | w; exact w.2; exfalso; omega)).1.symm
                        | exact (bPut_1 (by omega) (by omega) (fun h => by rcases p48hv with w | w; exfalso; omega; obtain ⟨p, a, b, c⟩ := h; exact w.2 p a ⟨b, c⟩) (by omega)).1.symm
                        | exact g200.trans (bPut_k (by omega) (by omega) (fun h => by rcases p48hv with w | w; exfalso; omega; obtain ⟨p, a, b, c⟩ := h; exact w.2 p a ⟨b, c⟩) (by omega) (by
                            first
                            | (rw [t96.1, t96.2, ← p25hv]
                               exact ⟨by omega, by omega, by omega, by omega⟩)
                            | (rw [g109.1, g109.2, ← p25hv]
                               rw [p109hv] at p173hv
                               exact ⟨show bba s v25o.toNat = 0 by omega, show bpa s v25o.toNat = -1 by omega, show bho s v25o.toNat = -1 ∨ bho s v25o.toNat = bnn s by omega, (by have e9 := p173hv; have e8 : v173o < 5 := (by omega); rw [e9] at e8; exact e8)⟩))).1.symm
                        | exact (bPut_f (by omega) (by omega) (fun h => by rcases p48hv with w | w; exfalso; omega; obtain ⟨p, a, b, c⟩ := h; exact w.2 p a ⟨b, c⟩) (by omega) (fun h => by
                            first
                            | (rw [t96.1, t96.2, ← p25hv] at h
                               obtain ⟨h1, h2, h3, h4⟩ := h
                               omega)
                            | (rw [g109.1, g109.2, ← p25hv] at h
                               obtain ⟨h1, h2, h3, h4⟩ := h
                               have h1' : bba s v25o.toNat = 0 := h1
                               have h2' : bpa s v25o.toNat = -1 := h2
                               have h3' : bho s v25o.toNat = -1 ∨ bho s v25o.toNat = bnn s := h3
                               first
                               | omega
                               | (rw [p109hv] at p173hv
                                  have h4' : v173o < 5 := by rw [p173hv]; exact h4
                                  omega)))).1.symm
                      · first
                        | (rw [(bPut_2 (by omega) (Or.inl (if_neg (by omega)))).2]
                           exact hBA)
                        | (rw [(bPut_2 (by omega) (by omega)).2]
                           exact hBA)
                        | (rw [(bPut_4 (by omega) (by omega) (by rcases p48hv with w | w; exact w.2; exfalso; omega)).2]
                           exact hBA)
                        | (rw [(bPut_1 (by omega) (by omega) (fun h => by rcases p48hv with w | w; exfalso; omega; obtain ⟨p, a, b, c⟩ := h; exact w.2 p a ⟨b, c⟩) (by omega)).2]
                           exact hBA)
                        | (have e25 : v25o = (((cxI (bW s) (bH s) (bD s) l i j).toNat : Nat) : Int) := by omega
                           rw [(bPut_k (by omega) (by omega) (fun h => by rcases p48hv with w | w; exfalso; omega; obtain ⟨p, a, b, c⟩ := h; exact w.2 p a ⟨b, c⟩) (by omega) (by
                            first
                            | (rw [t96.1, t96.2, ← p25hv]
                               exact ⟨by omega, by omega, by omega, by omega⟩)
                            | (rw [g109.1, g109.2, ← p25hv]
                               rw [p109hv] at p173hv
                               exact ⟨show bba s v25o.toNat = 0 by omega, show bpa s v25o.toNat = -1 by omega, show bho s v25o.toNat = -1 ∨ bho s v25o.toNat = bnn s by omega, (by have e9 := p173hv; have e8 : v173o < 5 := (by omega); rw [e9] at e8; exact e8)⟩))).2]
                           have z1 := zBA_P p186hBA2 p200bhT2 (fun c j q => p200bbfr c j (by omega) (by omega)) (fun c j _ => rfl)
                           have z2 := zBA_N z1 p224hT2 (fun c j q => p224bfr c j (by omega)) (fun c j _ => rfl)
                           obtain ⟨a1, a2, a3, a4, a5, a6, a7, a8⟩ := z2
                           have e19 : v219o = bN (bRs s (bSn s t o)) (bRn s (bSn s t o)) 1 := p219hv.trans (up2z_ne (by omega))
                           rw [e19] at a5
                           have a4' : zRT 88 40 (bnp (bRs s (bSn s t o)) + 1) (upR (bP (bRs s (bSn s t o))) (bnp (bRs s (bSn s t o))) t o ((((cxI (bW s) (bH s) (bD s) l i j).toNat : Nat)) : Int) ((bRn s (bSn s t o) : Nat) : Int) 0) I224o := by
                             first
                             | (have e60 : v60o = ((bRn s (bSn s t o) : Nat) : Int) := by omega
                                rw [← e25, ← e60]
                                exact a4)
                             | (have e60 : v109o = ((bRn s (bSn s t o) : Nat) : Int) := by omega
                                rw [← e25, ← e60]
                                exact a4)
                           refine ⟨a1, a2, fun x hx => ⟨(a3 x hx).1, (a3 x hx).2.1, ?_, ?_⟩, a4', a5, a6, a7, a8⟩
                           · show _ = if x = (cxI (bW s) (bH s) (bD s) l i j).toNat then ((bRn s (bSn s t o) : Nat) : Int) else bho (bLet (bRs s (bSn s t o)) (bRn s (bSn s t o))) x
                             by_cases e : x = (cxI (bW s) (bH s) (bD s) l i j).toNat
                             · rw [if_pos e, show x = v25o.toNat by omega]
                               exact zxe.trans (by omega)
                             · rw [if_neg e]
                               exact zxs (by omega) (a3 x hx).2.2.1
                           · show _ = upF (bpa (bRs s (bSn s t o))) (cxI (bW s) (bH s) (bD s) l i j).toNat (bnp (bRs s (bSn s t o)) : Int) x
                             by_cases e : x = (cxI (bW s) (bH s) (bD s) l i j).toNat
                             · rw [e, upF_at, show (cxI (bW s) (bH s) (bD s) l i j).toNat = v25o.toNat by omega]
                               exact zxu (by decide) (zxe.trans p200hv)
                             · rw [upF_ne e]
                               exact zxu (by decide) (zxs (by omega) (a3 x hx).2.2.2))
                        | (rw [(bPut_f (by omega) (by omega) (fun h => by rcases p48hv with w | w; exfalso; omega; obtain ⟨p, a, b, c⟩ := h; exact w.2 p a ⟨b, c⟩) (by omega) (fun h => by
                            first
                            | (rw [t96.1, t96.2, ← p25hv] at h
                               obtain ⟨h1, h2, h3, h4⟩ := h
                               omega)
                            | (rw [g109.1, g109.2, ← p25hv] at h
                               obtain ⟨h1, h2, h3, h4⟩ := h
                               have h1' : bba s v25o.toNat = 0 := h1
                               have h2' : bpa s v25o.toNat = -1 := h2
                               have h3' : bho s v25o.toNat = -1 ∨ bho s v25o.toNat = bnn s := h3
                               first
                               | omega
                               | (rw [p109hv] at p173hv
                                  have h4' : v173o < 5 := by rw [p173hv]; exact h4
                                  omega)))).2]
                           first
                           | (rw [t96.1]
                              exact hBA)
                           | (rw [g109.1]
                              exact zBA_addN hBA (zRT_fr p109bhT2 (fun c j q => zxcj (by omega) rfl)) (by rw [show bnn s = v109o.toNat by omega]; exact zxe) (fun c j q => zxcj (by omega) (p109bbfr c j (by omega) (by omega))) (fun c j _ => rfl)))
                    · refine And.intro (Or.inr rfl) ?_
                      refine And.intro (zRb rfl) (zbt rfl ?_)
                      refine And.intro ⟨(by omega), (zRb rfl)⟩ ⟨(fun h96 => False.elim (by omega)), fun h96 => ?_⟩
                      refine And.intro (zA_82 hS) (zrdR (v := some 90) (zR_82_11 hR) ?_)
                      refine And.intro (zA_90 hS) ⟨_, sn_A_add.up (by decide), ?_⟩
                      refine ⟨_, _, _, _, (v40_14 : Int), (0 : Int), (0 : Int), (0 : Int), (0 : Int), rfl, hS, hR, (zRw_90 hR hS), (by first | exact (zRT_fr hNT (fun c j h => rfl)) | (clear hQ; grind [xu])), (by omega), (by omega), ?_⟩
                      intro v109o I109o p109hv p109bhT2 p109bbfr
                      have g109 : bRs s (bSn s t o) = (s.1, bsd s, bho s, bba s, bhi s, bpa s, bnp s, bP s, bnn s + 1, upR (bN s) (bnn s) v40_14 0 0 0 0, upF (bwl s) (bnn s) 0, bwy s, bco s, bnd s) ∧ bRn s (bSn s t o) = bnn s := (by have q := bRs_n (s := s) (sn := bSn s t o) (by omega); rw [f40_14bb] at q ⊢; exact q)
                      refine And.intro (zA_82 hS) (zrdR (v := some 93) (zR_82_13 hR) ?_)
                      refine And.intro ⟨(zx0 rfl), (zP_93 hS (by omega) (by omega))⟩ ⟨_, (zWi (zRb rfl)), ?_⟩
                      refine And.intro (zA_82 hS) (zrdR (v := some 84) (zR_82_6 hR) ?_)
                      refine And.intro (Or.inr (zP_84 hS (by omega) (by omega))) (fun v128 e128 r128 => ?_)
                      have f128 : v128 = bba s v25o.toNat := (e128.trans ((zxcj (by omega) ((p109bbfr 84 _ (by omega) (by omega)).trans rfl)).trans ((congrArg (I 84) (by omega)).trans (hcl v25o.toNat (by omega)).1)))
                      have f128b : v128 ≤ 1 ∧ 0 ≤ v128 := (by have := (gc v25o.toNat (by omega)).1; omega)
                      refine And.intro r128 ⟨fun h129 => ?_, fun h129 => ?_⟩
                      · refine And.intro (zRb rfl) (zbt rfl ?_)
                        refine hQ _ _ ?_ ?_ (fun c j h0 h1 h2 h3 h4 h5 h6 => (zxu h6 ((p109bbfr c j (by omega) (by omega)).trans rfl)))
                        · first
                          | exact (bPut_2 (by omega) (Or.inl (if_neg (by omega)))).1.symm
                          | exact (bPut_2 (by omega) (by omega)).1.symm
                          | exact (bPut_4 (by omega) (by omega) (by rcases p48hv with w | w; exact w.2; exfalso; omega)).1.symm
                          | exact (bPut_1 (by omega) (by omega) (fun h => by rcases p48hv with w | w; exfalso; omega; obtain ⟨p, a, b, c⟩ := h; exact w.2 p a ⟨b, c⟩) (by omega)).1.symm
                          | exact g200.trans (bPut_k (by omega) (by omega) (fun h => by rcases p48hv with w | w; exfalso; omega; obtain ⟨p, a, b, c⟩ := h; exact w.2 p a ⟨b, c⟩) (by omega) (by
                              first
                              | (rw [t96.1, t96.2, ← p25hv]
                                 exact ⟨by omega, by omega, by omega, by omega⟩)
                              | (rw [g109.1, g109.2, ← p25hv]
                                 rw [p109hv] at p173hv
                                 exact ⟨show bba s v25o.toNat = 0 by omega, show bpa s v25o.toNat = -1 by omega, show bho s v25o.toNat = -1 ∨ bho s v25o.toNat = bnn s by omega, (by have e9 := p173hv; have e8 : v173o < 5 := (by omega); rw [e9] at e8; exact e8)⟩))).1.symm
                          | exact (bPut_f (by omega) (by omega) (fun h => by rcases p48hv with w | w; exfalso; omega; obtain ⟨p, a, b, c⟩ := h; exact w.2 p a ⟨b, c⟩) (by omega) (fun h => by
                              first
                              | (rw [t96.1, t96.2, ← p25hv] at h
                                 obtain ⟨h1, h2, h3, h4⟩ := h
                                 omega)
                              | (rw [g109.1, g109.2, ← p25hv] at h
                                 obtain ⟨h1, h2, h3, h4⟩ := h
                                 have h1' : bba s v25o.toNat = 0 := h1
                                 have h2' : bpa s v25o.toNat = -1 := h2
                                 have h3' : bho s v25o.toNat = -1 ∨ bho s v25o.toNat = bnn s := h3
                                 first
                                 | omega
                                 | (rw [p109hv] at p173hv
                                    have h4' : v173o < 5 := by rw [p173hv]; exact h4
                                    omega)))).1.symm
                        · first
                          | (rw [(bPut_2 (by omega) (Or.inl (if_neg (by omega)))).2]
                             exact hBA)
                          | (rw [(bPut_2 (by omega) (by omega)).2]
                             exact hBA)
                          | (rw [(bPut_4 (by omega) (by omega) (by rcases p48hv with w | w; exact w.2; exfalso; omega)).2]
                             exact hBA)
                          | (rw [(bPut_1 (by omega) (by omega) (fun h => by rcases p48hv with w | w; exfalso; omega; obtain ⟨p, a, b, c⟩ := h; exact w.2 p a ⟨b, c⟩) (by omega)).2]
                             exact hBA)
                          | (have e25 : v25o = (((cxI (bW s) (bH s) (bD s) l i j).toNat : Nat) : Int) := by omega
                             rw [(bPut_k (by omega) (by omega) (fun h => by rcases p48hv with w | w; exfalso; omega; obtain ⟨p, a, b, c⟩ := h; exact w.2 p a ⟨b, c⟩) (by omega) (by
                              first
                              | (rw [t96.1, t96.2, ← p25hv]
                                 exact ⟨by omega, by omega, by omega, by omega⟩)
                              | (rw [g109.1, g109.2, ← p25hv]
                                 rw [p109hv] at p173hv
                                 exact ⟨show bba s v25o.toNat = 0 by omega, show bpa s v25o.toNat = -1 by omega, show bho s v25o.toNat = -1 ∨ bho s v25o.toNat = bnn s by omega, (by have e9 := p173hv; have e8 : v173o < 5 := (by omega); rw [e9] at e8; exact e8)⟩))).2]
                             have z1 := zBA_P p186hBA2 p200bhT2 (fun c j q => p200bbfr c j (by omega) (by omega)) (fun c j _ => rfl)
                             have z2 := zBA_N z1 p224hT2 (fun c j q => p224bfr c j (by omega)) (fun c j _ => rfl)
                             obtain ⟨a1, a2, a3, a4, a5, a6, a7, a8⟩ := z2
                             have e19 : v219o = bN (bRs s (bSn s t o)) (bRn s (bSn s t o)) 1 := p219hv.trans (up2z_ne (by omega))
                             rw [e19] at a5
                             have a4' : zRT 88 40 (bnp (bRs s (bSn s t o)) + 1) (upR (bP (bRs s (bSn s t o))) (bnp (bRs s (bSn s t o))) t o ((((cxI (bW s) (bH s) (bD s) l i j).toNat : Nat)) : Int) ((bRn s (bSn s t o) : Nat) : Int) 0) I224o := by
                               first
                               | (have e60 : v60o = ((bRn s (bSn s t o) : Nat) : Int) := by omega
                                  rw [← e25, ← e60]
                                  exact a4)
                               | (have e60 : v109o = ((bRn s (bSn s t o) : Nat) : Int) := by omega
                                  rw [← e25, ← e60]
                                  exact a4)
                             refine ⟨a1, a2, fun x hx => ⟨(a3 x hx).1, (a3 x hx).2.1, ?_, ?_⟩, a4', a5, a6, a7, a8⟩
                             · show _ = if x = (cxI (bW s) (bH s) (bD s) l i j).toNat then ((bRn s (bSn s t o) : Nat) : Int) else bho (bLet (bRs s (bSn s t o)) (bRn s (bSn s t o))) x
                               by_cases e : x = (cxI (bW s) (bH s) (bD s) l i j).toNat
                               · rw [if_pos e, show x = v25o.toNat by omega]
                                 exact zxe.trans (by omega)
                               · rw [if_neg e]
                                 exact zxs (by omega) (a3 x hx).2.2.1
                             · show _ = upF (bpa (bRs s (bSn s t o))) (cxI (bW s) (bH s) (bD s) l i j).toNat (bnp (bRs s (bSn s t o)) : Int) x
                               by_cases e : x = (cxI (bW s) (bH s) (bD s) l i j).toNat
                               · rw [e, upF_at, show (cxI (bW s) (bH s) (bD s) l i j).toNat = v25o.toNat by omega]
                                 exact zxu (by decide) (zxe.trans p200hv)
                               · rw [upF_ne e]
                                 exact zxu (by decide) (zxs (by omega) (a3 x hx).2.2.2))
                          | (rw [(bPut_f (by omega) (by omega) (fun h => by rcases p48hv with w | w; exfalso; omega; obtain ⟨p, a, b, c⟩ := h; exact w.2 p a ⟨b, c⟩) (by omega) (fun h => by
                              first
                              | (rw [t96.1, t96.2, ← p25hv] at h
                                 obtain ⟨h1, h2, h3, h4⟩ := h
                                 omega)
                              | (rw [g109.1, g109.2, ← p25hv] at h
                                 obtain ⟨h1, h2, h3, h4⟩ := h
                                 have h1' : bba s v25o.toNat = 0 := h1
                                 have h2' : bpa s v25o.toNat = -1 := h2
                                 have h3' : bho s v25o.toNat = -1 ∨ bho s v25o.toNat = bnn s := h3
                                 first
                                 | omega
                                 | (rw [p109hv] at p173hv
                                    have h4' : v173o < 5 := by rw [p173hv]; exact h4
                                    omega)))).2]
                             first
                             | (rw [t96.1]
                                exact hBA)
                             | (rw [g109.1]
                                exact zBA_addN hBA (zRT_fr p109bhT2 (fun c j q => zxcj (by omega) rfl)) (by rw [show bnn s = v109o.toNat by omega]; exact zxe) (fun c j q => zxcj (by omega) (p109bbfr c j (by omega) (by omega))) (fun c j _ => rfl)))
                      · refine And.intro (zA_82 hS) (zrdR (v := some 87) (zR_82_9 hR) ?_)
                        refine And.intro (zP_87 hS (by omega) (by omega)) (fun v138 e138 r138 => ?_)
                        have f138 : v138 = bpa s v25o.toNat := (e138.trans ((zxcj (by omega) ((p109bbfr 87 _ (by omega) (by omega)).trans rfl)).trans ((congrArg (I 87) (by omega)).trans (hcl v25o.toNat (by omega)).2.2.2)))
                        refine And.intro ⟨r138, (zRb rfl)⟩ ⟨fun h140 => ?_, fun h140 => ?_⟩
                        · refine And.intro (zRb rfl) (zbt rfl ?_)
                          refine hQ _ _ ?_ ?_ (fun c j h0 h1 h2 h3 h4 h5 h6 => (zxu h6 ((p109bbfr c j (by omega) (by omega)).trans rfl)))
                          · first
                            | exact (bPut_2 (by omega) (Or.inl (if_neg (by omega)))).1.symm
                            | exact (bPut_2 (by omega) (by omega)).1.symm
                            | exact (bPut_4 (by omega) (by omega) (by rcases p48hv with w | w; exact w.2; exfalso; omega)).1.symm
                            | exact (bPut_1 (by omega) (by omega) (fun h => by rcases p48hv with w | w; exfalso; omega; obtain ⟨p, a, b, c⟩ := h; exact w.2 p a ⟨b, c⟩) (by omega)).1.symm
                            | exact g200.trans (bPut_k (by omega) (by omega) (fun h => by rcases p48hv with w | w; exfalso; omega; obtain ⟨p, a, b, c⟩ := h; exact w.2 p a ⟨b, c⟩) (by omega) (by
                                first
                                | (rw [t96.1, t96.2, ← p25hv]
                                   exact ⟨by omega, by omega, by omega, by omega⟩)
                                | (rw [g109.1, g109.2, ← p25hv]
                                   rw [p109hv] at p173hv
                                   exact ⟨show bba s v25o.toNat = 0 by omega, show bpa s v25o.toNat = -1 by omega, show bho s v25o.toNat = -1 ∨ bho s v25o.toNat = bnn s by omega, (by have e9 := p173hv; have e8 : v173o < 5 := (by omega); rw [e9] at e8; exact e8)⟩))).1.symm
                            | exact (bPut_f (by omega) (by omega) (fun h => by rcases p48hv with w | w; exfalso; omega; obtain ⟨p, a, b, c⟩ := h; exact w.2 p a ⟨b, c⟩) (by omega) (fun h => by
                                first
                                | (rw [t96.1, t96.2, ← p25hv] at h
                                   obtain ⟨h1, h2, h3, h4⟩ := h
                                   omega)
                                | (rw [g109.1, g109.2, ← p25hv] at h
                                   obtain ⟨h1, h2, h3, h4⟩ := h
                                   have h1' : bba s v25o.toNat = 0 := h1
                                   have h2' : bpa s v25o.toNat = -1 := h2
                                   have h3' : bho s v25o.toNat = -1 ∨ bho s v25o.toNat = bnn s := h3
                                   first
                                   | omega
                                   | (rw [p109hv] at p173hv
                                      have h4' : v173o < 5 := by rw [p173hv]; exact h4
                                      omega)))).1.symm
                          · first
                            | (rw [(bPut_2 (by omega) (Or.inl (if_neg (by omega)))).2]
                               exact hBA)
                            | (rw [(bPut_2 (by omega) (by omega)).2]
                               exact hBA)
                            | (rw [(bPut_4 (by omega) (by omega) (by rcases p48hv with w | w; exact w.2; exfalso; omega)).2]
                               exact hBA)
                            | (rw [(bPut_1 (by omega) (by omega) (fun h => by rcases p48hv with w | w; exfalso; omega; obtain ⟨p, a, b, c⟩ := h; exact w.2 p a ⟨b, c⟩) (by omega)).2]
                               exact hBA)
                            | (have e25 : v25o = (((cxI (bW s) (bH s) (bD s) l i j).toNat : Nat) : Int) := by omega
                               rw [(bPut_k (by omega) (by omega) (fun h => by rcases p48hv with w | w; exfalso; omega; obtain ⟨p, a, b, c⟩ := h; exact w.2 p a ⟨b, c⟩) (by omega) (by
                                first
                                | (rw [t96.1, t96.2, ← p25hv]
                                   exact ⟨by omega, by omega, by omega, by omega⟩)
                                | (rw [g109.1, g109.2, ← p25hv]
                                   rw [p109hv] at p173hv
                                   exact ⟨show bba s v25o.toNat = 0 by omega, show bpa s v25o.toNat = -1 by omega, show bho s v25o.toNat = -1 ∨ bho s v25o.toNat = bnn s by omega, (by have e9 := p173hv; have e8 : v173o < 5 := (by omega); rw [e9] at e8; exact e8)⟩))).2]
                               have z1 := zBA_P p186hBA2 p200bhT2 (fun c j q => p200bbfr c j (by omega) (by omega)) (fun c j _ => rfl)
                               have z2 := zBA_N z1 p224hT2 (fun c j q => p224bfr c j (by omega)) (fun c j _ => rfl)
                               obtain ⟨a1, a2, a3, a4, a5, a6, a7, a8⟩ := z2
                               have e19 : v219o = bN (bRs s (bSn s t o)) (bRn s (bSn s t o)) 1 := p219hv.trans (up2z_ne (by omega))
                               rw [e19] at a5
                               have a4' : zRT 88 40 (bnp (bRs s (bSn s t o)) + 1) (upR (bP (bRs s (bSn s t o))) (bnp (bRs s (bSn s t o))) t o ((((cxI (bW s) (bH s) (bD s) l i j).toNat : Nat)) : Int) ((bRn s (bSn s t o) : Nat) : Int) 0) I224o := by
                                 first
                                 | (have e60 : v60o = ((bRn s (bSn s t o) : Nat) : Int) := by omega
                                    rw [← e25, ← e60]
                                    exact a4)
                                 | (have e60 : v109o = ((bRn s (bSn s t o) : Nat) : Int) := by omega
                                    rw [← e25, ← e60]
                                    exact a4)
                               refine ⟨a1, a2, fun x hx => ⟨(a3 x hx).1, (a3 x hx).2.1, ?_, ?_⟩, a4', a5, a6, a7, a8⟩
                               · show _ = if x = (cxI (bW s) (bH s) (bD s) l i j).toNat then ((bRn s (bSn s t o) : Nat) : Int) else bho (bLet (bRs s (bSn s t o)) (bRn s (bSn s t o))) x
                                 by_cases e : x = (cxI (bW s) (bH s) (bD s) l i j).toNat
                                 · rw [if_pos e, show x = v25o.toNat by omega]
                                   exact zxe.trans (by omega)
                                 · rw [if_neg e]
                                   exact zxs (by omega) (a3 x hx).2.2.1
                               · show _ = upF (bpa (bRs s (bSn s t o))) (cxI (bW s) (bH s) (bD s) l i j).toNat (bnp (bRs s (bSn s t o)) : Int) x
                                 by_cases e : x = (cxI (bW s) (bH s) (bD s) l i j).toNat
                                 · rw [e, upF_at, show (cxI (bW s) (bH s) (bD s) l i j).toNat = v25o.toNat by omega]
                                   exact zxu (by decide) (zxe.trans p200hv)
                                 · rw [upF_ne e]
                                   exact zxu (by decide) (zxs (by omega) (a3 x hx).2.2.2))
                            | (rw [(bPut_f (by omega) (by omega) (fun h => by rcases p48hv with w | w; exfalso; omega; obtain ⟨p, a, b, c⟩ := h; exact w.2 p a ⟨b, c⟩) (by omega) (fun h => by
                                first
                                | (rw [t96.1, t96.2, ← p25hv] at h
                                   obtain ⟨h1, h2, h3, h4⟩ := h
                                   omega)
                                | (rw [g109.1, g109.2, ← p25hv] at h
                                   obtain ⟨h1, h2, h3, h4⟩ := h
                                   have h1' : bba s v25o.toNat = 0 := h1
                                   have h2' : bpa s v25o.toNat = -1 := h2
                                   have h3' : bho s v25o.toNat = -1 ∨ bho s v25o.toNat = bnn s := h3
                                   first
                                   | omega
                                   | (rw [p109hv] at p173hv
                                      have h4' : v173o < 5 := by rw [p173hv]; exact h4
                                      omega)))).2]
                               first
                               | (rw [t96.1]
                                  exact hBA)
                               | (rw [g109.1]
                                  exact zBA_addN hBA (zRT_fr p109bhT2 (fun c j q => zxcj (by omega) rfl)) (by rw [show bnn s = v109o.toNat by omega]; exact zxe) (fun c j q => zxcj (by omega) (p109bbfr c j (by omega) (by omega))) (fun c j _ => rfl)))
                        · refine And.intro (zA_82 hS) ⟨_, sn_A_hby.up (by decide), ?_⟩
                          refine ⟨(v25o : Int), (v109o : Int), (v25o).toNat, (bho s v25o.toNat), rfl, hS, hR, (by omega), (by first | exact (hcl v25o.toNat (by omega)).2.2.1 | exact (zxcj (by omega) ((p109bbfr 86 v25o.toNat (by omega) (by omega)).trans (hcl v25o.toNat (by omega)).2.2.1))), (by omega), ?_⟩
                          intro v148o p148hv
                          refine And.intro (by omega) ⟨fun h151 => ?_, fun h151 => ?_⟩
                          · refine And.intro (zRb rfl) (zbt rfl ?_)
                            refine hQ _ _ ?_ ?_ (fun c j h0 h1 h2 h3 h4 h5 h6 => (zxu h6 ((p109bbfr c j (by omega) (by omega)).trans rfl)))
                            · first
                              | exact (bPut_2 (by omega) (Or.inl (if_neg (by omega)))).1.symm
                              | exact (bPut_2 (by omega) (by omega)).1.symm
                              | exact (bPut_4 (by omega) (by omega) (by rcases p48hv with w | w; exact w.2; exfalso; omega)).1.symm
                              | exact (bPut_1 (by omega) (by omega) (fun h => by rcases p48hv with w | w; exfalso; omega; obtain ⟨p, a, b, c⟩ := h; exact w.2 p a ⟨b, c⟩) (by omega)).1.symm
                              | exact g200.trans (bPut_k (by omega) (by omega) (fun h => by rcases p48hv with w | w; exfalso; omega; obtain ⟨p, a, b, c⟩ := h; exact w.2 p a ⟨b, c⟩) (by omega) (by
                                  first
                                  | (rw [t96.1, t96.2, ← p25hv]
                                     exact ⟨by omega, by omega, by omega, by omega⟩)
                                  | (rw [g109.1, g109.2, ← p25hv]
                                     rw [p109hv] at p173hv
                                     exact ⟨show bba s v25o.toNat = 0 by omega, show bpa s v25o.toNat = -1 by omega, show bho s v25o.toNat = -1 ∨ bho s v25o.toNat = bnn s by omega, (by have e9 := p173hv; have e8 : v173o < 5 := (by omega); rw [e9] at e8; exact e8)⟩))).1.symm
                              | exact (bPut_f (by omega) (by omega) (fun h => by rcases p48hv with w | w; exfalso; omega; obtain ⟨p, a, b, c⟩ := h; exact w.2 p a ⟨b, c⟩) (by omega) (fun h => by
                                  first
                                  | (rw [t96.1, t96.2, ← p25hv] at h
                                     obtain ⟨h1, h2, h3, h4⟩ := h
                                     omega)
                                  | (rw [g109.1, g109.2, ← p25hv] at h
                                     obtain ⟨h1, h2, h3, h4⟩ := h
                                     have h1' : bba s v25o.toNat = 0 := h1
                                     have h2' : bpa s v25o.toNat = -1 := h2
                                     have h3' : bho s v25o.toNat = -1 ∨ bho s v25o.toNat = bnn s := h3
                                     first
                                     | omega
                                     | (rw [p109hv] at p173hv
                                        have h4' : v173o < 5 := by rw [p173hv]; exact h4
                                        omega)))).1.symm
                            · first
                              | (rw [(bPut_2 (by omega) (Or.inl (if_neg (by omega)))).2]
                                 exact hBA)
                              | (rw [(bPut_2 (by omega) (by omega)).2]
                                 exact hBA)
                              | (rw [(bPut_4 (by omega) (by omega) (by rcases p48hv with w | w; exact w.2; exfalso; omega)).2]
                                 exact hBA)
                              | (rw [(bPut_1 (by omega) (by omega) (fun h => by rcases p48hv with w | w; exfalso; omega; obtain ⟨p, a, b, c⟩ := h; exact w.2 p a ⟨b, c⟩) (by omega)).2]
                                 exact hBA)
                              | (have e25 : v25o = (((cxI (bW s) (bH s) (bD s) l i j).toNat : Nat) : Int) := by omega
                                 rw [(bPut_k (by omega) (by omega) (fun h => by rcases p48hv with w | w; exfalso; omega; obtain ⟨p, a, b, c⟩ := h; exact w.2 p a ⟨b, c⟩) (by omega) (by
                                  first
                                  | (rw [t96.1, t96.2, ← p25hv]
                                     exact ⟨by omega, by omega, by omega, by omega⟩)
                                  | (rw [g109.1, g109.2, ← p25hv]
                                     rw [p109hv] at p173hv
                                     exact ⟨show bba s v25o.toNat = 0 by omega, show bpa s v25o.toNat = -1 by omega, show bho s v25o.toNat = -1 ∨ bho s v25o.toNat = bnn s by omega, (by have e9 := p173hv; have e8 : v173o < 5 := (by omega); rw [e9] at e8; exact e8)⟩))).2]
                                 have z1 := zBA_P p186hBA2 p200bhT2 (fun c j q => p200bbfr c j (by omega) (by omega)) (fun c j _ => rfl)
                                 have z2 := zBA_N z1 p224hT2 (fun c j q => p224bfr c j (by omega)) (fun c j _ => rfl)
                                 obtain ⟨a1, a2, a3, a4, a5, a6, a7, a8⟩ := z2
                                 have e19 : v219o = bN (bRs s (bSn s t o)) (bRn s (bSn s t o)) 1 := p219hv.trans (up2z_ne (by omega))
                                 rw [e19] at a5
                                 have a4' : zRT 88 40 (bnp (bRs s (bSn s t o)) + 1) (upR (bP (bRs s (bSn s t o))) (bnp (bRs s (bSn s t o))) t o ((((cxI (bW s) (bH s) (bD s) l i j).toNat : Nat)) : Int) ((bRn s (bSn s t o) : Nat) : Int) 0) I224o := by
                                   first
                                   | (have e60 : v60o = ((bRn s (bSn s t o) : Nat) : Int) := by omega
                                      rw [← e25, ← e60]
                                      exact a4)
                                   | (have e60 : v109o = ((bRn s (bSn s t o) : Nat) : Int) := by omega
                                      rw [← e25, ← e60]
                                      exact a4)
                                 refine ⟨a1, a2, fun x hx => ⟨(a3 x hx).1, (a3 x hx).2.1, ?_, ?_⟩, a4', a5, a6, a7, a8⟩
                                 · show _ = if x = (cxI (bW s) (bH s) (bD s) l i j).toNat then ((bRn s (bSn s t o) : Nat) : Int) else bho (bLet (bRs s (bSn s t o)) (bRn s (bSn s t o))) x
                                   by_cases e : x = (cxI (bW s) (bH s) (bD s) l i j).toNat
                                   · rw [if_pos e, show x = v25o.toNat by omega]
                                     exact zxe.trans (by omega)
                                   · rw [if_neg e]
                                     exact zxs (by omega) (a3 x hx).2.2.1
                                 · show _ = upF (bpa (bRs s (bSn s t o))) (cxI (bW s) (bH s) (bD s) l i j).toNat (bnp (bRs s (bSn s t o)) : Int) x
                                   by_cases e : x = (cxI (bW s) (bH s) (bD s) l i j).toNat
                                   · rw [e, upF_at, show (cxI (bW s) (bH s) (bD s) l i j).toNat = v25o.toNat by omega]
                                     exact zxu (by decide) (zxe.trans p200hv)
                                   · rw [upF_ne e]
                                     exact zxu (by decide) (zxs (by omega) (a3 x hx).2.2.2))
                              | (rw [(bPut_f (by omega) (by omega) (fun h => by rcases p48hv with w | w; exfalso; omega; obtain ⟨p, a, b, c⟩ := h; exact w.2 p a ⟨b, c⟩) (by omega) (fun h => by
                                  first
                                  | (rw [t96.1, t96.2, ← p25hv] at h
                                     obtain ⟨h1, h2, h3, h4⟩ := h
                                     omega)
                                  | (rw [g109.1, g109.2, ← p25hv] at h
                                     obtain ⟨h1, h2, h3, h4⟩ := h
                                     have h1' : bba s v25o.toNat = 0 := h1
                                     have h2' : bpa s v25o.toNat = -1 := h2
                                     have h3' : bho s v25o.toNat = -1 ∨ bho s v25o.toNat = bnn s := h3
                                     first
                                     | omega
                                     | (rw [p109hv] at p173hv
                                        have h4' : v173o < 5 := by rw [p173hv]; exact h4
                                        omega)))).2]
                                 first
                                 | (rw [t96.1]
                                    exact hBA)
                                 | (rw [g109.1]
                                    exact zBA_addN hBA (zRT_fr p109bhT2 (fun c j q => zxcj (by omega) rfl)) (by rw [show bnn s = v109o.toNat by omega]; exact zxe) (fun c j q => zxcj (by omega) (p109bbfr c j (by omega) (by omega))) (fun c j _ => rfl)))
                          · refine And.intro (zRb rfl) (zbf rfl ?_)
                            refine And.intro (zA_82 hS) (zrdR (v := some 90) (zR_82_11 hR) ?_)
                            refine And.intro (zA_90 hS) ⟨_, sn_A_at.up (by decide), ?_⟩
                            refine ⟨_, _, _, _, (v109o).toNat, 1, (v109o : Int), (1 : Int), rfl, hS, hR, (zRw_90 hR hS), (by first | exact hNT | exact (zRT_fr p109bhT2 (fun c j q => zxcj (by omega) rfl))), (by omega), (by omega), ?_⟩
                            intro v173o p173hv p173bhr
                            refine And.intro ⟨(by omega), (zRb rfl)⟩ ⟨fun h177 => ?_, fun h177 => ?_⟩
                            · refine And.intro (zA_82 hS) ⟨_, sn_A_letGo.up (by decide), ?_⟩
                              refine ⟨b, (bRs s (bSn s t o)), (bRn s (bSn s t o)), (v109o : Int), rfl, hS, hR, (by
  first
  | (rw [t96.1]
     exact hBA)
  | (rw [g109.1]
     exact zBA_addN hBA (zRT_fr p109bhT2 (fun c j q => zxcj (by omega) rfl)) (by rw [show bnn s = v109o.toNat by omega]; exact zxe) (fun c j q => zxcj (by omega) (p109bbfr c j (by omega) (by omega))) (fun c j _ => rfl))), (by
  first
  | (rw [t96.1, t96.2]; omega)
  | (rw [g109.1, g109.2]; exact ⟨by omega, Nat.lt_succ_self _⟩)), (by
  first
  | (rw [t96.1, t96.2]
     have q := gn v60o.toNat (by omega)
     exact ⟨q.2.2.2.2.1, fun k hk => ⟨Nat.lt_of_lt_of_le (q.2.2.2.2.2.2.1 k hk).1 gB9, (q.2.2.2.2.2.2.1 k hk).2⟩, q.2.2.2.2.2.2.2⟩)
  | (rw [g109.1, g109.2]
     refine ⟨(show upF (bwl s) (bnn s) 0 (bnn s) ≤ 1024 by rw [upF_at]; omega), fun k hk => absurd (show k < upF (bwl s) (bnn s) 0 (bnn s) from hk) (by rw [upF_at]; omega), fun c hc h9 _ => ?_⟩
     exfalso
     have w := gc c hc
     have h8 : bho s c = bnn s := h9
     omega)), ?_⟩
                              intro I186o p186hBA2 p186bfr
                              refine And.intro (zA_82 hS) (zrdR (v := some 88) (zR_82_10 hR) ?_)
                              refine And.intro (zA_88 hS) ⟨_, sn_A_add.up (by decide), ?_⟩
                              refine ⟨_, _, _, _, (t : Int), (o : Int), (v25o : Int), (v109o : Int), (0 : Int), rfl, hS, hR, (zRw_88 hR hS), p186hBA2.2.2.2.1, (show bnp (bRs s (bSn s t o)) < 40 from by
  first
  | (rw [t96.1]; omega)
  | (rw [g109.1]; show bnp s < 40; omega)), (by omega), ?_⟩
                              intro v200o I200o p200hv p200bhT2 p200bbfr
                              have g200 : v200o = bnp s := (p200hv.trans (show ((bnp (bRs s (bSn s t o)) : Nat) : Int) = bnp s from by first | rw [t96.1] | rw [g109.1]))
                              refine And.intro (zA_82 hS) (zrdR (v := some 90) (zR_82_11 hR) ?_)
                              refine And.intro (zA_82 hS) (zrdR (v := some 90) (zR_82_11 hR) ?_)
                              refine And.intro (zA_90 hS) ⟨_, sn_A_at.up (by decide), ?_⟩
                              refine ⟨_, _, _, _, (bRn s (bSn s t o)), 1, (v109o : Int), (1 : Int), rfl, hS, hR, (zRw_90 hR hS), (zRT_fr p186hBA2.2.2.2.2.1 (fun c j q => p200bbfr c j (by omega) (by omega))), (show _ = (bRn s (bSn s t o) : Int) ∧ bRn s (bSn s t o) < bnn (bRs s (bSn s t o)) from by
  first
  | (rw [t96.1, t96.2]; omega)
  | (rw [g109.1, g109.2]; exact ⟨by omega, Nat.lt_succ_self _⟩)), (by omega), ?_⟩
                              intro v219o p219hv p219bhr
                              have g219 : v219o = v173o := by
                                have e9 : v173o = bN (bRs s (bSn s t o)) (bRn s (bSn s t o)) 1 := by
                                  first
                                  | (rw [t96.1, t96.2]; exact p173hv)
                                  | (rw [g109.1, g109.2]; rw [p109hv] at p173hv; exact p173hv)
                                rw [e9]
                                exact p219hv.trans (up2z_ne (by omega))
                              refine And.intro (zA_90 hS) ⟨_, sn_A_set.up (by decide), ?_⟩
                              refine ⟨_, _, _, _, (bRn s (bSn s t o)), 1, (v109o : Int), (1 : Int), ((v219o + 1) : Int), rfl, hS, hR, (zRw_90 hR hS), (zRT_fr p186hBA2.2.2.2.2.1 (fun c j q => p200bbfr c j (by omega) (by omega))), (show _ = (bRn s (bSn s t o) : Int) ∧ bRn s (bSn s t o) < bnn (bRs s (bSn s t o)) from by
  first
  | (rw [t96.1, t96.2]; omega)
  | (rw [g109.1, g109.2]; exact ⟨by omega, Nat.lt_succ_self _⟩)), (by omega), (by omega), ?_⟩
                              intro I224o p224hT2 p224bfr
                              refine And.intro (zA_82 hS) (zrdR (v := some 87) (zR_82_9 hR) ?_)
                              refine And.intro ⟨(zx0 rfl), (zP_87 hS (by omega) (by omega))⟩ ⟨_, (zWi (by omega)), ?_⟩
                              refine And.intro (zA_82 hS) (zrdR (v := some 86) (zR_82_8 hR) ?_)
                              refine And.intro ⟨(zx0 rfl), (zP_86 hS (by omega) (by omega))⟩ ⟨_, (zWi (by omega)), ?_⟩
                              refine hQ _ _ ?_ ?_ (fun c j h0 h1 h2 h3 h4 h5 h6 => (zxu h0 (zxu h1 ((p224bfr c j (by omega)).trans ((p200bbfr c j (by omega) (by omega)).trans ((p186bfr c j (by omega) (by omega) (by omega)).trans (zxu h6 ((p109bbfr c j (by omega) (by omega)).trans rfl))))))))
                              · first
                                | exact (bPut_2 (by omega) (Or.inl (if_neg (by omega)))).1.symm
                                | exact (bPut_2 (by omega) (by omega)).1.symm
                                | exact (bPut_4 (by omega) (by omega) (by rcases p48hv with w | w; exact w.2; exfalso; omega)).1.symm
                                | exact (bPut_1 (by omega) (by omega) (fun h => by rcases p48hv with w | w; exfalso; omega; obtain ⟨p, a, b, c⟩ := h; exact w.2 p a ⟨b, c⟩) (by omega)).1.symm
                                | exact g200.trans (bPut_k (by omega) (by omega) (fun h => by rcases p48hv with w | w; exfalso; omega; obtain ⟨p, a, b, c⟩ := h; exact w.2 p a ⟨b, c⟩) (by omega) (by
                                    first
                                    | (rw [t96.1, t96.2, ← p25hv]
                                       exact ⟨by omega, by omega, by omega, by omega⟩)
                                    | (rw [g109.1, g109.2, ← p25hv]
                                       rw [p109hv] at p173hv
                                       exact ⟨show bba s v25o.toNat = 0 by omega, show bpa s v25o.toNat = -1 by omega, show bho s v25o.toNat = -1 ∨ bho s v25o.toNat = bnn s by omega, (by have e9 := p173hv; have e8 : v173o < 5 := (by omega); rw [e9] at e8; exact e8)⟩))).1.symm
                                | exact (bPut_f (by omega) (by omega) (fun h => by rcases p48hv with w | w; exfalso; omega; obtain ⟨p, a, b, c⟩ := h; exact w.2 p a ⟨b, c⟩) (by omega) (fun h => by
                                    first
                                    | (rw [t96.1, t96.2, ← p25hv] at h
                                       obtain ⟨h1, h2, h3, h4⟩ := h
                                       omega)
                                    | (rw [g109.1, g109.2, ← p25hv] at h
                                       obtain ⟨h1, h2, h3, h4⟩ := h
                                       have h1' : bba s v25o.toNat = 0 := h1
                                       have h2' : bpa s v25o.toNat = -1 := h2
                                       have h3' : bho s v25o.toNat = -1 ∨ bho s v25o.toNat = bnn s := h3
                                       first
                                       | omega
                                       | (rw [p109hv] at p173hv
                                          have h4' : v173o < 5 := by rw [p173hv]; exact h4
                                          omega)))).1.symm
                              · first
                                | (rw [(bPut_2 (by omega) (Or.inl (if_neg (by omega)))).2]
                                   exact hBA)
                                | (rw [(bPut_2 (by omega) (by omega)).2]
                                   exact hBA)
                                | (rw [(bPut_4 (by omega) (by omega) (by rcases p48hv with w | w; exact w.2; exfalso; omega)).2]
                                   exact hBA)
                                | (rw [(bPut_1 (by omega) (by omega) (fun h => by rcases p48hv with w | w; exfalso; omega; obtain ⟨p, a, b, c⟩ := h; exact w.2 p a ⟨b, c⟩) (by omega)).2]
                                   exact hBA)
                                | (have e25 : v25o = (((cxI (bW s) (bH s) (bD s) l i j).toNat : Nat) : Int) := by omega
                                   rw [(bPut_k (by omega) (by omega) (fun h => by rcases p48hv with w | w; exfalso; omega; obtain ⟨p, a, b, c⟩ := h; exact w.2 p a ⟨b, c⟩) (by omega) (by
                                    first
                                    | (rw [t96.1, t96.2, ← p25hv]
                                       exact ⟨by omega, by omega, by omega, by omega⟩)
                                    | (rw [g109.1, g109.2, ← p25hv]
                                       rw [p109hv] at p173hv
                                       exact ⟨show bba s v25o.toNat = 0 by omega, show bpa s v25o.toNat = -1 by omega, show bho s v25o.toNat = -1 ∨ bho s v25o.toNat = bnn s by omega, (by have e9 := p173hv; have e8 : v173o < 5 := (by omega); rw [e9] at e8; exact e8)⟩))).2]
                                   have z1 := zBA_P p186hBA2 p200bhT2 (fun c j q => p200bbfr c j (by omega) (by omega)) (fun c j _ => rfl)
                                   have z2 := zBA_N z1 p224hT2 (fun c j q => p224bfr c j (by omega)) (fun c j _ => rfl)
                                   obtain ⟨a1, a2, a3, a4, a5, a6, a7, a8⟩ := z2
                                   have e19 : v219o = bN (bRs s (bSn s t o)) (bRn s (bSn s t o)) 1 := p219hv.trans (up2z_ne (by omega))
                                   rw [e19] at a5
                                   have a4' : zRT 88 40 (bnp (bRs s (bSn s t o)) + 1) (upR (bP (bRs s (bSn s t o))) (bnp (bRs s (bSn s t o))) t o ((((cxI (bW s) (bH s) (bD s) l i j).toNat : Nat)) : Int) ((bRn s (bSn s t o) : Nat) : Int) 0) I224o := by
                                     first
                                     | (have e60 : v60o = ((bRn s (bSn s t o) : Nat) : Int) := by omega
                                        rw [← e25, ← e60]
                                        exact a4)
                                     | (have e60 : v109o = ((bRn s (bSn s t o) : Nat) : Int) := by omega
                                        rw [← e25, ← e60]
                                        exact a4)
                                   refine ⟨a1, a2, fun x hx => ⟨(a3 x hx).1, (a3 x hx).2.1, ?_, ?_⟩, a4', a5, a6, a7, a8⟩
                                   · show _ = if x = (cxI (bW s) (bH s) (bD s) l i j).toNat then ((bRn s (bSn s t o) : Nat) : Int) else bho (bLet (bRs s (bSn s t o)) (bRn s (bSn s t o))) x
                                     by_cases e : x = (cxI (bW s) (bH s) (bD s) l i j).toNat
                                     · rw [if_pos e, show x = v25o.toNat by omega]
                                       exact zxe.trans (by omega)
                                     · rw [if_neg e]
                                       exact zxs (by omega) (a3 x hx).2.2.1
                                   · show _ = upF (bpa (bRs s (bSn s t o))) (cxI (bW s) (bH s) (bD s) l i j).toNat (bnp (bRs s (bSn s t o)) : Int) x
                                     by_cases e : x = (cxI (bW s) (bH s) (bD s) l i j).toNat
                                     · rw [e, upF_at, show (cxI (bW s) (bH s) (bD s) l i j).toNat = v25o.toNat by omega]
                                       exact zxu (by decide) (zxe.trans p200hv)
                                     · rw [upF_ne e]
                                       exact zxu (by decide) (zxs (by omega) (a3 x hx).2.2.2))
                                | (rw [(bPut_f (by omega) (by omega) (fun h => by rcases p48hv with w | w; exfalso; omega; obtain ⟨p, a, b, c⟩ := h; exact w.2 p a ⟨b, c⟩) (by omega) (fun h => by
                                    first
                                    | (rw [t96.1, t96.2, ← p25hv] at h
                                       obtain ⟨h1, h2, h3, h4⟩ := h
                                       omega)
                                    | (rw [g109.1, g109.2, ← p25hv] at h
                                       obtain ⟨h1, h2, h3, h4⟩ := h
                                       have h1' : bba s v25o.toNat = 0 := h1
                                       have h2' : bpa s v25o.toNat = -1 := h2
                                       have h3' : bho s v25o.toNat = -1 ∨ bho s v25o.toNat = bnn s := h3
                                       first
                                       | omega
                                       | (rw [p109hv] at p173hv
                                          have h4' : v173o < 5 := by rw [p173hv]; exact h4
                                          omega)))).2]
                                   first
                                   | (rw [t96.1]
                                      exact hBA)
                                   | (rw [g109.1]
                                      exact zBA_addN hBA (zRT_fr p109bhT2 (fun c j q => zxcj (by omega) rfl)) (by rw [show bnn s = v109o.toNat by omega]; exact zxe) (fun c j q => zxcj (by omega) (p109bbfr c j (by omega) (by omega))) (fun c j _ => rfl)))
                            · refine hQ _ _ ?_ ?_ (fun c j h0 h1 h2 h3 h4 h5 h6 => (zxu h6 ((p109bbfr c j (by omega) (by omega)).trans rfl)))
                              · first
                                | exact (bPut_2 (by omega) (Or.inl (if_neg (by omega)))).1.symm
                                | exact (bPut_2 (by omega) (by omega)).1.symm
                                | exact (bPut_4 (by omega) (by omega) (by rcases p48hv with w | w; exact w.2; exfalso; omega)).1.symm
                                | exact (bPut_1 (by omega) (by omega) (fun h => by rcases p48hv with w | w; exfalso; omega; obtain ⟨p, a, b, c⟩ := h; exact w.2 p a ⟨b, c⟩) (by omega)).1.symm
                                | exact g200.trans (bPut_k (by omega) (by omega) (fun h => by rcases p48hv with w | w; exfalso; omega; obtain ⟨p, a, b, c⟩ := h; exact w.2 p a ⟨b, c⟩) (by omega) (by
                                    first
                                    | (rw [t96.1, t96.2, ← p25hv]
                                       exact ⟨by omega, by omega, by omega, by omega⟩)
                                    | (rw [g109.1, g109.2, ← p25hv]
                                       rw [p109hv] at p173hv
                                       exact ⟨show bba s v25o.toNat = 0 by omega, show bpa s v25o.toNat = -1 by omega, show bho s v25o.toNat = -1 ∨ bho s v25o.toNat = bnn s by omega, (by have e9 := p173hv; have e8 : v173o < 5 := (by omega); rw [e9] at e8; exact e8)⟩))).1.symm
                                | exact (bPut_f (by omega) (by omega) (fun h => by rcases p48hv with w | w; exfalso; omega; obtain ⟨p, a, b, c⟩ := h; exact w.2 p a ⟨b, c⟩) (by omega) (fun h => by
                                    first
                                    | (rw [t96.1, t96.2, ← p25hv] at h
                                       obtain ⟨h1, h2, h3, h4⟩ := h
                                       omega)
                                    | (rw [g109.1, g109.2, ← p25hv] at h
                                       obtain ⟨h1, h2, h3, h4⟩ := h
                                       have h1' : bba s v25o.toNat = 0 := h1
                                       have h2' : bpa s v25o.toNat = -1 := h2
                                       have h3' : bho s v25o.toNat = -1 ∨ bho s v25o.toNat = bnn s := h3
                                       first
                                       | omega
                                       | (rw [p109hv] at p173hv
                                          have h4' : v173o < 5 := by rw [p173hv]; exact h4
                                          omega)))).1.symm
                              · first
                                | (rw [(bPut_2 (by omega) (Or.inl (if_neg (by omega)))).2]
                                   exact hBA)
                                | (rw [(bPut_2 (by omega) (by omega)).2]
                                   exact hBA)
                                | (rw [(bPut_4 (by omega) (by omega) (by rcases p48hv with w | w; exact w.2; exfalso; omega)).2]
                                   exact hBA)
                                | (rw [(bPut_1 (by omega) (by omega) (fun h => by rcases p48hv with w | w; exfalso; omega; obtain ⟨p, a, b, c⟩ := h; exact w.2 p a ⟨b, c⟩) (by omega)).2]
                                   exact hBA)
                                | (have e25 : v25o = (((cxI (bW s) (bH s) (bD s) l i j).toNat : Nat) : Int) := by omega
                                   rw [(bPut_k (by omega) (by omega) (fun h => by rcases p48hv with w | w; exfalso; omega; obtain ⟨p, a, b, c⟩ := h; exact w.2 p a ⟨b, c⟩) (by omega) (by
                                    first
                                    | (rw [t96.1, t96.2, ← p25hv]
                                       exact ⟨by omega, by omega, by omega, by omega⟩)
                                    | (rw [g109.1, g109.2, ← p25hv]
                                       rw [p109hv] at p173hv
                                       exact ⟨show bba s v25o.toNat = 0 by omega, show bpa s v25o.toNat = -1 by omega, show bho s v25o.toNat = -1 ∨ bho s v25o.toNat = bnn s by omega, (by have e9 := p173hv; have e8 : v173o < 5 := (by omega); rw [e9] at e8; exact e8)⟩))).2]
                                   have z1 := zBA_P p186hBA2 p200bhT2 (fun c j q => p200bbfr c j (by omega) (by omega)) (fun c j _ => rfl)
                                   have z2 := zBA_N z1 p224hT2 (fun c j q => p224bfr c j (by omega)) (fun c j _ => rfl)
                                   obtain ⟨a1, a2, a3, a4, a5, a6, a7, a8⟩ := z2
                                   have e19 : v219o = bN (bRs s (bSn s t o)) (bRn s (bSn s t o)) 1 := p219hv.trans (up2z_ne (by omega))
                                   rw [e19] at a5
                                   have a4' : zRT 88 40 (bnp (bRs s (bSn s t o)) + 1) (upR (bP (bRs s (bSn s t o))) (bnp (bRs s (bSn s t o))) t o ((((cxI (bW s) (bH s) (bD s) l i j).toNat : Nat)) : Int) ((bRn s (bSn s t o) : Nat) : Int) 0) I224o := by
                                     first
                                     | (have e60 : v60o = ((bRn s (bSn s t o) : Nat) : Int) := by omega
                                        rw [← e25, ← e60]
                                        exact a4)
                                     | (have e60 : v109o = ((bRn s (bSn s t o) : Nat) : Int) := by omega
                                        rw [← e25, ← e60]
                                        exact a4)
                                   refine ⟨a1, a2, fun x hx => ⟨(a3 x hx).1, (a3 x hx).2.1, ?_, ?_⟩, a4', a5, a6, a7, a8⟩
                                   · show _ = if x = (cxI (bW s) (bH s) (bD s) l i j).toNat then ((bRn s (bSn s t o) : Nat) : Int) else bho (bLet (bRs s (bSn s t o)) (bRn s (bSn s t o))) x
                                     by_cases e : x = (cxI (bW s) (bH s) (bD s) l i j).toNat
                                     · rw [if_pos e, show x = v25o.toNat by omega]
                                       exact zxe.trans (by omega)
                                     · rw [if_neg e]
                                       exact zxs (by omega) (a3 x hx).2.2.1
                                   · show _ = upF (bpa (bRs s (bSn s t o))) (cxI (bW s) (bH s) (bD s) l i j).toNat (bnp (bRs s (bSn s t o)) : Int) x
                                     by_cases e : x = (cxI (bW s) (bH s) (bD s) l i j).toNat
                                     · rw [e, upF_at, show (cxI (bW s) (bH s) (bD s) l i j).toNat = v25o.toNat by omega]
                                       exact zxu (by decide) (zxe.trans p200hv)
                                     · rw [upF_ne e]
                                       exact zxu (by decide) (zxs (by omega) (a3 x hx).2.2.2))
                                | (rw [(bPut_f (by omega) (by omega) (fun h => by rcases p48hv with w | w; exfalso; omega; obtain ⟨p, a, b, c⟩ := h; exact w.2 p a ⟨b, c⟩) (by omega) (fun h => by
                                    first
                                    | (rw [t96.1, t96.2, ← p25hv] at h
                                       obtain ⟨h1, h2, h3, h4⟩ := h
                                       omega)
                                    | (rw [g109.1, g109.2, ← p25hv] at h
                                       obtain ⟨h1, h2, h3, h4⟩ := h
                                       have h1' : bba s v25o.toNat = 0 := h1
                                       have h2' : bpa s v25o.toNat = -1 := h2
                                       have h3' : bho s v25o.toNat = -1 ∨ bho s v25o.toNat = bnn s := h3
                                       first
                                       | omega
                                       | (rw [p109hv] at p173hv
                                          have h4' : v173o < 5 := by rw [p173hv]; exact h4
                                          omega)))).2]
                                   first
                                   | (rw [t96.1]
                                      exact hBA)
                                   | (rw [g109.1]
                                      exact zBA_addN hBA (zRT_fr p109bhT2 (fun c j q => zxcj (by omega) rfl)) (by rw [show bnn s = v109o.toNat by omega]; exact zxe) (fun c j q => zxcj (by omega) (p109bbfr c j (by omega) (by omega))) (fun c j _ => rfl)))
              · refine hQ _ _ ?_ ?_ (fun c j h0 h1 h2 h3 h4 h5 h6 => rfl)
                · first
                  | exact (bPut_2 (by omega) (Or.inl (if_neg (by omega)))).1.symm
                  | exact (bPut_2 (by omega) (by omega)).1.symm
                  | exact (bPut_4 (by omega) (by omega) (by rcases p48hv with w | w; exact w.2; exfalso; omega)).1.symm
                  | exact (bPut_1 (by omega) (by omega) (fun h => by rcases p48hv with w | w; exfalso; omega; obtain ⟨p, a, b, c⟩ := h; exact w.2 p a ⟨b, c⟩) (by omega)).1.symm
                  | exact g200.trans (bPut_k (by omega) (by omega) (fun h => by rcases p48hv with w | w; exfalso; omega; obtain ⟨p, a, b, c⟩ := h; exact w.2 p a ⟨b, c⟩) (by omega) (by
                      first
                      | (rw [t96.1, t96.2, ← p25hv]
                         exact ⟨by omega, by omega, by omega, by omega⟩)
                      | (rw [g109.1, g109.2, ← p25hv]
                         rw [p109hv] at p173hv
                         exact ⟨show bba s v25o.toNat = 0 by omega, show bpa s v25o.toNat = -1 by omega, show bho s v25o.toNat = -1 ∨ bho s v25o.toNat = bnn s by omega, (by have e9 := p173hv; have e8 : v173o < 5 := (by omega); rw [e9] at e8; exact e8)⟩))).1.symm
                  | exact (bPut_f (by omega) (by omega) (fun h => by rcases p48hv with w | w; exfalso; omega; obtain ⟨p, a, b, c⟩ := h; exact w.2 p a ⟨b, c⟩) (by omega) (fun h => by
                      first
                      | (rw [t96.1, t96.2, ← p25hv] at h
                         obtain ⟨h1, h2, h3, h4⟩ := h
                         omega)
                      | (rw [g109.1, g109.2, ← p25hv] at h
                         obtain ⟨h1, h2, h3, h4⟩ := h
                         have h1' : bba s v25o.toNat = 0 := h1
                         have h2' : bpa s v25o.toNat = -1 := h2
                         have h3' : bho s v25o.toNat = -1 ∨ bho s v25o.toNat = bnn s := h3
                         first
                         | omega
                         | (rw [p109hv] at p173hv
                            have h4' : v173o < 5 := by rw [p173hv]; exact h4
                            omega)))).1.symm
                · first
                  | (rw [(bPut_2 (by omega) (Or.inl (if_neg (by omega)))).2]
                     exact hBA)
                  | (rw [(bPut_2 (by omega) (by omega)).2]
                     exact hBA)
                  | (rw [(bPut_4 (by omega) (by omega) (by rcases p48hv with w | w; exact w.2; exfalso; omega)).2]
                     exact hBA)
                  | (rw [(bPut_1 (by omega) (by omega) (fun h => by rcases p48hv with w | w; exfalso; omega; obtain ⟨p, a, b, c⟩ := h; exact w.2 p a ⟨b, c⟩) (by omega)).2]
                     exact hBA)
                  | (have e25 : v25o = (((cxI (bW s) (bH s) (bD s) l i j).toNat : Nat) : Int) := by omega
                     rw [(bPut_k (by omega) (by omega) (fun h => by rcases p48hv with w | w; exfalso; omega; obtain ⟨p, a, b, c⟩ := h; exact w.2 p a ⟨b, c⟩) (by omega) (by
                      first
                      | (rw [t96.1, t96.2, ← p25hv]
                         exact ⟨by omega, by omega, by omega, by omega⟩)
                      | (rw [g109.1, g109.2, ← p25hv]
                         rw [p109hv] at p173hv
                         exact ⟨show bba s v25o.toNat = 0 by omega, show bpa s v25o.toNat = -1 by omega, show bho s v25o.toNat = -1 ∨ bho s v25o.toNat = bnn s by omega, (by have e9 := p173hv; have e8 : v173o < 5 := (by omega); rw [e9] at e8; exact e8)⟩))).2]
                     have z1 := zBA_P p186hBA2 p200bhT2 (fun c j q => p200bbfr c j (by omega) (by omega)) (fun c j _ => rfl)
                     have z2 := zBA_N z1 p224hT2 (fun c j q => p224bfr c j (by omega)) (fun c j _ => rfl)
                     obtain ⟨a1, a2, a3, a4, a5, a6, a7, a8⟩ := z2
                     have e19 : v219o = bN (bRs s (bSn s t o)) (bRn s (bSn s t o)) 1 := p219hv.trans (up2z_ne (by omega))
                     rw [e19] at a5
                     have a4' : zRT 88 40 (bnp (bRs s (bSn s t o)) + 1) (upR (bP (bRs s (bSn s t o))) (bnp (bRs s (bSn s t o))) t o ((((cxI (bW s) (bH s) (bD s) l i j).toNat : Nat)) : Int) ((bRn s (bSn s t o) : Nat) : Int) 0) I224o := by
                       first
                       | (have e60 : v60o = ((bRn s (bSn s t o) : Nat) : Int) := by omega
                          rw [← e25, ← e60]
                          exact a4)
                       | (have e60 : v109o = ((bRn s (bSn s t o) : Nat) : Int) := by omega
                          rw [← e25, ← e60]
                          exact a4)
                     refine ⟨a1, a2, fun x hx => ⟨(a3 x hx).1, (a3 x hx).2.1, ?_, ?_⟩, a4', a5, a6, a7, a8⟩
                     · show _ = if x = (cxI (bW s) (bH s) (bD s) l i j).toNat then ((bRn s (bSn s t o) : Nat) : Int) else bho (bLet (bRs s (bSn s t o)) (bRn s (bSn s t o))) x
                       by_cases e : x = (cxI (bW s) (bH s) (bD s) l i j).toNat
                       · rw [if_pos e, show x = v25o.toNat by omega]
                         exact zxe.trans (by omega)
                       · rw [if_neg e]
                         exact zxs (by omega) (a3 x hx).2.2.1
                     · show _ = upF (bpa (bRs s (bSn s t o))) (cxI (bW s) (bH s) (bD s) l i j).toNat (bnp (bRs s (bSn s t o)) : Int) x
                       by_cases e : x = (cxI (bW s) (bH s) (bD s) l i j).toNat
                       · rw [e, upF_at, show (cxI (bW s) (bH s) (bD s) l i j).toNat = v25o.toNat by omega]
                         exact zxu (by decide) (zxe.trans p200hv)
                       · rw [upF_ne e]
                         exact zxu (by decide) (zxs (by omega) (a3 x hx).2.2.2))
                  | (rw [(bPut_f (by omega) (by omega) (fun h => by rcases p48hv with w | w; exfalso; omega; obtain ⟨p, a, b, c⟩ := h; exact w.2 p a ⟨b, c⟩) (by omega) (fun h => by
                      first
                      | (rw [t96.1, t96.2, ← p25hv] at h
                         obtain ⟨h1, h2, h3, h4⟩ := h
                         omega)
                      | (rw [g109.1, g109.2, ← p25hv] at h
                         obtain ⟨h1, h2, h3, h4⟩ := h
                         have h1' : bba s v25o.toNat = 0 := h1
                         have h2' : bpa s v25o.toNat = -1 := h2
                         have h3' : bho s v25o.toNat = -1 ∨ bho s v25o.toNat = bnn s := h3
                         first
                         | omega
                         | (rw [p109hv] at p173hv
                            have h4' : v173o < 5 := by rw [p173hv]; exact h4
                            omega)))).2]
                     first
                     | (rw [t96.1]
                        exact hBA)
                     | (rw [g109.1]
                        exact zBA_addN hBA (zRT_fr p109bhT2 (fun c j q => zxcj (by omega) rfl)) (by rw [show bnn s = v109o.toNat by omega]; exact zxe) (fun c j q => zxcj (by omega) (p109bbfr c j (by omega) (by omega))) (fun c j _ => rfl)))
            · refine hQ _ _ ?_ ?_ (fun c j h0 h1 h2 h3 h4 h5 h6 => rfl)
              · first
                | exact (bPut_2 (by omega) (Or.inl (if_neg (by omega)))).1.symm
                | exact (bPut_2 (by omega) (by omega)).1.symm
                | exact (bPut_4 (by omega) (by omega) (by rcases p48hv with w | w; exact w.2; exfalso; omega)).1.symm
                | exact (bPut_1 (by omega) (by omega) (fun h => by rcases p48hv with w | w; exfalso; omega; obtain ⟨p, a, b, c⟩ := h; exact w.2 p a ⟨b, c⟩) (by omega)).1.symm
                | exact g200.trans (bPut_k (by omega) (by omega) (fun h => by rcases p48hv with w | w; exfalso; omega; obtain ⟨p, a, b, c⟩ := h; exact w.2 p a ⟨b, c⟩) (by omega) (by
                    first
                    | (rw [t96.1, t96.2, ← p25hv]
                       exact ⟨by omega, by omega, by omega, by omega⟩)
                    | (rw [g109.1, g109.2, ← p25hv]
                       rw [p109hv] at p173hv
                       exact ⟨show bba s v25o.toNat = 0 by omega, show bpa s v25o.toNat = -1 by omega, show bho s v25o.toNat = -1 ∨ bho s v25o.toNat = bnn s by omega, (by have e9 := p173hv; have e8 : v173o < 5 := (by omega); rw [e9] at e8; exact e8)⟩))).1.symm
                | exact (bPut_f (by omega) (by omega) (fun h => by rcases p48hv with w | w; exfalso; omega; obtain ⟨p, a, b, c⟩ := h; exact w.2 p a ⟨b, c⟩) (by omega) (fun h => by
                    first
                    | (rw [t96.1, t96.2, ← p25hv] at h
                       obtain ⟨h1, h2, h3, h4⟩ := h
                       omega)
                    | (rw [g109.1, g109.2, ← p25hv] at h
                       obtain ⟨h1, h2, h3, h4⟩ := h
                       have h1' : bba s v25o.toNat = 0 := h1
                       have h2' : bpa s v25o.toNat = -1 := h2
                       have h3' : bho s v25o.toNat = -1 ∨ bho s v25o.toNat = bnn s := h3
                       first
                       | omega
                       | (rw [p109hv] at p173hv
                          have h4' : v173o < 5 := by rw [p173hv]; exact h4
                          omega)))).1.symm
              · first
                | (rw [(bPut_2 (by omega) (Or.inl (if_neg (by omega)))).2]
                   exact hBA)
                | (rw [(bPut_2 (by omega) (by omega)).2]
                   exact hBA)
                | (rw [(bPut_4 (by omega) (by omega) (by rcases p48hv with w | w; exact w.2; exfalso; omega)).2]
                   exact hBA)
                | (rw [(bPut_1 (by omega) (by omega) (fun h => by rcases p48hv with w | w; exfalso; omega; obtain ⟨p, a, b, c⟩ := h; exact w.2 p a ⟨b, c⟩) (by omega)).2]
                   exact hBA)
                | (have e25 : v25o = (((cxI (bW s) (bH s) (bD s) l i j).toNat : Nat) : Int) := by omega
                   rw [(bPut_k (by omega) (by omega) (fun h => by rcases p48hv with w | w; exfalso; omega; obtain ⟨p, a, b, c⟩ := h; exact w.2 p a ⟨b, c⟩) (by omega) (by
                    first
                    | (rw [t96.1, t96.2, ← p25hv]
                       exact ⟨by omega, by omega, by omega, by omega⟩)
                    | (rw [g109.1, g109.2, ← p25hv]
                       rw [p109hv] at p173hv
                       exact ⟨show bba s v25o.toNat = 0 by omega, show bpa s v25o.toNat = -1 by omega, show bho s v25o.toNat = -1 ∨ bho s v25o.toNat = bnn s by omega, (by have e9 := p173hv; have e8 : v173o < 5 := (by omega); rw [e9] at e8; exact e8)⟩))).2]
                   have z1 := zBA_P p186hBA2 p200bhT2 (fun c j q => p200bbfr c j (by omega) (by omega)) (fun c j _ => rfl)
                   have z2 := zBA_N z1 p224hT2 (fun c j q => p224bfr c j (by omega)) (fun c j _ => rfl)
                   obtain ⟨a1, a2, a3, a4, a5, a6, a7, a8⟩ := z2
                   have e19 : v219o = bN (bRs s (bSn s t o)) (bRn s (bSn s t o)) 1 := p219hv.trans (up2z_ne (by omega))
                   rw [e19] at a5
                   have a4' : zRT 88 40 (bnp (bRs s (bSn s t o)) + 1) (upR (bP (bRs s (bSn s t o))) (bnp (bRs s (bSn s t o))) t o ((((cxI (bW s) (bH s) (bD s) l i j).toNat : Nat)) : Int) ((bRn s (bSn s t o) : Nat) : Int) 0) I224o := by
                     first
                     | (have e60 : v60o = ((bRn s (bSn s t o) : Nat) : Int) := by omega
                        rw [← e25, ← e60]
                        exact a4)
                     | (have e60 : v109o = ((bRn s (bSn s t o) : Nat) : Int) := by omega
                        rw [← e25, ← e60]
                        exact a4)
                   refine ⟨a1, a2, fun x hx => ⟨(a3 x hx).1, (a3 x hx).2.1, ?_, ?_⟩, a4', a5, a6, a7, a8⟩
                   · show _ = if x = (cxI (bW s) (bH s) (bD s) l i j).toNat then ((bRn s (bSn s t o) : Nat) : Int) else bho (bLet (bRs s (bSn s t o)) (bRn s (bSn s t o))) x
                     by_cases e : x = (cxI (bW s) (bH s) (bD s) l i j).toNat
                     · rw [if_pos e, show x = v25o.toNat by omega]
                       exact zxe.trans (by omega)
                     · rw [if_neg e]
                       exact zxs (by omega) (a3 x hx).2.2.1
                   · show _ = upF (bpa (bRs s (bSn s t o))) (cxI (bW s) (bH s) (bD s) l i j).toNat (bnp (bRs s (bSn s t o)) : Int) x
                     by_cases e : x = (cxI (bW s) (bH s) (bD s) l i j).toNat
                     · rw [e, upF_at, show (cxI (bW s) (bH s) (bD s) l i j).toNat = v25o.toNat by omega]
                       exact zxu (by decide) (zxe.trans p200hv)
                     · rw [upF_ne e]
                       exact zxu (by decide) (zxs (by omega) (a3 x hx).2.2.2))
                | (rw [(bPut_f (by omega) (by omega) (fun h => by rcases p48hv with w | w; exfalso; omega; obtain ⟨p, a, b, c⟩ := h; exact w.2 p a ⟨b, c⟩) (by omega) (fun h => by
                    first
                    | (rw [t96.1, t96.2, ← p25hv] at h
                       obtain ⟨h1, h2, h3, h4⟩ := h
                       omega)
                    | (rw [g109.1, g109.2, ← p25hv] at h
                       obtain ⟨h1, h2, h3, h4⟩ := h
                       have h1' : bba s v25o.toNat = 0 := h1
                       have h2' : bpa s v25o.toNat = -1 := h2
                       have h3' : bho s v25o.toNat = -1 ∨ bho s v25o.toNat = bnn s := h3
                       first
                       | omega
                       | (rw [p109hv] at p173hv
                          have h4' : v173o < 5 := by rw [p173hv]; exact h4
                          omega)))).2]
                   first
                   | (rw [t96.1]
                      exact hBA)
                   | (rw [g109.1]
                      exact zBA_addN hBA (zRT_fr p109bhT2 (fun c j q => zxcj (by omega) rfl)) (by rw [show bnn s = v109o.toNat by omega]; exact zxe) (fun c j q => zxcj (by omega) (p109bbfr c j (by omega) (by omega))) (fun c j _ => rfl))))
