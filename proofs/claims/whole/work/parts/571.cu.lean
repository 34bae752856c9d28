/-! cu -/
def T_U_add : ZT := fun args I L R S Q => ∃ (k : Nat) (w : List CuR) (a : Int) (b : Int) (d : Int) (e : Int) (g : Int), args = [zvr k, zvi a, zvi b, zvi d, zvi e, zvi g] ∧ (zSh S) ∧ (zRs R) ∧ (zDy zT1 zF1 k R S) ∧ (k = 106 ∨ k = 118) ∧ (zUw k w I) ∧ (r32 a ∧ r32 b ∧ r32 d ∧ r32 e ∧ r32 g) ∧ ∀ (I' : ZI), (zUw k (w ++ [cRw a b d e g]) I') → (∀ c j : Nat, ¬ (c = k ∧ j = 2) → ¬ (c = k + 1 ∧ j = 2) → ¬ c = k + 2 → I' c j = I c j) → Q none I' L R S
theorem sn_U_add : ZSnd 2 1 4 T_U_add := ZSnd.of (zT1_4 1) (by
  rintro args I L R S Q hz ⟨k, w, a, b, d, e, g, rfl, hS, hR, hD, hk, hW, hr, hQ⟩
  obtain ⟨m, hm⟩ : ∃ m, m = min w.length 60 := ⟨_, rfl⟩
  have hT := hW.1
  rw [← hm] at hT
  have hk106 : 106 ≤ k := by omega
  have hk118 : k ≤ 118 := by omega
  refine And.intro rfl ?_
  refine And.intro (zDX hD 0 rfl) (zrdR (v := some (k + 1)) (zDR hD 0 rfl) ?_)
  rcases (Nat.lt_or_ge m 60) with hlt | hlt
  · refine And.intro (zDX hD 1 rfl) ⟨_, sn_A_add.up (by decide), ?_⟩
    refine ⟨(k + 1), 60, m, (cg w), (a : Int), (b : Int), (d : Int), (e : Int), (g : Int), rfl, hS, hR, (zRw_1_1 hD), (by first | exact (zRT_fr hT (fun c j h => rfl)) | (clear hQ; grind [xu])), (by omega), (by omega), ?_⟩
    intro v11o I11o p11hv p11bhT2 p11bbfr
    refine And.intro ⟨(by omega), (zRb rfl)⟩ ⟨fun h15 => ?_, (fun h15 => False.elim (by omega))⟩
    refine hQ _ ?_ (fun c j h0 h1 h2 => ((p11bbfr c j h2 h1).trans rfl))
    · first
      | exact zUw_f hW (by omega) zxe (fun c j h => zxcj h rfl)
      | exact zUw_a hW (by omega) (hm ▸ p11bhT2) (p11bbfr _ _ (by omega) (by omega))
  · refine And.intro (zDX hD 1 rfl) ⟨_, sn_A_addF.up (by decide), ?_⟩
    refine ⟨(k + 1), 60, m, (cg w), (a : Int), (b : Int), (d : Int), (e : Int), (g : Int), rfl, hS, hR, (zRw_1_1 hD), (by first | exact (zRT_fr hT (fun c j h => rfl)) | (clear hQ; grind [xu])), (by omega), ?_⟩
    refine And.intro ⟨(zRb rfl), (zRb rfl)⟩ (zbf rfl ?_)
    refine And.intro ⟨(zDX hD 0 rfl), (Or.inr rfl)⟩ ?_
    refine hQ _ ?_ (fun c j h0 h1 h2 => (zxcj h0 rfl))
    · first
      | exact zUw_f hW (by omega) zxe (fun c j h => zxcj h rfl)
      | exact zUw_a hW (by omega) (hm ▸ p11bhT2) (p11bbfr _ _ (by omega) (by omega)))
def T_U_plc : ZT := fun args I L R S Q => ∃ (b : Nat) (s : BdS) (a : Int) (c : Nat), args = [zvr 82, zvi a] ∧ (zSh S) ∧ (zRs R) ∧ (zBA b s I L) ∧ (bGd s) ∧ (a = c) ∧ (c < bW s * bH s * bD s) ∧ ∀ (v : Int), (v = cuPp s c) → (0 ≤ v ∧ v ≤ 255) → Q (some (zvi (v))) I L R S
theorem sn_U_plc : ZSnd 2 1 45 T_U_plc := ZSnd.of (zT1_45 1) (by
  rintro args I L R S Q hz ⟨b, s, a, c, rfl, hS, hR, hBA, hGd, ha, hc, hQ⟩
  obtain ⟨⟨hb0, hbw, hbh, hbd, hbs⟩, hnb, hcl, hPT, hNT, hwy, hco, hnd⟩ := id hBA
  obtain ⟨hP1, hP2, hP3, hP4⟩ := id hPT
  obtain ⟨hN1, hN2, hN3, hN4⟩ := id hNT
  obtain ⟨⟨⟨gW1, gW2⟩, ⟨gH1, gH2⟩, ⟨gD1, gD2⟩, gB9⟩, ⟨gnp, gnn⟩, gc, gp, gn, gco, gnd, gun⟩ := id hGd
  refine And.intro rfl ?_
  refine And.intro (zA_82 hS) ⟨_, sn_A_row.up (by decide), ?_⟩
  refine ⟨(bW s), (bH s), (bD s), (a : Int), c, rfl, hS, hR, hbw, hbh, hbd, (by omega), (by omega), (by omega), gB9, ?_⟩
  intro v4o p4hv p4bhv2
  refine And.intro (zA_82 hS) ⟨_, sn_A_col.up (by decide), ?_⟩
  refine ⟨(bW s), (bH s), (bD s), (a : Int), c, rfl, hS, hR, hbw, hbh, hbd, (by omega), (by omega), (by omega), gB9, ?_⟩
  intro v10o p10hv p10bhv2
  refine hQ _ (by unfold cuPp; omega) (by omega))
def T_U_hld : ZT := fun args I L R S Q => ∃ (b : Nat) (s : BdS) (n : Int) (l : Int) (i : Int) (j : Int), args = [zvr 82, zvi n, zvi l, zvi i, zvi j] ∧ (zSh S) ∧ (zRs R) ∧ (zBA b s I L) ∧ (bGd s) ∧ (r32 n ∧ r32 l ∧ r32 i ∧ r32 j) ∧ ∀ (v : Int), (v = cuHb s n l i j) → (v = 0 ∨ v = 1) → Q (some (zvi (v))) I L R S
theorem sn_U_hld : ZSnd 2 1 24 T_U_hld := ZSnd.of (zT1_24 1) (by
  rintro args I L R S Q hz ⟨b, s, n, l, i, j, rfl, hS, hR, hBA, hGd, hr, hQ⟩
  obtain ⟨⟨hb0, hbw, hbh, hbd, hbs⟩, hnb, hcl, hPT, hNT, hwy, hco, hnd⟩ := id hBA
  obtain ⟨hP1, hP2, hP3, hP4⟩ := id hPT
  obtain ⟨hN1, hN2, hN3, hN4⟩ := id hNT
  obtain ⟨⟨⟨gW1, gW2⟩, ⟨gH1, gH2⟩, ⟨gD1, gD2⟩, gB9⟩, ⟨gnp, gnn⟩, gc, gp, gn, gco, gnd, gun⟩ := id hGd
  refine And.intro rfl ?_
  refine And.intro (zA_82 hS) ⟨_, sn_A_cell.up (by decide), ?_⟩
  refine ⟨(bW s), (bH s), (bD s), (l : Int), (i : Int), (j : Int), rfl, hS, hR, hbw, hbh, hbd, (by omega), gB9, (by omega), ?_⟩
  intro v5o p5hv p5bhv2
  refine And.intro ⟨(by omega), (zRb rfl)⟩ ⟨fun h13 => ?_, fun h13 => ?_⟩
  · refine And.intro (Or.inl rfl) ?_
    refine hQ _ ?_ (by omega)
    · first
      | exact (cuHb_y (by rw [← p5hv]; omega) (by rw [← p5hv]; omega)).symm
      | exact (cuHb_n (fun q => by rw [← p5hv] at q; omega)).symm
  · refine And.intro (zA_82 hS) (zrdR (v := some 86) (zR_82_8 hR) ?_)
    refine And.intro (zP_86 hS (by omega) (by omega)) (fun v22 e22 r22 => ?_)
    have f22 : v22 = bho s v5o.toNat := (e22.trans (hcl v5o.toNat (by omega)).2.2.1)
    refine And.intro ⟨r22, (by omega)⟩ ⟨fun h24 => ?_, fun h24 => ?_⟩
    · refine And.intro (Or.inl rfl) ?_
      refine hQ _ ?_ (by omega)
      · first
        | exact (cuHb_y (by rw [← p5hv]; omega) (by rw [← p5hv]; omega)).symm
        | exact (cuHb_n (fun q => by rw [← p5hv] at q; omega)).symm
    · refine And.intro (Or.inr rfl) ?_
      refine hQ _ ?_ (by omega)
      · first
        | exact (cuHb_y (by rw [← p5hv]; omega) (by rw [← p5hv]; omega)).symm
        | exact (cuHb_n (fun q => by rw [← p5hv] at q; omega)).symm)
def T_U_lin : ZT := fun args I L R S Q => ∃ (k : Nat) (w : List CuR) (b : Nat) (s : BdS) (n : Int) (l : Nat) (r : Nat) (al : Nat), args = [zvr k, zvr 82, zvi n, zvi l, zvi r, zvi al] ∧ (zSh S) ∧ (zRs R) ∧ (zDy zT1 zF1 k R S) ∧ (k = 106 ∨ k = 118) ∧ (zUw k w I) ∧ (zBA b s I L) ∧ (bGd s) ∧ (0 ≤ n ∧ n ≤ 11) ∧ (l < bD s) ∧ (r < cuMl s al) ∧ (al ≤ 1) ∧ ∀ (I' : ZI), (zUw k (w ++ cuLn s n l r al) I') → (∀ c j : Nat, ¬ (c = k ∧ j = 2) → ¬ (c = k + 1 ∧ j = 2) → ¬ c = k + 2 → I' c j = I c j) → Q none I' L R S
theorem sn_U_lin : ZSnd 3 1 3 T_U_lin := ZSnd.loops (zT1_3 2) (by
  rintro args I L R S Q hz ⟨k, w, b, s, n, l, r, al, rfl, hS, hR, hD, hk, hW, hBA, hGd, hn, hl, hr, hal, hQ⟩
  obtain ⟨⟨hb0, hbw, hbh, hbd, hbs⟩, hnb, hcl, hPT, hNT, hwy, hco, hnd⟩ := id hBA
  obtain ⟨hP1, hP2, hP3, hP4⟩ := id hPT
  obtain ⟨hN1, hN2, hN3, hN4⟩ := id hNT
  obtain ⟨⟨⟨gW1, gW2⟩, ⟨gH1, gH2⟩, ⟨gD1, gD2⟩, gB9⟩, ⟨gnp, gnn⟩, gc, gp, gn, gco, gnd, gun⟩ := id hGd
  have hk106 : 106 ≤ k := by omega
  have hk118 : k ≤ 118 := by omega
  have hr16 : r ≤ 15 := (by by_cases e : al = 1; (rw [cuMl_1 e] at hr; omega); (rw [cuMl_0 e] at hr; omega))
  have hx16 : 1 ≤ cuMx s al ∧ cuMx s al ≤ 16 ∧ (al = 1 → cuMx s al = bW s) ∧ (al ≠ 1 → cuMx s al = bH s) := (by by_cases e : al = 1; (rw [cuMx_1 e]; omega); (rw [cuMx_0 e]; omega))
  refine ⟨[30], fun nM tM lsM stM I1 L1 R1 S1 => match tM with
      | 30 => ∃ (m : Nat) (fi : Int) (la : Int), nM = ((18 - m), 0, 0) ∧ lsM = [some (zvr (k)), some (zvr (82)), some (zvi (n)), some (zvi (l)), some (zvi (r)), some (zvi (al)), some (zvi (cuMx s al)), some (zvi (fi)), some (zvi (la)), some (zvi (cuR (cuHl s n l r al) m)), some (zvi (m)), none] ∧ stM = [] ∧ L1 = L ∧ R1 = R ∧ S1 = S ∧ (m ≤ cuMx s al + 1) ∧ (-1 ≤ fi ∧ fi ≤ 255 ∧ -1 ≤ la ∧ la ≤ 255) ∧ (0 < cuR (cuHl s n l r al) m → fi = cuPl r al (m - cuR (cuHl s n l r al) m) ∧ la = cuPl r al (m - 1)) ∧ (zUw k (w ++ cuL (cuMk n l r al) (cuHl s n l r al) m) I1) ∧ (∀ c j : Nat, ¬ (c = k ∧ j = 2) → ¬ (c = k + 1 ∧ j = 2) → ¬ c = k + 2 → I1 c j = I c j)
      | _ => False, rfl, ?_, ⟨?_, True.intro⟩⟩
  · refine And.intro (by omega) ⟨fun h2 => ?_, fun h2 => ?_⟩
    · refine And.intro (zA_82 hS) (zrd (v := (bH s)) hbh ?_)
      refine ⟨((18 - (0 : Nat)), 0, 0), [some (zvr (k)), some (zvr (82)), some (zvi (n)), some (zvi (l)), some (zvi (r)), some (zvi (al)), some (zvi (cuMx s al)), some (zvi (((-1) : Int))), some (zvi (((-1) : Int))), some (zvi (cuR (cuHl s n l r al) (0 : Nat))), some (zvi ((0 : Nat))), none], ⟨rfl, rfl, rfl, rfl, rfl, rfl, (congrArg (fun z => some (zvi z)) (by first | rw [show cuMx s al = bW s from cuMx_1 (by omega)] | rw [show cuMx s al = bH s from cuMx_0 (by omega)])), (congrArg (fun z => some (zvi z)) (by omega)), (congrArg (fun z => some (zvi z)) (by omega)), (congrArg (fun z => some (zvi z)) rfl), rfl, rfl⟩, 0, (-1), (-1), rfl, rfl, rfl, rfl, rfl, rfl, (by omega), (by omega), (fun q => absurd q (Nat.lt_irrefl 0)), (zUw_e hW (List.append_nil w).symm), (fun c j h0 h1 h2 => rfl)⟩
    · refine And.intro (zA_82 hS) (zrd (v := (bW s)) hbw ?_)
      refine ⟨((18 - (0 : Nat)), 0, 0), [some (zvr (k)), some (zvr (82)), some (zvi (n)), some (zvi (l)), some (zvi (r)), some (zvi (al)), some (zvi (cuMx s al)), some (zvi (((-1) : Int))), some (zvi (((-1) : Int))), some (zvi (cuR (cuHl s n l r al) (0 : Nat))), some (zvi ((0 : Nat))), none], ⟨rfl, rfl, rfl, rfl, rfl, rfl, (congrArg (fun z => some (zvi z)) (by first | rw [show cuMx s al = bW s from cuMx_1 (by omega)] | rw [show cuMx s al = bH s from cuMx_0 (by omega)])), (congrArg (fun z => some (zvi z)) (by omega)), (congrArg (fun z => some (zvi z)) (by omega)), (congrArg (fun z => some (zvi z)) rfl), rfl, rfl⟩, 0, (-1), (-1), rfl, rfl, rfl, rfl, rfl, rfl, (by omega), (by omega), (fun q => absurd q (Nat.lt_irrefl 0)), (zUw_e hW (List.append_nil w).symm), (fun c j h0 h1 h2 => rfl)⟩
  · rintro nM lsM stM I1 L1 R1 S1 hz1 ⟨m, fi, la, rfl, rfl, rfl, rfl, rfl, rfl, hm, hfb, hfl, hW3, fr⟩
    have hle := cuR_le (h := (cuHl s n l r al)) m
    refine And.intro ⟨(by omega), (by omega)⟩ ⟨fun h34 => ?_, fun h34 => ?_⟩
    · refine hQ _ (by have e : m = cuMx s al + 1 := (by omega); subst e; exact hW3) (fun c j h0 h1 h2 => ((fr c j h0 h1 h2).trans rfl))
    · refine And.intro (by omega) ⟨fun h39 => ?_, fun h39 => ?_⟩
      · refine And.intro (zA_82 hS) ⟨_, sn_A_cell.up (by decide), ?_⟩
        refine ⟨(bW s), (bH s), (bD s), (l : Int), (r : Int), (m : Int), rfl, hS, hR, ((fr 82 1 (by omega) (by omega) (by omega)).trans hbw), ((fr 82 2 (by omega) (by omega) (by omega)).trans hbh), ((fr 82 3 (by omega) (by omega) (by omega)).trans hbd), (by omega), gB9, (by omega), ?_⟩
        intro v60o p60hv p60bhv2
        refine And.intro ⟨(by omega), (zRb rfl)⟩ ⟨fun h68 => ?_, fun h68 => ?_⟩
        · have t68 : ¬ (cuHl s n l r al) m = 1 := (by first | (rw [cuHl_1 (by omega)]; exact cuHb_m p48hv (by omega)) | (rw [cuHl_0 (by omega)]; exact cuHb_m p60hv (by omega)))
          refine And.intro ⟨(by omega), (zRb rfl)⟩ ⟨fun h113 => ?_, fun h113 => ?_⟩
          · refine ⟨((18 - (m + 1)), 0, 0), zlt6 (by omega), [some (zvr (k)), some (zvr (82)), some (zvi (n)), some (zvi (l)), some (zvi (r)), some (zvi (al)), some (zvi (cuMx s al)), some (zvi (fi)), some (zvi (la)), some (zvi (cuR (cuHl s n l r al) (m + 1))), some (zvi ((m + 1))), none], ⟨rfl, rfl, rfl, rfl, rfl, rfl, rfl, rfl, rfl, (congrArg (fun z => some (zvi z)) (by first | (rw [cuR_y (by assumption)]; rfl) | (rw [cuR_n (by assumption)]; rfl))), rfl, rfl⟩, (m + 1), fi, la, rfl, rfl, rfl, rfl, rfl, rfl, (by omega), (by omega), ?_, ?_, (fun c j h0 h1 h2 => ((fr c j h0 h1 h2).trans rfl))⟩
            · first
              | (rw [cuR_n (by assumption)]; intro q; exact absurd q (Nat.lt_irrefl 0))
              | (rw [cuR_y (by assumption)]
                 intro _
                 refine ⟨?_, by rw [Nat.add_sub_cancel]; exact g85⟩
                 first
                 | (rw [show m + 1 - (cuR (cuHl s n l r al) m + 1) = m by omega]; exact g85)
                 | (rw [show m + 1 - (cuR (cuHl s n l r al) m + 1) = m - cuR (cuHl s n l r al) m by omega]; exact (hfl (by omega)).1))
            · first
              | (rw [cuL_y (by assumption)]; exact hW3)
              | (rw [cuL_n (by assumption) (by omega)]; exact hW3)
              | exact zUw_e p124hW2 (by rw [cuL_r (by assumption) (by omega), ← List.append_assoc]; unfold cuMk; rw [← (hfl (by omega)).1, ← (hfl (by omega)).2])
          · refine And.intro (zDX hD 0 rfl) ⟨_, sn_U_add.up (by decide), ?_⟩
            refine ⟨k, (w ++ cuL (cuMk n l r al) (cuHl s n l r al) m), (0 : Int), (n : Int), (l : Int), (fi : Int), (la : Int), rfl, hS, hR, hD, (by first | exact hk | (clear hQ; grind [xu])), (by first | exact (zUw_fr hW (fun c j h => ((fr c j (by omega) (by omega) (by omega)).trans rfl))) | exact (zUw_fr hW3 (fun c j h => rfl)) | (clear hQ; grind [xu])), (by omega), ?_⟩
            intro I124o p124hW2 p124bfr
            refine ⟨((18 - (m + 1)), 0, 0), zlt6 (by omega), [some (zvr (k)), some (zvr (82)), some (zvi (n)), some (zvi (l)), some (zvi (r)), some (zvi (al)), some (zvi (cuMx s al)), some (zvi (fi)), some (zvi (la)), some (zvi (cuR (cuHl s n l r al) (m + 1))), some (zvi ((m + 1))), none], ⟨rfl, rfl, rfl, rfl, rfl, rfl, rfl, rfl, rfl, (congrArg (fun z => some (zvi z)) (by first | (rw [cuR_y (by assumption)]; rfl) | (rw [cuR_n (by assumption)]; rfl))), rfl, rfl⟩, (m + 1), fi, la, rfl, rfl, rfl, rfl, rfl, rfl, (by omega), (by omega), ?_, ?_, (fun c j h0 h1 h2 => ((p124bfr c j h0 h1 h2).trans ((fr c j h0 h1 h2).trans rfl)))⟩
            · first
              | (rw [cuR_n (by assumption)]; intro q; exact absurd q (Nat.lt_irrefl 0))
              | (rw [cuR_y (by assumption)]
                 intro _
                 refine ⟨?_, by rw [Nat.add_sub_cancel]; exact g85⟩
                 first
                 | (rw [show m + 1 - (cuR (cuHl s n l r al) m + 1) = m by omega]; exact g85)
                 | (rw [show m + 1 - (cuR (cuHl s n l r al) m + 1) = m - cuR (cuHl s n l r al) m by omega]; exact (hfl (by omega)).1))
            · first
              | (rw [cuL_y (by assumption)]; exact hW3)
              | (rw [cuL_n (by assumption) (by omega)]; exact hW3)
              | exact zUw_e p124hW2 (by rw [cuL_r (by assumption) (by omega), ← List.append_assoc]; unfold cuMk; rw [← (hfl (by omega)).1, ← (hfl (by omega)).2])
        · refine And.intro (zA_82 hS) (zrdR (v := some 86) (zR_82_8 hR) ?_)
          refine And.intro (zP_86 hS (by omega) (by omega)) (fun v77 e77 r77 => ?_)
          have f77 : (cuHl s n l r al) m = 1 ↔ v77 = n := (by first | (rw [cuHl_1 (by omega)]; exact cuHb_iff p48hv (by omega) (by first | exact e77.trans ((fr 86 _ (by omega) (by omega) (by omega)).trans (hcl v48o.toNat (by omega)).2.2.1) | exact e77.trans ((fr 86 _ (by omega) (by omega) (by omega)).trans (hcl v60o.toNat (by omega)).2.2.1))) | (rw [cuHl_0 (by omega)]; exact cuHb_iff p60hv (by omega) (by first | exact e77.trans ((fr 86 _ (by omega) (by omega) (by omega)).trans (hcl v48o.toNat (by omega)).2.2.1) | exact e77.trans ((fr 86 _ (by omega) (by omega) (by omega)).trans (hcl v60o.toNat (by omega)).2.2.1))))
          refine And.intro ⟨r77, (by omega)⟩ ⟨fun h79 => ?_, fun h79 => ?_⟩
          · have t79 : ¬ (cuHl s n l r al) m = 1 := (fun q => by have := f77.mp q; omega)
            refine And.intro ⟨(by omega), (zRb rfl)⟩ ⟨fun h113 => ?_, fun h113 => ?_⟩
            · refine ⟨((18 - (m + 1)), 0, 0), zlt6 (by omega), [some (zvr (k)), some (zvr (82)), some (zvi (n)), some (zvi (l)), some (zvi (r)), some (zvi (al)), some (zvi (cuMx s al)), some (zvi (fi)), some (zvi (la)), some (zvi (cuR (cuHl s n l r al) (m + 1))), some (zvi ((m + 1))), none], ⟨rfl, rfl, rfl, rfl, rfl, rfl, rfl, rfl, rfl, (congrArg (fun z => some (zvi z)) (by first | (rw [cuR_y (by assumption)]; rfl) | (rw [cuR_n (by assumption)]; rfl))), rfl, rfl⟩, (m + 1), fi, la, rfl, rfl, rfl, rfl, rfl, rfl, (by omega), (by omega), ?_, ?_, (fun c j h0 h1 h2 => ((fr c j h0 h1 h2).trans rfl))⟩
              · first
                | (rw [cuR_n (by assumption)]; intro q; exact absurd q (Nat.lt_irrefl 0))
                | (rw [cuR_y (by assumption)]
                   intro _
                   refine ⟨?_, by rw [Nat.add_sub_cancel]; exact g85⟩
                   first
                   | (rw [show m + 1 - (cuR (cuHl s n l r al) m + 1) = m by omega]; exact g85)
                   | (rw [show m + 1 - (cuR (cuHl s n l r al) m + 1) = m - cuR (cuHl s n l r al) m by omega]; exact (hfl (by omega)).1))
              · first
                | (rw [cuL_y (by assumption)]; exact hW3)
                | (rw [cuL_n (by assumption) (by omega)]; exact hW3)
                | exact zUw_e p124hW2 (by rw [cuL_r (by assumption) (by omega), ← List.append_assoc]; unfold cuMk; rw [← (hfl (by omega)).1, ← (hfl (by omega)).2])
            · refine And.intro (zDX hD 0 rfl) ⟨_, sn_U_add.up (by decide), ?_⟩
              refine ⟨k, (w ++ cuL (cuMk n l r al) (cuHl s n l r al) m), (0 : Int), (n : Int), (l : Int), (fi : Int), (la : Int), rfl, hS, hR, hD, (by first | exact hk | (clear hQ; grind [xu])), (by first | exact (zUw_fr hW (fun c j h => ((fr c j (by omega) (by omega) (by omega)).trans rfl))) | exact (zUw_fr hW3 (fun c j h => rfl)) | (clear hQ; grind [xu])), (by omega), ?_⟩
              intro I124o p124hW2 p124bfr
              refine ⟨((18 - (m + 1)), 0, 0), zlt6 (by omega), [some (zvr (k)), some (zvr (82)), some (zvi (n)), some (zvi (l)), some (zvi (r)), some (zvi (al)), some (zvi (cuMx s al)), some (zvi (fi)), some (zvi (la)), some (zvi (cuR (cuHl s n l r al) (m + 1))), some (zvi ((m + 1))), none], ⟨rfl, rfl, rfl, rfl, rfl, rfl, rfl, rfl, rfl, (congrArg (fun z => some (zvi z)) (by first | (rw [cuR_y (by assumption)]; rfl) | (rw [cuR_n (by assumption)]; rfl))), rfl, rfl⟩, (m + 1), fi, la, rfl, rfl, rfl, rfl, rfl, rfl, (by omega), (by omega), ?_, ?_, (fun c j h0 h1 h2 => ((p124bfr c j h0 h1 h2).trans ((fr c j h0 h1 h2).trans rfl)))⟩
              · first
                | (rw [cuR_n (by assumption)]; intro q; exact absurd q (Nat.lt_irrefl 0))
                | (rw [cuR_y (by assumption)]
                   intro _
                   refine ⟨?_, by rw [Nat.add_sub_cancel]; exact g85⟩
                   first
                   | (rw [show m + 1 - (cuR (cuHl s n l r al) m + 1) = m by omega]; exact g85)
                   | (rw [show m + 1 - (cuR (cuHl s n l r al) m + 1) = m - cuR (cuHl s n l r al) m by omega]; exact (hfl (by omega)).1))
              · first
                | (rw [cuL_y (by assumption)]; exact hW3)
                | (rw [cuL_n (by assumption) (by omega)]; exact hW3)
                | exact zUw_e p124hW2 (by rw [cuL_r (by assumption) (by omega), ← List.append_assoc]; unfold cuMk; rw [← (hfl (by omega)).1, ← (hfl (by omega)).2])
          · have t79 : (cuHl s n l r al) m = 1 := (f77.mpr (by omega))
            refine ⟨_, sn_U_plc.up (by decide), ?_⟩
            refine ⟨b, s, (v60o : Int), (v60o).toNat, rfl, hS, hR, (by first | exact (zBA_fr hBA (fun c j h => ((fr c j (by omega) (by omega) (by omega)).trans rfl)) (fun c j h => rfl)) | (clear hQ; grind [xu])), (by first | exact hGd | (clear hQ; grind [xu])), (by omega), (by omega), ?_⟩
            intro v85o p85hv p85bhv2
            have g85 : v85o = cuPl r al m := (by first | (rw [cuPl_1 (by omega)]; exact p85hv.trans (cuPp_c p48hv (by omega))) | (rw [cuPl_0 (by omega)]; exact p85hv.trans (cuPp_c p60hv (by omega))))
            refine And.intro (by omega) ⟨fun h92 => ?_, fun h92 => ?_⟩
            · refine ⟨((18 - (m + 1)), 0, 0), zlt6 (by omega), [some (zvr (k)), some (zvr (82)), some (zvi (n)), some (zvi (l)), some (zvi (r)), some (zvi (al)), some (zvi (cuMx s al)), some (zvi (fi)), some (zvi (v85o)), some (zvi (cuR (cuHl s n l r al) (m + 1))), some (zvi ((m + 1))), none], ⟨rfl, rfl, rfl, rfl, rfl, rfl, rfl, rfl, rfl, (congrArg (fun z => some (zvi z)) (by first | (rw [cuR_y (by assumption)]; rfl) | (rw [cuR_n (by assumption)]; rfl))), rfl, rfl⟩, (m + 1), fi, v85o, rfl, rfl, rfl, rfl, rfl, rfl, (by omega), (by omega), ?_, ?_, (fun c j h0 h1 h2 => ((fr c j h0 h1 h2).trans rfl))⟩
              · first
                | (rw [cuR_n (by assumption)]; intro q; exact absurd q (Nat.lt_irrefl 0))
                | (rw [cuR_y (by assumption)]
                   intro _
                   refine ⟨?_, by rw [Nat.add_sub_cancel]; exact g85⟩
                   first
                   | (rw [show m + 1 - (cuR (cuHl s n l r al) m + 1) = m by omega]; exact g85)
                   | (rw [show m + 1 - (cuR (cuHl s n l r al) m + 1) = m - cuR (cuHl s n l r al) m by omega]; exact (hfl (by omega)).1))
              · first
                | (rw [cuL_y (by assumption)]; exact hW3)
                | (rw [cuL_n (by assumption) (by omega)]; exact hW3)
                | exact zUw_e p124hW2 (by rw [cuL_r (by assumption) (by omega), ← List.append_assoc]; unfold cuMk; rw [← (hfl (by omega)).1, ← (hfl (by omega)).2])
            · refine ⟨((18 - (m + 1)), 0, 0), zlt6 (by omega), [some (zvr (k)), some (zvr (82)), some (zvi (n)), some (zvi (l)), some (zvi (r)), some (zvi (al)), some (zvi (cuMx s al)), some (zvi (v85o)), some (zvi (v85o)), some (zvi (cuR (cuHl s n l r al) (m + 1))), some (zvi ((m + 1))), none], ⟨rfl, rfl, rfl, rfl, rfl, rfl, rfl, rfl, rfl, (congrArg (fun z => some (zvi z)) (by first | (rw [cuR_y (by assumption)]; rfl) | (rw [cuR_n (by assumption)]; rfl))), rfl, rfl⟩, (m + 1), v85o, v85o, rfl, rfl, rfl, rfl, rfl, rfl, (by omega), (by omega), ?_, ?_, (fun c j h0 h1 h2 => ((fr c j h0 h1 h2).trans rfl))⟩
              · first
                | (rw [cuR_n (by assumption)]; intro q; exact absurd q (Nat.lt_irrefl 0))
                | (rw [cuR_y (by assumption)]
                   intro _
                   refine ⟨?_, by rw [Nat.add_sub_cancel]; exact g85⟩
                   first
                   | (rw [show m + 1 - (cuR (cuHl s n l r al) m + 1) = m by omega]; exact g85)
                   | (rw [show m + 1 - (cuR (cuHl s n l r al) m + 1) = m - cuR (cuHl s n l r al) m by omega]; exact (hfl (by omega)).1))
              · first
                | (rw [cuL_y (by assumption)]; exact hW3)
                | (rw [cuL_n (by assumption) (by omega)]; exact hW3)
                | exact zUw_e p124hW2 (by rw [cuL_r (by assumption) (by omega), ← List.append_assoc]; unfold cuMk; rw [← (hfl (by omega)).1, ← (hfl (by omega)).2])
      · refine And.intro (zA_82 hS) ⟨_, sn_A_cell.up (by decide), ?_⟩
        refine ⟨(bW s), (bH s), (bD s), (l : Int), (m : Int), (r : Int), rfl, hS, hR, ((fr 82 1 (by omega) (by omega) (by omega)).trans hbw), ((fr 82 2 (by omega) (by omega) (by omega)).trans hbh), ((fr 82 3 (by omega) (by omega) (by omega)).trans hbd), (by omega), gB9, (by omega), ?_⟩
        intro v48o p48hv p48bhv2
        refine And.intro ⟨(by omega), (zRb rfl)⟩ ⟨fun h68 => ?_, fun h68 => ?_⟩
        · have t68 : ¬ (cuHl s n l r al) m = 1 := (by first | (rw [cuHl_1 (by omega)]; exact cuHb_m p48hv (by omega)) | (rw [cuHl_0 (by omega)]; exact cuHb_m p60hv (by omega)))
          refine And.intro ⟨(by omega), (zRb rfl)⟩ ⟨fun h113 => ?_, fun h113 => ?_⟩
          · refine ⟨((18 - (m + 1)), 0, 0), zlt6 (by omega), [some (zvr (k)), some (zvr (82)), some (zvi (n)), some (zvi (l)), some (zvi (r)), some (zvi (al)), some (zvi (cuMx s al)), some (zvi (fi)), some (zvi (la)), some (zvi (cuR (cuHl s n l r al) (m + 1))), some (zvi ((m + 1))), none], ⟨rfl, rfl, rfl, rfl, rfl, rfl, rfl, rfl, rfl, (congrArg (fun z => some (zvi z)) (by first | (rw [cuR_y (by assumption)]; rfl) | (rw [cuR_n (by assumption)]; rfl))), rfl, rfl⟩, (m + 1), fi, la, rfl, rfl, rfl, rfl, rfl, rfl, (by omega), (by omega), ?_, ?_, (fun c j h0 h1 h2 => ((fr c j h0 h1 h2).trans rfl))⟩
            · first
              | (rw [cuR_n (by assumption)]; intro q; exact absurd q (Nat.lt_irrefl 0))
              | (rw [cuR_y (by assumption)]
                 intro _
                 refine ⟨?_, by rw [Nat.add_sub_cancel]; exact g85⟩
                 first
                 | (rw [show m + 1 - (cuR (cuHl s n l r al) m + 1) = m by omega]; exact g85)
                 | (rw [show m + 1 - (cuR (cuHl s n l r al) m + 1) = m - cuR (cuHl s n l r al) m by omega]; exact (hfl (by omega)).1))
            · first
              | (rw [cuL_y (by assumption)]; exact hW3)
              | (rw [cuL_n (by assumption) (by omega)]; exact hW3)
              | exact zUw_e p124hW2 (by rw [cuL_r (by assumption) (by omega), ← List.append_assoc]; unfold cuMk; rw [← (hfl (by omega)).1, ← (hfl (by omega)).2])
          · refine And.intro (zDX hD 0 rfl) ⟨_, sn_U_add.up (by decide), ?_⟩
            refine ⟨k, (w ++ cuL (cuMk n l r al) (cuHl s n l r al) m), (0 : Int), (n : Int), (l : Int), (fi : Int), (la : Int), rfl, hS, hR, hD, (by first | exact hk | (clear hQ; grind [xu])), (by first | exact (zUw_fr hW (fun c j h => ((fr c j (by omega) (by omega) (by omega)).trans rfl))) | exact (zUw_fr hW3 (fun c j h => rfl)) | (clear hQ; grind [xu])), (by omega), ?_⟩
            intro I124o p124hW2 p124bfr
            refine ⟨((18 - (m + 1)), 0, 0), zlt6 (by omega), [some (zvr (k)), some (zvr (82)), some (zvi (n)), some (zvi (l)), some (zvi (r)), some (zvi (al)), some (zvi (cuMx s al)), some (zvi (fi)), some (zvi (la)), some (zvi (cuR (cuHl s n l r al) (m + 1))), some (zvi ((m + 1))), none], ⟨rfl, rfl, rfl, rfl, rfl, rfl, rfl, rfl, rfl, (congrArg (fun z => some (zvi z)) (by first | (rw [cuR_y (by assumption)]; rfl) | (rw [cuR_n (by assumption)]; rfl))), rfl, rfl⟩, (m + 1), fi, la, rfl, rfl, rfl, rfl, rfl, rfl, (by omega), (by omega), ?_, ?_, (fun c j h0 h1 h2 => ((p124bfr c j h0 h1 h2).trans ((fr c j h0 h1 h2).trans rfl)))⟩
            · first
              | (rw [cuR_n (by assumption)]; intro q; exact absurd q (Nat.lt_irrefl 0))
              | (rw [cuR_y (by assumption)]
                 intro _
                 refine ⟨?_, by rw [Nat.add_sub_cancel]; exact g85⟩
                 first
                 | (rw [show m + 1 - (cuR (cuHl s n l r al) m + 1) = m by omega]; exact g85)
                 | (rw [show m + 1 - (cuR (cuHl s n l r al) m + 1) = m - cuR (cuHl s n l r al) m by omega]; exact (hfl (by omega)).1))
            · first
              | (rw [cuL_y (by assumption)]; exact hW3)
              | (rw [cuL_n (by assumption) (by omega)]; exact hW3)
              | exact zUw_e p124hW2 (by rw [cuL_r (by assumption) (by omega), ← List.append_assoc]; unfold cuMk; rw [← (hfl (by omega)).1, ← (hfl (by omega)).2])
        · refine And.intro (zA_82 hS) (zrdR (v := some 86) (zR_82_8 hR) ?_)
          refine And.intro (zP_86 hS (by omega) (by omega)) (fun v77 e77 r77 => ?_)
          have f77 : (cuHl s n l r al) m = 1 ↔ v77 = n := (by first | (rw [cuHl_1 (by omega)]; exact cuHb_iff p48hv (by omega) (by first | exact e77.trans ((fr 86 _ (by omega) (by omega) (by omega)).trans (hcl v48o.toNat (by omega)).2.2.1) | exact e77.trans ((fr 86 _ (by omega) (by omega) (by omega)).trans (hcl v60o.toNat (by omega)).2.2.1))) | (rw [cuHl_0 (by omega)]; exact cuHb_iff p60hv (by omega) (by first | exact e77.trans ((fr 86 _ (by omega) (by omega) (by omega)).trans (hcl v48o.toNat (by omega)).2.2.1) | exact e77.trans ((fr 86 _ (by omega) (by omega) (by omega)).trans (hcl v60o.toNat (by omega)).2.2.1))))
          refine And.intro ⟨r77, (by omega)⟩ ⟨fun h79 => ?_, fun h79 => ?_⟩
          · have t79 : ¬ (cuHl s n l r al) m = 1 := (fun q => by have := f77.mp q; omega)
            refine And.intro ⟨(by omega), (zRb rfl)⟩ ⟨fun h113 => ?_, fun h113 => ?_⟩
            · refine ⟨((18 - (m + 1)), 0, 0), zlt6 (by omega), [some (zvr (k)), some (zvr (82)), some (zvi (n)), some (zvi (l)), some (zvi (r)), some (zvi (al)), some (zvi (cuMx s al)), some (zvi (fi)), some (zvi (la)), some (zvi (cuR (cuHl s n l r al) (m + 1))), some (zvi ((m + 1))), none], ⟨rfl, rfl, rfl, rfl, rfl, rfl, rfl, rfl, rfl, (congrArg (fun z => some (zvi z)) (by first | (rw [cuR_y (by assumption)]; rfl) | (rw [cuR_n (by assumption)]; rfl))), rfl, rfl⟩, (m + 1), fi, la, rfl, rfl, rfl, rfl, rfl, rfl, (by omega), (by omega), ?_, ?_, (fun c j h0 h1 h2 => ((fr c j h0 h1 h2).trans rfl))⟩
              · first
                | (rw [cuR_n (by assumption)]; intro q; exact absurd q (Nat.lt_irrefl 0))
                | (rw [cuR_y (by assumption)]
                   intro _
                   refine ⟨?_, by rw [Nat.add_sub_cancel]; exact g85⟩
                   first
                   | (rw [show m + 1 - (cuR (cuHl s n l r al) m + 1) = m by omega]; exact g85)
                   | (rw [show m + 1 - (cuR (cuHl s n l r al) m + 1) = m - cuR (cuHl s n l r al) m by omega]; exact (hfl (by omega)).1))
              · first
                | (rw [cuL_y (by assumption)]; exact hW3)
                | (rw [cuL_n (by assumption) (by omega)]; exact hW3)
                | exact zUw_e p124hW2 (by rw [cuL_r (by assumption) (by omega), ← List.append_assoc]; unfold cuMk; rw [← (hfl (by omega)).1, ← (hfl (by omega)).2])
            · refine And.intro (zDX hD 0 rfl) ⟨_, sn_U_add.up (by decide), ?_⟩
              refine ⟨k, (w ++ cuL (cuMk n l r al) (cuHl s n l r al) m), (0 : Int), (n : Int), (l : Int), (fi : Int), (la : Int), rfl, hS, hR, hD, (by first | exact hk | (clear hQ; grind [xu])), (by first | exact (zUw_fr hW (fun c j h => ((fr c j (by omega) (by omega) (by omega)).trans rfl))) | exact (zUw_fr hW3 (fun c j h => rfl)) | (clear hQ; grind [xu])), (by omega), ?_⟩
              intro I124o p124hW2 p124bfr
              refine ⟨((18 - (m + 1)), 0, 0), zlt6 (by omega), [some (zvr (k)), some (zvr (82)), some (zvi (n)), some (zvi (l)), some (zvi (r)), some (zvi (al)), some (zvi (cuMx s al)), some (zvi (fi)), some (zvi (la)), some (zvi (cuR (cuHl s n l r al) (m + 1))), some (zvi ((m + 1))), none], ⟨rfl, rfl, rfl, rfl, rfl, rfl, rfl, rfl, rfl, (congrArg (fun z => some (zvi z)) (by first | (rw [cuR_y (by assumption)]; rfl) | (rw [cuR_n (by assumption)]; rfl))), rfl, rfl⟩, (m + 1), fi, la, rfl, rfl, rfl, rfl, rfl, rfl, (by omega), (by omega), ?_, ?_, (fun c j h0 h1 h2 => ((p124bfr c j h0 h1 h2).trans ((fr c j h0 h1 h2).trans rfl)))⟩
              · first
                | (rw [cuR_n (by assumption)]; intro q; exact absurd q (Nat.lt_irrefl 0))
                | (rw [cuR_y (by assumption)]
                   intro _
                   refine ⟨?_, by rw [Nat.add_sub_cancel]; exact g85⟩
                   first
                   | (rw [show m + 1 - (cuR (cuHl s n l r al) m + 1) = m by omega]; exact g85)
                   | (rw [show m + 1 - (cuR (cuHl s n l r al) m + 1) = m - cuR (cuHl s n l r al) m by omega]; exact (hfl (by omega)).1))
              · first
                | (rw [cuL_y (by assumption)]; exact hW3)
                | (rw [cuL_n (by assumption) (by omega)]; exact hW3)
                | exact zUw_e p124hW2 (by rw [cuL_r (by assumption) (by omega), ← List.append_assoc]; unfold cuMk; rw [← (hfl (by omega)).1, ← (hfl (by omega)).2])
          · have t79 : (cuHl s n l r al) m = 1 := (f77.mpr (by omega))
            refine ⟨_, sn_U_plc.up (by decide), ?_⟩
            refine ⟨b, s, (v48o : Int), (v48o).toNat, rfl, hS, hR, (by first | exact (zBA_fr hBA (fun c j h => ((fr c j (by omega) (by omega) (by omega)).trans rfl)) (fun c j h => rfl)) | (clear hQ; grind [xu])), (by first | exact hGd | (clear hQ; grind [xu])), (by omega), (by omega), ?_⟩
            intro v85o p85hv p85bhv2
            have g85 : v85o = cuPl r al m := (by first | (rw [cuPl_1 (by omega)]; exact p85hv.trans (cuPp_c p48hv (by omega))) | (rw [cuPl_0 (by omega)]; exact p85hv.trans (cuPp_c p60hv (by omega))))
            refine And.intro (by omega) ⟨fun h92 => ?_, fun h92 => ?_⟩
            · refine ⟨((18 - (m + 1)), 0, 0), zlt6 (by omega), [some (zvr (k)), some (zvr (82)), some (zvi (n)), some (zvi (l)), some (zvi (r)), some (zvi (al)), some (zvi (cuMx s al)), some (zvi (fi)), some (zvi (v85o)), some (zvi (cuR (cuHl s n l r al) (m + 1))), some (zvi ((m + 1))), none], ⟨rfl, rfl, rfl, rfl, rfl, rfl, rfl, rfl, rfl, (congrArg (fun z => some (zvi z)) (by first | (rw [cuR_y (by assumption)]; rfl) | (rw [cuR_n (by assumption)]; rfl))), rfl, rfl⟩, (m + 1), fi, v85o, rfl, rfl, rfl, rfl, rfl, rfl, (by omega), (by omega), ?_, ?_, (fun c j h0 h1 h2 => ((fr c j h0 h1 h2).trans rfl))⟩
              · first
                | (rw [cuR_n (by assumption)]; intro q; exact absurd q (Nat.lt_irrefl 0))
                | (rw [cuR_y (by assumption)]
                   intro _
                   refine ⟨?_, by rw [Nat.add_sub_cancel]; exact g85⟩
                   first
                   | (rw [show m + 1 - (cuR (cuHl s n l r al) m + 1) = m by omega]; exact g85)
                   | (rw [show m + 1 - (cuR (cuHl s n l r al) m + 1) = m - cuR (cuHl s n l r al) m by omega]; exact (hfl (by omega)).1))
              · first
                | (rw [cuL_y (by assumption)]; exact hW3)
                | (rw [cuL_n (by assumption) (by omega)]; exact hW3)
                | exact zUw_e p124hW2 (by rw [cuL_r (by assumption) (by omega), ← List.append_assoc]; unfold cuMk; rw [← (hfl (by omega)).1, ← (hfl (by omega)).2])
            · refine ⟨((18 - (m + 1)), 0, 0), zlt6 (by omega), [some (zvr (k)), some (zvr (82)), some (zvi (n)), some (zvi (l)), some (zvi (r)), some (zvi (al)), some (zvi (cuMx s al)), some (zvi (v85o)), some (zvi (v85o)), some (zvi (cuR (cuHl s n l r al) (m + 1))), some (zvi ((m + 1))), none], ⟨rfl, rfl, rfl, rfl, rfl, rfl, rfl, rfl, rfl, (congrArg (fun z => some (zvi z)) (by first | (rw [cuR_y (by assumption)]; rfl) | (rw [cuR_n (by assumption)]; rfl))), rfl, rfl⟩, (m + 1), v85o, v85o, rfl, rfl, rfl, rfl, rfl, rfl, (by omega), (by omega), ?_, ?_, (fun c j h0 h1 h2 => ((fr c j h0 h1 h2).trans rfl))⟩
              · first
                | (rw [cuR_n (by assumption)]; intro q; exact absurd q (Nat.lt_irrefl 0))
                | (rw [cuR_y (by assumption)]
                   intro _
                   refine ⟨?_, by rw [Nat.add_sub_cancel]; exact g85⟩
                   first
                   | (rw [show m + 1 - (cuR (cuHl s n l r al) m + 1) = m by omega]; exact g85)
                   | (rw [show m + 1 - (cuR (cuHl s n l r al) m + 1) = m - cuR (cuHl s n l r al) m by omega]; exact (hfl (by omega)).1))
              · first
                | (rw [cuL_y (by assumption)]; exact hW3)
                | (rw [cuL_n (by assumption) (by omega)]; exact hW3)
                | exact zUw_e p124hW2 (by rw [cuL_r (by assumption) (by omega), ← List.append_assoc]; unfold cuMk; rw [← (hfl (by omega)).1, ← (hfl (by omega)).2]))
def T_U_run : ZT := fun args I L R S Q => ∃ (k : Nat) (w : List CuR) (b : Nat) (s : BdS) (n : Int) (al : Nat), args = [zvr k, zvr 82, zvi n, zvi al] ∧ (zSh S) ∧ (zRs R) ∧ (zDy zT1 zF1 k R S) ∧ (k = 106 ∨ k = 118) ∧ (zUw k w I) ∧ (zBA b s I L) ∧ (bGd s) ∧ (0 ≤ n ∧ n ≤ 11) ∧ (al ≤ 1) ∧ ∀ (I' : ZI), (zUw k (w ++ cuRs s n al) I') → (∀ c j : Nat, ¬ (c = k ∧ j = 2) → ¬ (c = k + 1 ∧ j = 2) → ¬ c = k + 2 → I' c j = I c j) → Q none I' L R S
theorem sn_U_run : ZSnd 4 1 2 T_U_run := ZSnd.loops (zT1_2 3) (by
  rintro args I L R S Q hz ⟨k, w, b, s, n, al, rfl, hS, hR, hD, hk, hW, hBA, hGd, hn, hal, hQ⟩
  obtain ⟨⟨hb0, hbw, hbh, hbd, hbs⟩, hnb, hcl, hPT, hNT, hwy, hco, hnd⟩ := id hBA
  obtain ⟨hP1, hP2, hP3, hP4⟩ := id hPT
  obtain ⟨hN1, hN2, hN3, hN4⟩ := id hNT
  obtain ⟨⟨⟨gW1, gW2⟩, ⟨gH1, gH2⟩, ⟨gD1, gD2⟩, gB9⟩, ⟨gnp, gnn⟩, gc, gp, gn, gco, gnd, gun⟩ := id hGd
  have hk106 : 106 ≤ k := by omega
  have hk118 : k ≤ 118 := by omega
  have hx16 : 1 ≤ cuMl s al ∧ cuMl s al ≤ 16 ∧ (al = 1 → cuMl s al = bH s) ∧ (al ≠ 1 → cuMl s al = bW s) := (by by_cases e : al = 1; (rw [cuMl_1 e]; omega); (rw [cuMl_0 e]; omega))
  refine ⟨[20, 32], fun nM tM lsM stM I1 L1 R1 S1 => match tM with
      | 20 => ∃ (p : Nat), nM = ((5 - p), 1, 0) ∧ lsM = [some (zvr (k)), some (zvr (82)), some (zvi (n)), some (zvi (al)), some (zvi (cuMl s al)), some (zvi (p)), none] ∧ stM = [] ∧ L1 = L ∧ R1 = R ∧ S1 = S ∧ (p ≤ bD s) ∧ (zUw k (w ++ cuC (fun l => cuC (fun r => cuLn s n l r al) (cuMl s al)) p) I1) ∧ (∀ c j : Nat, ¬ (c = k ∧ j = 2) → ¬ (c = k + 1 ∧ j = 2) → ¬ c = k + 2 → I1 c j = I c j)
      | 32 => ∃ (p : Nat) (q : Nat), nM = ((5 - p), 0, (17 - q)) ∧ lsM = [some (zvr (k)), some (zvr (82)), some (zvi (n)), some (zvi (al)), some (zvi (cuMl s al)), some (zvi (p)), some (zvi (q))] ∧ stM = [] ∧ L1 = L ∧ R1 = R ∧ S1 = S ∧ (p < bD s) ∧ (q ≤ cuMl s al) ∧ (zUw k ((w ++ cuC (fun l => cuC (fun r => cuLn s n l r al) (cuMl s al)) p) ++ cuC (fun r => cuLn s n p r al) q) I1) ∧ (∀ c j : Nat, ¬ (c = k ∧ j = 2) → ¬ (c = k + 1 ∧ j = 2) → ¬ c = k + 2 → I1 c j = I c j)
      | _ => False, rfl, ?_, ⟨?_, ?_, True.intro⟩⟩
  · refine And.intro (by omega) ⟨fun h1 => ?_, fun h1 => ?_⟩
    · refine And.intro (zA_82 hS) (zrd (v := (bW s)) hbw ?_)
      refine ⟨((5 - (0 : Nat)), 1, 0), [some (zvr (k)), some (zvr (82)), some (zvi (n)), some (zvi (al)), some (zvi (cuMl s al)), some (zvi ((0 : Nat))), none], ⟨rfl, rfl, rfl, rfl, (congrArg (fun z => some (zvi z)) (by first | rw [show cuMl s al = bH s from cuMl_1 (by omega)] | rw [show cuMl s al = bW s from cuMl_0 (by omega)])), rfl, rfl⟩, 0, rfl, rfl, rfl, rfl, rfl, rfl, (by omega), (zUw_e hW (List.append_nil w).symm), (fun c j h0 h1 h2 => rfl)⟩
    · refine And.intro (zA_82 hS) (zrd (v := (bH s)) hbh ?_)
      refine ⟨((5 - (0 : Nat)), 1, 0), [some (zvr (k)), some (zvr (82)), some (zvi (n)), some (zvi (al)), some (zvi (cuMl s al)), some (zvi ((0 : Nat))), none], ⟨rfl, rfl, rfl, rfl, (congrArg (fun z => some (zvi z)) (by first | rw [show cuMl s al = bH s from cuMl_1 (by omega)] | rw [show cuMl s al = bW s from cuMl_0 (by omega)])), rfl, rfl⟩, 0, rfl, rfl, rfl, rfl, rfl, rfl, (by omega), (zUw_e hW (List.append_nil w).symm), (fun c j h0 h1 h2 => rfl)⟩
  · rintro nM lsM stM I1 L1 R1 S1 hz1 ⟨p, rfl, rfl, rfl, rfl, rfl, rfl, hp, hW3, fr⟩
    refine And.intro (zA_82 hS) (zrd (v := (bD s)) ((fr 82 3 (by omega) (by omega) (by omega)).trans hbd) ?_)
    refine And.intro ⟨(by omega), (by omega)⟩ ⟨fun h26 => ?_, fun h26 => ?_⟩
    · refine hQ _ (by have e : p = bD s := (by omega); subst e; exact hW3) (fun c j h0 h1 h2 => ((fr c j h0 h1 h2).trans rfl))
    · refine ⟨((5 - p), 0, (17 - (0 : Nat))), zlt6 (by omega), [some (zvr (k)), some (zvr (82)), some (zvi (n)), some (zvi (al)), some (zvi (cuMl s al)), some (zvi (p)), some (zvi ((0 : Nat)))], ⟨rfl, rfl, rfl, rfl, rfl, rfl, rfl, rfl⟩, p, 0, rfl, rfl, rfl, rfl, rfl, rfl, (by omega), (by omega), (zUw_e hW3 (List.append_nil _).symm), (fun c j h0 h1 h2 => ((fr c j h0 h1 h2).trans rfl))⟩
  · rintro nM lsM stM I1 L1 R1 S1 hz1 ⟨p, q, rfl, rfl, rfl, rfl, rfl, rfl, hp, hq, hW3, fr⟩
    refine And.intro ⟨(by omega), (by omega)⟩ ⟨fun h36 => ?_, fun h36 => ?_⟩
    · refine ⟨((5 - (p + 1)), 1, 0), zlt6 (by omega), [some (zvr (k)), some (zvr (82)), some (zvi (n)), some (zvi (al)), some (zvi (cuMl s al)), some (zvi ((p + 1))), none], ⟨rfl, rfl, rfl, rfl, rfl, rfl, rfl⟩, (p + 1), rfl, rfl, rfl, rfl, rfl, rfl, (by omega), (zUw_e (zUw_c hW3 hq (by first | exact Or.inl (by omega) | (rcases zUw_b hW3 e40 with z | z; (exfalso; omega); exact Or.inr z.2))) (List.append_assoc _ _ _)), (fun c j h0 h1 h2 => ((fr c j h0 h1 h2).trans rfl))⟩
    · refine And.intro (zDX hD 0 rfl) (fun v40 e40 r40 => ?_)
      refine And.intro r40 ⟨fun h43 => ?_, fun h43 => ?_⟩
      · refine ⟨((5 - (p + 1)), 1, 0), zlt6 (by omega), [some (zvr (k)), some (zvr (82)), some (zvi (n)), some (zvi (al)), some (zvi (cuMl s al)), some (zvi ((p + 1))), none], ⟨rfl, rfl, rfl, rfl, rfl, rfl, rfl⟩, (p + 1), rfl, rfl, rfl, rfl, rfl, rfl, (by omega), (zUw_e (zUw_c hW3 hq (by first | exact Or.inl (by omega) | (rcases zUw_b hW3 e40 with z | z; (exfalso; omega); exact Or.inr z.2))) (List.append_assoc _ _ _)), (fun c j h0 h1 h2 => ((fr c j h0 h1 h2).trans rfl))⟩
      · refine And.intro (zDX hD 0 rfl) ⟨_, sn_U_lin.up (by decide), ?_⟩
        refine ⟨k, ((w ++ cuC (fun l => cuC (fun r => cuLn s n l r al) (cuMl s al)) p) ++ cuC (fun r => cuLn s n p r al) q), b, s, (n : Int), p, q, al, rfl, hS, hR, hD, (by first | exact hk | (clear hQ; grind [xu])), (by first | exact (zUw_fr hW (fun c j h => ((fr c j (by omega) (by omega) (by omega)).trans rfl))) | exact (zUw_fr hW3 (fun c j h => rfl)) | (clear hQ; grind [xu])), (by first | exact (zBA_fr hBA (fun c j h => ((fr c j (by omega) (by omega) (by omega)).trans rfl)) (fun c j h => rfl)) | (clear hQ; grind [xu])), (by first | exact hGd | (clear hQ; grind [xu])), (by omega), (by omega), (by omega), (by omega), ?_⟩
        intro I54o p54hW2 p54bfr
        refine ⟨((5 - p), 0, (17 - (q + 1))), zlt6 (by omega), [some (zvr (k)), some (zvr (82)), some (zvi (n)), some (zvi (al)), some (zvi (cuMl s al)), some (zvi (p)), some (zvi ((q + 1)))], ⟨rfl, rfl, rfl, rfl, rfl, rfl, rfl, rfl⟩, p, (q + 1), rfl, rfl, rfl, rfl, rfl, rfl, (by omega), (by omega), (zUw_e p54hW2 (List.append_assoc _ _ _)), (fun c j h0 h1 h2 => ((p54bfr c j h0 h1 h2).trans ((fr c j h0 h1 h2).trans rfl)))⟩)
def T_U_hol : ZT := fun args I L R S Q => ∃ (k : Nat) (w : List CuR) (b : Nat) (s : BdS) (n : Int), args = [zvr k, zvr 82, zvi n] ∧ (zSh S) ∧ (zRs R) ∧ (zDy zT1 zF1 k R S) ∧ (k = 106 ∨ k = 118) ∧ (zUw k w I) ∧ (zBA b s I L) ∧ (bGd s) ∧ (0 ≤ n ∧ n ≤ 11) ∧ ∀ (I' : ZI), (zUw k (w ++ cuHs s n) I') → (∀ c j : Nat, ¬ (c = k ∧ j = 2) → ¬ (c = k + 1 ∧ j = 2) → ¬ c = k + 2 → I' c j = I c j) → Q none I' L R S
theorem sn_U_hol : ZSnd 3 1 1 T_U_hol := ZSnd.loops (zT1_1 2) (by
  rintro args I L R S Q hz ⟨k, w, b, s, n, rfl, hS, hR, hD, hk, hW, hBA, hGd, hn, hQ⟩
  obtain ⟨⟨hb0, hbw, hbh, hbd, hbs⟩, hnb, hcl, hPT, hNT, hwy, hco, hnd⟩ := id hBA
  obtain ⟨hP1, hP2, hP3, hP4⟩ := id hPT
  obtain ⟨hN1, hN2, hN3, hN4⟩ := id hNT
  obtain ⟨⟨⟨gW1, gW2⟩, ⟨gH1, gH2⟩, ⟨gD1, gD2⟩, gB9⟩, ⟨gnp, gnn⟩, gc, gp, gn, gco, gnd, gun⟩ := id hGd
  have hk106 : 106 ≤ k := by omega
  have hk118 : k ≤ 118 := by omega
  refine ⟨[2, 15, 27], fun nM tM lsM stM I1 L1 R1 S1 => match tM with
      | 2 => ∃ (p : Nat), nM = ((5 - p), 40, 0) ∧ lsM = [some (zvr (k)), some (zvr (82)), some (zvi (n)), some (zvi (p)), none, none, none] ∧ stM = [] ∧ L1 = L ∧ R1 = R ∧ S1 = S ∧ (p + 1 ≤ bD s) ∧ (zUw k (w ++ cuC (fun l => cuC (fun j => cuC (fun i => cuHo s n l j i) (bW s)) (bH s)) p) I1) ∧ (∀ c j : Nat, ¬ (c = k ∧ j = 2) → ¬ (c = k + 1 ∧ j = 2) → ¬ c = k + 2 → I1 c j = I c j)
      | 15 => ∃ (p : Nat) (q : Nat), nM = ((5 - p), (2 * (17 - q) + 1), 0) ∧ lsM = [some (zvr (k)), some (zvr (82)), some (zvi (n)), some (zvi (p)), some (zvi (q)), none, none] ∧ stM = [] ∧ L1 = L ∧ R1 = R ∧ S1 = S ∧ (p + 2 ≤ bD s) ∧ (q ≤ bH s) ∧ (zUw k ((w ++ cuC (fun l => cuC (fun j => cuC (fun i => cuHo s n l j i) (bW s)) (bH s)) p) ++ cuC (fun j => cuC (fun i => cuHo s n p j i) (bW s)) q) I1) ∧ (∀ c j : Nat, ¬ (c = k ∧ j = 2) → ¬ (c = k + 1 ∧ j = 2) → ¬ c = k + 2 → I1 c j = I c j)
      | 27 => ∃ (p : Nat) (q : Nat) (x : Nat), nM = ((5 - p), (2 * (17 - q)), (17 - x)) ∧ lsM = [some (zvr (k)), some (zvr (82)), some (zvi (n)), some (zvi (p)), some (zvi (q)), some (zvi (x)), none] ∧ stM = [] ∧ L1 = L ∧ R1 = R ∧ S1 = S ∧ (p + 2 ≤ bD s) ∧ (q < bH s) ∧ (x ≤ bW s) ∧ (zUw k (((w ++ cuC (fun l => cuC (fun j => cuC (fun i => cuHo s n l j i) (bW s)) (bH s)) p) ++ cuC (fun j => cuC (fun i => cuHo s n p j i) (bW s)) q) ++ cuC (fun i => cuHo s n p q i) x) I1) ∧ (∀ c j : Nat, ¬ (c = k ∧ j = 2) → ¬ (c = k + 1 ∧ j = 2) → ¬ c = k + 2 → I1 c j = I c j)
      | _ => False, rfl, ?_, ⟨?_, ?_, ?_, True.intro⟩⟩
  · refine ⟨((5 - (0 : Nat)), 40, 0), [some (zvr (k)), some (zvr (82)), some (zvi (n)), some (zvi ((0 : Nat))), none, none, none], ⟨rfl, rfl, rfl, rfl, rfl⟩, 0, rfl, rfl, rfl, rfl, rfl, rfl, (by omega), (zUw_e hW (List.append_nil w).symm), (fun c j h0 h1 h2 => rfl)⟩
  · rintro nM lsM stM I1 L1 R1 S1 hz1 ⟨p, rfl, rfl, rfl, rfl, rfl, rfl, hp, hW3, fr⟩
    refine And.intro (zA_82 hS) (zrd (v := (bD s)) ((fr 82 3 (by omega) (by omega) (by omega)).trans hbd) ?_)
    refine And.intro ⟨(by omega), (by omega)⟩ ⟨fun h9 => ?_, fun h9 => ?_⟩
    · refine hQ _ (by have e : p = bD s - 1 := (by omega); subst e; exact hW3) (fun c j h0 h1 h2 => ((fr c j h0 h1 h2).trans rfl))
    · refine ⟨((5 - p), (2 * (17 - (0 : Nat)) + 1), 0), zlt6 (by omega), [some (zvr (k)), some (zvr (82)), some (zvi (n)), some (zvi (p)), some (zvi ((0 : Nat))), none, none], ⟨rfl, rfl, rfl, rfl, rfl, rfl⟩, p, 0, rfl, rfl, rfl, rfl, rfl, rfl, (by omega), (by omega), (zUw_e hW3 (List.append_nil _).symm), (fun c j h0 h1 h2 => ((fr c j h0 h1 h2).trans rfl))⟩
  · rintro nM lsM stM I1 L1 R1 S1 hz1 ⟨p, q, rfl, rfl, rfl, rfl, rfl, rfl, hp, hq, hW3, fr⟩
    refine And.intro (zA_82 hS) (zrd (v := (bH s)) ((fr 82 2 (by omega) (by omega) (by omega)).trans hbh) ?_)
    refine And.intro ⟨(by omega), (by omega)⟩ ⟨fun h21 => ?_, fun h21 => ?_⟩
    · refine ⟨((5 - (p + 1)), 40, 0), zlt6 (by omega), [some (zvr (k)), some (zvr (82)), some (zvi (n)), some (zvi ((p + 1))), none, none, none], ⟨rfl, rfl, rfl, rfl, rfl⟩, (p + 1), rfl, rfl, rfl, rfl, rfl, rfl, (by omega), (zUw_e (by have e : q = bH s := (by omega); subst e; exact hW3) (List.append_assoc _ _ _)), (fun c j h0 h1 h2 => ((fr c j h0 h1 h2).trans rfl))⟩
    · refine ⟨((5 - p), (2 * (17 - q)), (17 - (0 : Nat))), zlt6 (by omega), [some (zvr (k)), some (zvr (82)), some (zvi (n)), some (zvi (p)), some (zvi (q)), some (zvi ((0 : Nat))), none], ⟨rfl, rfl, rfl, rfl, rfl, rfl, rfl⟩, p, q, 0, rfl, rfl, rfl, rfl, rfl, rfl, (by omega), (by omega), (by omega), (zUw_e hW3 (List.append_nil _).symm), (fun c j h0 h1 h2 => ((fr c j h0 h1 h2).trans rfl))⟩
  · rintro nM lsM stM I1 L1 R1 S1 hz1 ⟨p, q, x, rfl, rfl, rfl, rfl, rfl, rfl, hp, hq2, hq, hW3, fr⟩
    refine And.intro (zA_82 hS) (zrd (v := (bW s)) ((fr 82 1 (by omega) (by omega) (by omega)).trans hbw) ?_)
    refine And.intro ⟨(by omega), (by omega)⟩ ⟨fun h33 => ?_, fun h33 => ?_⟩
    · refine ⟨((5 - p), (2 * (17 - (q + 1)) + 1), 0), zlt6 (by omega), [some (zvr (k)), some (zvr (82)), some (zvi (n)), some (zvi (p)), some (zvi ((q + 1))), none, none], ⟨rfl, rfl, rfl, rfl, rfl, rfl⟩, p, (q + 1), rfl, rfl, rfl, rfl, rfl, rfl, (by omega), (by omega), (zUw_e (zUw_c hW3 hq (by first | exact Or.inl (by omega) | (rcases zUw_b hW3 e37 with z | z; (exfalso; omega); exact Or.inr z.2))) (List.append_assoc _ _ _)), (fun c j h0 h1 h2 => ((fr c j h0 h1 h2).trans rfl))⟩
    · refine And.intro (zDX hD 0 rfl) (fun v37 e37 r37 => ?_)
      refine And.intro r37 ⟨fun h40 => ?_, fun h40 => ?_⟩
      · refine ⟨((5 - p), (2 * (17 - (q + 1)) + 1), 0), zlt6 (by omega), [some (zvr (k)), some (zvr (82)), some (zvi (n)), some (zvi (p)), some (zvi ((q + 1))), none, none], ⟨rfl, rfl, rfl, rfl, rfl, rfl⟩, p, (q + 1), rfl, rfl, rfl, rfl, rfl, rfl, (by omega), (by omega), (zUw_e (zUw_c hW3 hq (by first | exact Or.inl (by omega) | (rcases zUw_b hW3 e37 with z | z; (exfalso; omega); exact Or.inr z.2))) (List.append_assoc _ _ _)), (fun c j h0 h1 h2 => ((fr c j h0 h1 h2).trans rfl))⟩
      · refine ⟨_, sn_U_hld.up (by decide), ?_⟩
        refine ⟨b, s, (n : Int), (p : Int), (x : Int), (q : Int), rfl, hS, hR, (by first | exact (zBA_fr hBA (fun c j h => ((fr c j (by omega) (by omega) (by omega)).trans rfl)) (fun c j h => rfl)) | (clear hQ; grind [xu])), (by first | exact hGd | (clear hQ; grind [xu])), (by omega), ?_⟩
        intro v50o p50hv p50bhv2
        refine And.intro (by omega) ⟨fun h53 => ?_, fun h53 => ?_⟩
        · refine ⟨((5 - p), (2 * (17 - q)), (17 - (x + 1))), zlt6 (by omega), [some (zvr (k)), some (zvr (82)), some (zvi (n)), some (zvi (p)), some (zvi (q)), some (zvi ((x + 1))), none], ⟨rfl, rfl, rfl, rfl, rfl, rfl, rfl⟩, p, q, (x + 1), rfl, rfl, rfl, rfl, rfl, rfl, (by omega), (by omega), (by omega), ?_, (fun c j h0 h1 h2 => ((fr c j h0 h1 h2).trans rfl))⟩
          · first
            | exact zUw_e p113hW2 (by
                show _ = _ ++ (cuC (fun i => cuHo s n p q i) x ++ cuHo s n p q x)
                rw [cuHo_y (by omega) (by omega), ← List.append_assoc]
                simp only [List.append_assoc]
                rfl)
            | exact zUw_e hW3 (by
                show _ = _ ++ (cuC (fun i => cuHo s n p q i) x ++ cuHo s n p q x)
                rw [cuHo_n (by omega), List.append_nil])
        · refine ⟨_, sn_U_hld.up (by decide), ?_⟩
          refine ⟨b, s, (n : Int), ((p + 1) : Int), (x : Int), (q : Int), rfl, hS, hR, (by first | exact (zBA_fr hBA (fun c j h => ((fr c j (by omega) (by omega) (by omega)).trans rfl)) (fun c j h => rfl)) | (clear hQ; grind [xu])), (by first | exact hGd | (clear hQ; grind [xu])), (by omega), ?_⟩
          intro v65o p65hv p65bhv2
          refine And.intro (by omega) ⟨fun h68 => ?_, fun h68 => ?_⟩
          · refine ⟨((5 - p), (2 * (17 - q)), (17 - (x + 1))), zlt6 (by omega), [some (zvr (k)), some (zvr (82)), some (zvi (n)), some (zvi (p)), some (zvi (q)), some (zvi ((x + 1))), none], ⟨rfl, rfl, rfl, rfl, rfl, rfl, rfl⟩, p, q, (x + 1), rfl, rfl, rfl, rfl, rfl, rfl, (by omega), (by omega), (by omega), ?_, (fun c j h0 h1 h2 => ((fr c j h0 h1 h2).trans rfl))⟩
            · first
              | exact zUw_e p113hW2 (by
                  show _ = _ ++ (cuC (fun i => cuHo s n p q i) x ++ cuHo s n p q x)
                  rw [cuHo_y (by omega) (by omega), ← List.append_assoc]
                  simp only [List.append_assoc]
                  rfl)
              | exact zUw_e hW3 (by
                  show _ = _ ++ (cuC (fun i => cuHo s n p q i) x ++ cuHo s n p q x)
                  rw [cuHo_n (by omega), List.append_nil])
          · refine And.intro (zDX hD 0 rfl) ⟨_, sn_U_add.up (by decide), ?_⟩
            refine ⟨k, (((w ++ cuC (fun l => cuC (fun j => cuC (fun i => cuHo s n l j i) (bW s)) (bH s)) p) ++ cuC (fun j => cuC (fun i => cuHo s n p j i) (bW s)) q) ++ cuC (fun i => cuHo s n p q i) x), (2 : Int), (n : Int), (p : Int), (((16 * q) + x) : Int), (((16 * q) + x) : Int), rfl, hS, hR, hD, (by first | exact hk | (clear hQ; grind [xu])), (by first | exact (zUw_fr hW (fun c j h => ((fr c j (by omega) (by omega) (by omega)).trans rfl))) | exact (zUw_fr hW3 (fun c j h => rfl)) | (clear hQ; grind [xu])), (by omega), ?_⟩
            intro I89o p89hW2 p89bfr
            refine And.intro (zDX hD 0 rfl) ⟨_, sn_U_add.up (by decide), ?_⟩
            refine ⟨k, ((((w ++ cuC (fun l => cuC (fun j => cuC (fun i => cuHo s n l j i) (bW s)) (bH s)) p) ++ cuC (fun j => cuC (fun i => cuHo s n p j i) (bW s)) q) ++ cuC (fun i => cuHo s n p q i) x) ++ [cRw 2 n p (16 * (q : Int) + x) (16 * (q : Int) + x)]), (2 : Int), (n : Int), ((p + 1) : Int), (((16 * q) + x) : Int), (((16 * q) + x) : Int), rfl, hS, hR, hD, (by first | exact hk | (clear hQ; grind [xu])), (by first | exact (zUw_fr hW (fun c j h => ((p89bfr c j (by omega) (by omega) (by omega)).trans ((fr c j (by omega) (by omega) (by omega)).trans rfl)))) | exact (zUw_fr hW3 (fun c j h => ((p89bfr c j (by omega) (by omega) (by omega)).trans rfl))) | (clear hQ; grind [xu])), (by omega), ?_⟩
            intro I102o p102hW2 p102bfr
            refine And.intro (zDX hD 0 rfl) ⟨_, sn_U_add.up (by decide), ?_⟩
            refine ⟨k, (((((w ++ cuC (fun l => cuC (fun j => cuC (fun i => cuHo s n l j i) (bW s)) (bH s)) p) ++ cuC (fun j => cuC (fun i => cuHo s n p j i) (bW s)) q) ++ cuC (fun i => cuHo s n p q i) x) ++ [cRw 2 n p (16 * (q : Int) + x) (16 * (q : Int) + x)]) ++ [cRw 2 n ((p : Int) + 1) (16 * (q : Int) + x) (16 * (q : Int) + x)]), (3 : Int), (n : Int), (p : Int), (((16 * q) + x) : Int), (((16 * q) + x) : Int), rfl, hS, hR, hD, (by first | exact hk | (clear hQ; grind [xu])), (by first | exact (zUw_fr hW (fun c j h => ((p102bfr c j (by omega) (by omega) (by omega)).trans ((p89bfr c j (by omega) (by omega) (by omega)).trans ((fr c j (by omega) (by omega) (by omega)).trans rfl))))) | exact (zUw_fr hW3 (fun c j h => ((p102bfr c j (by omega) (by omega) (by omega)).trans ((p89bfr c j (by omega) (by omega) (by omega)).trans rfl)))) | (clear hQ; grind [xu])), (by omega), ?_⟩
            intro I113o p113hW2 p113bfr
            refine ⟨((5 - p), (2 * (17 - q)), (17 - (x + 1))), zlt6 (by omega), [some (zvr (k)), some (zvr (82)), some (zvi (n)), some (zvi (p)), some (zvi (q)), some (zvi ((x + 1))), none], ⟨rfl, rfl, rfl, rfl, rfl, rfl, rfl⟩, p, q, (x + 1), rfl, rfl, rfl, rfl, rfl, rfl, (by omega), (by omega), (by omega), ?_, (fun c j h0 h1 h2 => ((p113bfr c j h0 h1 h2).trans ((p102bfr c j h0 h1 h2).trans ((p89bfr c j h0 h1 h2).trans ((fr c j h0 h1 h2).trans rfl)))))⟩
            · first
              | exact zUw_e p113hW2 (by
                  show _ = _ ++ (cuC (fun i => cuHo s n p q i) x ++ cuHo s n p q x)
                  rw [cuHo_y (by omega) (by omega), ← List.append_assoc]
                  simp only [List.append_assoc]
                  rfl)
              | exact zUw_e hW3 (by
                  show _ = _ ++ (cuC (fun i => cuHo s n p q i) x ++ cuHo s n p q x)
                  rw [cuHo_n (by omega), List.append_nil]))
