/-! mp -/
def T_A_mput0 : ZT := fun args I L R S Q => ∃ (t : Int) (o : Int) (l : Int) (i : Int) (j : Int), args = [zvr 40, zvi t, zvi o, zvi l, zvi i, zvi j] ∧ (zSh S) ∧ (zRs R) ∧ (I 82 0 = -1) ∧ ∀ (I' : ZI), (I' 40 3 = 3) → (∀ c j : Nat, ¬ (c = 40 ∧ j = 3) → I' c j = I c j) → Q (some (zvi (-1))) I' L R S
theorem sn_A_mput0 : ZSnd 4 11 35 T_A_mput0 := ZSnd.of (zT11_35 3) (by
  rintro args I L R S Q hz ⟨t, o, l, i, j, rfl, hS, hR, hb0, hQ⟩
  refine And.intro rfl ?_
  refine And.intro (zA_40 hS) (zrdR (v := some 82) (zR_40_9 hR) ?_)
  refine And.intro (zA_82 hS) ⟨_, sn_A_put0.up (by decide), ?_⟩
  refine ⟨(t : Int), (o : Int), (l : Int), (i : Int), (j : Int), rfl, hS, hR, (Eq.trans (b := ((-1) : Int)) hb0 (by omega)), ?_⟩
  refine And.intro (zA_40 hS) (Exists.intro _ (And.intro (zinl_ok (zT11_1 2)) (And.intro rfl ?_)))
  refine And.intro (zRb rfl) (zbf rfl ?_)
  refine And.intro (zA_40 hS) ⟨_, (zWi (zRb rfl)), ?_⟩
  refine And.intro (zRb rfl) (zbf rfl ?_)
  refine hQ _ zxe (fun c j h0 => (zxcj h0 rfl)))
def T_A_mput : ZT := fun args I L R S Q => ∃ (b : Nat) (s : BdS) (t : Int) (o : Int) (l : Int) (i : Int) (j : Int), args = [zvr 40, zvi t, zvi o, zvi l, zvi i, zvi j] ∧ (zSh S) ∧ (zRs R) ∧ (zBA b s I L) ∧ (bGd s) ∧ (1 ≤ b ∧ b ≤ 6) ∧ (r32 t ∧ r32 o ∧ r32 l ∧ r32 i ∧ r32 j) ∧ ∀ (v : Int) (I' : ZI), (v = if 0 ≤ (bPutV b s t o l i j) then (bPutV b s t o l i j) else -1) → (I' 40 3 = if 0 ≤ (bPutV b s t o l i j) then 0 else -(bPutV b s t o l i j)) → (zBA b (bPutS b s t o l i j) I' L) → (∀ c j : Nat, ¬ c = 86 → ¬ c = 87 → ¬ c = 89 → ¬ (c = 88 ∧ j = 2) → ¬ (c = 90 ∧ j = 2) → ¬ c = 91 → ¬ c = 93 → ¬ (c = 40 ∧ j = 3) → I' c j = I c j) → Q (some (zvi (v))) I' L R S
theorem sn_A_mput : ZSnd 4 11 35 T_A_mput := ZSnd.of (zT11_35 3) (by
  rintro args I L R S Q hz ⟨b, s, t, o, l, i, j, rfl, hS, hR, hBA, hGd, hb1, hr, hQ⟩
  obtain ⟨⟨hb0, hbw, hbh, hbd, hbs⟩, hnb, hcl, hPT, hNT, hwy, hco, hnd⟩ := id hBA
  obtain ⟨hP1, hP2, hP3, hP4⟩ := id hPT
  obtain ⟨hN1, hN2, hN3, hN4⟩ := id hNT
  obtain ⟨⟨⟨gW1, gW2⟩, ⟨gH1, gH2⟩, ⟨gD1, gD2⟩, gB9⟩, ⟨gnp, gnn⟩, gc, gp, gn, gco, gnd, gun⟩ := id hGd
  refine And.intro rfl ?_
  refine And.intro (zA_40 hS) (zrdR (v := some 82) (zR_40_9 hR) ?_)
  refine And.intro (zA_82 hS) ⟨_, sn_A_put.up (by decide), ?_⟩
  refine ⟨b, s, (t : Int), (o : Int), (l : Int), (i : Int), (j : Int), rfl, hS, hR, (by first | exact (zBA_fr hBA (fun c j h => rfl) (fun c j h => rfl)) | (clear hQ; grind [xu])), (by first | exact hGd | (clear hQ; grind [xu])), (by omega), (by omega), ?_⟩
  intro v12o I12o p12hv p12bhBA2 p12bbfr
  have g12 : -4 ≤ v12o := (by have h9 := bPutV_lo b s t o l i j; omega)
  have g12b : v12o ≤ 40 := (by have h9 := bPutV_hi b s t o l i j hGd; omega)
  refine And.intro (zA_40 hS) (Exists.intro _ (And.intro (zinl_ok (zT11_1 2)) (And.intro rfl ?_)))
  refine And.intro (by omega) ⟨fun h2_15 => ?_, fun h2_15 => ?_⟩
  · refine And.intro (zA_40 hS) ⟨_, (zWi (zRb rfl)), ?_⟩
    refine And.intro (by omega) ⟨fun h15_15 => ?_, (fun h15_15 => False.elim (by omega))⟩
    refine hQ _ _ ?_ ?_ (zBA_fr p12bhBA2 (fun c j h => zxcj (by omega) rfl) (fun c j h => rfl)) (fun c j h0 h1 h2 h3 h4 h5 h6 h7 => (zxcj h7 ((p12bbfr c j (by omega) (by omega) (by omega) (by omega) (by omega) (by omega) (by omega)).trans rfl)))
    · first
      | (rw [if_pos (by omega)]
         try first
         | omega
         | exact zxe)
      | (rw [if_neg (by omega)]
         try first
         | omega
         | exact Eq.trans zxe (by omega)
         | exact zxe)
    · first
      | (rw [if_pos (by omega)]
         try first
         | omega
         | exact zxe)
      | (rw [if_neg (by omega)]
         try first
         | omega
         | exact Eq.trans zxe (by omega)
         | exact zxe)
  · refine And.intro (zA_40 hS) ⟨_, (zWi (by omega)), ?_⟩
    refine And.intro (by omega) ⟨(fun h15_15 => False.elim (by omega)), fun h15_15 => ?_⟩
    refine hQ _ _ ?_ ?_ (zBA_fr p12bhBA2 (fun c j h => zxcj (by omega) rfl) (fun c j h => rfl)) (fun c j h0 h1 h2 h3 h4 h5 h6 h7 => (zxcj h7 ((p12bbfr c j (by omega) (by omega) (by omega) (by omega) (by omega) (by omega) (by omega)).trans rfl)))
    · first
      | (rw [if_pos (by omega)]
         try first
         | omega
         | exact zxe)
      | (rw [if_neg (by omega)]
         try first
         | omega
         | exact Eq.trans zxe (by omega)
         | exact zxe)
    · first
      | (rw [if_pos (by omega)]
         try first
         | omega
         | exact zxe)
      | (rw [if_neg (by omega)]
         try first
         | omega
         | exact Eq.trans zxe (by omega)
         | exact zxe))
