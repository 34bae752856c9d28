/-! mb -/
def T_A_setC : ZT := fun args I L R S Q => ∃ (b : Nat) (s : BdS) (l : Nat) (x : Int) (a : Nat) (p : Int) (v : Nat) (q : Int) (n : Nat) (w : Int), args = [zvr 82, zvi x, zvi p, zvi q, zvi w] ∧ (zSh S) ∧ (zRs R) ∧ (zBA b s I L) ∧ (x = l ∧ l < 4) ∧ (p = a ∧ a ≤ 50) ∧ (q = v ∧ v ≤ 50) ∧ (w = n ∧ n ≤ 50) ∧ ∀ (I' : ZI), (zBA b (bCst s l a v n) I' L) → (∀ c j : Nat, ¬ c = 94 → ¬ c = 95 → ¬ c = 96 → I' c j = I c j) → Q none I' L R S
theorem sn_A_setC : ZSnd 1 0 22 T_A_setC := ZSnd.of (zT0_22 0) (by
  rintro args I L R S Q hz ⟨b, s, l, x, a, p, v, q, n, w, rfl, hS, hR, hBA, hx, hp, hq, hw9, hQ⟩
  obtain ⟨⟨hb0, hbw, hbh, hbd, hbs⟩, hnb, hcl, hPT, hNT, hwy, hco, hnd⟩ := id hBA
  obtain ⟨hP1, hP2, hP3, hP4⟩ := id hPT
  obtain ⟨hN1, hN2, hN3, hN4⟩ := id hNT
  refine And.intro rfl ?_
  refine And.intro (zA_82 hS) (zrdR (v := some 94) (zR_82_14 hR) ?_)
  refine And.intro ⟨(zx0 rfl), (zP_94 hS (by omega) (by omega))⟩ ⟨_, (zWi (by omega)), ?_⟩
  refine And.intro (zA_82 hS) (zrdR (v := some 95) (zR_82_15 hR) ?_)
  refine And.intro ⟨(zx0 rfl), (zP_95 hS (by omega) (by omega))⟩ ⟨_, (zWi (by omega)), ?_⟩
  refine And.intro (zA_82 hS) (zrdR (v := some 96) (zR_82_16 hR) ?_)
  refine And.intro ⟨(zx0 rfl), (zP_96 hS (by omega) (by omega))⟩ ⟨_, (zWi (by omega)), ?_⟩
  refine hQ _ ?_ (fun c j h0 h1 h2 => (zxu h2 (zxu h1 (zxu h0 rfl))))
  · refine ⟨⟨hb0, hbw, hbh, hbd, hbs⟩, hnb, hcl, zRT_fr hPT (fun c j q => zxu (by omega) (zxu (by omega) (zxu (by omega) rfl))), zRT_fr hNT (fun c j q => zxu (by omega) (zxu (by omega) (zxu (by omega) rfl))), hwy, fun y hy => ?_, hnd⟩
    have h9 := hco y hy
    show _ = ((if y = l then _ else _ : Nat) : Int) ∧ _ = ((if y = l then _ else _ : Nat) : Int) ∧ _ = ((if y = l then _ else _ : Nat) : Int)
    by_cases e : y = l
    · have e2 : y = x.toNat := by omega
      rw [if_pos e, if_pos e, if_pos e, e2]
      exact ⟨(zxu (by decide) (zxu (by decide) zxe)).trans hp.1, (zxu (by decide) zxe).trans hq.1, zxe.trans hw9.1⟩
    · have e2 : y ≠ x.toNat := by omega
      rw [if_neg e, if_neg e, if_neg e]
      exact ⟨zxu (by decide) (zxu (by decide) (zxs e2 h9.1)), zxu (by decide) (zxs e2 (zxu (by decide) h9.2.1)), zxs e2 (zxu (by decide) (zxu (by decide) h9.2.2))⟩)
def T_A_mway : ZT := fun args I L R S Q => ∃ (b : Nat) (s : BdS) (n : Int) (k : Int) (w : Int), args = [zvr 40, zvi n, zvi k, zvi w] ∧ (zSh S) ∧ (zRs R) ∧ (zBA b s I L) ∧ (bGd s) ∧ (r32 n ∧ r32 k ∧ r32 w) ∧ ∀ (v : Int), (v = bWp s n k w) → Q (some (zvi (v))) I L R S
theorem sn_A_mway : ZSnd 4 11 55 T_A_mway := ZSnd.of (zT11_55 3) (by
  rintro args I L R S Q hz ⟨b, s, n, k, w, rfl, hS, hR, hBA, hGd, hr, hQ⟩
  obtain ⟨⟨hb0, hbw, hbh, hbd, hbs⟩, hnb, hcl, hPT, hNT, hwy, hco, hnd⟩ := id hBA
  obtain ⟨hP1, hP2, hP3, hP4⟩ := id hPT
  obtain ⟨hN1, hN2, hN3, hN4⟩ := id hNT
  obtain ⟨⟨⟨gW1, gW2⟩, ⟨gH1, gH2⟩, ⟨gD1, gD2⟩, gB9⟩, ⟨gnp, gnn⟩, gc, gp, gn, gco, gnd, gun⟩ := id hGd
  refine And.intro rfl ?_
  refine And.intro (zA_40 hS) (zrdR (v := some 82) (zR_40_9 hR) ?_)
  refine And.intro (zA_82 hS) ⟨_, sn_A_wayPart.up (by decide), ?_⟩
  refine ⟨b, s, (n : Int), (k : Int), (w : Int), rfl, hS, hR, (by first | exact (zBA_fr hBA (fun c j h => rfl) (fun c j h => rfl)) | (clear hQ; grind [xu])), (by first | exact hGd | (clear hQ; grind [xu])), (by omega), ?_⟩
  intro v7o p7hv
  refine hQ _ (by omega))
