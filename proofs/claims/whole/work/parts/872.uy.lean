/-! uy -/
def T_Z_blk : ZT := fun args I L R S Q => ∃ (b : Nat) (s : BdS) (n : Int) (k : Int), args = [zvr 40, zvi n, zvi k] ∧ (zSh S) ∧ (zRs R) ∧ (zBA b s I L) ∧ (r32 n ∧ r32 k) ∧ ∀ (v : Int), (v = bBlk s n k) → Q (some (zvi (v))) I L R S
theorem sn_Z_blk : ZSnd 3 11 4 T_Z_blk := ZSnd.of (zT11_4 2) (by
  rintro args I L R S Q hz ⟨b, s, n, k, rfl, hS, hR, hBA, hr, hQ⟩
  obtain ⟨⟨hb0, hbw, hbh, hbd, hbs⟩, hnb, hcl, hPT, hNT, hwy, hco, hnd⟩ := id hBA
  obtain ⟨hP1, hP2, hP3, hP4⟩ := id hPT
  obtain ⟨hN1, hN2, hN3, hN4⟩ := id hNT
  refine And.intro rfl ?_
  refine And.intro (zA_40 hS) (zrdR (v := some 82) (zR_40_9 hR) ?_)
  refine And.intro (zA_82 hS) ⟨_, sn_A_blk.up (by decide), ?_⟩
  refine ⟨b, s, (n : Int), (k : Int), rfl, hS, hR, (by first | exact (zBA_fr hBA (fun c j h => rfl) (fun c j h => rfl)) | (clear hQ; grind [xu])), (by omega), ?_⟩
  intro v6o p6hv
  refine hQ _ (by omega))
def T_Z_cof : ZT := fun args I L R S Q => ∃ (b : Nat) (s : BdS) (n : Int), args = [zvr 40, zvi n] ∧ (zSh S) ∧ (zRs R) ∧ (zBA b s I L) ∧ (r32 n) ∧ ∀ (v : Int), (v = gCo s n) → Q (some (zvl (v))) I L R S
theorem sn_Z_cof : ZSnd 3 11 9 T_Z_cof := ZSnd.of (zT11_9 2) (by
  rintro args I L R S Q hz ⟨b, s, n, rfl, hS, hR, hBA, hr, hQ⟩
  obtain ⟨⟨hb0, hbw, hbh, hbd, hbs⟩, hnb, hcl, hPT, hNT, hwy, hco, hnd⟩ := id hBA
  obtain ⟨hP1, hP2, hP3, hP4⟩ := id hPT
  obtain ⟨hN1, hN2, hN3, hN4⟩ := id hNT
  obtain ⟨hr1, hr2⟩ := id hr
  refine And.intro rfl ?_
  refine And.intro (zA_40 hS) (zrdR (v := some 82) (zR_40_9 hR) ?_)
  refine And.intro (zA_82 hS) ⟨_, sn_A_led.up (by decide), ?_⟩
  refine ⟨b, s, (n : Int), rfl, hS, hR, (by first | exact (zBA_fr hBA (fun c j h => rfl) (fun c j h => rfl)) | (clear hQ; grind [xu])), (by omega), ?_⟩
  intro v5o p5hv
  refine And.intro (by omega) ⟨fun h8 => ?_, fun h8 => ?_⟩
  · refine hQ _ (by unfold gCo; rcases p5hv with y | y; (first | (exfalso; omega) | (rw [if_pos ⟨y.2.1, y.2.2.1, y.2.2.2⟩]; rcases p20hv with z | z; (have e : bN s n.toNat (3 : Int).toNat = bN s n.toNat 3 := rfl; omega); (exfalso; omega))); (first | (exfalso; omega) | (rw [if_neg (fun q => y.2 ⟨q.1, q.2.1, q.2.2⟩)])))
  · refine And.intro (zA_40 hS) (zrdR (v := some 82) (zR_40_9 hR) ?_)
    refine And.intro (zA_82 hS) (zrdR (v := some 90) (zR_82_11 hR) ?_)
    refine And.intro (zA_90 hS) ⟨_, sn_A_atG.up (by decide), ?_⟩
    refine ⟨90, 12, (bnn s), (bN s), (n : Int), (3 : Int), rfl, hS, hR, (zRw_90 hR hS), hNT, (by omega), ?_⟩
    intro v20o p20hv p20bhr
    refine And.intro (by omega) ?_
    refine hQ _ (by unfold gCo; rcases p5hv with y | y; (first | (exfalso; omega) | (rw [if_pos ⟨y.2.1, y.2.2.1, y.2.2.2⟩]; rcases p20hv with z | z; (have e : bN s n.toNat (3 : Int).toNat = bN s n.toNat 3 := rfl; omega); (exfalso; omega))); (first | (exfalso; omega) | (rw [if_neg (fun q => y.2 ⟨q.1, q.2.1, q.2.2⟩)]))))
def T_Z_way0 : ZT := fun args I L R S Q => ∃ (b : Nat) (s : BdS) (n : Int) (k : Int) (w : Int), args = [zvr 40, zvi n, zvi k, zvi w] ∧ (zSh S) ∧ (zRs R) ∧ (zBA b s I L) ∧ (bnn s = 0) ∧ (r32 n ∧ r32 k ∧ r32 w) ∧ Q (some (zvi (-1))) I L R S
theorem sn_Z_way0 : ZSnd 4 11 55 T_Z_way0 := ZSnd.of (zT11_55 3) (by
  rintro args I L R S Q hz ⟨b, s, n, k, w, rfl, hS, hR, hBA, hn0, hr, hQ⟩
  obtain ⟨⟨hb0, hbw, hbh, hbd, hbs⟩, hnb, hcl, hPT, hNT, hwy, hco, hnd⟩ := id hBA
  obtain ⟨hP1, hP2, hP3, hP4⟩ := id hPT
  obtain ⟨hN1, hN2, hN3, hN4⟩ := id hNT
  refine And.intro rfl ?_
  refine And.intro (zA_40 hS) (zrdR (v := some 82) (zR_40_9 hR) ?_)
  refine And.intro (zA_82 hS) (Exists.intro _ (And.intro (zinl_ok (zT0_28 2)) (And.intro rfl ?_)))
  refine And.intro (zA_82 hS) ⟨_, sn_A_led.up (by decide), ?_⟩
  refine ⟨_, _, (n : Int), rfl, hS, hR, (by first | exact (zBA_fr hBA (fun c j h => rfl) (fun c j h => rfl)) | (clear hQ; grind [xu])), (by omega), ?_⟩
  intro v2_7o p2_7hv
  refine And.intro (by omega) ⟨fun h5_7 => ?_, fun h5_7 => ?_⟩
  · refine And.intro ⟨(zRb rfl), (zRb rfl)⟩ (zbf rfl ?_)
    refine hQ 
  · refine And.intro (zA_82 hS) (Exists.intro _ (And.intro (zinl_ok (zT0_26 1)) (And.intro rfl ?_)))
    refine And.intro (by omega) ⟨fun h1_7_11 => ?_, fun h1_7_11 => ?_⟩
    · refine And.intro ⟨(zRb rfl), (zRb rfl)⟩ (zbf rfl ?_)
      refine hQ 
    · refine And.intro (zA_82 hS) (Exists.intro _ (And.intro (zinl_ok (zT0_27 0)) (And.intro rfl ?_)))
      refine And.intro (by omega) ⟨fun h1_7_11_7 => ?_, fun h1_7_11_7 => ?_⟩
      · refine And.intro ⟨(by omega), (zRb rfl)⟩ ⟨fun h10_7_11 => ?_, (fun h10_7_11 => False.elim (by omega))⟩
        refine And.intro ⟨(zRb rfl), (zRb rfl)⟩ (zbf rfl ?_)
        refine hQ 
      · refine And.intro (zA_82 hS) (zrdR (v := some 90) (zR_82_11 hR) ?_)
        refine And.intro (zA_90 hS) (zrd (v := (bnn s)) hN2 ?_)
        refine And.intro ⟨(by omega), (by omega)⟩ ⟨fun h12_7_11_7 => ?_, (fun h12_7_11_7 => False.elim (by omega))⟩
        refine And.intro ⟨(by omega), (zRb rfl)⟩ ⟨fun h10_7_11 => ?_, (fun h10_7_11 => False.elim (by omega))⟩
        refine And.intro ⟨(zRb rfl), (zRb rfl)⟩ (zbf rfl ?_)
        refine hQ )
def T_M_put0 : ZT := fun args I L R S Q => ∃ (t : Int) (o : Int) (l : Int) (i : Int) (j : Int), args = [zvr 165, zvi t, zvi o, zvi l, zvi i, zvi j] ∧ (zSh S) ∧ (zRs R) ∧ (R 165 12 = none) ∧ ∀ (I' : ZI), (I' 165 0 = 3) → (∀ c j : Nat, ¬ (c = 165 ∧ j = 0) → I' c j = I c j) → Q (some (zvi (-1))) I' L R S
theorem sn_M_put0 : ZSnd 3 21 46 T_M_put0 := ZSnd.of (zT21_46 2) (by
  rintro args I L R S Q hz ⟨t, o, l, i, j, rfl, hS, hR, hg, hQ⟩
  refine And.intro rfl ?_
  refine And.intro (zA_165 hS) (zrdR (v := none) hg ?_)
  refine And.intro (zA_165 hS) (Exists.intro _ (And.intro (zinl_ok (zT21_47 1)) (And.intro rfl ?_)))
  refine And.intro (zA_165 hS) ⟨_, (zWi (zRb rfl)), ?_⟩
  refine hQ _ zxe (fun c j h0 => (zxcj h0 rfl)))
def T_Y_fc0 : ZT := fun args I L R S Q => args = [zvr 165] ∧ (zSh S) ∧ (zRs R) ∧ (R 165 12 = none) ∧ ∀ (I' : ZI), (I' 165 0 = 3) → (∀ c j : Nat, ¬ (c = 165 ∧ j = 0) → I' c j = I c j) → Q (some (zvi (0))) I' L R S
theorem sn_Y_fc0 : ZSnd 8 21 20 T_Y_fc0 := ZSnd.of (zT21_20 7) (by
  rintro args I L R S Q hz ⟨rfl, hS, hR, hg, hQ⟩
  refine And.intro rfl ?_
  refine And.intro (zA_165 hS) (zrdR (v := none) hg ?_)
  refine And.intro (zA_165 hS) (Exists.intro _ (And.intro (zinl_ok (zT21_48 6)) (And.intro rfl ?_)))
  refine And.intro (zA_165 hS) ⟨_, (zWi (zRb rfl)), ?_⟩
  refine And.intro (zRb rfl) (zbf rfl ?_)
  refine And.intro (Or.inr rfl) ?_
  refine And.intro (zRb rfl) (zbf rfl ?_)
  refine And.intro (Or.inl rfl) ?_
  refine hQ _ zxe (fun c j h0 => (zxcj h0 rfl)))
