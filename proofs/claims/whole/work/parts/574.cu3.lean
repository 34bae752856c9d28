/-! cu3 -/
def T_U_isf : ZT := fun args I L R S Q => ∃ (a : Int) (b : Int), args = [zvi a, zvi b] ∧ (r32 a ∧ r32 b) ∧ ∀ (v : Int), ((v = 1 ∧ cuIs a b) ∨ (v = 0 ∧ ¬ cuIs a b)) → Q (some (zvi (v))) I L R S
theorem sn_U_isf : ZSnd 1 1 31 T_U_isf := ZSnd.of (zT1_31 0) (by
  rintro args I L R S Q hz ⟨a, b, rfl, hr, hQ⟩
  refine And.intro rfl ?_
  refine And.intro ⟨(by omega), (zRb rfl)⟩ ⟨fun h2 => ?_, fun h2 => ?_⟩
  · refine And.intro (Or.inr rfl) ?_
    refine hQ _ (by unfold cuIs; omega)
  · refine And.intro ⟨(by omega), (by omega)⟩ ⟨fun h7 => ?_, fun h7 => ?_⟩
    · refine And.intro (Or.inl rfl) ?_
      refine hQ _ (by unfold cuIs; omega)
    · refine And.intro (Or.inr rfl) ?_
      refine hQ _ (by unfold cuIs; omega))
def T_U_val : ZT := fun args I L R S Q => ∃ (nr : Nat) (rf : Nat → Nat → Int) (kd : Int) (c : Int) (o : Int), args = [zvr 104, zvi kd, zvi c, zvi o] ∧ (zSh S) ∧ (zRs R) ∧ (zRT 104 30 nr rf I) ∧ (cuRg nr rf) ∧ ((0 ≤ kd ∧ kd ≤ 4) ∧ (0 ≤ c ∧ c ≤ 3) ∧ -1 ≤ o ∧ o ≤ 3) ∧ ∀ (v : Int), (v = cuVl rf kd c o nr) → (-1 ≤ v ∧ v ≤ 100000) → Q (some (zvi (v))) I L R S
theorem sn_U_val : ZSnd 2 1 54 T_U_val := ZSnd.loops (zT1_54 1) (by
  rintro args I L R S Q hz ⟨nr, rf, kd, c, o, rfl, hS, hR, hR1, hRg, hb, hQ⟩
  obtain ⟨r1, r2, r3, r4⟩ := id hR1
  have hvb := cuVl_b (kd := kd) (c := c) (o := o) hRg (Nat.le_refl nr)
  refine ⟨[8], fun nM tM lsM stM I1 L1 R1 S1 => match tM with
      | 8 => ∃ (m2 : Int), nM = ((m2 + 1).toNat, 0, 0) ∧ lsM = [some (zvr (104)), some (zvi (kd)), some (zvi (c)), some (zvi (o)), some (zvi (m2)), none, none, none] ∧ stM = [] ∧ I1 = I ∧ L1 = L ∧ R1 = R ∧ S1 = S ∧ (-1 ≤ m2 ∧ m2 < nr) ∧ (cuVl rf kd c o nr = cuVl rf kd c o (m2 + 1).toNat)
      | _ => False, rfl, ?_, ⟨?_, True.intro⟩⟩
  · refine And.intro (zA_104 hS) (zrd (v := nr) r2 ?_)
    refine ⟨((((nr : Int) - 1) + 1).toNat, 0, 0), [some (zvr (104)), some (zvi (kd)), some (zvi (c)), some (zvi (o)), some (zvi (((nr : Int) - 1))), none, none, none], ⟨rfl, rfl, rfl, rfl, (congrArg (fun z => some (zvi z)) (by omega)), rfl⟩, ((nr : Int) - 1), rfl, rfl, rfl, rfl, rfl, rfl, rfl, (by omega), (by congr 1; omega)⟩
  · rintro nM lsM stM I1 L1 R1 S1 hz1 ⟨m2, rfl, rfl, rfl, rfl, rfl, rfl, rfl, hm2, hw⟩
    obtain ⟨m, hm⟩ : ∃ m : Nat, m = m2.toNat := ⟨_, rfl⟩
    have hrm : 0 ≤ m2 → (0 ≤ rf m 0 ∧ rf m 0 ≤ 4) ∧ (-1 ≤ rf m 1 ∧ rf m 1 ≤ 3) ∧ (-1 ≤ rf m 2 ∧ rf m 2 ≤ 3) ∧ (0 ≤ rf m 3 ∧ rf m 3 ≤ 100000) := fun q => hRg m (by omega)
    refine And.intro (by omega) ⟨fun h10 => ?_, fun h10 => ?_⟩
    · refine hQ _ ?_ (by first | omega | (have := hrm (by omega); omega))
      · first
        | (rw [hw, show (m2 + 1).toNat = 0 by omega]; rfl)
        | (rw [hw, show (m2 + 1).toNat = m + 1 by omega]
           refine p108hv.trans (cuVl_y ⟨by omega, t33.mpr ?_⟩).symm
           first
           | (rcases p39hv with q | q
              · exact q.2
              · omega)
           | (clear hQ; grind))
    · refine And.intro (zA_104 hS) ⟨_, sn_A_at.up (by decide), ?_⟩
      refine ⟨104, 30, nr, rf, m, 1, (m2 : Int), (1 : Int), rfl, hS, hR, (zRw_104 hR hS), (by first | exact (zRT_fr hR1 (fun c j h => rfl)) | exact (zRT_fr hR1 (fun c j h => rfl)) | (clear hQ; grind [xu])), (by omega), (by omega), ?_⟩
      intro v17o p17hv p17bhr
      refine And.intro (zA_104 hS) ⟨_, sn_A_at.up (by decide), ?_⟩
      refine ⟨104, 30, nr, rf, m, 2, (m2 : Int), (2 : Int), rfl, hS, hR, (zRw_104 hR hS), (by first | exact (zRT_fr hR1 (fun c j h => rfl)) | exact (zRT_fr hR1 (fun c j h => rfl)) | (clear hQ; grind [xu])), (by omega), (by omega), ?_⟩
      intro v26o p26hv p26bhr
      refine And.intro ⟨(by omega), (zRb rfl)⟩ ⟨fun h33 => ?_, fun h33 => ?_⟩
      · have t33 : cuTh rf m c o ↔ ((cuIs v17o c ∧ cuIs v26o o) ∨ (cuIs v17o o ∧ cuIs v26o c)) := (by unfold cuTh; rw [p17hv, p26hv]; constructor; (intro y; rcases y with y | y; exact absurd y.1 (by omega); exact y.2); exact fun y => Or.inr ⟨by omega, y⟩)
        refine ⟨_, sn_U_isf.up (by decide), ?_⟩
        refine ⟨(v17o : Int), (c : Int), rfl, (by omega), ?_⟩
        intro v48o p48hv
        refine And.intro (by omega) ⟨fun h51 => ?_, fun h51 => ?_⟩
        · refine ⟨_, sn_U_isf.up (by decide), ?_⟩
          refine ⟨(v17o : Int), (o : Int), rfl, (by omega), ?_⟩
          intro v66o p66hv
          refine And.intro (by omega) ⟨fun h69 => ?_, fun h69 => ?_⟩
          · refine And.intro (zA_104 hS) ⟨_, sn_A_at.up (by decide), ?_⟩
            refine ⟨104, 30, nr, rf, m, 0, (m2 : Int), (0 : Int), rfl, hS, hR, (zRw_104 hR hS), (by first | exact (zRT_fr hR1 (fun c j h => rfl)) | exact (zRT_fr hR1 (fun c j h => rfl)) | (clear hQ; grind [xu])), (by omega), (by omega), ?_⟩
            intro v92o p92hv p92bhr
            refine And.intro ⟨(by omega), (by omega)⟩ ⟨fun h96 => ?_, fun h96 => ?_⟩
            · refine ⟨(((m2 + (-1)) + 1).toNat, 0, 0), zlt6 (by omega), [some (zvr (104)), some (zvi (kd)), some (zvi (c)), some (zvi (o)), some (zvi ((m2 + (-1)))), none, none, none], ⟨rfl, rfl, rfl, rfl, rfl, rfl⟩, (m2 + (-1)), rfl, rfl, rfl, rfl, rfl, rfl, rfl, (by omega), ?_⟩
              · rw [hw, show (m2 + 1).toNat = m + 1 by omega, show (m2 + -1 + 1).toNat = m by omega]
                refine cuVl_n (fun y => ?_)
                first
                | (exfalso; have y1 := y.1; omega)
                | (have z := t33.mp y.2
                   rcases p39hv with q | q
                   · omega
                   · exact q.2 z)
                | (have z := t33.mp y.2
                   clear hQ
                   grind)
            · refine And.intro (zRb rfl) (zbt rfl ?_)
              refine ⟨(((m2 + (-1)) + 1).toNat, 0, 0), zlt6 (by omega), [some (zvr (104)), some (zvi (kd)), some (zvi (c)), some (zvi (o)), some (zvi ((m2 + (-1)))), none, none, none], ⟨rfl, rfl, rfl, rfl, rfl, rfl⟩, (m2 + (-1)), rfl, rfl, rfl, rfl, rfl, rfl, rfl, (by omega), ?_⟩
              · rw [hw, show (m2 + 1).toNat = m + 1 by omega, show (m2 + -1 + 1).toNat = m by omega]
                refine cuVl_n (fun y => ?_)
                first
                | (exfalso; have y1 := y.1; omega)
                | (have z := t33.mp y.2
                   rcases p39hv with q | q
                   · omega
                   · exact q.2 z)
                | (have z := t33.mp y.2
                   clear hQ
                   grind)
          · refine ⟨_, sn_U_isf.up (by decide), ?_⟩
            refine ⟨(v26o : Int), (c : Int), rfl, (by omega), ?_⟩
            intro v75o p75hv
            refine And.intro (by omega) ⟨fun h78 => ?_, fun h78 => ?_⟩
            · refine And.intro (zA_104 hS) ⟨_, sn_A_at.up (by decide), ?_⟩
              refine ⟨104, 30, nr, rf, m, 0, (m2 : Int), (0 : Int), rfl, hS, hR, (zRw_104 hR hS), (by first | exact (zRT_fr hR1 (fun c j h => rfl)) | exact (zRT_fr hR1 (fun c j h => rfl)) | (clear hQ; grind [xu])), (by omega), (by omega), ?_⟩
              intro v92o p92hv p92bhr
              refine And.intro ⟨(by omega), (by omega)⟩ ⟨fun h96 => ?_, fun h96 => ?_⟩
              · refine ⟨(((m2 + (-1)) + 1).toNat, 0, 0), zlt6 (by omega), [some (zvr (104)), some (zvi (kd)), some (zvi (c)), some (zvi (o)), some (zvi ((m2 + (-1)))), none, none, none], ⟨rfl, rfl, rfl, rfl, rfl, rfl⟩, (m2 + (-1)), rfl, rfl, rfl, rfl, rfl, rfl, rfl, (by omega), ?_⟩
                · rw [hw, show (m2 + 1).toNat = m + 1 by omega, show (m2 + -1 + 1).toNat = m by omega]
                  refine cuVl_n (fun y => ?_)
                  first
                  | (exfalso; have y1 := y.1; omega)
                  | (have z := t33.mp y.2
                     rcases p39hv with q | q
                     · omega
                     · exact q.2 z)
                  | (have z := t33.mp y.2
                     clear hQ
                     grind)
              · refine And.intro (zRb rfl) (zbt rfl ?_)
                refine ⟨(((m2 + (-1)) + 1).toNat, 0, 0), zlt6 (by omega), [some (zvr (104)), some (zvi (kd)), some (zvi (c)), some (zvi (o)), some (zvi ((m2 + (-1)))), none, none, none], ⟨rfl, rfl, rfl, rfl, rfl, rfl⟩, (m2 + (-1)), rfl, rfl, rfl, rfl, rfl, rfl, rfl, (by omega), ?_⟩
                · rw [hw, show (m2 + 1).toNat = m + 1 by omega, show (m2 + -1 + 1).toNat = m by omega]
                  refine cuVl_n (fun y => ?_)
                  first
                  | (exfalso; have y1 := y.1; omega)
                  | (have z := t33.mp y.2
                     rcases p39hv with q | q
                     · omega
                     · exact q.2 z)
                  | (have z := t33.mp y.2
                     clear hQ
                     grind)
            · refine And.intro (zA_104 hS) ⟨_, sn_A_at.up (by decide), ?_⟩
              refine ⟨104, 30, nr, rf, m, 0, (m2 : Int), (0 : Int), rfl, hS, hR, (zRw_104 hR hS), (by first | exact (zRT_fr hR1 (fun c j h => rfl)) | exact (zRT_fr hR1 (fun c j h => rfl)) | (clear hQ; grind [xu])), (by omega), (by omega), ?_⟩
              intro v92o p92hv p92bhr
              refine And.intro ⟨(by omega), (by omega)⟩ ⟨fun h96 => ?_, fun h96 => ?_⟩
              · refine ⟨(((m2 + (-1)) + 1).toNat, 0, 0), zlt6 (by omega), [some (zvr (104)), some (zvi (kd)), some (zvi (c)), some (zvi (o)), some (zvi ((m2 + (-1)))), none, none, none], ⟨rfl, rfl, rfl, rfl, rfl, rfl⟩, (m2 + (-1)), rfl, rfl, rfl, rfl, rfl, rfl, rfl, (by omega), ?_⟩
                · rw [hw, show (m2 + 1).toNat = m + 1 by omega, show (m2 + -1 + 1).toNat = m by omega]
                  refine cuVl_n (fun y => ?_)
                  first
                  | (exfalso; have y1 := y.1; omega)
                  | (have z := t33.mp y.2
                     rcases p39hv with q | q
                     · omega
                     · exact q.2 z)
                  | (have z := t33.mp y.2
                     clear hQ
                     grind)
              · refine And.intro (zRb rfl) (zbf rfl ?_)
                refine And.intro (zA_104 hS) ⟨_, sn_A_at.up (by decide), ?_⟩
                refine ⟨104, 30, nr, rf, m, 3, (m2 : Int), (3 : Int), rfl, hS, hR, (zRw_104 hR hS), (by first | exact (zRT_fr hR1 (fun c j h => rfl)) | exact (zRT_fr hR1 (fun c j h => rfl)) | (clear hQ; grind [xu])), (by omega), (by omega), ?_⟩
                intro v108o p108hv p108bhr
                refine hQ _ ?_ (by first | omega | (have := hrm (by omega); omega))
                · first
                  | (rw [hw, show (m2 + 1).toNat = 0 by omega]; rfl)
                  | (rw [hw, show (m2 + 1).toNat = m + 1 by omega]
                     refine p108hv.trans (cuVl_y ⟨by omega, t33.mpr ?_⟩).symm
                     first
                     | (rcases p39hv with q | q
                        · exact q.2
                        · omega)
                     | (clear hQ; grind))
        · refine ⟨_, sn_U_isf.up (by decide), ?_⟩
          refine ⟨(v26o : Int), (o : Int), rfl, (by omega), ?_⟩
          intro v57o p57hv
          refine And.intro (by omega) ⟨fun h60 => ?_, fun h60 => ?_⟩
          · refine And.intro (zA_104 hS) ⟨_, sn_A_at.up (by decide), ?_⟩
            refine ⟨104, 30, nr, rf, m, 0, (m2 : Int), (0 : Int), rfl, hS, hR, (zRw_104 hR hS), (by first | exact (zRT_fr hR1 (fun c j h => rfl)) | exact (zRT_fr hR1 (fun c j h => rfl)) | (clear hQ; grind [xu])), (by omega), (by omega), ?_⟩
            intro v92o p92hv p92bhr
            refine And.intro ⟨(by omega), (by omega)⟩ ⟨fun h96 => ?_, fun h96 => ?_⟩
            · refine ⟨(((m2 + (-1)) + 1).toNat, 0, 0), zlt6 (by omega), [some (zvr (104)), some (zvi (kd)), some (zvi (c)), some (zvi (o)), some (zvi ((m2 + (-1)))), none, none, none], ⟨rfl, rfl, rfl, rfl, rfl, rfl⟩, (m2 + (-1)), rfl, rfl, rfl, rfl, rfl, rfl, rfl, (by omega), ?_⟩
              · rw [hw, show (m2 + 1).toNat = m + 1 by omega, show (m2 + -1 + 1).toNat = m by omega]
                refine cuVl_n (fun y => ?_)
                first
                | (exfalso; have y1 := y.1; omega)
                | (have z := t33.mp y.2
                   rcases p39hv with q | q
                   · omega
                   · exact q.2 z)
                | (have z := t33.mp y.2
                   clear hQ
                   grind)
            · refine And.intro (zRb rfl) (zbf rfl ?_)
              refine And.intro (zA_104 hS) ⟨_, sn_A_at.up (by decide), ?_⟩
              refine ⟨104, 30, nr, rf, m, 3, (m2 : Int), (3 : Int), rfl, hS, hR, (zRw_104 hR hS), (by first | exact (zRT_fr hR1 (fun c j h => rfl)) | exact (zRT_fr hR1 (fun c j h => rfl)) | (clear hQ; grind [xu])), (by omega), (by omega), ?_⟩
              intro v108o p108hv p108bhr
              refine hQ _ ?_ (by first | omega | (have := hrm (by omega); omega))
              · first
                | (rw [hw, show (m2 + 1).toNat = 0 by omega]; rfl)
                | (rw [hw, show (m2 + 1).toNat = m + 1 by omega]
                   refine p108hv.trans (cuVl_y ⟨by omega, t33.mpr ?_⟩).symm
                   first
                   | (rcases p39hv with q | q
                      · exact q.2
                      · omega)
                   | (clear hQ; grind))
          · refine ⟨_, sn_U_isf.up (by decide), ?_⟩
            refine ⟨(v17o : Int), (o : Int), rfl, (by omega), ?_⟩
            intro v66o p66hv
            refine And.intro (by omega) ⟨fun h69 => ?_, fun h69 => ?_⟩
            · refine And.intro (zA_104 hS) ⟨_, sn_A_at.up (by decide), ?_⟩
              refine ⟨104, 30, nr, rf, m, 0, (m2 : Int), (0 : Int), rfl, hS, hR, (zRw_104 hR hS), (by first | exact (zRT_fr hR1 (fun c j h => rfl)) | exact (zRT_fr hR1 (fun c j h => rfl)) | (clear hQ; grind [xu])), (by omega), (by omega), ?_⟩
              intro v92o p92hv p92bhr
              refine And.intro ⟨(by omega), (by omega)⟩ ⟨fun h96 => ?_, fun h96 => ?_⟩
              · refine ⟨(((m2 + (-1)) + 1).toNat, 0, 0), zlt6 (by omega), [some (zvr (104)), some (zvi (kd)), some (zvi (c)), some (zvi (o)), some (zvi ((m2 + (-1)))), none, none, none], ⟨rfl, rfl, rfl, rfl, rfl, rfl⟩, (m2 + (-1)), rfl, rfl, rfl, rfl, rfl, rfl, rfl, (by omega), ?_⟩
                · rw [hw, show (m2 + 1).toNat = m + 1 by omega, show (m2 + -1 + 1).toNat = m by omega]
                  refine cuVl_n (fun y => ?_)
                  first
                  | (exfalso; have y1 := y.1; omega)
                  | (have z := t33.mp y.2
                     rcases p39hv with q | q
                     · omega
                     · exact q.2 z)
                  | (have z := t33.mp y.2
                     clear hQ
                     grind)
              · refine And.intro (zRb rfl) (zbt rfl ?_)
                refine ⟨(((m2 + (-1)) + 1).toNat, 0, 0), zlt6 (by omega), [some (zvr (104)), some (zvi (kd)), some (zvi (c)), some (zvi (o)), some (zvi ((m2 + (-1)))), none, none, none], ⟨rfl, rfl, rfl, rfl, rfl, rfl⟩, (m2 + (-1)), rfl, rfl, rfl, rfl, rfl, rfl, rfl, (by omega), ?_⟩
                · rw [hw, show (m2 + 1).toNat = m + 1 by omega, show (m2 + -1 + 1).toNat = m by omega]
                  refine cuVl_n (fun y => ?_)
                  first
                  | (exfalso; have y1 := y.1; omega)
                  | (have z := t33.mp y.2
                     rcases p39hv with q | q
                     · omega
                     · exact q.2 z)
                  | (have z := t33.mp y.2
                     clear hQ
                     grind)
            · refine ⟨_, sn_U_isf.up (by decide), ?_⟩
              refine ⟨(v26o : Int), (c : Int), rfl, (by omega), ?_⟩
              intro v75o p75hv
              refine And.intro (by omega) ⟨fun h78 => ?_, fun h78 => ?_⟩
              · refine And.intro (zA_104 hS) ⟨_, sn_A_at.up (by decide), ?_⟩
                refine ⟨104, 30, nr, rf, m, 0, (m2 : Int), (0 : Int), rfl, hS, hR, (zRw_104 hR hS), (by first | exact (zRT_fr hR1 (fun c j h => rfl)) | exact (zRT_fr hR1 (fun c j h => rfl)) | (clear hQ; grind [xu])), (by omega), (by omega), ?_⟩
                intro v92o p92hv p92bhr
                refine And.intro ⟨(by omega), (by omega)⟩ ⟨fun h96 => ?_, fun h96 => ?_⟩
                · refine ⟨(((m2 + (-1)) + 1).toNat, 0, 0), zlt6 (by omega), [some (zvr (104)), some (zvi (kd)), some (zvi (c)), some (zvi (o)), some (zvi ((m2 + (-1)))), none, none, none], ⟨rfl, rfl, rfl, rfl, rfl, rfl⟩, (m2 + (-1)), rfl, rfl, rfl, rfl, rfl, rfl, rfl, (by omega), ?_⟩
                  · rw [hw, show (m2 + 1).toNat = m + 1 by omega, show (m2 + -1 + 1).toNat = m by omega]
                    refine cuVl_n (fun y => ?_)
                    first
                    | (exfalso; have y1 := y.1; omega)
                    | (have z := t33.mp y.2
                       rcases p39hv with q | q
                       · omega
                       · exact q.2 z)
                    | (have z := t33.mp y.2
                       clear hQ
                       grind)
                · refine And.intro (zRb rfl) (zbt rfl ?_)
                  refine ⟨(((m2 + (-1)) + 1).toNat, 0, 0), zlt6 (by omega), [some (zvr (104)), some (zvi (kd)), some (zvi (c)), some (zvi (o)), some (zvi ((m2 + (-1)))), none, none, none], ⟨rfl, rfl, rfl, rfl, rfl, rfl⟩, (m2 + (-1)), rfl, rfl, rfl, rfl, rfl, rfl, rfl, (by omega), ?_⟩
                  · rw [hw, show (m2 + 1).toNat = m + 1 by omega, show (m2 + -1 + 1).toNat = m by omega]
                    refine cuVl_n (fun y => ?_)
                    first
                    | (exfalso; have y1 := y.1; omega)
                    | (have z := t33.mp y.2
                       rcases p39hv with q | q
                       · omega
                       · exact q.2 z)
                    | (have z := t33.mp y.2
                       clear hQ
                       grind)
              · refine And.intro (zA_104 hS) ⟨_, sn_A_at.up (by decide), ?_⟩
                refine ⟨104, 30, nr, rf, m, 0, (m2 : Int), (0 : Int), rfl, hS, hR, (zRw_104 hR hS), (by first | exact (zRT_fr hR1 (fun c j h => rfl)) | exact (zRT_fr hR1 (fun c j h => rfl)) | (clear hQ; grind [xu])), (by omega), (by omega), ?_⟩
                intro v92o p92hv p92bhr
                refine And.intro ⟨(by omega), (by omega)⟩ ⟨fun h96 => ?_, fun h96 => ?_⟩
                · refine ⟨(((m2 + (-1)) + 1).toNat, 0, 0), zlt6 (by omega), [some (zvr (104)), some (zvi (kd)), some (zvi (c)), some (zvi (o)), some (zvi ((m2 + (-1)))), none, none, none], ⟨rfl, rfl, rfl, rfl, rfl, rfl⟩, (m2 + (-1)), rfl, rfl, rfl, rfl, rfl, rfl, rfl, (by omega), ?_⟩
                  · rw [hw, show (m2 + 1).toNat = m + 1 by omega, show (m2 + -1 + 1).toNat = m by omega]
                    refine cuVl_n (fun y => ?_)
                    first
                    | (exfalso; have y1 := y.1; omega)
                    | (have z := t33.mp y.2
                       rcases p39hv with q | q
                       · omega
                       · exact q.2 z)
                    | (have z := t33.mp y.2
                       clear hQ
                       grind)
                · refine And.intro (zRb rfl) (zbf rfl ?_)
                  refine And.intro (zA_104 hS) ⟨_, sn_A_at.up (by decide), ?_⟩
                  refine ⟨104, 30, nr, rf, m, 3, (m2 : Int), (3 : Int), rfl, hS, hR, (zRw_104 hR hS), (by first | exact (zRT_fr hR1 (fun c j h => rfl)) | exact (zRT_fr hR1 (fun c j h => rfl)) | (clear hQ; grind [xu])), (by omega), (by omega), ?_⟩
                  intro v108o p108hv p108bhr
                  refine hQ _ ?_ (by first | omega | (have := hrm (by omega); omega))
                  · first
                    | (rw [hw, show (m2 + 1).toNat = 0 by omega]; rfl)
                    | (rw [hw, show (m2 + 1).toNat = m + 1 by omega]
                       refine p108hv.trans (cuVl_y ⟨by omega, t33.mpr ?_⟩).symm
                       first
                       | (rcases p39hv with q | q
                          · exact q.2
                          · omega)
                       | (clear hQ; grind))
      · have t33 : cuTh rf m c o ↔ cuIs v17o c := (by unfold cuTh; rw [p17hv]; constructor; (intro y; rcases y with y | y; exact y.2; exact absurd (show o = -1 by omega) y.1); exact fun y => Or.inl ⟨by omega, y⟩)
        refine ⟨_, sn_U_isf.up (by decide), ?_⟩
        refine ⟨(v17o : Int), (c : Int), rfl, (by omega), ?_⟩
        intro v39o p39hv
        refine And.intro (zA_104 hS) ⟨_, sn_A_at.up (by decide), ?_⟩
        refine ⟨104, 30, nr, rf, m, 0, (m2 : Int), (0 : Int), rfl, hS, hR, (zRw_104 hR hS), (by first | exact (zRT_fr hR1 (fun c j h => rfl)) | exact (zRT_fr hR1 (fun c j h => rfl)) | (clear hQ; grind [xu])), (by omega), (by omega), ?_⟩
        intro v92o p92hv p92bhr
        refine And.intro ⟨(by omega), (by omega)⟩ ⟨fun h96 => ?_, fun h96 => ?_⟩
        · refine ⟨(((m2 + (-1)) + 1).toNat, 0, 0), zlt6 (by omega), [some (zvr (104)), some (zvi (kd)), some (zvi (c)), some (zvi (o)), some (zvi ((m2 + (-1)))), none, none, none], ⟨rfl, rfl, rfl, rfl, rfl, rfl⟩, (m2 + (-1)), rfl, rfl, rfl, rfl, rfl, rfl, rfl, (by omega), ?_⟩
          · rw [hw, show (m2 + 1).toNat = m + 1 by omega, show (m2 + -1 + 1).toNat = m by omega]
            refine cuVl_n (fun y => ?_)
            first
            | (exfalso; have y1 := y.1; omega)
            | (have z := t33.mp y.2
               rcases p39hv with q | q
               · omega
               · exact q.2 z)
            | (have z := t33.mp y.2
               clear hQ
               grind)
        · refine And.intro (by omega) ⟨fun h101 => ?_, fun h101 => ?_⟩
          · refine ⟨(((m2 + (-1)) + 1).toNat, 0, 0), zlt6 (by omega), [some (zvr (104)), some (zvi (kd)), some (zvi (c)), some (zvi (o)), some (zvi ((m2 + (-1)))), none, none, none], ⟨rfl, rfl, rfl, rfl, rfl, rfl⟩, (m2 + (-1)), rfl, rfl, rfl, rfl, rfl, rfl, rfl, (by omega), ?_⟩
            · rw [hw, show (m2 + 1).toNat = m + 1 by omega, show (m2 + -1 + 1).toNat = m by omega]
              refine cuVl_n (fun y => ?_)
              first
              | (exfalso; have y1 := y.1; omega)
              | (have z := t33.mp y.2
                 rcases p39hv with q | q
                 · omega
                 · exact q.2 z)
              | (have z := t33.mp y.2
                 clear hQ
                 grind)
          · refine And.intro (zA_104 hS) ⟨_, sn_A_at.up (by decide), ?_⟩
            refine ⟨104, 30, nr, rf, m, 3, (m2 : Int), (3 : Int), rfl, hS, hR, (zRw_104 hR hS), (by first | exact (zRT_fr hR1 (fun c j h => rfl)) | exact (zRT_fr hR1 (fun c j h => rfl)) | (clear hQ; grind [xu])), (by omega), (by omega), ?_⟩
            intro v108o p108hv p108bhr
            refine hQ _ ?_ (by first | omega | (have := hrm (by omega); omega))
            · first
              | (rw [hw, show (m2 + 1).toNat = 0 by omega]; rfl)
              | (rw [hw, show (m2 + 1).toNat = m + 1 by omega]
                 refine p108hv.trans (cuVl_y ⟨by omega, t33.mpr ?_⟩).symm
                 first
                 | (rcases p39hv with q | q
                    · exact q.2
                    · omega)
                 | (clear hQ; grind)))
def T_U_tnr : ZT := fun args I L R S Q => ∃ (k : Nat) (w : List CuR) (a : Int) (i : Nat) (b : Int) (j : Nat) (v : Int), args = [zvr k, zvi a, zvi b, zvi v] ∧ (zSh S) ∧ (zRs R) ∧ (zSt I L) ∧ (zDy zT1 zF1 k R S) ∧ (k = 106 ∨ k = 118) ∧ (zUw k w I) ∧ (w.length ≤ 60) ∧ (cuG w) ∧ (a = i ∧ i < w.length) ∧ (b = j ∧ j < w.length) ∧ (-1 ≤ v ∧ v ≤ 100000) ∧ ∀ (u : Int), ((u = 1 ∧ cuNr w i j v) ∨ (u = 0 ∧ ¬ cuNr w i j v)) → Q (some (zvi (u))) I L R S
theorem sn_U_tnr : ZSnd 4 1 33 T_U_tnr := ZSnd.of (zT1_33 3) (by
  rintro args I L R S Q hz ⟨k, w, a, i, b, j, v, rfl, hS, hR, hT, hD, hk, hW, hl, hG, hi, hj, hv0, hQ⟩
  have hk106 : 106 ≤ k := by omega
  have hk118 : k ≤ 118 := by omega
  have hT1 := zUw_T hW hl
  have hN := hT1.2.1
  refine And.intro rfl ?_
  refine And.intro (by omega) ?_
  refine And.intro (zDX hD 0 rfl) ⟨_, sn_U_rad.up (by decide), ?_⟩
  refine ⟨_, w, (a : Int), i, rfl, hS, hR, (zStf hT (fun c j h1 h2 => ⟨rfl, rfl⟩)), hD, (by first | exact hk | (clear hQ; grind [xu])), (by first | exact (zUw_fr hW (fun c j h => rfl)) | (clear hQ; grind [xu])), (by omega), (by first | exact hG | (clear hQ; grind [xu])), (by omega), ?_⟩
  intro v4o p4hv p4bhv2
  refine And.intro (by omega) ?_
  refine And.intro (zDX hD 0 rfl) ⟨_, sn_U_rad.up (by decide), ?_⟩
  refine ⟨_, w, (b : Int), j, rfl, hS, hR, (zStf hT (fun c j h1 h2 => ⟨rfl, rfl⟩)), hD, (by first | exact hk | (clear hQ; grind [xu])), (by first | exact (zUw_fr hW (fun c j h => rfl)) | (clear hQ; grind [xu])), (by omega), (by first | exact hG | (clear hQ; grind [xu])), (by omega), ?_⟩
  intro v11o p11hv p11bhv2
  have g11 : 0 ≤ (v + v4o + v11o + 1) * (v + v4o + v11o + 1) ∧ (v + v4o + v11o + 1) * (v + v4o + v11o + 1) ≤ 100601 * 100601 := (zmb (by omega) (by omega) (by omega) (by omega))
  refine And.intro (by omega) ?_
  refine And.intro ⟨(by omega), (zRb rfl)⟩ ⟨fun h20 => ?_, fun h20 => ?_⟩
  · refine And.intro (Or.inl rfl) ?_
    refine hQ _ ?_
    · unfold cuNr
      first
      | (refine Or.inr ⟨rfl, fun q => ?_⟩; exfalso; have := q.1; omega)
      | (refine Or.inl ⟨rfl, by omega, ?_⟩
         rw [← p4hv, ← p11hv, ← p27hv]
         omega)
      | (refine Or.inr ⟨rfl, fun q => ?_⟩
         have z := q.2
         rw [← p4hv, ← p11hv, ← p27hv] at z
         omega)
  · have t20 : 0 ≤ (v + v4o + v11o) * (v + v4o + v11o) ∧ (v + v4o + v11o) * (v + v4o + v11o) ≤ 100600 * 100600 := (zmb (by omega) (by omega) (by omega) (by omega))
    refine And.intro (zDX hD 0 rfl) ⟨_, sn_U_sqb.up (by decide), ?_⟩
    refine ⟨_, w, (a : Int), i, (b : Int), j, (0 : Int), rfl, hS, hR, hD, (by first | exact hk | (clear hQ; grind [xu])), (by first | exact (zUw_fr hW (fun c j h => rfl)) | (clear hQ; grind [xu])), (by omega), (by first | exact hG | (clear hQ; grind [xu])), (by omega), (by omega), (by omega), ?_⟩
    intro v27o p27hv p27bhv2
    refine ⟨_, _, ⟨zW6i (by omega), zW6i (by omega)⟩, fun z35 c35 => ?_⟩
    refine And.intro c35.2.2 ⟨fun h36 => ?_, fun h36 => ?_⟩
    · refine And.intro (Or.inl rfl) ?_
      refine hQ _ ?_
      · unfold cuNr
        first
        | (refine Or.inr ⟨rfl, fun q => ?_⟩; exfalso; have := q.1; omega)
        | (refine Or.inl ⟨rfl, by omega, ?_⟩
           rw [← p4hv, ← p11hv, ← p27hv]
           omega)
        | (refine Or.inr ⟨rfl, fun q => ?_⟩
           have z := q.2
           rw [← p4hv, ← p11hv, ← p27hv] at z
           omega)
    · refine And.intro (Or.inr rfl) ?_
      refine hQ _ ?_
      · unfold cuNr
        first
        | (refine Or.inr ⟨rfl, fun q => ?_⟩; exfalso; have := q.1; omega)
        | (refine Or.inl ⟨rfl, by omega, ?_⟩
           rw [← p4hv, ← p11hv, ← p27hv]
           omega)
        | (refine Or.inr ⟨rfl, fun q => ?_⟩
           have z := q.2
           rw [← p4hv, ← p11hv, ← p27hv] at z
           omega))
def T_U_tch : ZT := fun args I L R S Q => ∃ (k : Nat) (w : List CuR) (a : Int) (i : Nat) (b : Int) (j : Nat), args = [zvr k, zvi a, zvi b] ∧ (zSh S) ∧ (zRs R) ∧ (zSt I L) ∧ (zDy zT1 zF1 k R S) ∧ (k = 106 ∨ k = 118) ∧ (zUw k w I) ∧ (w.length ≤ 60) ∧ (cuG w) ∧ (a = i ∧ i < w.length) ∧ (b = j ∧ j < w.length) ∧ ∀ (v : Int), ((v = 1 ∧ cuTo w i j) ∨ (v = 0 ∧ ¬ cuTo w i j)) → Q (some (zvi (v))) I L R S
theorem sn_U_tch : ZSnd 4 1 52 T_U_tch := ZSnd.of (zT1_52 3) (by
  rintro args I L R S Q hz ⟨k, w, a, i, b, j, rfl, hS, hR, hT, hD, hk, hW, hl, hG, hi, hj, hQ⟩
  have hk106 : 106 ≤ k := by omega
  have hk118 : k ≤ 118 := by omega
  have hT1 := zUw_T hW hl
  have hN := hT1.2.1
  refine And.intro rfl ?_
  refine And.intro (zDX hD 0 rfl) ⟨_, sn_U_top.up (by decide), ?_⟩
  refine ⟨_, w, (a : Int), i, rfl, hS, hR, hD, (by first | exact hk | (clear hQ; grind [xu])), (by first | exact (zUw_fr hW (fun c j h => rfl)) | (clear hQ; grind [xu])), (by omega), (by first | exact hG | (clear hQ; grind [xu])), (by omega), ?_⟩
  intro v2o p2hv p2bhv2
  refine And.intro (zDX hD 0 rfl) ⟨_, sn_U_top.up (by decide), ?_⟩
  refine ⟨_, w, (b : Int), j, rfl, hS, hR, hD, (by first | exact hk | (clear hQ; grind [xu])), (by first | exact (zUw_fr hW (fun c j h => rfl)) | (clear hQ; grind [xu])), (by omega), (by first | exact hG | (clear hQ; grind [xu])), (by omega), ?_⟩
  intro v7o p7hv p7bhv2
  refine And.intro ⟨(by omega), (by omega)⟩ ?_
  refine And.intro (zDX hD 0 rfl) ⟨_, sn_U_los.up (by decide), ?_⟩
  refine ⟨_, w, (a : Int), i, rfl, hS, hR, hD, (by first | exact hk | (clear hQ; grind [xu])), (by first | exact (zUw_fr hW (fun c j h => rfl)) | (clear hQ; grind [xu])), (by omega), (by first | exact hG | (clear hQ; grind [xu])), (by omega), ?_⟩
  intro v16o p16hv p16bhv2
  refine And.intro (zDX hD 0 rfl) ⟨_, sn_U_los.up (by decide), ?_⟩
  refine ⟨_, w, (b : Int), j, rfl, hS, hR, hD, (by first | exact hk | (clear hQ; grind [xu])), (by first | exact (zUw_fr hW (fun c j h => rfl)) | (clear hQ; grind [xu])), (by omega), (by first | exact hG | (clear hQ; grind [xu])), (by omega), ?_⟩
  intro v21o p21hv p21bhv2
  refine And.intro ⟨(by omega), (by omega)⟩ ?_
  refine And.intro ⟨(by omega), (by omega)⟩ ⟨fun h28 => ?_, fun h28 => ?_⟩
  · refine And.intro (zDX hD 0 rfl) ⟨_, sn_U_cls.up (by decide), ?_⟩
    refine ⟨_, w, (a : Int), i, rfl, hS, hR, hD, (by first | exact hk | (clear hQ; grind [xu])), (by first | exact (zUw_fr hW (fun c j h => rfl)) | (clear hQ; grind [xu])), (by omega), (by first | exact hG | (clear hQ; grind [xu])), (by omega), ?_⟩
    intro v35o p35hv p35bhv2
    refine And.intro (by omega) ⟨fun h38 => ?_, fun h38 => ?_⟩
    · refine And.intro (zDX hD 0 rfl) ⟨_, sn_U_cls.up (by decide), ?_⟩
      refine ⟨_, w, (b : Int), j, rfl, hS, hR, hD, (by first | exact hk | (clear hQ; grind [xu])), (by first | exact (zUw_fr hW (fun c j h => rfl)) | (clear hQ; grind [xu])), (by omega), (by first | exact hG | (clear hQ; grind [xu])), (by omega), ?_⟩
      intro v50o p50hv p50bhv2
      refine And.intro (by omega) ⟨fun h53 => ?_, fun h53 => ?_⟩
      · refine And.intro (zRb rfl) (zbt rfl ?_)
        refine And.intro (zRb rfl) (zbt rfl ?_)
        refine And.intro (zRb rfl) (zbt rfl ?_)
        refine And.intro (zDX hD 0 rfl) ⟨_, sn_U_rad.up (by decide), ?_⟩
        refine ⟨_, w, (a : Int), i, rfl, hS, hR, (zStf hT (fun c j h1 h2 => ⟨rfl, rfl⟩)), hD, (by first | exact hk | (clear hQ; grind [xu])), (by first | exact (zUw_fr hW (fun c j h => rfl)) | (clear hQ; grind [xu])), (by omega), (by first | exact hG | (clear hQ; grind [xu])), (by omega), ?_⟩
        intro v105o p105hv p105bhv2
        refine And.intro (zRb rfl) (zbt rfl ?_)
        refine And.intro (zDX hD 0 rfl) ⟨_, sn_U_rad.up (by decide), ?_⟩
        refine ⟨_, w, (b : Int), j, rfl, hS, hR, (zStf hT (fun c j h1 h2 => ⟨rfl, rfl⟩)), hD, (by first | exact hk | (clear hQ; grind [xu])), (by first | exact (zUw_fr hW (fun c j h => rfl)) | (clear hQ; grind [xu])), (by omega), (by first | exact hG | (clear hQ; grind [xu])), (by omega), ?_⟩
        intro v119o p119hv p119bhv2
        refine And.intro (by omega) ?_
        refine And.intro (zDX hD 0 rfl) ⟨_, sn_U_sqb.up (by decide), ?_⟩
        refine ⟨_, w, (a : Int), i, (b : Int), j, ((0 + 0) : Int), rfl, hS, hR, hD, (by first | exact hk | (clear hQ; grind [xu])), (by first | exact (zUw_fr hW (fun c j h => rfl)) | (clear hQ; grind [xu])), (by omega), (by first | exact hG | (clear hQ; grind [xu])), (by omega), (by omega), (by omega), ?_⟩
        intro v131o p131hv p131bhv2
        have g131 : v131o = cuSq w i j (cuWd w i j) := (by rw [p131hv]; congr 1; unfold cuWd; split <;> split <;> omega)
        have mu138 : 0 ≤ (v105o + v119o) * (v105o + v119o) ∧ (v105o + v119o) * (v105o + v119o) ≤ 600 * 600 := zmb (by omega) (by omega) (by omega) (by omega)
        refine ⟨_, _, ⟨zW6i (by omega), zW6i (by omega)⟩, fun z139 c139 => ?_⟩
        refine And.intro c139.2.2 ⟨fun h140 => ?_, fun h140 => ?_⟩
        · refine And.intro (Or.inl rfl) ?_
          refine hQ _ ?_
          · unfold cuTo
            first
            | (refine Or.inr ⟨rfl, fun q => ?_⟩; have z := q.1; omega)
            | (have e : cuRc w i j = _ := rfl
               first
               | (refine Or.inl ⟨rfl, by omega, ?_⟩
                  rw [← g131]
                  unfold cuRc
                  first
                  | (rw [if_pos (by omega), if_pos (by omega)]; omega)
                  | (rw [if_pos (by omega), if_neg (by omega), ← p119hv]; omega)
                  | (rw [if_neg (by omega), if_pos (by omega), ← p105hv]; omega)
                  | (rw [if_neg (by omega), if_neg (by omega), ← p105hv, ← p119hv]; omega))
               | (refine Or.inr ⟨rfl, fun q => ?_⟩
                  have z := q.2
                  rw [← g131] at z
                  unfold cuRc at z
                  first
                  | (rw [if_pos (by omega), if_pos (by omega)] at z; omega)
                  | (rw [if_pos (by omega), if_neg (by omega), ← p119hv] at z; omega)
                  | (rw [if_neg (by omega), if_pos (by omega), ← p105hv] at z; omega)
                  | (rw [if_neg (by omega), if_neg (by omega), ← p105hv, ← p119hv] at z; omega)))
        · refine And.intro (Or.inr rfl) ?_
          refine hQ _ ?_
          · unfold cuTo
            first
            | (refine Or.inr ⟨rfl, fun q => ?_⟩; have z := q.1; omega)
            | (have e : cuRc w i j = _ := rfl
               first
               | (refine Or.inl ⟨rfl, by omega, ?_⟩
                  rw [← g131]
                  unfold cuRc
                  first
                  | (rw [if_pos (by omega), if_pos (by omega)]; omega)
                  | (rw [if_pos (by omega), if_neg (by omega), ← p119hv]; omega)
                  | (rw [if_neg (by omega), if_pos (by omega), ← p105hv]; omega)
                  | (rw [if_neg (by omega), if_neg (by omega), ← p105hv, ← p119hv]; omega))
               | (refine Or.inr ⟨rfl, fun q => ?_⟩
                  have z := q.2
                  rw [← g131] at z
                  unfold cuRc at z
                  first
                  | (rw [if_pos (by omega), if_pos (by omega)] at z; omega)
                  | (rw [if_pos (by omega), if_neg (by omega), ← p119hv] at z; omega)
                  | (rw [if_neg (by omega), if_pos (by omega), ← p105hv] at z; omega)
                  | (rw [if_neg (by omega), if_neg (by omega), ← p105hv, ← p119hv] at z; omega)))
      · refine And.intro (zRb rfl) (zbt rfl ?_)
        refine And.intro (zRb rfl) (zbf rfl ?_)
        refine And.intro (zDX hD 0 rfl) ⟨_, sn_U_rad.up (by decide), ?_⟩
        refine ⟨_, w, (b : Int), j, rfl, hS, hR, (zStf hT (fun c j h1 h2 => ⟨rfl, rfl⟩)), hD, (by first | exact hk | (clear hQ; grind [xu])), (by first | exact (zUw_fr hW (fun c j h => rfl)) | (clear hQ; grind [xu])), (by omega), (by first | exact hG | (clear hQ; grind [xu])), (by omega), ?_⟩
        intro v84o p84hv p84bhv2
        refine And.intro (zRb rfl) (zbt rfl ?_)
        refine And.intro (zDX hD 0 rfl) ⟨_, sn_U_rad.up (by decide), ?_⟩
        refine ⟨_, w, (a : Int), i, rfl, hS, hR, (zStf hT (fun c j h1 h2 => ⟨rfl, rfl⟩)), hD, (by first | exact hk | (clear hQ; grind [xu])), (by first | exact (zUw_fr hW (fun c j h => rfl)) | (clear hQ; grind [xu])), (by omega), (by first | exact hG | (clear hQ; grind [xu])), (by omega), ?_⟩
        intro v105o p105hv p105bhv2
        refine And.intro (zRb rfl) (zbf rfl ?_)
        refine And.intro (by omega) ?_
        refine And.intro (zDX hD 0 rfl) ⟨_, sn_U_sqb.up (by decide), ?_⟩
        refine ⟨_, w, (a : Int), i, (b : Int), j, ((0 + v84o) : Int), rfl, hS, hR, hD, (by first | exact hk | (clear hQ; grind [xu])), (by first | exact (zUw_fr hW (fun c j h => rfl)) | (clear hQ; grind [xu])), (by omega), (by first | exact hG | (clear hQ; grind [xu])), (by omega), (by omega), (by omega), ?_⟩
        intro v131o p131hv p131bhv2
        have g131 : v131o = cuSq w i j (cuWd w i j) := (by rw [p131hv]; congr 1; unfold cuWd; split <;> split <;> omega)
        have mu138 : 0 ≤ (v105o + 0) * (v105o + 0) ∧ (v105o + 0) * (v105o + 0) ≤ 600 * 600 := zmb (by omega) (by omega) (by omega) (by omega)
        refine ⟨_, _, ⟨zW6i (by omega), zW6i (by omega)⟩, fun z139 c139 => ?_⟩
        refine And.intro c139.2.2 ⟨fun h140 => ?_, fun h140 => ?_⟩
        · refine And.intro (Or.inl rfl) ?_
          refine hQ _ ?_
          · unfold cuTo
            first
            | (refine Or.inr ⟨rfl, fun q => ?_⟩; have z := q.1; omega)
            | (have e : cuRc w i j = _ := rfl
               first
               | (refine Or.inl ⟨rfl, by omega, ?_⟩
                  rw [← g131]
                  unfold cuRc
                  first
                  | (rw [if_pos (by omega), if_pos (by omega)]; omega)
                  | (rw [if_pos (by omega), if_neg (by omega), ← p119hv]; omega)
                  | (rw [if_neg (by omega), if_pos (by omega), ← p105hv]; omega)
                  | (rw [if_neg (by omega), if_neg (by omega), ← p105hv, ← p119hv]; omega))
               | (refine Or.inr ⟨rfl, fun q => ?_⟩
                  have z := q.2
                  rw [← g131] at z
                  unfold cuRc at z
                  first
                  | (rw [if_pos (by omega), if_pos (by omega)] at z; omega)
                  | (rw [if_pos (by omega), if_neg (by omega), ← p119hv] at z; omega)
                  | (rw [if_neg (by omega), if_pos (by omega), ← p105hv] at z; omega)
                  | (rw [if_neg (by omega), if_neg (by omega), ← p105hv, ← p119hv] at z; omega)))
        · refine And.intro (Or.inr rfl) ?_
          refine hQ _ ?_
          · unfold cuTo
            first
            | (refine Or.inr ⟨rfl, fun q => ?_⟩; have z := q.1; omega)
            | (have e : cuRc w i j = _ := rfl
               first
               | (refine Or.inl ⟨rfl, by omega, ?_⟩
                  rw [← g131]
                  unfold cuRc
                  first
                  | (rw [if_pos (by omega), if_pos (by omega)]; omega)
                  | (rw [if_pos (by omega), if_neg (by omega), ← p119hv]; omega)
                  | (rw [if_neg (by omega), if_pos (by omega), ← p105hv]; omega)
                  | (rw [if_neg (by omega), if_neg (by omega), ← p105hv, ← p119hv]; omega))
               | (refine Or.inr ⟨rfl, fun q => ?_⟩
                  have z := q.2
                  rw [← g131] at z
                  unfold cuRc at z
                  first
                  | (rw [if_pos (by omega), if_pos (by omega)] at z; omega)
                  | (rw [if_pos (by omega), if_neg (by omega), ← p119hv] at z; omega)
                  | (rw [if_neg (by omega), if_pos (by omega), ← p105hv] at z; omega)
                  | (rw [if_neg (by omega), if_neg (by omega), ← p105hv, ← p119hv] at z; omega)))
    · refine And.intro (zDX hD 0 rfl) ⟨_, sn_U_cls.up (by decide), ?_⟩
      refine ⟨_, w, (b : Int), j, rfl, hS, hR, hD, (by first | exact hk | (clear hQ; grind [xu])), (by first | exact (zUw_fr hW (fun c j h => rfl)) | (clear hQ; grind [xu])), (by omega), (by first | exact hG | (clear hQ; grind [xu])), (by omega), ?_⟩
      intro v50o p50hv p50bhv2
      refine And.intro (by omega) ⟨fun h53 => ?_, fun h53 => ?_⟩
      · refine And.intro (zRb rfl) (zbf rfl ?_)
        refine And.intro (zDX hD 0 rfl) ⟨_, sn_U_rad.up (by decide), ?_⟩
        refine ⟨_, w, (a : Int), i, rfl, hS, hR, (zStf hT (fun c j h1 h2 => ⟨rfl, rfl⟩)), hD, (by first | exact hk | (clear hQ; grind [xu])), (by first | exact (zUw_fr hW (fun c j h => rfl)) | (clear hQ; grind [xu])), (by omega), (by first | exact hG | (clear hQ; grind [xu])), (by omega), ?_⟩
        intro v70o p70hv p70bhv2
        refine And.intro (zRb rfl) (zbt rfl ?_)
        refine And.intro (zRb rfl) (zbf rfl ?_)
        refine And.intro (zRb rfl) (zbt rfl ?_)
        refine And.intro (zDX hD 0 rfl) ⟨_, sn_U_rad.up (by decide), ?_⟩
        refine ⟨_, w, (b : Int), j, rfl, hS, hR, (zStf hT (fun c j h1 h2 => ⟨rfl, rfl⟩)), hD, (by first | exact hk | (clear hQ; grind [xu])), (by first | exact (zUw_fr hW (fun c j h => rfl)) | (clear hQ; grind [xu])), (by omega), (by first | exact hG | (clear hQ; grind [xu])), (by omega), ?_⟩
        intro v119o p119hv p119bhv2
        refine And.intro (by omega) ?_
        refine And.intro (zDX hD 0 rfl) ⟨_, sn_U_sqb.up (by decide), ?_⟩
        refine ⟨_, w, (a : Int), i, (b : Int), j, ((v70o + 0) : Int), rfl, hS, hR, hD, (by first | exact hk | (clear hQ; grind [xu])), (by first | exact (zUw_fr hW (fun c j h => rfl)) | (clear hQ; grind [xu])), (by omega), (by first | exact hG | (clear hQ; grind [xu])), (by omega), (by omega), (by omega), ?_⟩
        intro v131o p131hv p131bhv2
        have g131 : v131o = cuSq w i j (cuWd w i j) := (by rw [p131hv]; congr 1; unfold cuWd; split <;> split <;> omega)
        have mu138 : 0 ≤ (0 + v119o) * (0 + v119o) ∧ (0 + v119o) * (0 + v119o) ≤ 600 * 600 := zmb (by omega) (by omega) (by omega) (by omega)
        refine ⟨_, _, ⟨zW6i (by omega), zW6i (by omega)⟩, fun z139 c139 => ?_⟩
        refine And.intro c139.2.2 ⟨fun h140 => ?_, fun h140 => ?_⟩
        · refine And.intro (Or.inl rfl) ?_
          refine hQ _ ?_
          · unfold cuTo
            first
            | (refine Or.inr ⟨rfl, fun q => ?_⟩; have z := q.1; omega)
            | (have e : cuRc w i j = _ := rfl
               first
               | (refine Or.inl ⟨rfl, by omega, ?_⟩
                  rw [← g131]
                  unfold cuRc
                  first
                  | (rw [if_pos (by omega), if_pos (by omega)]; omega)
                  | (rw [if_pos (by omega), if_neg (by omega), ← p119hv]; omega)
                  | (rw [if_neg (by omega), if_pos (by omega), ← p105hv]; omega)
                  | (rw [if_neg (by omega), if_neg (by omega), ← p105hv, ← p119hv]; omega))
               | (refine Or.inr ⟨rfl, fun q => ?_⟩
                  have z := q.2
                  rw [← g131] at z
                  unfold cuRc at z
                  first
                  | (rw [if_pos (by omega), if_pos (by omega)] at z; omega)
                  | (rw [if_pos (by omega), if_neg (by omega), ← p119hv] at z; omega)
                  | (rw [if_neg (by omega), if_pos (by omega), ← p105hv] at z; omega)
                  | (rw [if_neg (by omega), if_neg (by omega), ← p105hv, ← p119hv] at z; omega)))
        · refine And.intro (Or.inr rfl) ?_
          refine hQ _ ?_
          · unfold cuTo
            first
            | (refine Or.inr ⟨rfl, fun q => ?_⟩; have z := q.1; omega)
            | (have e : cuRc w i j = _ := rfl
               first
               | (refine Or.inl ⟨rfl, by omega, ?_⟩
                  rw [← g131]
                  unfold cuRc
                  first
                  | (rw [if_pos (by omega), if_pos (by omega)]; omega)
                  | (rw [if_pos (by omega), if_neg (by omega), ← p119hv]; omega)
                  | (rw [if_neg (by omega), if_pos (by omega), ← p105hv]; omega)
                  | (rw [if_neg (by omega), if_neg (by omega), ← p105hv, ← p119hv]; omega))
               | (refine Or.inr ⟨rfl, fun q => ?_⟩
                  have z := q.2
                  rw [← g131] at z
                  unfold cuRc at z
                  first
                  | (rw [if_pos (by omega), if_pos (by omega)] at z; omega)
                  | (rw [if_pos (by omega), if_neg (by omega), ← p119hv] at z; omega)
                  | (rw [if_neg (by omega), if_pos (by omega), ← p105hv] at z; omega)
                  | (rw [if_neg (by omega), if_neg (by omega), ← p105hv, ← p119hv] at z; omega)))
      · refine And.intro (zRb rfl) (zbf rfl ?_)
        refine And.intro (zDX hD 0 rfl) ⟨_, sn_U_rad.up (by decide), ?_⟩
        refine ⟨_, w, (a : Int), i, rfl, hS, hR, (zStf hT (fun c j h1 h2 => ⟨rfl, rfl⟩)), hD, (by first | exact hk | (clear hQ; grind [xu])), (by first | exact (zUw_fr hW (fun c j h => rfl)) | (clear hQ; grind [xu])), (by omega), (by first | exact hG | (clear hQ; grind [xu])), (by omega), ?_⟩
        intro v70o p70hv p70bhv2
        refine And.intro (zRb rfl) (zbf rfl ?_)
        refine And.intro (zDX hD 0 rfl) ⟨_, sn_U_rad.up (by decide), ?_⟩
        refine ⟨_, w, (b : Int), j, rfl, hS, hR, (zStf hT (fun c j h1 h2 => ⟨rfl, rfl⟩)), hD, (by first | exact hk | (clear hQ; grind [xu])), (by first | exact (zUw_fr hW (fun c j h => rfl)) | (clear hQ; grind [xu])), (by omega), (by first | exact hG | (clear hQ; grind [xu])), (by omega), ?_⟩
        intro v84o p84hv p84bhv2
        refine And.intro (zRb rfl) (zbf rfl ?_)
        refine And.intro (zRb rfl) (zbf rfl ?_)
        refine And.intro (zRb rfl) ?_
        refine And.intro (zDX hD 0 rfl) ⟨_, sn_U_sqb.up (by decide), ?_⟩
        refine ⟨_, w, (a : Int), i, (b : Int), j, ((v70o + v84o) : Int), rfl, hS, hR, hD, (by first | exact hk | (clear hQ; grind [xu])), (by first | exact (zUw_fr hW (fun c j h => rfl)) | (clear hQ; grind [xu])), (by omega), (by first | exact hG | (clear hQ; grind [xu])), (by omega), (by omega), (by omega), ?_⟩
        intro v131o p131hv p131bhv2
        have g131 : v131o = cuSq w i j (cuWd w i j) := (by rw [p131hv]; congr 1; unfold cuWd; split <;> split <;> omega)
        refine ⟨_, _, ⟨zW6i (by omega), zW6i (zRL rfl)⟩, fun z139 c139 => ?_⟩
        refine And.intro c139.2.2 ⟨fun h140 => ?_, fun h140 => ?_⟩
        · refine And.intro (Or.inl rfl) ?_
          refine hQ _ ?_
          · unfold cuTo
            first
            | (refine Or.inr ⟨rfl, fun q => ?_⟩; have z := q.1; omega)
            | (have e : cuRc w i j = _ := rfl
               first
               | (refine Or.inl ⟨rfl, by omega, ?_⟩
                  rw [← g131]
                  unfold cuRc
                  first
                  | (rw [if_pos (by omega), if_pos (by omega)]; omega)
                  | (rw [if_pos (by omega), if_neg (by omega), ← p119hv]; omega)
                  | (rw [if_neg (by omega), if_pos (by omega), ← p105hv]; omega)
                  | (rw [if_neg (by omega), if_neg (by omega), ← p105hv, ← p119hv]; omega))
               | (refine Or.inr ⟨rfl, fun q => ?_⟩
                  have z := q.2
                  rw [← g131] at z
                  unfold cuRc at z
                  first
                  | (rw [if_pos (by omega), if_pos (by omega)] at z; omega)
                  | (rw [if_pos (by omega), if_neg (by omega), ← p119hv] at z; omega)
                  | (rw [if_neg (by omega), if_pos (by omega), ← p105hv] at z; omega)
                  | (rw [if_neg (by omega), if_neg (by omega), ← p105hv, ← p119hv] at z; omega)))
        · refine And.intro (Or.inr rfl) ?_
          refine hQ _ ?_
          · unfold cuTo
            first
            | (refine Or.inr ⟨rfl, fun q => ?_⟩; have z := q.1; omega)
            | (have e : cuRc w i j = _ := rfl
               first
               | (refine Or.inl ⟨rfl, by omega, ?_⟩
                  rw [← g131]
                  unfold cuRc
                  first
                  | (rw [if_pos (by omega), if_pos (by omega)]; omega)
                  | (rw [if_pos (by omega), if_neg (by omega), ← p119hv]; omega)
                  | (rw [if_neg (by omega), if_pos (by omega), ← p105hv]; omega)
                  | (rw [if_neg (by omega), if_neg (by omega), ← p105hv, ← p119hv]; omega))
               | (refine Or.inr ⟨rfl, fun q => ?_⟩
                  have z := q.2
                  rw [← g131] at z
                  unfold cuRc at z
                  first
                  | (rw [if_pos (by omega), if_pos (by omega)] at z; omega)
                  | (rw [if_pos (by omega), if_neg (by omega), ← p119hv] at z; omega)
                  | (rw [if_neg (by omega), if_pos (by omega), ← p105hv] at z; omega)
                  | (rw [if_neg (by omega), if_neg (by omega), ← p105hv, ← p119hv] at z; omega)))
  · refine And.intro (Or.inl rfl) ?_
    refine hQ _ ?_
    · unfold cuTo
      first
      | (refine Or.inr ⟨rfl, fun q => ?_⟩; have z := q.1; omega)
      | (have e : cuRc w i j = _ := rfl
         first
         | (refine Or.inl ⟨rfl, by omega, ?_⟩
            rw [← g131]
            unfold cuRc
            first
            | (rw [if_pos (by omega), if_pos (by omega)]; omega)
            | (rw [if_pos (by omega), if_neg (by omega), ← p119hv]; omega)
            | (rw [if_neg (by omega), if_pos (by omega), ← p105hv]; omega)
            | (rw [if_neg (by omega), if_neg (by omega), ← p105hv, ← p119hv]; omega))
         | (refine Or.inr ⟨rfl, fun q => ?_⟩
            have z := q.2
            rw [← g131] at z
            unfold cuRc at z
            first
            | (rw [if_pos (by omega), if_pos (by omega)] at z; omega)
            | (rw [if_pos (by omega), if_neg (by omega), ← p119hv] at z; omega)
            | (rw [if_neg (by omega), if_pos (by omega), ← p105hv] at z; omega)
            | (rw [if_neg (by omega), if_neg (by omega), ← p105hv, ← p119hv] at z; omega))))
def T_U_rng : ZT := fun args I L R S Q => ∃ (k : Nat) (w : List CuR) (a : Int) (i : Nat) (v : Int), args = [zvr k, zvi a, zvi v] ∧ (zSh S) ∧ (zRs R) ∧ (zSt I L) ∧ (zDy zT1 zF1 k R S) ∧ (k = 106 ∨ k = 118) ∧ (zUw k w I) ∧ (w.length ≤ 60) ∧ (cuG w) ∧ (a = i ∧ i < w.length) ∧ (0 ≤ v ∧ v ≤ 100000) ∧ ∀ (u : Int), ((u = 1 ∧ zex (fun s => s < w.length ∧ cuRn w i v s)) ∨ (u = 0 ∧ ¬ zex (fun s => s < w.length ∧ cuRn w i v s))) → Q (some (zvi (u))) I L R S
theorem sn_U_rng : ZSnd 4 1 23 T_U_rng := ZSnd.loops (zT1_23 3) (by
  rintro args I L R S Q hz ⟨k, w, a, i, v, rfl, hS, hR, hT, hD, hk, hW, hl, hG, hi, hv0, hQ⟩
  have hk106 : 106 ≤ k := by omega
  have hk118 : k ≤ 118 := by omega
  have hT1 := zUw_T hW hl
  have hN := hT1.2.1
  refine ⟨[5], fun nM tM lsM stM I1 L1 R1 S1 => match tM with
      | 5 => ∃ (u : Int) (m : Nat), nM = ((61 - m), 0, 0) ∧ lsM = [some (zvr (k)), some (zvi (a)), some (zvi (v)), some (zvi (u)), some (zvi (m)), none, none, none] ∧ stM = [] ∧ I1 = I ∧ L1 = L ∧ R1 = R ∧ S1 = S ∧ (m ≤ w.length) ∧ (u = 0 ∨ u = 1) ∧ (u = 1 → zex (fun s => s < w.length ∧ cuRn w i v s)) ∧ (u = 0 → ∀ s : Nat, s < m → ¬ cuRn w i v s)
      | _ => False, rfl, ?_, ⟨?_, True.intro⟩⟩
  · refine ⟨((61 - (0 : Nat)), 0, 0), [some (zvr (k)), some (zvi (a)), some (zvi (v)), some (zvi ((0 : Int))), some (zvi ((0 : Nat))), none, none, none], ⟨rfl, rfl, rfl, rfl, rfl, rfl⟩, 0, 0, rfl, rfl, rfl, rfl, rfl, rfl, rfl, (by omega), (Or.inl rfl), (fun h => absurd h (by decide)), (fun _ s h => absurd h (Nat.not_lt_zero s))⟩
  · rintro nM lsM stM I1 L1 R1 S1 hz1 ⟨u, m, rfl, rfl, rfl, rfl, rfl, rfl, rfl, hm, hu0, hu1, hu2⟩
    refine And.intro (zDX hD 0 rfl) (zrdR (v := some (k + 1)) (zDR hD 0 rfl) ?_)
    refine And.intro (zDX hD 1 rfl) (zrd (v := (w.length)) hN ?_)
    refine And.intro ⟨(by omega), (by omega)⟩ ⟨fun h14 => ?_, fun h14 => ?_⟩
    · refine And.intro (by omega) ?_
      refine hQ _ ?_
      · rcases hu0 with e | e
        · exact Or.inr ⟨e, fun q => by obtain ⟨s, q1, q2⟩ := q; exact hu2 e s (by omega) q2⟩
        · exact Or.inl ⟨e, hu1 e⟩
    · have t14 : m + 1 ≤ w.length := (by omega)
      refine And.intro (by omega) ⟨fun h18 => ?_, fun h18 => ?_⟩
      · refine And.intro (by omega) ?_
        refine hQ _ ?_
        · rcases hu0 with e | e
          · exact Or.inr ⟨e, fun q => by obtain ⟨s, q1, q2⟩ := q; exact hu2 e s (by omega) q2⟩
          · exact Or.inl ⟨e, hu1 e⟩
      · refine And.intro (zDX hD 0 rfl) ⟨_, sn_U_cls.up (by decide), ?_⟩
        refine ⟨_, w, (m : Int), m, rfl, hS, hR, hD, (by first | exact hk | (clear hQ; grind [xu])), (by first | exact (zUw_fr hW (fun c j h => rfl)) | (clear hQ; grind [xu])), (by omega), (by first | exact hG | (clear hQ; grind [xu])), (by omega), ?_⟩
        intro v24o p24hv p24bhv2
        refine And.intro ⟨(by omega), (zRb rfl)⟩ ⟨fun h28 => ?_, fun h28 => ?_⟩
        · refine And.intro (zDX hD 0 rfl) ⟨_, sn_U_nos.up (by decide), ?_⟩
          refine ⟨_, w, (m : Int), m, rfl, hS, hR, hD, (by first | exact hk | (clear hQ; grind [xu])), (by first | exact (zUw_fr hW (fun c j h => rfl)) | (clear hQ; grind [xu])), (by omega), (by first | exact hG | (clear hQ; grind [xu])), (by omega), ?_⟩
          intro v44o p44hv p44bhv2
          refine And.intro (zDX hD 0 rfl) ⟨_, sn_U_nos.up (by decide), ?_⟩
          refine ⟨_, w, (a : Int), i, rfl, hS, hR, hD, (by first | exact hk | (clear hQ; grind [xu])), (by first | exact (zUw_fr hW (fun c j h => rfl)) | (clear hQ; grind [xu])), (by omega), (by first | exact hG | (clear hQ; grind [xu])), (by omega), ?_⟩
          intro v49o p49hv p49bhv2
          refine And.intro ⟨(by omega), (by omega)⟩ ⟨fun h52 => ?_, fun h52 => ?_⟩
          · refine And.intro (zDX hD 0 rfl) ⟨_, sn_U_rad.up (by decide), ?_⟩
            refine ⟨_, w, (m : Int), m, rfl, hS, hR, (zStf hT (fun c j h1 h2 => ⟨rfl, rfl⟩)), hD, (by first | exact hk | (clear hQ; grind [xu])), (by first | exact (zUw_fr hW (fun c j h => rfl)) | (clear hQ; grind [xu])), (by omega), (by first | exact hG | (clear hQ; grind [xu])), (by omega), ?_⟩
            intro v65o p65hv p65bhv2
            refine And.intro (by omega) ?_
            refine And.intro (zDX hD 0 rfl) ⟨_, sn_U_rad.up (by decide), ?_⟩
            refine ⟨_, w, (a : Int), i, rfl, hS, hR, (zStf hT (fun c j h1 h2 => ⟨rfl, rfl⟩)), hD, (by first | exact hk | (clear hQ; grind [xu])), (by first | exact (zUw_fr hW (fun c j h => rfl)) | (clear hQ; grind [xu])), (by omega), (by first | exact hG | (clear hQ; grind [xu])), (by omega), ?_⟩
            intro v71o p71hv p71bhv2
            refine And.intro (by omega) ?_
            refine And.intro (by omega) ?_
            refine And.intro (zRb rfl) (zbt rfl ?_)
            refine ⟨((61 - (m + 1)), 0, 0), zlt6 (by omega), [some (zvr (k)), some (zvi (a)), some (zvi (v)), some (zvi ((0 : Int))), some (zvi ((m + 1))), none, none, none], ⟨rfl, rfl, rfl, rfl, rfl, rfl⟩, 0, (m + 1), rfl, rfl, rfl, rfl, rfl, rfl, rfl, (by omega), (by first | exact Or.inl rfl | exact Or.inr rfl), (fun h => by first | exact absurd h (by decide) | exact Exists.intro m ⟨by omega, by unfold cuRn; rw [← p65hv, ← p71hv, ← p98hv]; omega⟩), ?_⟩
            · intro h s hs
              first
              | exact absurd h (by decide)
              | (by_cases e : s = m
                 · subst e
                   intro q
                   unfold cuRn at q
                   first
                   | (rw [← p65hv, ← p71hv, ← p98hv] at q; omega)
                   | (rw [← p65hv, ← p71hv] at q; omega)
                 · exact hu2 (by omega) s (by omega))
          · refine And.intro (zDX hD 0 rfl) ⟨_, sn_U_rad.up (by decide), ?_⟩
            refine ⟨_, w, (m : Int), m, rfl, hS, hR, (zStf hT (fun c j h1 h2 => ⟨rfl, rfl⟩)), hD, (by first | exact hk | (clear hQ; grind [xu])), (by first | exact (zUw_fr hW (fun c j h => rfl)) | (clear hQ; grind [xu])), (by omega), (by first | exact hG | (clear hQ; grind [xu])), (by omega), ?_⟩
            intro v65o p65hv p65bhv2
            refine And.intro (by omega) ?_
            refine And.intro (zDX hD 0 rfl) ⟨_, sn_U_rad.up (by decide), ?_⟩
            refine ⟨_, w, (a : Int), i, rfl, hS, hR, (zStf hT (fun c j h1 h2 => ⟨rfl, rfl⟩)), hD, (by first | exact hk | (clear hQ; grind [xu])), (by first | exact (zUw_fr hW (fun c j h => rfl)) | (clear hQ; grind [xu])), (by omega), (by first | exact hG | (clear hQ; grind [xu])), (by omega), ?_⟩
            intro v71o p71hv p71bhv2
            refine And.intro (by omega) ?_
            refine And.intro (by omega) ?_
            refine And.intro (zRb rfl) (zbf rfl ?_)
            refine ⟨_, _, ⟨zW6i (by omega), zW6i (zRL rfl)⟩, fun z89 c89 => ?_⟩
            refine And.intro c89.2.2 ⟨fun h90 => ?_, fun h90 => ?_⟩
            · refine ⟨((61 - (m + 1)), 0, 0), zlt6 (by omega), [some (zvr (k)), some (zvi (a)), some (zvi (v)), some (zvi ((0 : Int))), some (zvi ((m + 1))), none, none, none], ⟨rfl, rfl, rfl, rfl, rfl, rfl⟩, 0, (m + 1), rfl, rfl, rfl, rfl, rfl, rfl, rfl, (by omega), (by first | exact Or.inl rfl | exact Or.inr rfl), (fun h => by first | exact absurd h (by decide) | exact Exists.intro m ⟨by omega, by unfold cuRn; rw [← p65hv, ← p71hv, ← p98hv]; omega⟩), ?_⟩
              · intro h s hs
                first
                | exact absurd h (by decide)
                | (by_cases e : s = m
                   · subst e
                     intro q
                     unfold cuRn at q
                     first
                     | (rw [← p65hv, ← p71hv, ← p98hv] at q; omega)
                     | (rw [← p65hv, ← p71hv] at q; omega)
                   · exact hu2 (by omega) s (by omega))
            · refine And.intro (zDX hD 0 rfl) ⟨_, sn_U_sqb.up (by decide), ?_⟩
              refine ⟨_, w, (m : Int), m, (a : Int), i, (0 : Int), rfl, hS, hR, hD, (by first | exact hk | (clear hQ; grind [xu])), (by first | exact (zUw_fr hW (fun c j h => rfl)) | (clear hQ; grind [xu])), (by omega), (by first | exact hG | (clear hQ; grind [xu])), (by omega), (by omega), (by omega), ?_⟩
              intro v98o p98hv p98bhv2
              have mu105 : 0 ≤ ((v65o - v71o) - v) * ((v65o - v71o) - v) ∧ ((v65o - v71o) - v) * ((v65o - v71o) - v) ≤ 300 * 300 := zmb (by omega) (by omega) (by omega) (by omega)
              refine ⟨_, _, ⟨zW6i (by omega), zW6i (by omega)⟩, fun z106 c106 => ?_⟩
              refine And.intro c106.2.2 ⟨fun h107 => ?_, fun h107 => ?_⟩
              · refine ⟨((61 - (m + 1)), 0, 0), zlt6 (by omega), [some (zvr (k)), some (zvi (a)), some (zvi (v)), some (zvi ((0 : Int))), some (zvi ((m + 1))), none, none, none], ⟨rfl, rfl, rfl, rfl, rfl, rfl⟩, 0, (m + 1), rfl, rfl, rfl, rfl, rfl, rfl, rfl, (by omega), (by first | exact Or.inl rfl | exact Or.inr rfl), (fun h => by first | exact absurd h (by decide) | exact Exists.intro m ⟨by omega, by unfold cuRn; rw [← p65hv, ← p71hv, ← p98hv]; omega⟩), ?_⟩
                · intro h s hs
                  first
                  | exact absurd h (by decide)
                  | (by_cases e : s = m
                     · subst e
                       intro q
                       unfold cuRn at q
                       first
                       | (rw [← p65hv, ← p71hv, ← p98hv] at q; omega)
                       | (rw [← p65hv, ← p71hv] at q; omega)
                     · exact hu2 (by omega) s (by omega))
              · refine ⟨((61 - (m + 1)), 0, 0), zlt6 (by omega), [some (zvr (k)), some (zvi (a)), some (zvi (v)), some (zvi ((1 : Int))), some (zvi ((m + 1))), none, none, none], ⟨rfl, rfl, rfl, rfl, rfl, rfl⟩, 1, (m + 1), rfl, rfl, rfl, rfl, rfl, rfl, rfl, (by omega), (by first | exact Or.inl rfl | exact Or.inr rfl), (fun h => by first | exact absurd h (by decide) | exact Exists.intro m ⟨by omega, by unfold cuRn; rw [← p65hv, ← p71hv, ← p98hv]; omega⟩), ?_⟩
                · intro h s hs
                  first
                  | exact absurd h (by decide)
                  | (by_cases e : s = m
                     · subst e
                       intro q
                       unfold cuRn at q
                       first
                       | (rw [← p65hv, ← p71hv, ← p98hv] at q; omega)
                       | (rw [← p65hv, ← p71hv] at q; omega)
                     · exact hu2 (by omega) s (by omega))
        · refine And.intro (zDX hD 0 rfl) ⟨_, sn_U_cls.up (by decide), ?_⟩
          refine ⟨_, w, (m : Int), m, rfl, hS, hR, hD, (by first | exact hk | (clear hQ; grind [xu])), (by first | exact (zUw_fr hW (fun c j h => rfl)) | (clear hQ; grind [xu])), (by omega), (by first | exact hG | (clear hQ; grind [xu])), (by omega), ?_⟩
          intro v34o p34hv p34bhv2
          refine And.intro ⟨(by omega), (zRb rfl)⟩ ⟨fun h38 => ?_, fun h38 => ?_⟩
          · refine And.intro (zDX hD 0 rfl) ⟨_, sn_U_rad.up (by decide), ?_⟩
            refine ⟨_, w, (m : Int), m, rfl, hS, hR, (zStf hT (fun c j h1 h2 => ⟨rfl, rfl⟩)), hD, (by first | exact hk | (clear hQ; grind [xu])), (by first | exact (zUw_fr hW (fun c j h => rfl)) | (clear hQ; grind [xu])), (by omega), (by first | exact hG | (clear hQ; grind [xu])), (by omega), ?_⟩
            intro v65o p65hv p65bhv2
            refine And.intro (by omega) ?_
            refine And.intro (zDX hD 0 rfl) ⟨_, sn_U_rad.up (by decide), ?_⟩
            refine ⟨_, w, (a : Int), i, rfl, hS, hR, (zStf hT (fun c j h1 h2 => ⟨rfl, rfl⟩)), hD, (by first | exact hk | (clear hQ; grind [xu])), (by first | exact (zUw_fr hW (fun c j h => rfl)) | (clear hQ; grind [xu])), (by omega), (by first | exact hG | (clear hQ; grind [xu])), (by omega), ?_⟩
            intro v71o p71hv p71bhv2
            refine And.intro (by omega) ?_
            refine And.intro (by omega) ?_
            refine And.intro (zRb rfl) (zbt rfl ?_)
            refine ⟨((61 - (m + 1)), 0, 0), zlt6 (by omega), [some (zvr (k)), some (zvi (a)), some (zvi (v)), some (zvi ((0 : Int))), some (zvi ((m + 1))), none, none, none], ⟨rfl, rfl, rfl, rfl, rfl, rfl⟩, 0, (m + 1), rfl, rfl, rfl, rfl, rfl, rfl, rfl, (by omega), (by first | exact Or.inl rfl | exact Or.inr rfl), (fun h => by first | exact absurd h (by decide) | exact Exists.intro m ⟨by omega, by unfold cuRn; rw [← p65hv, ← p71hv, ← p98hv]; omega⟩), ?_⟩
            · intro h s hs
              first
              | exact absurd h (by decide)
              | (by_cases e : s = m
                 · subst e
                   intro q
                   unfold cuRn at q
                   first
                   | (rw [← p65hv, ← p71hv, ← p98hv] at q; omega)
                   | (rw [← p65hv, ← p71hv] at q; omega)
                 · exact hu2 (by omega) s (by omega))
          · refine And.intro (zDX hD 0 rfl) ⟨_, sn_U_nos.up (by decide), ?_⟩
            refine ⟨_, w, (m : Int), m, rfl, hS, hR, hD, (by first | exact hk | (clear hQ; grind [xu])), (by first | exact (zUw_fr hW (fun c j h => rfl)) | (clear hQ; grind [xu])), (by omega), (by first | exact hG | (clear hQ; grind [xu])), (by omega), ?_⟩
            intro v44o p44hv p44bhv2
            refine And.intro (zDX hD 0 rfl) ⟨_, sn_U_nos.up (by decide), ?_⟩
            refine ⟨_, w, (a : Int), i, rfl, hS, hR, hD, (by first | exact hk | (clear hQ; grind [xu])), (by first | exact (zUw_fr hW (fun c j h => rfl)) | (clear hQ; grind [xu])), (by omega), (by first | exact hG | (clear hQ; grind [xu])), (by omega), ?_⟩
            intro v49o p49hv p49bhv2
            refine And.intro ⟨(by omega), (by omega)⟩ ⟨fun h52 => ?_, fun h52 => ?_⟩
            · refine And.intro (zDX hD 0 rfl) ⟨_, sn_U_rad.up (by decide), ?_⟩
              refine ⟨_, w, (m : Int), m, rfl, hS, hR, (zStf hT (fun c j h1 h2 => ⟨rfl, rfl⟩)), hD, (by first | exact hk | (clear hQ; grind [xu])), (by first | exact (zUw_fr hW (fun c j h => rfl)) | (clear hQ; grind [xu])), (by omega), (by first | exact hG | (clear hQ; grind [xu])), (by omega), ?_⟩
              intro v65o p65hv p65bhv2
              refine And.intro (by omega) ?_
              refine And.intro (zDX hD 0 rfl) ⟨_, sn_U_rad.up (by decide), ?_⟩
              refine ⟨_, w, (a : Int), i, rfl, hS, hR, (zStf hT (fun c j h1 h2 => ⟨rfl, rfl⟩)), hD, (by first | exact hk | (clear hQ; grind [xu])), (by first | exact (zUw_fr hW (fun c j h => rfl)) | (clear hQ; grind [xu])), (by omega), (by first | exact hG | (clear hQ; grind [xu])), (by omega), ?_⟩
              intro v71o p71hv p71bhv2
              refine And.intro (by omega) ?_
              refine And.intro (by omega) ?_
              refine And.intro (zRb rfl) (zbt rfl ?_)
              refine ⟨((61 - (m + 1)), 0, 0), zlt6 (by omega), [some (zvr (k)), some (zvi (a)), some (zvi (v)), some (zvi ((0 : Int))), some (zvi ((m + 1))), none, none, none], ⟨rfl, rfl, rfl, rfl, rfl, rfl⟩, 0, (m + 1), rfl, rfl, rfl, rfl, rfl, rfl, rfl, (by omega), (by first | exact Or.inl rfl | exact Or.inr rfl), (fun h => by first | exact absurd h (by decide) | exact Exists.intro m ⟨by omega, by unfold cuRn; rw [← p65hv, ← p71hv, ← p98hv]; omega⟩), ?_⟩
              · intro h s hs
                first
                | exact absurd h (by decide)
                | (by_cases e : s = m
                   · subst e
                     intro q
                     unfold cuRn at q
                     first
                     | (rw [← p65hv, ← p71hv, ← p98hv] at q; omega)
                     | (rw [← p65hv, ← p71hv] at q; omega)
                   · exact hu2 (by omega) s (by omega))
            · refine And.intro (zDX hD 0 rfl) ⟨_, sn_U_rad.up (by decide), ?_⟩
              refine ⟨_, w, (m : Int), m, rfl, hS, hR, (zStf hT (fun c j h1 h2 => ⟨rfl, rfl⟩)), hD, (by first | exact hk | (clear hQ; grind [xu])), (by first | exact (zUw_fr hW (fun c j h => rfl)) | (clear hQ; grind [xu])), (by omega), (by first | exact hG | (clear hQ; grind [xu])), (by omega), ?_⟩
              intro v65o p65hv p65bhv2
              refine And.intro (by omega) ?_
              refine And.intro (zDX hD 0 rfl) ⟨_, sn_U_rad.up (by decide), ?_⟩
              refine ⟨_, w, (a : Int), i, rfl, hS, hR, (zStf hT (fun c j h1 h2 => ⟨rfl, rfl⟩)), hD, (by first | exact hk | (clear hQ; grind [xu])), (by first | exact (zUw_fr hW (fun c j h => rfl)) | (clear hQ; grind [xu])), (by omega), (by first | exact hG | (clear hQ; grind [xu])), (by omega), ?_⟩
              intro v71o p71hv p71bhv2
              refine And.intro (by omega) ?_
              refine And.intro (by omega) ?_
              refine And.intro (zRb rfl) (zbf rfl ?_)
              refine ⟨_, _, ⟨zW6i (by omega), zW6i (zRL rfl)⟩, fun z89 c89 => ?_⟩
              refine And.intro c89.2.2 ⟨fun h90 => ?_, fun h90 => ?_⟩
              · refine ⟨((61 - (m + 1)), 0, 0), zlt6 (by omega), [some (zvr (k)), some (zvi (a)), some (zvi (v)), some (zvi ((0 : Int))), some (zvi ((m + 1))), none, none, none], ⟨rfl, rfl, rfl, rfl, rfl, rfl⟩, 0, (m + 1), rfl, rfl, rfl, rfl, rfl, rfl, rfl, (by omega), (by first | exact Or.inl rfl | exact Or.inr rfl), (fun h => by first | exact absurd h (by decide) | exact Exists.intro m ⟨by omega, by unfold cuRn; rw [← p65hv, ← p71hv, ← p98hv]; omega⟩), ?_⟩
                · intro h s hs
                  first
                  | exact absurd h (by decide)
                  | (by_cases e : s = m
                     · subst e
                       intro q
                       unfold cuRn at q
                       first
                       | (rw [← p65hv, ← p71hv, ← p98hv] at q; omega)
                       | (rw [← p65hv, ← p71hv] at q; omega)
                     · exact hu2 (by omega) s (by omega))
              · refine And.intro (zDX hD 0 rfl) ⟨_, sn_U_sqb.up (by decide), ?_⟩
                refine ⟨_, w, (m : Int), m, (a : Int), i, (0 : Int), rfl, hS, hR, hD, (by first | exact hk | (clear hQ; grind [xu])), (by first | exact (zUw_fr hW (fun c j h => rfl)) | (clear hQ; grind [xu])), (by omega), (by first | exact hG | (clear hQ; grind [xu])), (by omega), (by omega), (by omega), ?_⟩
                intro v98o p98hv p98bhv2
                have mu105 : 0 ≤ ((v65o - v71o) - v) * ((v65o - v71o) - v) ∧ ((v65o - v71o) - v) * ((v65o - v71o) - v) ≤ 300 * 300 := zmb (by omega) (by omega) (by omega) (by omega)
                refine ⟨_, _, ⟨zW6i (by omega), zW6i (by omega)⟩, fun z106 c106 => ?_⟩
                refine And.intro c106.2.2 ⟨fun h107 => ?_, fun h107 => ?_⟩
                · refine ⟨((61 - (m + 1)), 0, 0), zlt6 (by omega), [some (zvr (k)), some (zvi (a)), some (zvi (v)), some (zvi ((0 : Int))), some (zvi ((m + 1))), none, none, none], ⟨rfl, rfl, rfl, rfl, rfl, rfl⟩, 0, (m + 1), rfl, rfl, rfl, rfl, rfl, rfl, rfl, (by omega), (by first | exact Or.inl rfl | exact Or.inr rfl), (fun h => by first | exact absurd h (by decide) | exact Exists.intro m ⟨by omega, by unfold cuRn; rw [← p65hv, ← p71hv, ← p98hv]; omega⟩), ?_⟩
                  · intro h s hs
                    first
                    | exact absurd h (by decide)
                    | (by_cases e : s = m
                       · subst e
                         intro q
                         unfold cuRn at q
                         first
                         | (rw [← p65hv, ← p71hv, ← p98hv] at q; omega)
                         | (rw [← p65hv, ← p71hv] at q; omega)
                       · exact hu2 (by omega) s (by omega))
                · refine ⟨((61 - (m + 1)), 0, 0), zlt6 (by omega), [some (zvr (k)), some (zvi (a)), some (zvi (v)), some (zvi ((1 : Int))), some (zvi ((m + 1))), none, none, none], ⟨rfl, rfl, rfl, rfl, rfl, rfl⟩, 1, (m + 1), rfl, rfl, rfl, rfl, rfl, rfl, rfl, (by omega), (by first | exact Or.inl rfl | exact Or.inr rfl), (fun h => by first | exact absurd h (by decide) | exact Exists.intro m ⟨by omega, by unfold cuRn; rw [← p65hv, ← p71hv, ← p98hv]; omega⟩), ?_⟩
                  · intro h s hs
                    first
                    | exact absurd h (by decide)
                    | (by_cases e : s = m
                       · subst e
                         intro q
                         unfold cuRn at q
                         first
                         | (rw [← p65hv, ← p71hv, ← p98hv] at q; omega)
                         | (rw [← p65hv, ← p71hv] at q; omega)
                       · exact hu2 (by omega) s (by omega)))
