/-! cd7 -/
def T_C_nameOf : ZT := fun args I L R S Q => ∃ (d : JdS) (x : Int), args = [zvr 63, zvi x] ∧ (zSh S) ∧ (zRs R) ∧ (zCf d I) ∧ (r32 x) ∧ ∀ (v : Int), (v = jNmI d x) → Q (some (zvi (v))) I L R S
theorem sn_C_nameOf : ZSnd 1 3 30 T_C_nameOf := ZSnd.of (zT3_30 0) (by
  rintro args I L R S Q hz ⟨d, x, rfl, hS, hR, hCf, hr, hQ⟩
  obtain ⟨k1, k2, k3, k4, k5⟩ := id hCf
  have hzc := zct_le (jFst d) 960
  refine And.intro rfl ?_
  refine And.intro (by omega) ⟨fun h1 => ?_, fun h1 => ?_⟩
  · refine hQ _ ?_
    · unfold jNmI
      first
      | (rw [if_neg (by omega)])
      | (rw [if_pos (by omega)]
         exact e17.trans (k2 x.toNat (by omega)))
  · refine And.intro (zA_63 hS) (zrd (v := (zct (jFst d) 960)) k1 ?_)
    refine And.intro ⟨(by omega), (by omega)⟩ ⟨fun h9 => ?_, fun h9 => ?_⟩
    · refine hQ _ ?_
      · unfold jNmI
        first
        | (rw [if_neg (by omega)])
        | (rw [if_pos (by omega)]
           exact e17.trans (k2 x.toNat (by omega)))
    · refine And.intro (zA_63 hS) (zrdR (v := some 80) (zR_63_11 hR) ?_)
      refine And.intro (zP_80 hS (by omega) (by omega)) (fun v17 e17 r17 => ?_)
      refine hQ _ ?_
      · unfold jNmI
        first
        | (rw [if_neg (by omega)])
        | (rw [if_pos (by omega)]
           exact e17.trans (k2 x.toNat (by omega))))
def T_C_remAt : ZT := fun args I L R S Q => ∃ (d : JdS) (x : Int), args = [zvr 63, zvi x] ∧ (zSh S) ∧ (zRs R) ∧ (zCf d I) ∧ (r32 x) ∧ ∀ (v : Int), (v = jRm d x) → Q (some (zvi (v))) I L R S
theorem sn_C_remAt : ZSnd 1 3 34 T_C_remAt := ZSnd.of (zT3_34 0) (by
  rintro args I L R S Q hz ⟨d, x, rfl, hS, hR, hCf, hr, hQ⟩
  obtain ⟨k1, k2, k3, k4, k5⟩ := id hCf
  refine And.intro rfl ?_
  refine And.intro (by omega) ⟨fun h1 => ?_, fun h1 => ?_⟩
  · refine hQ _ ?_
    · first
      | (rw [jRm_no (by omega)])
      | (have w := k5 x.toNat (by omega)
         rw [show ((x.toNat : Nat) : Int) = x by omega] at w
         exact e17.trans w)
  · refine And.intro (zA_63 hS) (zrd (v := (cTot d)) k3 ?_)
    refine And.intro ⟨(by omega), (by omega)⟩ ⟨fun h9 => ?_, fun h9 => ?_⟩
    · refine hQ _ ?_
      · first
        | (rw [jRm_no (by omega)])
        | (have w := k5 x.toNat (by omega)
           rw [show ((x.toNat : Nat) : Int) = x by omega] at w
           exact e17.trans w)
    · refine And.intro (zA_63 hS) (zrdR (v := some 81) (zR_63_12 hR) ?_)
      refine And.intro (zP_81 hS (by omega) (by omega)) (fun v17 e17 r17 => ?_)
      refine hQ _ ?_
      · first
        | (rw [jRm_no (by omega)])
        | (have w := k5 x.toNat (by omega)
           rw [show ((x.toNat : Nat) : Int) = x by omega] at w
           exact e17.trans w))
