/-! NAMES AND REMARKS of the class, as they lie when all is collected -/
noncomputable def cTot (d : JdS) : Nat := zct (jRk d) (1000 * zct (jFst d) 960) + zct (jBare d) (dnl d)
def zCf (d : JdS) (I : ZI) : Prop := I 63 14 = zct (jFst d) 960 ∧ (∀ n : Nat, n < zct (jFst d) 960 → I 80 n = jNm d n) ∧ I 63 13 = cTot d ∧ cTot d ≤ 1020 ∧ ∀ k : Nat, k < cTot d → I 81 k = jRm d k
theorem zCf_fr {d : JdS} {I I' : ZI} (h : zCf d I) (hf : ∀ c j : Nat, (c = 63 ∧ (j = 13 ∨ j = 14)) ∨ c = 80 ∨ c = 81 → I' c j = I c j) : zCf d I' :=
  ⟨(hf 63 14 (by omega)).trans h.1, fun n hn => (hf 80 n (by omega)).trans (h.2.1 n hn), (hf 63 13 (by omega)).trans h.2.2.1, h.2.2.2.1, fun k hk => (hf 81 k (by omega)).trans (h.2.2.2.2 k hk)⟩
theorem jRm_no {d : JdS} {k : Int} (h : k < 0 ∨ (cTot d : Int) ≤ k) : jRm d k = -1 := by
  unfold cTot at h
  unfold jRm
  by_cases e : k < 0
  · rw [if_pos e]
  · rw [if_neg e, if_neg (by omega), zkth_no (by omega), if_pos rfl]
/-- the last state of taking, with what nothing is at behind it: all remarks -/
theorem cTn_end {d : JdS} {nm rm : Nat → Int} {rc : Nat} (h : cTn d (1000 * zct (jFst d) 960) nm rm rc) : (∀ n, n < zct (jFst d) 960 → nm n = jNm d n) ∧ rc = zct (jRk d) (1000 * zct (jFst d) 960) ∧ ∀ k : Nat, k < rc → rm k = jRm d k := by
  obtain ⟨h1, h2, h3⟩ := h
  refine ⟨fun n hn => ?_, h2, fun k hk => ?_⟩
  · rcases h1 n hn with ⟨-, q⟩ | ⟨q1, -, q2⟩
    · exact q
    · rw [q2]
      unfold jNm
      rw [zlow_no (P := jHas d n) (fun b hb w => q1 (1000 * n + b) (by omega) (by
        unfold cQ
        rw [show (1000 * n + b) / 1000 = n by omega, show (1000 * n + b) % 1000 = b by omega]
        exact w) (by omega)), if_pos rfl]
  · obtain ⟨q, q1, q2, q3, q4⟩ := h3 k hk
    rw [q4]
    unfold jRm
    rw [if_neg (by omega), if_pos (by omega), zkth_at (q := q) q1 q2 (by omega)]
/-- remarks of labels that nothing is at -/
def cIs (d : JdS) (i : Nat) (rm : Nat → Int) (rc : Nat) : Prop := rc = zct (jRk d) (1000 * zct (jFst d) 960) + zct (jBare d) i ∧ ∀ k : Nat, k < rc → rm k = jRm d k
theorem cIs_0 {d : JdS} {nm rm : Nat → Int} {rc : Nat} (h : cTn d (1000 * zct (jFst d) 960) nm rm rc) : cIs d 0 rm rc := by
  have w := cTn_end h
  exact ⟨w.2.1.trans (Nat.add_zero _).symm, w.2.2⟩
theorem cIs_n {d : JdS} {i rc : Nat} {rm : Nat → Int} (h : cIs d i rm rc) (hb : ¬ jBare d i) : cIs d (i + 1) rm rc := ⟨by rw [zct_f hb]; exact h.1, h.2⟩
theorem cIs_y {d : JdS} {i rc : Nat} {rm : Nat → Int} (h : cIs d i rm rc) (hb : jBare d i) (hi : i < dnl d) : cIs d (i + 1) (upF rm rc (100000000 + i)) (rc + 1) := by
  refine ⟨by rw [zct_t hb, h.1]; omega, fun k hk => ?_⟩
  by_cases e : k = rc
  · have h1 := h.1
    rw [e, upF_at]
    unfold jRm
    rw [if_neg (by omega), if_neg (by omega), zkth_at (q := i) hi hb (by omega), if_neg (by omega)]
  · rw [upF_ne e]
    exact h.2 k (by omega)
