/-! CUTS: the drill text -/
def dU (i : Nat) : Int := ([10000, 1000, 100, 10, 1, 0] : List Int).getD i 0
theorem dU_s : ∀ i : Nat, i < 5 → dU i / 10 = dU (i + 1) ∧ 1 ≤ dU i ∧ dU i ≤ 10000 ∧ (dU i = 1 ↔ i = 4) ∧ dU (i + 1) ≤ dU i := by decide +kernel
theorem dU_5 : dU 5 = 0 ∧ dU 0 = 10000 := by decide
def dSt (v : Int) : Nat → List Int
  | 0 => []
  | i + 1 => dSt v i ++ (if dU i ≤ v ∨ i = 4 then [v / dU i % 10 + 48] else [])
def dNu (v : Int) : List Int := dSt v 5
theorem dSt_l {v : Int} : ∀ i, (dSt v i).length ≤ i
  | 0 => Nat.le_refl _
  | i + 1 => by
    have w := dSt_l (v := v) i
    show (dSt v i ++ _).length ≤ i + 1
    rw [List.length_append]
    split
    · show _ + 1 ≤ _
      omega
    · show _ + 0 ≤ _
      omega
theorem dNu_l {v : Int} : (dNu v).length ≤ 5 := dSt_l 5
theorem dSt_y {v : Int} {i : Nat} (h : dU i ≤ v ∨ i = 4) : dSt v (i + 1) = dSt v i ++ [v / dU i % 10 + 48] := by
  show dSt v i ++ (if dU i ≤ v ∨ i = 4 then _ else _) = _
  rw [if_pos h]
theorem dSt_n {v : Int} {i : Nat} (h : ¬ (dU i ≤ v ∨ i = 4)) : dSt v (i + 1) = dSt v i := by
  show dSt v i ++ (if dU i ≤ v ∨ i = 4 then _ else _) = _
  rw [if_neg h, List.append_nil]
def zUd (k : Nat) (t : List Int) (I : ZI) : Prop := I k 17 = t.length ∧ ∀ i : Nat, i < t.length → I (k + 11) i = wAt t i
theorem zUd_fr {k : Nat} {t : List Int} {I I' : ZI} (h : zUd k t I) (hf : ∀ c j : Nat, (c = k ∧ j = 17) ∨ c = k + 11 → I' c j = I c j) : zUd k t I' := ⟨(hf k 17 (by omega)).trans h.1, fun i hi => (hf _ _ (by omega)).trans (h.2 i hi)⟩
theorem zUd_0 {k : Nat} {I : ZI} (h : I k 17 = 0) : zUd k [] I := ⟨h, fun i hi => absurd hi (Nat.not_lt_zero i)⟩
theorem zUd_e {k : Nat} {t : List Int} {u : Int} {I I' : ZI} (h : zUd k t I) (h1 : I' k 17 = t.length + 1) (hu : I' (k + 11) t.length = u) (hf : ∀ j, j ≠ t.length → I' (k + 11) j = I (k + 11) j) : zUd k (t ++ [u]) I' := by
  unfold zUd
  rw [wLn]
  refine ⟨by omega, fun i hi => ?_⟩
  by_cases e : i = t.length
  · rw [e, wAt_e]
    exact hu
  · rw [wAt_l (by omega)]
    exact (hf i e).trans (h.2 i (by omega))
theorem zUd_c {k : Nat} {t t' : List Int} {I : ZI} (h : zUd k t I) (e : t = t') : zUd k t' I := e ▸ h
/-- the text -/
def dWd (a : Nat) : List Int := wRw (tWd a) (tsb a).length
noncomputable def dHx (w : List CuR) (n : Nat) : Int := 1000 * (cuHv w (cuOr w n).toNat % 16)
noncomputable def dHy (w : List CuR) (n : Nat) : Int := 1000 * (cuHv w (cuOr w n).toNat / 16 % 16)
noncomputable def dIs (w : List CuR) (l : Int) (n : Nat) : Prop := cuHv w (cuOr w n).toNat / 256 = l
noncomputable def dHl (w : List CuR) (l : Int) (n : Nat) : List Int := @ite (List Int) (dIs w l n) (Classical.propDecidable _) (dWd 25 ++ dNu (dHx w n) ++ dWd 26 ++ dNu (dHy w n) ++ dWd 27) []
theorem dHl_y {w : List CuR} {l : Int} {n : Nat} (h : dIs w l n) : dHl w l n = dWd 25 ++ dNu (dHx w n) ++ dWd 26 ++ dNu (dHy w n) ++ dWd 27 := if_pos h
theorem dHl_n {w : List CuR} {l : Int} {n : Nat} (h : ¬ dIs w l n) : dHl w l n = [] := if_neg h
noncomputable def dHd (w : List CuR) (l : Int) : List Int := dWd 21 ++ dNu l ++ dWd 22 ++ dNu (l + 1) ++ dWd 23 ++ (if zct (dIs w l) (cuHc w) = 0 then [] else dWd 24)
noncomputable def dTx (w : List CuR) (l : Int) : List Int := dHd w l ++ cuC (dHl w l) (cuHc w) ++ dWd 28
theorem dWd_l : (dWd 21).length = 5 ∧ (dWd 22).length = 1 ∧ (dWd 23).length = 11 ∧ (dWd 24).length = 3 ∧ (dWd 25).length = 1 ∧ (dWd 26).length = 1 ∧ (dWd 27).length = 1 ∧ (dWd 28).length = 4 := by decide +kernel
theorem dHl_l {w : List CuR} {l : Int} {n : Nat} : (dHl w l n).length ≤ 13 := by
  obtain ⟨_, _, _, _, l5, l6, l7, _⟩ := dWd_l
  by_cases h : dIs w l n
  · rw [dHl_y h, List.length_append, List.length_append, List.length_append, List.length_append]
    have a := dNu_l (v := dHx w n)
    have b := dNu_l (v := dHy w n)
    omega
  · rw [dHl_n h]
    exact Nat.zero_le _
theorem dHd_l {w : List CuR} {l : Int} : (dHd w l).length ≤ 30 := by
  obtain ⟨l1, l2, l3, l4, _, _, _, _⟩ := dWd_l
  unfold dHd
  rw [List.length_append, List.length_append, List.length_append, List.length_append, List.length_append]
  have a := dNu_l (v := l)
  have b := dNu_l (v := l + 1)
  split
  · show _ + 0 ≤ _
    omega
  · omega
theorem dWd_b : ∀ a : Nat, a < 29 → 21 ≤ a → ∀ i : Nat, i < (tsb a).length → 0 ≤ tWd a i ∧ tWd a i ≤ 126 := by decide +kernel
theorem dWd_n : ∀ a : Nat, a < 29 → 21 ≤ a → 1 ≤ (tsb a).length ∧ (tsb a).length ≤ 11 := by decide +kernel
