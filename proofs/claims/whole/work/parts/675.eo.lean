/-! SHEETS: what is asked of objects, both sides; the tape -/
def kdV (O : OoS) (j : Int) : Int := if 0 ≤ j ∧ j < ocn O then okd O j.toNat else -1
def nmV (O : OoS) (j w : Int) : Int := if (0 ≤ j ∧ j < ocn O) ∧ 0 ≤ w ∧ w < 5 then onm O j.toNat w.toNat else 0
/-- numbers that a kind hasn't are 0 -/
def oZe (O : OoS) : Prop := ∀ j w : Nat, j < ocn O → w < 5 → ¬ w < oCt (okd O j).toNat 0 → onm O j w = 0
theorem oCt_f0 : ∀ a, a < 10 → ∀ i, i < 6 → (tFn a ≤ i ∨ tFc a i = 84 ∨ a = 0 ∨ oCi a 0 i < oCt a 0) := by decide +kernel
theorem oCt_f (a : Nat) (ha : a < 10) (i : Nat) (hi : i < 6) (h1 : i < tFn a) (h2 : tFc a i ≠ 84) (h3 : a ≠ 0) : oCi a 0 i < oCt a 0 := by
  rcases oCt_f0 a ha i hi with z | z | z | z
  · omega
  · exact absurd z h2
  · exact absurd z h3
  · exact z
theorem tN0_z0 : ∀ a, a < 10 → ∀ w, w < 5 → (w < oCt a 0 ∨ tN0 a w = 0) := by decide +kernel
theorem tN0_z (a : Nat) (ha : a < 10) (w : Nat) (hw : w < 5) (h : ¬ w < oCt a 0) : tN0 a w = 0 := (tN0_z0 a ha w hw).resolve_left h
theorem tFn_6 : ∀ a, a < 10 → tFn a ≤ 5 := by decide +kernel
theorem tOn_z {c : Nat → Int} {n b w : Nat} {r : Nat → Int} (h0 : 0 ≤ r 0 ∧ r 0 ≤ 9) (hw : w < 5) (h : ¬ w < oCt (r 0).toNat 0) : tOn c n b r w = 0 := by
  have hz : zlow (tPn (r 0).toNat w) (tRwm r) = -1 := zlow_no (fun i hi q => by
    have hl : tRwm r ≤ tFn (r 0).toNat := tFv_le
    have h6 := tFn_6 (r 0).toNat (by omega)
    have z := oCt_f (r 0).toNat (by omega) i (by omega) (by omega) q.1 q.2.1
    rw [q.2.2] at z
    exact h z)
  unfold tOn
  rw [if_pos hz]
  exact tN0_z _ (by omega) w hw h
theorem tOS_Z {c : Nat → Int} {n b : Nat} {s : TyS} (hG : oGd (tOS c n b s)) : oZe (tOS c n b s) := fun j w hj hw h => tOn_z (hG.2.1 j hj).1 hw h
theorem nmV_n {O : OoS} {j w : Int} (h : ¬ ((0 ≤ j ∧ j < ocn O) ∧ 0 ≤ w ∧ w < oCt (okd O j.toNat).toNat 0)) (hz : oZe O) : nmV O j w = 0 := by
  unfold nmV
  by_cases q : (0 ≤ j ∧ j < ocn O) ∧ 0 ≤ w ∧ w < 5
  · rw [if_pos q]
    exact hz _ _ (by omega) (by omega) (fun g => h ⟨q.1, q.2.1, by omega⟩)
  · exact if_neg q
/-- the tape -/
def sgB (v : Int) : Int := if v < 128 then v else v - 256
def wB (a : Int) : List Int := [a / 16777216 % 256, a / 65536 % 256, a / 256 % 256, a % 256]
def zTA (tp : List Int) (I : ZI) : Prop := I 40 1 = tp.length ∧ ∀ i : Nat, i < tp.length → I 41 i = sgB (wAt tp i)
def zTB (tp : List Int) (I : ZI) : Prop := I 165 2 = tp.length ∧ ∀ i : Nat, i < tp.length → I 166 i = wAt tp i
def tGb (tp : List Int) : Prop := tp.length ≤ 4000 ∧ ∀ i : Nat, i < tp.length → 0 ≤ wAt tp i ∧ wAt tp i ≤ 255
theorem zTA_fr {tp : List Int} {I I' : ZI} (h : zTA tp I) (hf : ∀ c j : Nat, (c = 40 ∧ j = 1) ∨ c = 41 → I' c j = I c j) : zTA tp I' := ⟨(hf _ _ (by omega)).trans h.1, fun i hi => (hf _ _ (by omega)).trans (h.2 i hi)⟩
theorem zTB_fr {tp : List Int} {I I' : ZI} (h : zTB tp I) (hf : ∀ c j : Nat, (c = 165 ∧ j = 2) ∨ c = 166 → I' c j = I c j) : zTB tp I' := ⟨(hf _ _ (by omega)).trans h.1, fun i hi => (hf _ _ (by omega)).trans (h.2 i hi)⟩
theorem zTA_e {tp tp' : List Int} {I : ZI} (h : zTA tp I) (e : tp = tp') : zTA tp' I := e ▸ h
theorem zTB_e {tp tp' : List Int} {I : ZI} (h : zTB tp I) (e : tp = tp') : zTB tp' I := e ▸ h
theorem zTA_1 {tp : List Int} {u : Int} {I I' : ZI} (h : zTA tp I) (h1 : I' 40 1 = tp.length + 1) (hu : I' 41 tp.length = sgB u) (hf : ∀ j, j ≠ tp.length → I' 41 j = I 41 j) : zTA (tp ++ [u]) I' := by
  unfold zTA
  rw [wLn]
  refine ⟨h1, fun i hi => ?_⟩
  by_cases e : i = tp.length
  · rw [e, wAt_e]; exact hu
  · rw [wAt_l (by omega)]
    exact (hf i e).trans (h.2 i (by omega))
theorem zTB_1 {tp : List Int} {u : Int} {I I' : ZI} (h : zTB tp I) (h1 : I' 165 2 = tp.length + 1) (hu : I' 166 tp.length = u) (hf : ∀ j, j ≠ tp.length → I' 166 j = I 166 j) : zTB (tp ++ [u]) I' := by
  unfold zTB
  rw [wLn]
  refine ⟨h1, fun i hi => ?_⟩
  by_cases e : i = tp.length
  · rw [e, wAt_e]; exact hu
  · rw [wAt_l (by omega)]
    exact (hf i e).trans (h.2 i (by omega))
theorem tGb_1 {tp : List Int} {u : Int} (h : tGb tp) (hl : tp.length < 4000) (hu : 0 ≤ u ∧ u ≤ 255) : tGb (tp ++ [u]) := by
  unfold tGb
  rw [wLn]
  refine ⟨by omega, fun i hi => ?_⟩
  by_cases e : i = tp.length
  · rw [e, wAt_e]; exact hu
  · rw [wAt_l (by omega)]
    exact h.2 i (by omega)
theorem tGb_w {tp : List Int} {a : Int} (h : tGb tp) (hl : tp.length + 4 ≤ 4000) : tGb (tp ++ wB a) := by
  have e : tp ++ wB a = (((tp ++ [a / 16777216 % 256]) ++ [a / 65536 % 256]) ++ [a / 256 % 256]) ++ [a % 256] := by simp [wB]
  rw [e]
  exact tGb_1 (tGb_1 (tGb_1 (tGb_1 h (by omega) (by omega)) (by rw [wLn]; omega) (by omega)) (by rw [wLn, wLn]; omega) (by omega)) (by rw [wLn, wLn, wLn]; omega) (by omega)
theorem wB_l {a : Int} : (wB a).length = 4 := rfl
theorem wB_4 {tp : List Int} {a : Int} : tp ++ wB a = (((tp ++ [a / 16777216 % 256]) ++ [a / 65536 % 256]) ++ [a / 256 % 256]) ++ [a % 256] := by simp [wB]
theorem zi2b_b (x : Int) : zi2b x = sgB (x % 256) := by
  unfold zi2b sgB
  have e : (Int32.ofInt x).toInt8.toInt32.toInt = x.bmod 256 := by simp
  rw [e, Int.bmod_def]
  split <;> split <;> omega
theorem sgB_u {x : Int} {k : Nat} (hk : k = 256 ∨ k = 65536 ∨ k = 16777216) : (x % 4294967296 / k) % 256 = x / k % 256 := by
  rcases hk with h | h | h <;> subst h <;> omega
/-- letters out of a tape -/
def tF1 (tp : List Int) (i : Nat) : List Int := if wAt tp i = 10 ∨ (32 ≤ wAt tp i ∧ wAt tp i ≤ 126) then [wAt tp i] else []
def tF (tp : List Int) (i : Nat) : List Int := cuC (tF1 tp) i
theorem tF_s {tp : List Int} {i : Nat} : tF tp (i + 1) = tF tp i ++ tF1 tp i := rfl
theorem tF_y {tp : List Int} {i : Nat} (h : wAt tp i = 10 ∨ (32 ≤ wAt tp i ∧ wAt tp i ≤ 126)) : tF tp (i + 1) = tF tp i ++ [wAt tp i] := by rw [tF_s]; unfold tF1; rw [if_pos h]
theorem tF_n {tp : List Int} {i : Nat} (h : ¬ (wAt tp i = 10 ∨ (32 ≤ wAt tp i ∧ wAt tp i ≤ 126))) : tF tp (i + 1) = tF tp i := by rw [tF_s]; unfold tF1; rw [if_neg h, List.append_nil]
theorem tF_l {tp : List Int} {i : Nat} : (tF tp i).length ≤ i := by
  have z := cuC_l (f := tF1 tp) (m := 1) (n := i) (fun j _ => by unfold tF1; split <;> simp)
  unfold tF
  omega
theorem tF_c {tp : List Int} : ∀ {i : Nat} {p : Nat}, p < (tF tp i).length → wCh (wAt (tF tp i) p)
  | 0, p, h => absurd h (Nat.not_lt_zero p)
  | i + 1, p, h => by
    by_cases q : wAt tp i = 10 ∨ (32 ≤ wAt tp i ∧ wAt tp i ≤ 126)
    · rw [tF_y q, wLn] at h
      rw [tF_y q]
      by_cases e : p = (tF tp i).length
      · rw [e, wAt_e]; exact q
      · rw [wAt_l (by omega)]; exact tF_c (by omega)
    · rw [tF_n q] at h ⊢
      exact tF_c h
theorem tF_m {tp : List Int} {i j : Nat} (h : i ≤ j) : ∃ x, tF tp j = tF tp i ++ x := cuC_le h
/-- so many letters of a tape as there is room for -/
def tTk (tp : List Int) (r : Nat) : List Int := (tF tp tp.length).take r
theorem tTk_a {tp : List Int} {r : Nat} (h : (tF tp tp.length).length ≤ r) : tTk tp r = tF tp tp.length := List.take_of_length_le h
theorem tTk_f {tp : List Int} {r i : Nat} (hi : i ≤ tp.length) (h : (tF tp i).length = r) : tTk tp r = tF tp i := by
  obtain ⟨x, hx⟩ := tF_m (tp := tp) hi
  unfold tTk
  rw [hx, ← h]
  exact List.take_left
theorem tTk_c {tp : List Int} {r p : Nat} (h : p < (tTk tp r).length) : wCh (wAt (tTk tp r) p) := by
  have hl : (tTk tp r).length = min r (tF tp tp.length).length := List.length_take
  have e : wAt (tTk tp r) p = wAt (tF tp tp.length) p := by
    unfold wAt tTk
    rw [List.getD_eq_getElem?_getD, List.getD_eq_getElem?_getD, List.getElem?_take_of_lt (by omega)]
  rw [e]
  exact tF_c (by omega)
def tC (w : List Int) (p : Nat) : Int := if p < w.length then wAt w p else -1
theorem tC_a {w : List Int} {p : Nat} (h : p < w.length) : tC w p = wAt w p := if_pos h
theorem tC_ok {tp : List Int} {r : Nat} (hr : r ≤ 4000) : tOk (tC (tTk tp r)) (tTk tp r).length := by
  have hl : (tTk tp r).length = min r (tF tp tp.length).length := List.length_take
  refine ⟨by omega, fun p hp => ?_, fun p hp => if_neg (by omega)⟩
  rw [tC_a hp]
  exact tTk_c hp
theorem zTB_tk {tp : List Int} {n : Nat} {I I' : ZI} (h : zTB tp I) (hn : n ≤ tp.length) (h1 : I' 165 2 = n) (hf : ∀ j, I' 166 j = I 166 j) : zTB (tp.take n) I' := by
  have hl : (tp.take n).length = n := wTk_l hn
  refine ⟨by rw [hl]; exact h1, fun i hi => ?_⟩
  rw [hl] at hi
  have e : wAt (tp.take n) i = wAt tp i := by
    unfold wAt
    rw [List.getD_eq_getElem?_getD, List.getD_eq_getElem?_getD, List.getElem?_take_of_lt hi]
  rw [e]
  exact (hf i).trans (h.2 i (by omega))
theorem zTA_tk {tp : List Int} {n : Nat} {I I' : ZI} (h : zTA tp I) (hn : n ≤ tp.length) (h1 : I' 40 1 = n) (hf : ∀ j, I' 41 j = I 41 j) : zTA (tp.take n) I' := by
  have hl : (tp.take n).length = n := wTk_l hn
  refine ⟨by rw [hl]; exact h1, fun i hi => ?_⟩
  rw [hl] at hi
  have e : wAt (tp.take n) i = wAt tp i := by
    unfold wAt
    rw [List.getD_eq_getElem?_getD, List.getD_eq_getElem?_getD, List.getElem?_take_of_lt hi]
  rw [e]
  exact (hf i).trans (h.2 i (by omega))
theorem tGb_tk {tp : List Int} {n : Nat} (h : tGb tp) (hn : n ≤ tp.length) : tGb (tp.take n) := by
  have hl : (tp.take n).length = n := wTk_l hn
  refine ⟨by have := h.1; omega, fun i hi => ?_⟩
  rw [hl] at hi
  have e : wAt (tp.take n) i = wAt tp i := by
    unfold wAt
    rw [List.getD_eq_getElem?_getD, List.getD_eq_getElem?_getD, List.getElem?_take_of_lt hi]
  rw [e]
  exact h.2 i (by omega)
theorem zn_m {a : Int} : zn a % 256 = a % 256 := by
  have e : zn a = a.bmod 4294967296 := by unfold zn; simp
  rw [e, Int.bmod_def]
  split <;> omega
theorem zi2c_a : ∀ n : Nat, n < 127 → zi2c (n : Int) = n := by decide +kernel
theorem zi2c_g {x : Int} (h : 0 ≤ x ∧ x ≤ 126) : zi2c x = x := by
  obtain ⟨n, rfl⟩ : ∃ n : Nat, x = n := ⟨x.toNat, by omega⟩
  exact zi2c_a n (by omega)
