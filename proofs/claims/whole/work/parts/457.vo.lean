/-! OBJECTS of a text, as the reference's reader holds them -/
/-- the fields of a kind: 1 a length, 2 a whole number, 3 a text -/
def oFs : Nat → List Int
  | 1 => [2, 3]
  | 2 => [1, 1, 3]
  | 3 => [2]
  | 4 => [1, 1, 3, 2]
  | 5 => [1, 1, 1, 2, 2]
  | 6 => [1, 1, 3, 1]
  | 7 => [1, 1, 1, 1]
  | 8 => [3, 3]
  | _ => []
def oFt (a i : Nat) : Int := (oFs a).getD i 0
/-- how many of the first i fields are texts (b = 1), or numbers (b = 0) -/
def oCi (a b : Nat) : Nat → Nat
  | 0 => 0
  | i + 1 => oCi a b i + if (oFt a i = 3 ∧ b = 1) ∨ ((oFt a i = 1 ∨ oFt a i = 2) ∧ b = 0) then 1 else 0
def oCt (a b : Nat) : Nat := oCi a b 5
theorem oFt_b : ∀ a, a < 10 → ∀ i, i < 6 → (0 ≤ oFt a i ∧ oFt a i ≤ 3) ∧ (i = 5 → oFt a i = 0) := by decide +kernel
theorem oCi_q : ∀ a, a < 10 → ∀ b, b < 2 → ∀ i, i < 6 → (oFt a i = 0 → oCi a b i = oCt a b) ∧ (i < 5 → oCi a b (i + 1) ≤ oCt a b) ∧ oCt a b ≤ 5 := by decide +kernel
theorem oCi_t {a b i : Nat} (h : (oFt a i = 3 ∧ b = 1) ∨ ((oFt a i = 1 ∨ oFt a i = 2) ∧ b = 0)) : oCi a b (i + 1) = oCi a b i + 1 := by
  show oCi a b i + (if (oFt a i = 3 ∧ b = 1) ∨ ((oFt a i = 1 ∨ oFt a i = 2) ∧ b = 0) then 1 else 0) = _
  rw [if_pos h]
theorem oCi_f {a b i : Nat} (h : ¬ ((oFt a i = 3 ∧ b = 1) ∨ ((oFt a i = 1 ∨ oFt a i = 2) ∧ b = 0))) : oCi a b (i + 1) = oCi a b i := by
  show oCi a b i + (if (oFt a i = 3 ∧ b = 1) ∨ ((oFt a i = 1 ∨ oFt a i = 2) ∧ b = 0) then 1 else 0) = _
  rw [if_neg h, Nat.add_zero]
/-- the objects as the reader at k holds them -/
def zOM (k : Nat) (O : OoS) (I L : ZI) : Prop := I k 4 = ocn O ∧ (∀ j : Nat, j < ocn O → I (k + 2) j = okd O j ∧ I (k + 3) j = opa O j) ∧ (∀ j w : Nat, j < ocn O → w < 5 → L (k + 4) (5 * j + w) = onm O j w) ∧
  ∀ j w : Nat, j < ocn O → okd O j ≠ 9 → w < 2 → I (k + 5) (2 * j + w) = otl O j w ∧ ∀ i : Nat, i < otl O j w → I (k + 6) (80 * j + 40 * w + i) = otc O j w i
theorem zOM_fr {k : Nat} {O : OoS} {I L I' L' : ZI} (h : zOM k O I L) (hf : ∀ c j : Nat, (c = k ∧ j = 4) ∨ (k + 2 ≤ c ∧ c ≤ k + 6) → I' c j = I c j) (hl : ∀ c j : Nat, c = k + 4 → L' c j = L c j) : zOM k O I' L' := by
  obtain ⟨h1, h2, h3, h4⟩ := h
  exact ⟨(hf k 4 (by omega)).trans h1, fun j hj => ⟨(hf _ _ (by omega)).trans (h2 j hj).1, (hf _ _ (by omega)).trans (h2 j hj).2⟩, fun j w hj hw => (hl _ _ rfl).trans (h3 j w hj hw), fun j w hj hk hw => ⟨(hf _ _ (by omega)).trans (h4 j w hj hk hw).1, fun i hi => (hf _ _ (by omega)).trans ((h4 j w hj hk hw).2 i hi)⟩⟩
theorem zDy_168 {R : ZR} {S : ZS} (hR : zRs R) (hS : zSh S) : zDy zT20 zF20 168 R S := zDy_st hR hS rfl rfl (by decide +kernel) (by decide +kernel)
theorem zDy_181 {R : ZR} {S : ZS} (hR : zRs R) (hS : zSh S) : zDy zT20 zF20 181 R S := zDy_st hR hS rfl rfl (by decide +kernel) (by decide +kernel)
/-- the sheets as the mill of the reference holds them -/
def zMH (O : OoS) (n : Nat) (d : JdS) (I : ZI) : Prop := I 165 11 = dns d ∧ (∀ j : Nat, j < n → I 194 j = oSh O j) ∧ ∀ s : Nat, s < dns d → I 196 s = dpr d s ∧ I 195 s = if dbs d s = s then -1 else (dbs d s : Int)
theorem zMH_fr {O : OoS} {n : Nat} {d : JdS} {I I' : ZI} (h : zMH O n d I) (hf : ∀ c j : Nat, (c = 165 ∧ j = 11) ∨ c = 194 ∨ c = 195 ∨ c = 196 → I' c j = I c j) : zMH O n d I' := ⟨(hf 165 11 (by omega)).trans h.1, fun j hj => (hf _ _ (by omega)).trans (h.2.1 j hj), fun s hs => ⟨(hf _ _ (by omega)).trans (h.2.2 s hs).1, (hf _ _ (by omega)).trans (h.2.2 s hs).2⟩⟩
/-- a drawn sheet, by the number of the sheet -/
def oDw (d : JdS) (s : Int) : Prop := 0 ≤ s ∧ (dbs d s.toNat : Int) = s
theorem oSh_k {O : OoS} {j : Nat} (h : 0 ≤ oSh O j) : okd O j = 1 ∧ oSc O j < 16 ∧ oSh O j = oSc O j := by
  by_cases q : okd O j = 1 ∧ oSc O j < 16
  · exact ⟨q.1, q.2, oSh_at q⟩
  · rw [oSh_no q] at h
    omega
/-- a later sheet is a later object -/
theorem oSt_m {O : OoS} {k u t : Nat} (h : u < t) (ht : t < dns (oSt O k).1) : (oSt O k).2 u < (oSt O k).2 t := by
  obtain ⟨a, a1, a2, a3, a4, a5⟩ := oSt_i (O := O) (k := k) (t := u) (by omega)
  obtain ⟨b, b1, b2, b3, b4, b5⟩ := oSt_i (O := O) (k := k) (t := t) ht
  rw [oSh_at ⟨a3, a4⟩] at a5
  rw [oSh_at ⟨b3, b4⟩] at b5
  rcases Nat.lt_or_ge a b with q | q
  · omega
  · have w := oSc_m (O := O) q
    omega
