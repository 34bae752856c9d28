/-! RIPPING -/
theorem bBit_tb {v o : Nat} (hv : v < 4096) (ho : o < 32) : bBit (v : Int) o ↔ v.testBit o = true := by
  unfold bBit
  rw [zshr_d _ (by unfold r32; omega) o ho, zand1, Nat.testBit_eq_decide_div_mod_eq]
  have e : ((v : Int) / 2 ^ o) % 2 = ((v / 2 ^ o % 2 : Nat) : Int) := by
    have e2 : ((2 : Int) ^ o) = ((2 ^ o : Nat) : Int) := by rw [Int.natCast_pow]; rfl
    rw [e2, ← Int.natCast_ediv]
    rfl
  rw [e]
  have w : v / 2 ^ o % 2 < 2 := Nat.mod_lt _ (by decide)
  by_cases q : v / 2 ^ o % 2 = 1
  · rw [q]
    exact ⟨fun _ => rfl, fun _ => by decide⟩
  · rw [show v / 2 ^ o % 2 = 0 by omega]
    exact ⟨fun h => absurd rfl h, fun h => absurd h (by decide)⟩
theorem bBit_mk {v h : Int} {o : Nat} (hv : 0 ≤ v ∧ v < 4096) (hh : 0 ≤ h ∧ h < 12) (ho : o < 12) : bBit (zmk v h) o ↔ (bBit v o ∨ h = o) := by
  have e := zmk_n (v := v.toNat) (h := h.toNat) (by omega) (by omega)
  rw [Int.toNat_of_nonneg hv.1, Int.toNat_of_nonneg hh.1] at e
  have h2 : v.toNat ||| 2 ^ h.toNat < 2 ^ 12 := Nat.or_lt_two_pow (by omega) (Nat.pow_lt_pow_right (by decide) (by omega))
  have e1 : bBit v o ↔ v.toNat.testBit o = true := by
    have w := bBit_tb (v := v.toNat) (o := o) (by omega) (by omega)
    rw [Int.toNat_of_nonneg hv.1] at w
    exact w
  rw [e, bBit_tb h2 (by omega), e1, Nat.testBit_or, Nat.testBit_two_pow, Bool.or_eq_true, decide_eq_true_eq]
  constructor
  · rintro (q | q)
    · exact Or.inl q
    · exact Or.inr (by omega)
  · rintro (q | q)
    · exact Or.inl q
    · exact Or.inr (by omega)
/-- the history after the first k cells of a way; whose cells they are -/
noncomputable def bHx (s : BdS) (n : Int) (f : Nat → Nat) : Nat → Nat → Nat
  | 0 => bhi s
  | k + 1 => zite (bHl s n (f k)) (upF (bHx s n f k) (f k) (bHx s n f k (f k) + 1)) (bHx s n f k)
noncomputable def bRm (s : BdS) (n : Int) (f : Nat → Nat) : Nat → Int
  | 0 => 0
  | k + 1 => zite (bHl s n (f k)) (zmk (bRm s n f k) (bho s (f k))) (bRm s n f k)
theorem bHx_b {s : BdS} {n : Int} {f : Nat → Nat} {hb : Nat} {c : Nat} (h : bhi s c ≤ hb) : ∀ k, bHx s n f k c ≤ hb + k
  | 0 => h
  | k + 1 => by
    have w := bHx_b (n := n) (f := f) h k
    show zite (bHl s n (f k)) (upF (bHx s n f k) (f k) (bHx s n f k (f k) + 1)) (bHx s n f k) c ≤ hb + (k + 1)
    by_cases e : bHl s n (f k)
    · rw [zite_t e]
      unfold upF
      by_cases q : c = f k
      · rw [if_pos q, ← q]; omega
      · rw [if_neg q]; omega
    · rw [zite_f e]; omega
theorem bRm_b {s : BdS} {n : Int} {f : Nat → Nat} {m : Nat} (hm : m ≤ 12) (hh : ∀ c, c < 1024 → -1 ≤ bho s c ∧ bho s c < m) : ∀ k, (∀ j, j < k → f j < 1024) → (0 ≤ bRm s n f k ∧ bRm s n f k < ((2 ^ m : Nat) : Int)) ∧ ∀ o : Nat, o < 12 → bBit (bRm s n f k) o → zex (fun j => j < k ∧ bHl s n (f j) ∧ bho s (f j) = o)
  | 0, _ => ⟨⟨Int.le_refl 0, by
    show (0 : Int) < _
    have := Nat.two_pow_pos m
    omega⟩, fun o ho q => absurd q (by
    have e : bRm s n f 0 = ((0 : Nat) : Int) := rfl
    rw [e, bBit_tb (by decide) (by omega)]
    simp)⟩
  | k + 1, hf => by
    obtain ⟨w1, w2⟩ := bRm_b (n := n) (f := f) hm hh k (fun j hj => hf j (by omega))
    have h12 : 2 ^ m ≤ 2 ^ 12 := Nat.pow_le_pow_right (by decide) hm
    have hfk := hh (f k) (hf k (by omega))
    have e0 : bRm s n f (k + 1) = zite (bHl s n (f k)) (zmk (bRm s n f k) (bho s (f k))) (bRm s n f k) := rfl
    rw [e0]
    by_cases e : bHl s n (f k)
    · rw [zite_t e]
      have q1 := e.1
      refine ⟨zmk_b w1 (by omega) hm, fun o ho q => ?_⟩
      rcases (bBit_mk (by omega) (by omega) ho).1 q with q | q
      · obtain ⟨j, j1, j2⟩ := w2 o ho q
        exact Exists.intro j ⟨by omega, j2⟩
      · exact Exists.intro k ⟨by omega, e, q⟩
    · rw [zite_f e]
      exact ⟨w1, fun o ho q => by
        obtain ⟨j, j1, j2⟩ := w2 o ho q
        exact Exists.intro j ⟨by omega, j2⟩⟩
/-- the nets of a mask let go, one after another -/
def bRo (t : BdS) (k : Nat) : BdS := bs_N (bLet t k) (up2z (bN (bLet t k)) k 4 (bN (bLet t k) k 4 + 1))
noncomputable def bRp (s : BdS) (v : Int) : Nat → BdS
  | 0 => s
  | k + 1 => zite (bBit v k) (bRo (bRp s v k) k) (bRp s v k)
theorem bRp_ind {s : BdS} {v : Int} {C : BdS → Prop} (h0 : C s) (h1 : ∀ t k, C t → C (bRo t k)) : ∀ k, C (bRp s v k)
  | 0 => h0
  | k + 1 => by
    have w := bRp_ind (v := v) h0 h1 k
    show C (zite (bBit v k) (bRo (bRp s v k) k) (bRp s v k))
    by_cases e : bBit v k
    · rw [zite_t e]; exact h1 _ _ w
    · rw [zite_f e]; exact w
theorem bRp_p (s : BdS) (v : Int) (k : Nat) : (bRp s v k).1 = s.1 ∧ bsd (bRp s v k) = bsd s ∧ bba (bRp s v k) = bba s ∧ bhi (bRp s v k) = bhi s ∧ bpa (bRp s v k) = bpa s ∧ bnp (bRp s v k) = bnp s ∧ bP (bRp s v k) = bP s ∧ bnn (bRp s v k) = bnn s ∧ bwy (bRp s v k) = bwy s ∧ bco (bRp s v k) = bco s ∧ bnd (bRp s v k) = bnd s :=
  bRp_ind (C := fun t => t.1 = s.1 ∧ bsd t = bsd s ∧ bba t = bba s ∧ bhi t = bhi s ∧ bpa t = bpa s ∧ bnp t = bnp s ∧ bP t = bP s ∧ bnn t = bnn s ∧ bwy t = bwy s ∧ bco t = bco s ∧ bnd t = bnd s) ⟨rfl, rfl, rfl, rfl, rfl, rfl, rfl, rfl, rfl, rfl, rfl⟩ (fun t k h => h) k
theorem bRp_N (s : BdS) (v : Int) {m : Nat} : ∀ {k : Nat}, k ≤ m → (∀ y, bN (bRp s v k) m y = bN s m y) ∧ bwl (bRp s v k) m = bwl s m
  | 0, _ => ⟨fun _ => rfl, rfl⟩
  | k + 1, h => by
    have w := bRp_N s v (m := m) (k := k) (by omega)
    have e0 : bRp s v (k + 1) = zite (bBit v k) (bRo (bRp s v k) k) (bRp s v k) := rfl
    rw [e0]
    by_cases e : bBit v k
    · rw [zite_t e]
      refine ⟨fun y => ?_, ?_⟩
      · rw [← w.1 y]
        show up2z (up2z (bN (bRp s v k)) k 2 0) k 4 _ m y = _
        rw [up2z_ne (by omega), up2z_ne (by omega)]
      · rw [← w.2]
        show upF (bwl (bRp s v k)) k 0 m = _
        unfold upF
        rw [if_neg (by omega)]
    · rw [zite_f e]; exact w
theorem bWok_let {t : BdS} {m k : Nat} (h : bWok t m) : bWok (bRo t k) m := by
  obtain ⟨h1, h2, h3⟩ := h
  by_cases e : m = k
  · subst e
    refine ⟨?_, fun j hj => ?_, fun c hc h4 h5 => ?_⟩
    · show upF (bwl t) m 0 m ≤ 1024
      unfold upF
      rw [if_pos rfl]; omega
    · have hj2 : j < upF (bwl t) m 0 m := hj
      unfold upF at hj2
      rw [if_pos rfl] at hj2
      omega
    · exfalso
      have h6 : (if bho t c = m ∧ bpa t c = -1 then -1 else bho t c) = (m : Int) := h4
      have h7 : bpa t c = -1 := h5
      by_cases q : bho t c = m ∧ bpa t c = -1
      · rw [if_pos q] at h6; omega
      · rw [if_neg q] at h6
        exact q ⟨h6, h7⟩
  · have e1 : bwl (bRo t k) m = bwl t m := if_neg e
    have e2 : ∀ c, bho (bRo t k) c = if bho t c = k ∧ bpa t c = -1 then -1 else bho t c := fun c => rfl
    refine ⟨by rw [e1]; exact h1, fun j hj => ?_, fun c hc h4 h5 => ?_⟩
    · rw [e1] at hj
      have w := h2 j hj
      refine ⟨w.1, ?_⟩
      rw [e2]
      have w2 := w.2
      have w3 : bwy (bRo t k) m j = bwy t m j := rfl
      rw [w3, if_neg (by omega)]
      exact w2
    · rw [e2] at h4
      have h6 : bho t c = m := by
        by_cases q : bho t c = k ∧ bpa t c = -1
        · rw [if_pos q] at h4; omega
        · rw [if_neg q] at h4
          exact h4
      obtain ⟨j, j1, j2⟩ := h3 c hc h6 h5
      exact Exists.intro j ⟨by rw [e1]; exact j1, j2⟩
theorem bWok_rp {s : BdS} {v : Int} {m : Nat} (h : bWok s m) (k : Nat) : bWok (bRp s v k) m := bRp_ind (C := fun t => bWok t m) h (fun _ _ q => bWok_let q) k
