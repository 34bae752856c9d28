/-! THE GRID of the reference -/
/-- the grid as an object at k holds it -/
def zBB (k : Nat) (q : Int) (s : BdS) (I L : ZI) : Prop := (I k 1 = bW s ∧ I k 2 = bH s ∧ I k 3 = bD s ∧ L k 4 = bsd s ∧ I k 5 = bnn s) ∧
  (∀ c : Nat, c < 1024 → I (k + 3) c = bho s c ∧ I (k + 4) c = (if bpa s c = -1 then 0 else 1) ∧ I (k + 5) c = bba s c ∧ L (k + 6) c = bhi s c) ∧
  (∀ l : Nat, l < 4 → I (k + 7) l = bco s 0 l ∧ I (k + 8) l = bco s 1 l ∧ I (k + 9) l = bco s 2 l) ∧
  (∀ n : Nat, n < 12 → I (k + 1) n = bcn (bP s) n (bnp s) ∧ (bnn s ≤ n → I (k + 10) n = 0 ∧ I (k + 11) n = 0 ∧ I (k + 14) n = 0 ∧ I (k + 15) n = 0)) ∧
  (∀ n : Nat, n < bnn s → I (k + 10) n = bN s n 2 ∧ I (k + 11) n = bwl s n ∧ I (k + 14) n = bN s n 4 ∧ ((n : Int) ≠ q → I (k + 15) n = bN s n 5 ∧ (bN s n 2 = 1 → L (k + 13) n = bN s n 3)) ∧ ∀ j : Nat, j < bwl s n → I (k + 12) (1024 * n + j) = bwy s n j) ∧
  ∀ p : Nat, p < bnp s → I (k + 2) (5 * (bP s p 3).toNat + bcn (bP s) (bP s p 3) p) = bP s p 2
theorem zBB_fr {k : Nat} {qx : Int} {s : BdS} {I L I' L' : ZI} (h : zBB k qx s I L) (hf : ∀ c j : Nat, (k ≤ c ∧ c ≤ k + 15) ∧ ¬ (c = k ∧ j = 0) ∧ ¬ (c = k ∧ j = 21) → I' c j = I c j) (hl : ∀ c j : Nat, k ≤ c ∧ c ≤ k + 13 → L' c j = L c j) : zBB k qx s I' L' := by
  obtain ⟨⟨q1, q2, q3, q4, q5⟩, h2, h3, h4, h5, h6⟩ := h
  exact ⟨⟨(hf k 1 (by omega)).trans q1, (hf k 2 (by omega)).trans q2, (hf k 3 (by omega)).trans q3, (hl k 4 (by omega)).trans q4, (hf k 5 (by omega)).trans q5⟩,
    fun c hc => ⟨(hf (k + 3) c (by omega)).trans (h2 c hc).1, (hf (k + 4) c (by omega)).trans (h2 c hc).2.1, (hf (k + 5) c (by omega)).trans (h2 c hc).2.2.1, (hl (k + 6) c (by omega)).trans (h2 c hc).2.2.2⟩,
    fun l hl' => ⟨(hf (k + 7) l (by omega)).trans (h3 l hl').1, (hf (k + 8) l (by omega)).trans (h3 l hl').2.1, (hf (k + 9) l (by omega)).trans (h3 l hl').2.2⟩,
    fun n hn => ⟨(hf (k + 1) n (by omega)).trans (h4 n hn).1, fun q => ⟨(hf (k + 10) n (by omega)).trans ((h4 n hn).2 q).1, (hf (k + 11) n (by omega)).trans ((h4 n hn).2 q).2.1, (hf (k + 14) n (by omega)).trans ((h4 n hn).2 q).2.2.1, (hf (k + 15) n (by omega)).trans ((h4 n hn).2 q).2.2.2⟩⟩,
    fun n hn => ⟨(hf (k + 10) n (by omega)).trans (h5 n hn).1, (hf (k + 11) n (by omega)).trans (h5 n hn).2.1, (hf (k + 14) n (by omega)).trans (h5 n hn).2.2.1, fun q => ⟨(hf (k + 15) n (by omega)).trans ((h5 n hn).2.2.2.1 q).1, fun w => (hl (k + 13) n (by omega)).trans (((h5 n hn).2.2.2.1 q).2 w)⟩, fun j hj => (hf (k + 12) _ (by omega)).trans ((h5 n hn).2.2.2.2 j hj)⟩,
    fun p hp => (hf (k + 2) _ (by omega)).trans (h6 p hp)⟩
/-- what a step of the reference costs -/
noncomputable def gSt (s : BdS) (n rr : Int) (c x d : Nat) : Int := bStp s c x + (bEnt s n d + zite (rr ≠ 0 ∧ bHl s n d) 100 0)
theorem gSt_tl {s : BdS} {n rr : Int} {c x d : Nat} (h : bTl s n rr d ≠ -1) : gSt s n rr c x d = bStp s c x + bTl s n rr d := by
  unfold gSt
  unfold bTl at h ⊢
  by_cases e : bba s d ≠ 0 ∨ (bHl s n d ∧ (rr = 0 ∨ bpa s d ≠ -1))
  · exact absurd (zite_t e) h
  · rw [zite_f e]
    by_cases e2 : bHl s n d
    · rw [zite_t e2, zite_t ⟨fun q => e (Or.inr ⟨e2, Or.inl q⟩), e2⟩]
    · rw [zite_f e2, zite_f (fun q => e2 q.2)]
theorem gSt_b {s : BdS} (h : bGz s) {c x d hb : Nat} (hc : c < bK s) (hd : d < bK s) (n rr : Int) (hh : bhi s d ≤ hb) : 2 ≤ gSt s n rr c x d ∧ gSt s n rr c x d ≤ hb + 352 := by
  have w1 := bStp_2 s c x
  have w2 := bStp_le h hc x
  have w3 := bEnt_le h hd n hh
  unfold gSt
  by_cases e2 : rr ≠ 0 ∧ bHl s n d
  · rw [zite_t e2]; omega
  · rw [zite_f e2]; omega
/-- two boards that cost the same -/
def gSm (s1 s : BdS) : Prop := s1.1 = s.1 ∧ bco s1 = bco s ∧ bho s1 = bho s ∧ bhi s1 = bhi s
theorem gSm_st {s1 s : BdS} (h : gSm s1 s) (n rr : Int) (c x d : Nat) : gSt s1 n rr c x d = gSt s n rr c x d := by
  obtain ⟨h1, h2, h3, h4⟩ := h
  have w := bss ⟨h1, h2⟩
  have e1 : ∀ k, bNr s1 n d k = bNr s n d k := by
    intro k
    induction k with
    | zero => rfl
    | succ k ih =>
      show bNr s1 n d k + zite (bHO s1 n (bnb s1 d (k + 1))) 1 0 = bNr s n d k + zite (bHO s n (bnb s d (k + 1))) 1 0
      rw [ih, w.2.1]
      unfold bHO
      rw [h3]
  have e2 : bEnt s1 n d = bEnt s n d := by
    unfold bEnt
    rw [e1, h2, h4, show bW s1 = bW s from congrArg (·.1) h1, show bH s1 = bH s from congrArg (·.2.1) h1]
  unfold gSt
  rw [w.2.2, e2]
  unfold bHl
  rw [h3]
/-- the sums of a row -/
def gSu (f : Nat → Nat) : Nat → Nat
  | 0 => 0
  | k + 1 => gSu f k + f k
theorem gSu_eq {f g : Nat → Nat} : ∀ {k : Nat}, (∀ c, c < k → f c = g c) → gSu f k = gSu g k
  | 0, _ => rfl
  | k + 1, h => by
    have w := gSu_eq (k := k) (fun c hc => h c (by omega))
    have w2 := h k (by omega)
    show gSu f k + f k = gSu g k + g k
    omega
theorem gSu_up {f g : Nat → Nat} {d : Nat} : ∀ {k : Nat}, d < k → (∀ c, c ≠ d → g c = f c) → gSu g k + f d = gSu f k + g d
  | 0, h, _ => absurd h (Nat.not_lt_zero d)
  | k + 1, h, hg => by
    show gSu g k + g k + f d = gSu f k + f k + g d
    by_cases e : d = k
    · subst e
      have w := gSu_eq (k := d) (f := g) (g := f) (fun c hc => hg c (by omega))
      omega
    · have w := gSu_up (k := k) (by omega) hg
      have w2 := hg k (fun q => e q.symm)
      omega
/-- a row of distances as a measure -/
def gMs (U : Nat) (D : Nat → Int) (k : Nat) : Nat := gSu (fun c => if D c < 0 then U + 1 else (D c).toNat) k
theorem gMs_up {U : Nat} {D : Nat → Int} {d k : Nat} {v : Int} (hd : d < k) (hv : 0 ≤ v ∧ v ≤ U) (h : D d < 0 ∨ v < D d) : gMs U (upF D d v) k < gMs U D k := by
  have w := gSu_up (f := fun c => if D c < 0 then U + 1 else (D c).toNat) (g := fun c => if upF D d v c < 0 then U + 1 else (upF D d v c).toNat) hd (fun c hc => by
    show (if upF D d v c < 0 then U + 1 else (upF D d v c).toNat) = if D c < 0 then U + 1 else (D c).toNat
    rw [upF_ne hc])
  have w1 : (if upF D d v d < 0 then U + 1 else (upF D d v d).toNat) = v.toNat := by
    rw [upF_at, if_neg (by omega)]
  have w2 : v.toNat < (if D d < 0 then U + 1 else (D d).toNat) := by
    by_cases e : D d < 0
    · rw [if_pos e]; omega
    · rw [if_neg e]; omega
  unfold gMs
  have w3 : gSu (fun c => if upF D d v c < 0 then U + 1 else (upF D d v c).toNat) k + (if D d < 0 then U + 1 else (D d).toNat) = gSu (fun c => if D c < 0 then U + 1 else (D c).toNat) k + (if upF D d v d < 0 then U + 1 else (upF D d v d).toNat) := w
  rw [w1] at w3
  omega
/-- distances on their way: less and less -/
def gSx (s : BdS) (n rr : Int) (T : Nat → Prop) (M : Nat) (D : Nat → Int) (mo : Int) (c x : Nat) : Prop :=
  (∀ d, d < bK s → D d = -1 ∨ 0 ≤ D d) ∧ (∀ d, d < bK s → T d → D d = 0) ∧
  (∀ d, d < bK s → 0 ≤ D d → ¬ T d → ∃ c' x', c' < bK s ∧ x' < 6 ∧ bnb s c' x' = d ∧ 0 ≤ D c' ∧ bTl s n rr d ≠ -1 ∧ D c' + bStp s c' x' + bTl s n rr d ≤ D d) ∧
  (∀ d, d < bK s → D d ≤ (M * zct (fun e => 0 ≤ D e) (bK s) : Nat)) ∧
  (mo = 0 → ∀ c' x' d : Nat, c' < bK s → (c' < c ∨ (c' = c ∧ x' < x)) → 0 ≤ D c' → x' < 6 → bnb s c' x' = d → bTl s n rr d ≠ -1 → 0 ≤ D d ∧ D d ≤ D c' + bStp s c' x' + bTl s n rr d)
theorem gSx_mo {s : BdS} {n rr : Int} {T : Nat → Prop} {M : Nat} {D : Nat → Int} {mo : Int} {c x : Nat} (h : gSx s n rr T M D mo c x) : gSx s n rr T M D 0 0 0 :=
  ⟨h.1, h.2.1, h.2.2.1, h.2.2.2.1, fun _ c' x' d _ q => by rcases q with q | q; exact absurd q (Nat.not_lt_zero _); exact absurd q.2 (Nat.not_lt_zero _)⟩
theorem gSx_row {s : BdS} {n rr : Int} {T : Nat → Prop} {M : Nat} {D : Nat → Int} {mo : Int} {c x : Nat} (h : gSx s n rr T M D mo c x) (hx : x = 6 ∨ D c < 0) : gSx s n rr T M D mo (c + 1) 0 :=
  ⟨h.1, h.2.1, h.2.2.1, h.2.2.2.1, fun hm c' x' d q1 q2 q3 q4 => h.2.2.2.2 hm c' x' d q1 (by
    by_cases e : c' = c
    · subst e
      rcases hx with e2 | e2
      · exact Or.inr ⟨rfl, by omega⟩
      · omega
    · exact Or.inl (by omega)) q3 q4⟩
theorem gSx_nx {s : BdS} {n rr : Int} {T : Nat → Prop} {M : Nat} {D : Nat → Int} {mo : Int} {c x : Nat} (h : gSx s n rr T M D mo c x) (hx : ∀ d : Nat, bnb s c x = d → bTl s n rr d = -1 ∨ (0 ≤ D d ∧ D d ≤ D c + bStp s c x + bTl s n rr d)) : gSx s n rr T M D mo c (x + 1) :=
  ⟨h.1, h.2.1, h.2.2.1, h.2.2.2.1, fun hm c' x' d q1 q2 q3 q4 q5 q6 => by
    by_cases e : c' = c ∧ x' = x
    · rw [e.1, e.2] at q5
      rw [e.1, e.2]
      rcases hx d q5 with w | w
      · exact absurd w q6
      · exact w
    · exact h.2.2.2.2 hm c' x' d q1 (by omega) q3 q4 q5 q6⟩
/-- one set -/
theorem gSx_up {s : BdS} {n rr : Int} {T : Nat → Prop} {M : Nat} {D : Nat → Int} {mo v : Int} {c x d : Nat} (h : gSx s n rr T M D mo c x) (hc : c < bK s) (hD : 0 ≤ D c) (hx : x < 6) (hd : bnb s c x = d) (hdK : d < bK s) (ht : bTl s n rr d ≠ -1)
    (hv : v = D c + bStp s c x + bTl s n rr d) (hM : bStp s c x + bTl s n rr d ≤ M) (hl : D d < 0 ∨ v < D d) (y : Nat) : gSx s n rr T M (upF D d v) 1 c y ∧ 0 ≤ v := by
  have t1 := bStp_2 s c x
  have t0 := (bTl_ge s n rr d).resolve_left ht
  have hdc : d ≠ c := fun e => by
    subst e
    rcases hl with q | q <;> omega
  have hTd : ¬ T d := fun q => by
    have := h.2.1 d hdK q
    omega
  have hle : ∀ e, 0 ≤ D e → 0 ≤ upF D d v e := fun e q => by
    by_cases k : e = d
    · rw [k, upF_at]; omega
    · rw [upF_ne k]; exact q
  have hlo : ∀ e, 0 ≤ D e → upF D d v e ≤ D e := fun e q => by
    by_cases k : e = d
    · rw [k, upF_at]
      rw [k] at q
      omega
    · rw [upF_ne k]; exact Int.le_refl _
  refine ⟨⟨fun e he => ?_, fun e he q => ?_, fun e he q1 q2 => ?_, fun e he => ?_, fun q => absurd q (by decide)⟩, by omega⟩
  · by_cases k : e = d
    · rw [k, upF_at]; omega
    · rw [upF_ne k]; exact h.1 e he
  · rw [upF_ne (fun k => hTd (by rw [← k]; exact q))]
    exact h.2.1 e he q
  · by_cases k : e = d
    · subst k
      refine ⟨c, x, hc, hx, hd, hle c hD, ht, ?_⟩
      rw [upF_at, upF_ne (fun k => hdc k.symm)]
      omega
    · rw [upF_ne k] at q1
      obtain ⟨c', x', w1, w2, w3, w4, w5, w6⟩ := h.2.2.1 e he q1 q2
      refine ⟨c', x', w1, w2, w3, hle c' w4, w5, ?_⟩
      rw [upF_ne k]
      have := hlo c' w4
      omega
  · have hm : M * zct (fun e => 0 ≤ D e) (bK s) ≤ M * zct (fun e => 0 ≤ upF D d v e) (bK s) := Nat.mul_le_mul_left M (zct_mono (fun e q => hle e q) (bK s))
    by_cases k : e = d
    · rw [k, upF_at]
      rcases hl with q | q
      · have e1 : (fun e => 0 ≤ upF D d v e) = fun e => 0 ≤ D e ∨ e = d := funext (fun e => propext ⟨fun w => by
          by_cases k2 : e = d
          · exact Or.inr k2
          · rw [upF_ne k2] at w; exact Or.inl w, fun w => by
          rcases w with w | w
          · exact hle e w
          · rw [w, upF_at]; omega⟩)
        rw [e1, zct_eq (P := fun e => 0 ≤ D e) (c := d) (by omega) (k := bK s) hdK, Nat.mul_add, Nat.mul_one]
        have w2 := h.2.2.2.1 c hc
        omega
      · have w2 := h.2.2.2.1 d hdK
        omega
    · rw [upF_ne k]
      have w2 := h.2.2.2.1 e he
      omega
theorem gSx_end {s : BdS} {n rr : Int} {T : Nat → Prop} {M : Nat} {D : Nat → Int} {c : Nat} (hb : bK s ≤ 1024) (h : gSx s n rr T M D 0 c 0) (hc : c = bK s) : ∀ d, d < bK s → D d = bDi s n rr T d :=
  bDi_one hb h.1 h.2.1 (fun c' x' d q1 q2 q3 q4 q5 => h.2.2.2.2 rfl c' x' d q1 (Or.inl (by omega)) q2 q3 q4 q5) h.2.2.1
theorem zct_no {P : Nat → Prop} (h : ∀ c, ¬ P c) : ∀ k, zct P k = 0
  | 0 => rfl
  | k + 1 => by
    show zct P k + zite (P k) 1 0 = 0
    rw [zct_no h k, zite_f (h k)]
theorem gSx_0 {s : BdS} {n rr : Int} {T : Nat → Prop} {M : Nat} {D : Nat → Int} {mo : Int} (h : ∀ d, d < bK s → (T d → D d = 0) ∧ (¬ T d → D d = -1)) : gSx s n rr T M D mo 0 0 :=
  ⟨fun d hd => by
    by_cases e : T d
    · rw [(h d hd).1 e]; exact Or.inr (Int.le_refl 0)
    · exact Or.inl ((h d hd).2 e), fun d hd => (h d hd).1, fun d hd q1 q2 => by
    have := (h d hd).2 q2
    omega, fun d hd => by
    by_cases e : T d
    · rw [(h d hd).1 e]; omega
    · rw [(h d hd).2 e]; omega, fun _ c' x' d _ q => by rcases q with q | q; exact absurd q (Nat.not_lt_zero _); exact absurd q.2 (Nat.not_lt_zero _)⟩
theorem gSx_ext {s : BdS} {n rr : Int} {T : Nat → Prop} {M : Nat} {D D' : Nat → Int} {mo : Int} {c x : Nat} (h : gSx s n rr T M D mo c x) (e : D' = D) : gSx s n rr T M D' mo c x := by rw [e]; exact h
theorem gSx_le {s : BdS} {n rr : Int} {T : Nat → Prop} {M : Nat} {D : Nat → Int} {mo : Int} {c x : Nat} (h : gSx s n rr T M D mo c x) (hb : bK s ≤ 1024) {d : Nat} (hd : d < bK s) : -1 ≤ D d ∧ D d ≤ (M * 1024 : Nat) := by
  have w := h.2.2.2.1 d hd
  have w2 := zct_le (fun e => 0 ≤ D e) (bK s)
  have w3 : M * zct (fun e => 0 ≤ D e) (bK s) ≤ M * 1024 := Nat.mul_le_mul_left M (by omega)
  rcases h.1 d hd with q | q <;> omega
theorem gWH {s : BdS} (h : bGz s) : (1 ≤ (bW s : Int) * bH s ∧ (bW s : Int) * bH s ≤ 256) ∧ (1 ≤ (bW s : Int) * bH s * bD s ∧ (bW s : Int) * bH s * bD s ≤ 1024) ∧ ((bK s : Nat) : Int) = (bW s : Int) * bH s * bD s := by
  obtain ⟨⟨⟨gW1, gW2⟩, ⟨gH1, gH2⟩, ⟨gD1, gD2⟩, gB9⟩, -, -⟩ := h
  have m1 := zmb (a := (bW s : Int)) (b := (bH s : Int)) (A := 16) (B := 16) (by omega) (by omega) (by omega) (by omega)
  have m2 := zmb (a := (bW s : Int) * bH s) (b := (bD s : Int)) (A := 256) (B := 4) (by omega) (by omega) (by omega) (by omega)
  have m3 : 0 < (bW s : Int) * bH s := Int.mul_pos (by omega) (by omega)
  have m4 : 0 < (bW s : Int) * bH s * bD s := Int.mul_pos m3 (by omega)
  refine ⟨⟨by omega, by omega⟩, ⟨by omega, by omega⟩, ?_⟩
  show ((bW s * bH s * bD s : Nat) : Int) = _
  rw [Int.natCast_mul, Int.natCast_mul]
theorem gIf {v p : Int} (h : v = if p = -1 then 0 else 1) : (v = 0 ∧ p = -1) ∨ (v = 1 ∧ p ≠ -1) := by
  by_cases e : p = -1
  · rw [if_pos e] at h; exact Or.inl ⟨h, e⟩
  · rw [if_neg e] at h; exact Or.inr ⟨h, e⟩
theorem gTl_no1 {s : BdS} {n rr : Int} {d : Nat} (h : bba s d ≠ 0) : bTl s n rr d = -1 := zite_t (Or.inl h)
theorem gTl_no2 {s : BdS} {n rr : Int} {d : Nat} (h : bHl s n d) (h2 : rr = 0 ∨ bpa s d ≠ -1) : bTl s n rr d = -1 := zite_t (Or.inr ⟨h, h2⟩)
theorem gTl_yes {s : BdS} {n rr : Int} {d : Nat} (h : bba s d = 0) (h2 : ¬ bHl s n d ∨ (rr ≠ 0 ∧ bpa s d = -1)) : bTl s n rr d ≠ -1 := by
  have w : bTl s n rr d = bEnt s n d + zite (bHl s n d) 100 0 := zite_f (fun q => by
    rcases q with q | q
    · exact q h
    · rcases h2 with k | k
      · exact k q.1
      · rcases q.2 with z | z
        · exact k.1 z
        · exact z k.2)
  rw [w]
  by_cases e : bHl s n d
  · rw [zite_t e]; omega
  · rw [zite_f e]; omega
/-- the layer of a neighbour -/
theorem nb_lay {W H D c x d : Nat} (hc : c < W * H * D) (hx : x < 6) (h : nbI W H D c x = d) : (x = 0 → 0 < c / W / H ∧ d / W / H = c / W / H - 1) ∧ (x = 5 → d / W / H = c / W / H + 1) ∧ (x ≠ 0 → x ≠ 5 → d / W / H = c / W / H) := by
  obtain ⟨q1, q2, q3, q4⟩ := cx_of hc
  have hxx : x = 0 ∨ x = 1 ∨ x = 2 ∨ x = 3 ∨ x = 4 ∨ x = 5 := by omega
  have key : ∀ l i j : Int, cxI W H D l i j = d → l = (d / W / H : Nat) := fun l i j hh => by
    obtain ⟨l', i', j', h1, h2, h3, h4, h5, h6, h7⟩ := cxI_no hh
    rw [h7, cx_lay h5 h6]
    exact h1
  rcases hxx with rfl | rfl | rfl | rfl | rfl | rfl
  · have w := key _ _ _ (show cxI W H D ((c / W / H : Nat) - 1) (c % W : Nat) (c / W % H : Nat) = d from h)
    have k0 : ∀ a b : Nat, ((a : Int) - 1 = b) → 0 < a ∧ b = a - 1 := fun a b e => by omega
    exact ⟨fun _ => k0 _ _ w, fun q => absurd q (by decide), fun q => absurd rfl q⟩
  · have w := key _ _ _ (show cxI W H D (c / W / H : Nat) (c % W : Nat) ((c / W % H : Nat) - 1) = d from h)
    exact ⟨fun q => absurd q (by decide), fun q => absurd q (by decide), fun _ _ => (Int.ofNat.inj w).symm⟩
  · have w := key _ _ _ (show cxI W H D (c / W / H : Nat) ((c % W : Nat) - 1) (c / W % H : Nat) = d from h)
    exact ⟨fun q => absurd q (by decide), fun q => absurd q (by decide), fun _ _ => (Int.ofNat.inj w).symm⟩
  · have w := key _ _ _ (show cxI W H D (c / W / H : Nat) ((c % W : Nat) + 1) (c / W % H : Nat) = d from h)
    exact ⟨fun q => absurd q (by decide), fun q => absurd q (by decide), fun _ _ => (Int.ofNat.inj w).symm⟩
  · have w := key _ _ _ (show cxI W H D (c / W / H : Nat) (c % W : Nat) ((c / W % H : Nat) + 1) = d from h)
    exact ⟨fun q => absurd q (by decide), fun q => absurd q (by decide), fun _ _ => (Int.ofNat.inj w).symm⟩
  · have w := key _ _ _ (show cxI W H D ((c / W / H : Nat) + 1) (c % W : Nat) (c / W % H : Nat) = d from h)
    have k5 : ∀ a b : Nat, ((a : Int) + 1 = b) → b = a + 1 := fun a b e => by omega
    exact ⟨fun q => absurd q (by decide), fun _ => k5 _ _ w, fun _ q => absurd rfl q⟩
theorem gSp_0 {s : BdS} {c x d : Nat} (hc : c < bK s) (h : bnb s c x = d) (hx : x = 0) : bStp s c x = 2 + bco s 1 (d / bW s / bH s) := by
  subst hx
  have w := (nb_lay hc (by decide) h).1 rfl
  unfold bStp
  rw [if_pos rfl, if_pos w.1, w.2]
theorem gSp_5 {s : BdS} {c x : Nat} (hx : x = 5) : bStp s c x = 2 + bco s 1 (c / bW s / bH s) := by
  subst hx
  unfold bStp
  rw [if_neg (by decide), if_pos rfl]
theorem gSp_a {s : BdS} {c x d : Nat} (hc : c < bK s) (h : bnb s c x = d) (hx : x ≠ 0 ∧ x ≠ 5 ∧ x < 6) (hp : (x = 1 ∨ x = 4) ↔ (d / bW s / bH s) % 2 = 0) : bStp s c x = 2 + bco s 0 (d / bW s / bH s) := by
  have w := (nb_lay hc hx.2.2 h).2.2 hx.1 hx.2.1
  rw [w] at hp ⊢
  unfold bStp
  rw [if_neg hx.1, if_neg hx.2.1, if_pos hp]
theorem gSp_b {s : BdS} {c x d : Nat} (hc : c < bK s) (h : bnb s c x = d) (hx : x ≠ 0 ∧ x ≠ 5 ∧ x < 6) (hp : ¬ ((x = 1 ∨ x = 4) ↔ (d / bW s / bH s) % 2 = 0)) : bStp s c x = 2 := by
  have w := (nb_lay hc hx.2.2 h).2.2 hx.1 hx.2.1
  rw [w] at hp
  unfold bStp
  rw [if_neg hx.1, if_neg hx.2.1, if_neg hp]
/-- what changes of the grid's memory -/
theorem zBB_let {k : Nat} {qx : Int} {s : BdS} {n : Nat} {I L I' L' : ZI} (h : zBB k qx s I L) (h3 : ∀ c : Nat, c < 1024 → I' (k + 3) c = if bho s c = n ∧ bpa s c = -1 then -1 else bho s c)
    (h10 : ∀ m : Nat, I' (k + 10) m = if m = n then 0 else I (k + 10) m) (h11 : ∀ m : Nat, I' (k + 11) m = if m = n then 0 else I (k + 11) m)
    (hf : ∀ c j : Nat, (k ≤ c ∧ c ≤ k + 15) ∧ ¬ c = k + 3 ∧ ¬ c = k + 10 ∧ ¬ c = k + 11 → I' c j = I c j) (hl : ∀ c j : Nat, k ≤ c ∧ c ≤ k + 13 → L' c j = L c j) : zBB k qx (bLet s n) I' L' := by
  obtain ⟨⟨q1, q2, q3, q4, q5⟩, h2, h3', h4, h5, h6⟩ := h
  refine ⟨⟨(hf k 1 (by omega)).trans q1, (hf k 2 (by omega)).trans q2, (hf k 3 (by omega)).trans q3, (hl k 4 (by omega)).trans q4, (hf k 5 (by omega)).trans q5⟩,
    fun c hc => ⟨h3 c hc, (hf (k + 4) c (by omega)).trans (h2 c hc).2.1, (hf (k + 5) c (by omega)).trans (h2 c hc).2.2.1, (hl (k + 6) c (by omega)).trans (h2 c hc).2.2.2⟩,
    fun l hl' => ⟨(hf (k + 7) l (by omega)).trans (h3' l hl').1, (hf (k + 8) l (by omega)).trans (h3' l hl').2.1, (hf (k + 9) l (by omega)).trans (h3' l hl').2.2⟩,
    fun m hm => ⟨(hf (k + 1) m (by omega)).trans (h4 m hm).1, fun q => ?_⟩, fun m hm => ?_, fun p hp => (hf (k + 2) _ (by omega)).trans (h6 p hp)⟩
  · obtain ⟨a1, a2, a3, a4⟩ := (h4 m hm).2 q
    refine ⟨(h10 m).trans ?_, (h11 m).trans ?_, (hf (k + 14) m (by omega)).trans a3, (hf (k + 15) m (by omega)).trans a4⟩
    · by_cases e : m = n
      · exact if_pos e
      · rw [if_neg e]; exact a1
    · by_cases e : m = n
      · exact if_pos e
      · rw [if_neg e]; exact a2
  · obtain ⟨a1, a2, a3, a5, a6⟩ := h5 m hm
    show I' (k + 10) m = up2z (bN s) n 2 0 m 2 ∧ I' (k + 11) m = (upF (bwl s) n 0 m : Nat) ∧ I' (k + 14) m = up2z (bN s) n 2 0 m 4 ∧ ((m : Int) ≠ qx → I' (k + 15) m = up2z (bN s) n 2 0 m 5 ∧ (up2z (bN s) n 2 0 m 2 = 1 → L' (k + 13) m = up2z (bN s) n 2 0 m 3)) ∧ ∀ j : Nat, j < upF (bwl s) n 0 m → I' (k + 12) (1024 * m + j) = bwy s m j
    rw [h10 m, h11 m, hf (k + 14) m (by omega), hf (k + 15) m (by omega), hl (k + 13) m (by omega), up2z_ne (show ¬ (m = n ∧ 4 = 2) by omega), up2z_ne (show ¬ (m = n ∧ 5 = 2) by omega), up2z_ne (show ¬ (m = n ∧ 3 = 2) by omega)]
    by_cases e : m = n
    · subst e
      rw [if_pos rfl, if_pos rfl, up2z_at, upF_at]
      exact ⟨rfl, rfl, a3, fun w => ⟨(a5 w).1, fun q => absurd q (by decide)⟩, fun j hj => absurd hj (Nat.not_lt_zero j)⟩
    · rw [if_neg e, if_neg e, up2z_ne (by omega), upF_ne e]
      exact ⟨a1, a2, a3, a5, fun j hj => (hf (k + 12) _ (by omega)).trans (a6 j hj)⟩
theorem zBB_way {k : Nat} {qx : Int} {s : BdS} {n c : Nat} {I L I' L' : ZI} (h : zBB k qx s I L) (hn : n < bnn s) (h11 : ∀ m : Nat, I' (k + 11) m = if m = n then ((bwl s n + 1 : Nat) : Int) else I (k + 11) m) (h12 : ∀ j : Nat, I' (k + 12) j = if j = 1024 * n + bwl s n then (c : Int) else I (k + 12) j)
    (hw : ∀ m, m < bnn s → bwl s m ≤ 1024) (hwn : bwl s n < 1024)
    (hf : ∀ c j : Nat, (k ≤ c ∧ c ≤ k + 15) ∧ ¬ c = k + 11 ∧ ¬ c = k + 12 → I' c j = I c j) (hl : ∀ c j : Nat, k ≤ c ∧ c ≤ k + 13 → L' c j = L c j) : zBB k qx (bWay s n c) I' L' := by
  obtain ⟨⟨q1, q2, q3, q4, q5⟩, h2, h3', h4, h5, h6⟩ := h
  refine ⟨⟨(hf k 1 (by omega)).trans q1, (hf k 2 (by omega)).trans q2, (hf k 3 (by omega)).trans q3, (hl k 4 (by omega)).trans q4, (hf k 5 (by omega)).trans q5⟩,
    fun c hc => ⟨(hf (k + 3) c (by omega)).trans (h2 c hc).1, (hf (k + 4) c (by omega)).trans (h2 c hc).2.1, (hf (k + 5) c (by omega)).trans (h2 c hc).2.2.1, (hl (k + 6) c (by omega)).trans (h2 c hc).2.2.2⟩,
    fun l hl' => ⟨(hf (k + 7) l (by omega)).trans (h3' l hl').1, (hf (k + 8) l (by omega)).trans (h3' l hl').2.1, (hf (k + 9) l (by omega)).trans (h3' l hl').2.2⟩,
    fun m hm => ⟨(hf (k + 1) m (by omega)).trans (h4 m hm).1, fun q => ?_⟩, fun m hm => ?_, fun p hp => (hf (k + 2) _ (by omega)).trans (h6 p hp)⟩
  · obtain ⟨a1, a2, a3, a4⟩ := (h4 m hm).2 q
    have q' : bnn s ≤ m := q
    exact ⟨(hf (k + 10) m (by omega)).trans a1, by rw [h11 m, if_neg (by omega)]; exact a2, (hf (k + 14) m (by omega)).trans a3, (hf (k + 15) m (by omega)).trans a4⟩
  · obtain ⟨a1, a2, a3, a5, a6⟩ := h5 m hm
    have hm' : m < bnn s := hm
    refine ⟨(hf (k + 10) m (by omega)).trans a1, ?_, (hf (k + 14) m (by omega)).trans a3, fun w => ⟨(hf (k + 15) m (by omega)).trans (a5 w).1, fun q => (hl (k + 13) m (by omega)).trans ((a5 w).2 q)⟩, fun j hj => ?_⟩
    · rw [h11 m]
      show _ = ((upF (bwl s) n (bwl s n + 1) m : Nat) : Int)
      by_cases e : m = n
      · rw [if_pos e, e, upF_at]
      · rw [if_neg e, upF_ne e]; exact a2
    · have hj2 : j < upF (bwl s) n (bwl s n + 1) m := hj
      show I' (k + 12) (1024 * m + j) = ((up2 (bwy s) n (bwl s n) c m j : Nat) : Int)
      rw [h12]
      unfold up2
      have hwm := hw m hm'
      by_cases e : m = n
      · subst e
        rw [upF_at] at hj2
        by_cases e2 : j = bwl s m
        · rw [if_pos (by omega), if_pos ⟨rfl, e2⟩]
        · rw [if_neg (by omega), if_neg (fun q => e2 q.2)]
          exact a6 j (by omega)
      · rw [upF_ne e] at hj2
        rw [if_neg (by omega), if_neg (fun q => e q.1)]
        exact a6 j hj2
theorem xu_upF {α : Type} {I : Nat → Nat → α} {c j : Nat} {v : α} : xu I c j v c = upF (I c) j v := funext (fun r => by
  by_cases e : r = j
  · rw [e, upF_at]; exact zxe
  · rw [upF_ne e]; exact zxs e rfl)
theorem gMs_eq {U : Nat} {D E : Nat → Int} {k : Nat} (h : ∀ d, d < k → D d = E d) : gMs U D k = gMs U E k := gSu_eq (fun c hc => by rw [h c hc])
/-- rows of nets written anew -/
theorem zBB_N {k : Nat} {qx : Int} {s : BdS} {f : Nat → Nat → Int} {I L I' L' : ZI} (h : zBB k qx s I L) (hN : ∀ n : Nat, n < bnn s → I' (k + 10) n = f n 2 ∧ I' (k + 14) n = f n 4 ∧ ((n : Int) ≠ qx → I' (k + 15) n = f n 5 ∧ (f n 2 = 1 → L' (k + 13) n = f n 3)))
    (h0 : ∀ n : Nat, bnn s ≤ n → I' (k + 10) n = I (k + 10) n ∧ I' (k + 14) n = I (k + 14) n ∧ I' (k + 15) n = I (k + 15) n)
    (hf : ∀ c j : Nat, (k ≤ c ∧ c ≤ k + 15) ∧ ¬ c = k + 10 ∧ ¬ c = k + 14 ∧ ¬ c = k + 15 ∧ ¬ (c = k ∧ j = 0) ∧ ¬ (c = k ∧ j = 21) → I' c j = I c j) (hl : ∀ c j : Nat, k ≤ c ∧ c ≤ k + 12 → L' c j = L c j) : zBB k qx (bs_N s f) I' L' := by
  obtain ⟨⟨q1, q2, q3, q4, q5⟩, h2, h3, h4, h5, h6⟩ := h
  refine ⟨⟨(hf k 1 (by omega)).trans q1, (hf k 2 (by omega)).trans q2, (hf k 3 (by omega)).trans q3, (hl k 4 (by omega)).trans q4, (hf k 5 (by omega)).trans q5⟩,
    fun c hc => ⟨(hf (k + 3) c (by omega)).trans (h2 c hc).1, (hf (k + 4) c (by omega)).trans (h2 c hc).2.1, (hf (k + 5) c (by omega)).trans (h2 c hc).2.2.1, (hl (k + 6) c (by omega)).trans (h2 c hc).2.2.2⟩,
    fun l hl' => ⟨(hf (k + 7) l (by omega)).trans (h3 l hl').1, (hf (k + 8) l (by omega)).trans (h3 l hl').2.1, (hf (k + 9) l (by omega)).trans (h3 l hl').2.2⟩,
    fun n hn => ⟨(hf (k + 1) n (by omega)).trans (h4 n hn).1, fun q => ?_⟩,
    fun n hn => ?_, fun p hp => (hf (k + 2) _ (by omega)).trans (h6 p hp)⟩
  · obtain ⟨w1, w2, w3⟩ := h0 n q
    obtain ⟨a1, a2, a3, a4⟩ := (h4 n hn).2 q
    exact ⟨w1.trans a1, (hf (k + 11) n (by omega)).trans a2, w2.trans a3, w3.trans a4⟩
  · obtain ⟨w1, w2, w3⟩ := hN n hn
    obtain ⟨a1, a2, a3, a5, a6⟩ := h5 n hn
    exact ⟨w1, (hf (k + 11) n (by omega)).trans a2, w2, w3, fun j hj => (hf (k + 12) _ (by omega)).trans (a6 j hj)⟩
theorem zBB_hi {k : Nat} {qx : Int} {s : BdS} {f : Nat → Nat} {I L I' L' : ZI} (h : zBB k qx s I L) (h3 : ∀ c : Nat, c < 1024 → L' (k + 6) c = f c)
    (hf : ∀ c j : Nat, k ≤ c ∧ c ≤ k + 15 → I' c j = I c j) (hl : ∀ c j : Nat, (k ≤ c ∧ c ≤ k + 13) ∧ ¬ c = k + 6 → L' c j = L c j) : zBB k qx (bs_hi s f) I' L' := by
  obtain ⟨⟨q1, q2, q3, q4, q5⟩, h2, h3', h4, h5, h6⟩ := h
  exact ⟨⟨(hf k 1 (by omega)).trans q1, (hf k 2 (by omega)).trans q2, (hf k 3 (by omega)).trans q3, (hl k 4 (by omega)).trans q4, (hf k 5 (by omega)).trans q5⟩,
    fun c hc => ⟨(hf (k + 3) c (by omega)).trans (h2 c hc).1, (hf (k + 4) c (by omega)).trans (h2 c hc).2.1, (hf (k + 5) c (by omega)).trans (h2 c hc).2.2.1, h3 c hc⟩,
    fun l hl' => ⟨(hf (k + 7) l (by omega)).trans (h3' l hl').1, (hf (k + 8) l (by omega)).trans (h3' l hl').2.1, (hf (k + 9) l (by omega)).trans (h3' l hl').2.2⟩,
    fun n hn => ⟨(hf (k + 1) n (by omega)).trans (h4 n hn).1, fun q => ⟨(hf (k + 10) n (by omega)).trans ((h4 n hn).2 q).1, (hf (k + 11) n (by omega)).trans ((h4 n hn).2 q).2.1, (hf (k + 14) n (by omega)).trans ((h4 n hn).2 q).2.2.1, (hf (k + 15) n (by omega)).trans ((h4 n hn).2 q).2.2.2⟩⟩,
    fun n hn => ⟨(hf (k + 10) n (by omega)).trans (h5 n hn).1, (hf (k + 11) n (by omega)).trans (h5 n hn).2.1, (hf (k + 14) n (by omega)).trans (h5 n hn).2.2.1, fun q => ⟨(hf (k + 15) n (by omega)).trans ((h5 n hn).2.2.2.1 q).1, fun w => (hl (k + 13) n (by omega)).trans (((h5 n hn).2.2.2.1 q).2 w)⟩, fun j hj => (hf (k + 12) _ (by omega)).trans ((h5 n hn).2.2.2.2 j hj)⟩,
    fun p hp => (hf (k + 2) _ (by omega)).trans (h6 p hp)⟩
theorem zBB_ho {k : Nat} {qx : Int} {s : BdS} {f : Nat → Int} {I L I' L' : ZI} (h : zBB k qx s I L) (h3 : ∀ c : Nat, c < 1024 → I' (k + 3) c = f c)
    (hf : ∀ c j : Nat, (k ≤ c ∧ c ≤ k + 15) ∧ ¬ c = k + 3 → I' c j = I c j) (hl : ∀ c j : Nat, k ≤ c ∧ c ≤ k + 13 → L' c j = L c j) : zBB k qx (bs_ho s f) I' L' := by
  obtain ⟨⟨q1, q2, q3, q4, q5⟩, h2, h3', h4, h5, h6⟩ := h
  exact ⟨⟨(hf k 1 (by omega)).trans q1, (hf k 2 (by omega)).trans q2, (hf k 3 (by omega)).trans q3, (hl k 4 (by omega)).trans q4, (hf k 5 (by omega)).trans q5⟩,
    fun c hc => ⟨h3 c hc, (hf (k + 4) c (by omega)).trans (h2 c hc).2.1, (hf (k + 5) c (by omega)).trans (h2 c hc).2.2.1, (hl (k + 6) c (by omega)).trans (h2 c hc).2.2.2⟩,
    fun l hl' => ⟨(hf (k + 7) l (by omega)).trans (h3' l hl').1, (hf (k + 8) l (by omega)).trans (h3' l hl').2.1, (hf (k + 9) l (by omega)).trans (h3' l hl').2.2⟩,
    fun n hn => ⟨(hf (k + 1) n (by omega)).trans (h4 n hn).1, fun q => ⟨(hf (k + 10) n (by omega)).trans ((h4 n hn).2 q).1, (hf (k + 11) n (by omega)).trans ((h4 n hn).2 q).2.1, (hf (k + 14) n (by omega)).trans ((h4 n hn).2 q).2.2.1, (hf (k + 15) n (by omega)).trans ((h4 n hn).2 q).2.2.2⟩⟩,
    fun n hn => ⟨(hf (k + 10) n (by omega)).trans (h5 n hn).1, (hf (k + 11) n (by omega)).trans (h5 n hn).2.1, (hf (k + 14) n (by omega)).trans (h5 n hn).2.2.1, fun q => ⟨(hf (k + 15) n (by omega)).trans ((h5 n hn).2.2.2.1 q).1, fun w => (hl (k + 13) n (by omega)).trans (((h5 n hn).2.2.2.1 q).2 w)⟩, fun j hj => (hf (k + 12) _ (by omega)).trans ((h5 n hn).2.2.2.2 j hj)⟩,
    fun p hp => (hf (k + 2) _ (by omega)).trans (h6 p hp)⟩
/-- pads, as the grid knows them -/
def gPd (s : BdS) : Prop := (∀ c, c < 1024 → -1 ≤ bpa s c ∧ bpa s c < bnp s ∧ (bpa s c ≠ -1 → bP s (bpa s c).toNat 2 = c)) ∧
  (∀ p, p < bnp s → (0 ≤ bP s p 2 ∧ bP s p 2 < (bK s : Nat)) ∧ (0 ≤ bP s p 3 ∧ bP s p 3 < bnn s) ∧ bpa s (bP s p 2).toNat = p ∧ bho s (bP s p 2).toNat = bP s p 3) ∧ ∀ n : Nat, n < bnn s → bcn (bP s) n (bnp s) ≤ 5
theorem gPd_of {s : BdS} {f : Nat → Nat → Int} (h : bGd (bs_N s f)) : gPd s := by
  obtain ⟨g1, g2, gc, gp, gn, -, -, -⟩ := h
  exact ⟨fun c hc => ⟨(gc c hc).2.2.2.2.1, (gc c hc).2.2.2.2.2.1, (gc c hc).2.2.2.2.2.2.1⟩, fun p hp => (gp p hp).2.2, fun n hn => (gn n hn).2.1⟩
theorem bcn_ix {P : Nat → Nat → Int} {n : Int} {j : Nat} : ∀ {m : Nat}, j < bcn P n m → ∃ p, p < m ∧ P p 3 = n ∧ bcn P n p = j
  | 0, h => absurd h (Nat.not_lt_zero j)
  | m + 1, h => by
    rcases Nat.lt_or_ge j (bcn P n m) with q | q
    · obtain ⟨p, h1, h2⟩ := bcn_ix q
      exact ⟨p, by omega, h2⟩
    · unfold bcn at h
      by_cases e : P m 3 = n
      · rw [if_pos e] at h
        exact ⟨m, Nat.lt_succ_self m, e, by omega⟩
      · rw [if_neg e] at h
        omega
theorem bcn_lt {P : Nat → Nat → Int} {n : Int} {p q : Nat} (h : p < q) (hp : P p 3 = n) : bcn P n p + 1 ≤ bcn P n q := by
  have w : bcn P n (p + 1) ≤ bcn P n q := bcn_mono h
  have w2 : bcn P n (p + 1) = bcn P n p + 1 := by
    show bcn P n p + (if P p 3 = n then 1 else 0) = _
    rw [if_pos hp]
  omega
theorem bcn_inj {P : Nat → Nat → Int} {n : Int} {p q : Nat} (hp : P p 3 = n) (hq : P q 3 = n) (h : bcn P n p = bcn P n q) : p = q := by
  rcases Nat.lt_trichotomy p q with w | w | w
  · have := bcn_lt w hp
    omega
  · exact w
  · have := bcn_lt w hq
    omega
/-- the nearest of the first j pads of a net -/
def gNp (s : BdS) (n : Nat) (D tr : Nat → Int) (j : Nat) (B : Int) : Prop :=
  (B = -1 ∧ ∀ p, p < bnp s → bP s p 3 = n → bcn (bP s) n p < j → ¬ (tr (bP s p 2).toNat = 0 ∧ 0 ≤ D (bP s p 2).toNat)) ∨
  (∃ q, q < bnp s ∧ (B = bP s q 2 ∧ 0 ≤ B) ∧ bP s q 3 = n ∧ bcn (bP s) n q < j ∧ tr (bP s q 2).toNat = 0 ∧ 0 ≤ D (bP s q 2).toNat ∧
    ∀ p, p < bnp s → bP s p 3 = n → bcn (bP s) n p < j → tr (bP s p 2).toNat = 0 → 0 ≤ D (bP s p 2).toNat → D (bP s q 2).toNat ≤ D (bP s p 2).toNat ∧ (bcn (bP s) n p < bcn (bP s) n q → D (bP s q 2).toNat < D (bP s p 2).toNat))
/-- the j-th pad of a net, its cell -/
def gPj (s : BdS) (n j : Nat) (v : Int) : Prop := ∃ p, p < bnp s ∧ bP s p 3 = n ∧ bcn (bP s) n p = j ∧ v = bP s p 2
theorem gNp_0 {s : BdS} {n : Nat} {D tr : Nat → Int} : gNp s n D tr 0 (-1) := Or.inl ⟨rfl, fun p _ _ h => absurd h (Nat.not_lt_zero _)⟩
theorem gNp_sk {s : BdS} {n j : Nat} {D tr : Nat → Int} {B v : Int} (h : gNp s n D tr j B) (hv : gPj s n j v) (hq : ¬ (tr v.toNat = 0 ∧ 0 ≤ D v.toNat)) : gNp s n D tr (j + 1) B := by
  obtain ⟨q0, a1, a2, a3, a4⟩ := hv
  subst a4
  have key : ∀ p, bP s p 3 = n → bcn (bP s) n p < j + 1 → tr (bP s p 2).toNat = 0 → 0 ≤ D (bP s p 2).toNat → bcn (bP s) n p < j := fun p h1 h2 h3 h4 => by
    by_cases e : bcn (bP s) n p = j
    · have e2 : p = q0 := bcn_inj h1 a2 (e.trans a3.symm)
      subst e2
      exact absurd ⟨h3, h4⟩ hq
    · omega
  rcases h with ⟨h1, h2⟩ | ⟨q, b1, b2, b3, b4, b5, b6, b7⟩
  · exact Or.inl ⟨h1, fun p w1 w2 w3 w4 => h2 p w1 w2 (key p w2 w3 w4.1 w4.2) w4⟩
  · exact Or.inr ⟨q, b1, b2, b3, by omega, b5, b6, fun p w1 w2 w3 w4 w5 => b7 p w1 w2 (key p w2 w3 w4 w5) w4 w5⟩
theorem gNp_kp {s : BdS} {n j : Nat} {D tr : Nat → Int} {B v : Int} (h : gNp s n D tr j B) (hv : gPj s n j v) (hB : B ≠ -1) (hd : D B.toNat ≤ D v.toNat) : gNp s n D tr (j + 1) B := by
  obtain ⟨q0, a1, a2, a3, a4⟩ := hv
  subst a4
  rcases h with ⟨h1, h2⟩ | ⟨q, b1, b2, b3, b4, b5, b6, b7⟩
  · exact absurd h1 hB
  · obtain ⟨b2, b20⟩ := b2
    subst b2
    refine Or.inr ⟨q, b1, ⟨rfl, b20⟩, b3, by omega, b5, b6, fun p w1 w2 w3 w4 w5 => ?_⟩
    by_cases e : bcn (bP s) n p = j
    · have e2 : p = q0 := bcn_inj w2 a2 (e.trans a3.symm)
      subst e2
      exact ⟨hd, fun w => by omega⟩
    · exact b7 p w1 w2 (by omega) w4 w5
theorem gNp_tk {s : BdS} {n j : Nat} {D tr : Nat → Int} {B v : Int} (h : gNp s n D tr j B) (hv : gPj s n j v) (hv0 : 0 ≤ v) (ht : tr v.toNat = 0) (h0 : 0 ≤ D v.toNat) (hd : B = -1 ∨ D v.toNat < D B.toNat) : gNp s n D tr (j + 1) v := by
  obtain ⟨q0, a1, a2, a3, a4⟩ := hv
  subst a4
  refine Or.inr ⟨q0, a1, ⟨rfl, hv0⟩, a2, by omega, ht, h0, fun p w1 w2 w3 w4 w5 => ?_⟩
  by_cases e : bcn (bP s) n p = j
  · have e2 : p = q0 := bcn_inj w2 a2 (e.trans a3.symm)
    subst e2
    exact ⟨Int.le_refl _, fun w => by omega⟩
  · rcases h with ⟨h1, h2⟩ | ⟨q, b1, b2, b3, b4, b5, b6, b7⟩
    · exact absurd ⟨w4, w5⟩ (h2 p w1 w2 (by omega))
    · obtain ⟨b2, b20⟩ := b2
      subst b2
      have w := b7 p w1 w2 (by omega) w4 w5
      rcases hd with k | k
      · exfalso; omega
      · exact ⟨by omega, fun _ => by omega⟩
/-- the cell of the pad that is next -/
noncomputable def gPk (s : BdS) (n : Nat) (rr : Int) : Int := if bPk s n rr (bTn s n) = -1 then -1 else bP s (bPk s n rr (bTn s n)).toNat 2
theorem gNp_end {s : BdS} {n : Nat} {rr B : Int} (hb : bK s ≤ 1024) (hp : gPd s) (h : gNp s n (bDn s n rr) (bTn s n) (bcn (bP s) n (bnp s)) B) : B = gPk s n rr ∧ (B = -1 ↔ bPk s n rr (bTn s n) = -1) := by
  obtain ⟨g1, g2, g3⟩ := hp
  have out : ∀ c, bOut s n (bTn s n) c → ∃ p, p < bnp s ∧ bP s p 2 = c ∧ bP s p 3 = n ∧ bcn (bP s) n p < bcn (bP s) n (bnp s) := fun c w => by
    obtain ⟨w1, w2, w3, w4⟩ := w
    obtain ⟨q1, q2, q3⟩ := g1 c (by omega)
    have q4 := q3 w2
    obtain ⟨k1, k2, k3, k4⟩ := g2 (bpa s c).toNat (by omega)
    have e : (bP s (bpa s c).toNat 2).toNat = c := by omega
    rw [e] at k4
    have k5 : bP s (bpa s c).toNat 3 = n := by rw [← k4]; exact w3
    exact ⟨(bpa s c).toNat, by omega, q4, k5, bcn_lt (by omega) k5⟩
  unfold gPk
  rcases h with ⟨h1, h2⟩ | ⟨q, b1, b2, b3, b4, b5, b6, b7⟩
  · have w : bPk s n rr (bTn s n) = -1 := zlow_no (fun p hp q => by
      obtain ⟨p', k1, k2, k3, k4⟩ := out _ q.1
      have hn := h2 p' k1 k3 k4
      rw [k2] at hn
      exact hn ⟨q.1.2.2.2, q.2.1⟩)
    rw [if_pos w]
    exact ⟨h1, fun _ => w, fun _ => h1⟩
  · obtain ⟨k1, k2, k3, k4⟩ := g2 q b1
    have hO : bOut s n (bTn s n) (bP s q 2).toNat := ⟨by omega, by omega, by rw [k4]; exact b3, b5⟩
    have hN : bNst s n rr (bTn s n) (bP s q 2).toNat := fun c w1 w2 => by
      obtain ⟨p', z1, z2, z3, z4⟩ := out _ w1
      have w3 := (b7 p' z1 z3 z4 (by rw [z2]; exact w1.2.2.2) (by rw [z2]; exact w2)).1
      rw [z2] at w3
      exact w3
    have w : bPk s n rr (bTn s n) = q := zlow_at (P := fun p => bOut s n (bTn s n) (bP s p 2).toNat ∧ 0 ≤ bDn s n rr (bP s p 2).toNat ∧ bNst s n rr (bTn s n) (bP s p 2).toNat) ⟨hO, b6, hN⟩ (fun p hpq z => by
      obtain ⟨y1, y2, y3, y4⟩ := g2 p (by omega)
      have y5 : bP s p 3 = n := by rw [← y4]; exact z.1.2.2.1
      have y6 := bcn_lt hpq y5
      have y7 := (b7 p (by omega) y5 (by omega) z.1.2.2.2 z.2.1).2 (by omega)
      have y8 := z.2.2 _ hO b6
      omega) b1
    rw [w, if_neg (by omega), show ((q : Nat) : Int).toNat = q from rfl]
    exact ⟨b2.1, fun e => by omega, fun e => by omega⟩
/-- whether the first j pads of a net are in the tree -/
def gAl (s : BdS) (n j : Nat) (u : Int) : Prop := (u = 1 ∧ ∀ p, p < bnp s → bP s p 3 = n → bcn (bP s) n p < j → bTn s n (bP s p 2).toNat ≠ 0) ∨ (u = 0 ∧ ∃ p, p < bnp s ∧ bP s p 3 = n ∧ bTn s n (bP s p 2).toNat = 0)
theorem gAl_0 {s : BdS} {n : Nat} : gAl s n 0 1 := Or.inl ⟨rfl, fun p _ _ h => absurd h (Nat.not_lt_zero _)⟩
theorem gAl_y {s : BdS} {n j : Nat} {u v : Int} (h : gAl s n j u) (hu : u ≠ 0) (hv : gPj s n j v) (ht : bTn s n v.toNat ≠ 0) : gAl s n (j + 1) 1 := by
  obtain ⟨q0, a1, a2, a3, a4⟩ := hv
  subst a4
  rcases h with ⟨h1, h2⟩ | ⟨h1, h2⟩
  · refine Or.inl ⟨rfl, fun p w1 w2 w3 => ?_⟩
    by_cases e : bcn (bP s) n p = j
    · rw [bcn_inj w2 a2 (e.trans a3.symm)]; exact ht
    · exact h2 p w1 w2 (by omega)
  · exact absurd h1 hu
theorem gAl_n {s : BdS} {n j : Nat} {v : Int} (hv : gPj s n j v) (ht : bTn s n v.toNat = 0) : gAl s n (j + 1) 0 := by
  obtain ⟨q0, a1, a2, a3, a4⟩ := hv
  subst a4
  exact Or.inr ⟨rfl, q0, a1, a2, ht⟩
theorem gAl_k {s : BdS} {n j : Nat} {u : Int} (h : gAl s n j u) (hu : u = 0) : gAl s n (j + 1) 0 := by
  rcases h with ⟨h1, h2⟩ | ⟨h1, h2⟩
  · omega
  · exact Or.inr ⟨rfl, h2⟩
theorem gAl_end {s : BdS} {n : Nat} {u : Int} (hp : gPd s) (h : gAl s n (bcn (bP s) n (bnp s)) u) : (u = 1 ∧ bAll s n (bTn s n)) ∨ (u = 0 ∧ ¬ bAll s n (bTn s n)) := by
  obtain ⟨g1, g2, g3⟩ := hp
  rcases h with ⟨h1, h2⟩ | ⟨h1, p, h2, h3, h4⟩
  · refine Or.inl ⟨h1, fun p hp q => ?_⟩
    obtain ⟨k1, k2, k3, k4⟩ := g2 p hp
    have k5 : bP s p 3 = n := by rw [← k4]; exact q.2.2.1
    exact h2 p hp k5 (bcn_lt hp k5) q.2.2.2
  · refine Or.inr ⟨h1, fun q => ?_⟩
    obtain ⟨k1, k2, k3, k4⟩ := g2 p h2
    exact q p h2 ⟨by omega, by omega, by rw [k4]; exact h3, h4⟩
/-- the blockers written -/
theorem zBB_5 {k : Nat} {n : Nat} {s : BdS} {x : Int} {I L I' L' : ZI} (h : zBB k n s I L) (hf : ∀ c j : Nat, (k ≤ c ∧ c ≤ k + 15) ∧ ¬ (c = k + 15 ∧ j = n) → I' c j = I c j) (hl : ∀ c j : Nat, (k ≤ c ∧ c ≤ k + 13) ∧ ¬ (c = k + 13 ∧ j = n) → L' c j = L c j) (hn : n < bnn s) :
    zBB k n (bs_N s (up2z (bN s) n 5 x)) I' L' := by
  refine zBB_N h (fun m hm => ?_) (fun m hm => ⟨hf _ _ (by omega), hf _ _ (by omega), hf _ _ (by omega)⟩) (fun c j w => hf _ _ (by omega)) (fun c j w => hl _ _ (by omega))
  obtain ⟨a1, a2, a3, a5, a6⟩ := h.2.2.2.2.1 m hm
  rw [up2z_ne (show ¬ (m = n ∧ 2 = 5) by omega), up2z_ne (show ¬ (m = n ∧ 4 = 5) by omega), up2z_ne (show ¬ (m = n ∧ 3 = 5) by omega)]
  refine ⟨(hf _ _ (by omega)).trans a1, (hf _ _ (by omega)).trans a3, fun w => ?_⟩
  rw [up2z_ne (by omega)]
  exact ⟨(hf _ _ (by omega)).trans (a5 w).1, fun w2 => (hl _ _ (by omega)).trans ((a5 w).2 w2)⟩
theorem zBB_i {k : Nat} {n : Nat} {s : BdS} {I L I' L' : ZI} (h : zBB k n s I L) (hf : ∀ c j : Nat, (k ≤ c ∧ c ≤ k + 15) ∧ ¬ (c = k + 15 ∧ j = n) ∧ ¬ (c = k ∧ j = 0) ∧ ¬ (c = k ∧ j = 21) → I' c j = I c j) (hl : ∀ c j : Nat, (k ≤ c ∧ c ≤ k + 13) ∧ ¬ (c = k + 13 ∧ j = n) → L' c j = L c j) (hn : n < bnn s) :
    zBB k n s I' L' := by
  refine zBB_N (f := bN s) h (fun m hm => ?_) (fun m hm => ⟨hf _ _ (by omega), hf _ _ (by omega), hf _ _ (by omega)⟩) (fun c j w => hf _ _ (by omega)) (fun c j w => hl _ _ (by omega))
  obtain ⟨a1, a2, a3, a5, a6⟩ := h.2.2.2.2.1 m hm
  exact ⟨(hf _ _ (by omega)).trans a1, (hf _ _ (by omega)).trans a3, fun w => ⟨(hf _ _ (by omega)).trans (a5 w).1, fun w2 => (hl _ _ (by omega)).trans ((a5 w).2 w2)⟩⟩
theorem gRp_top {u : BdS} {V : Int} {m : Nat} (h : ∀ o, m ≤ o → o < 12 → ¬ bBit V o) : ∀ j, m + j ≤ 12 → bRp u V (m + j) = bRp u V m
  | 0, _ => rfl
  | j + 1, hj => by
    have w := gRp_top (u := u) h j (by omega)
    have e0 : bRp u V (m + (j + 1)) = zite (bBit V (m + j)) (bRo (bRp u V (m + j)) (m + j)) (bRp u V (m + j)) := rfl
    rw [e0, zite_f (h (m + j) (by omega) (by omega)), w]
/-- rips counted -/
theorem zBB_ro {k : Nat} {q : Int} {t : BdS} {o : Nat} {I L I' L' : ZI} (h : zBB k q (bLet t o) I L) (ho : o < bnn t) (h14 : ∀ m : Nat, I' (k + 14) m = if m = o then bN t o 4 + 1 else I (k + 14) m)
    (hf : ∀ c j : Nat, (k ≤ c ∧ c ≤ k + 15) ∧ ¬ c = k + 14 → I' c j = I c j) (hl : ∀ c j : Nat, k ≤ c ∧ c ≤ k + 13 → L' c j = L c j) : zBB k q (bRo t o) I' L' := by
  refine zBB_N h (fun m hm => ?_) (fun m hm => ⟨hf _ _ (by omega), ?_, hf _ _ (by omega)⟩) (fun c j w => hf _ _ (by omega)) (fun c j w => hl _ _ (by omega))
  · obtain ⟨a1, a2, a3, a5, a6⟩ := h.2.2.2.2.1 m hm
    rw [up2z_ne (show ¬ (m = o ∧ 2 = 4) by omega), up2z_ne (show ¬ (m = o ∧ 5 = 4) by omega), up2z_ne (show ¬ (m = o ∧ 3 = 4) by omega)]
    refine ⟨(hf _ _ (by omega)).trans a1, (h14 m).trans ?_, fun w => ⟨(hf _ _ (by omega)).trans (a5 w).1, fun w2 => (hl _ _ (by omega)).trans ((a5 w).2 w2)⟩⟩
    by_cases e : m = o
    · subst e
      rw [if_pos rfl, up2z_at]
      show bN t m 4 + 1 = up2z (bN t) m 2 0 m 4 + 1
      rw [up2z_ne (by omega)]
    · rw [if_neg e, up2z_ne (by omega)]
      exact a3
  · have hm' : bnn t ≤ m := hm
    rw [h14 m, if_neg (by omega)]
theorem gJn_2 {s : BdS} {n : Nat} {rr : Int} {c : Nat} (hnn : bnn s ≤ 12) (hn : n < bnn s) (hh : ∀ c, c < 1024 → -1 ≤ bho s c ∧ bho s c < bnn s) (hf : ∀ j, j < bPl s n rr c → bPth s n rr c j < 1024) : bN (bJn s n rr c) n 2 = bN s n 2 := by
  have q := bWx_p s n (bPth s n rr c) (bPl s n rr c)
  have hbit : ¬ bBit (bRm (bWx s n (bPth s n rr c) (bPl s n rr c)) n (bPth s n rr c) (bPl s n rr c)) n := fun h => by
    have hm := (bRm_b (s := bWx s n (bPth s n rr c) (bPl s n rr c)) (n := n) (f := bPth s n rr c) hnn (fun c hc => by rw [q.2.2.1]; exact hh c hc) (bPl s n rr c) hf).2 n (by omega) h
    obtain ⟨j, j1, j2, j3⟩ := hm
    exact j2.2 j3
  have w := ((bRp_2 (bs_hi (bWx s n (bPth s n rr c) (bPl s n rr c)) (bHx (bWx s n (bPth s n rr c) (bPl s n rr c)) n (bPth s n rr c) (bPl s n rr c))) (bRm (bWx s n (bPth s n rr c) (bPl s n rr c)) n (bPth s n rr c) (bPl s n rr c)) n 12).2 (fun w => hbit w.1)).1
  have e : bN (bWx s n (bPth s n rr c) (bPl s n rr c)) = bN s := q.2.2.2.2.2.2.2.2.2.1
  exact w.trans (by show bN (bWx s n (bPth s n rr c) (bPl s n rr c)) n 2 = _; rw [e])
