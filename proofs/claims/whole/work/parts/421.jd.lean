/-! DRAWINGS: what is on sheets, and what is joined -/
/-- sheets (how many, the base of each, its parent); wires; junctions; labels; ports; terminals -/
abbrev JdS : Type := (Nat × (Nat → Nat) × (Nat → Int)) × (Nat × (Nat → Nat → Int)) × (Nat × (Nat → Nat → Int)) × (Nat × (Nat → Nat → Int)) × (Nat × (Nat → Nat → Int)) × (Nat × (Nat → Nat → Int))
abbrev dns (d : JdS) : Nat := d.1.1
abbrev dbs (d : JdS) : Nat → Nat := d.1.2.1
abbrev dpr (d : JdS) : Nat → Int := d.1.2.2
abbrev dnw (d : JdS) : Nat := d.2.1.1
abbrev dW (d : JdS) : Nat → Nat → Int := d.2.1.2
abbrev dnj (d : JdS) : Nat := d.2.2.1.1
abbrev dJ (d : JdS) : Nat → Nat → Int := d.2.2.1.2
abbrev dnl (d : JdS) : Nat := d.2.2.2.1.1
abbrev dL (d : JdS) : Nat → Nat → Int := d.2.2.2.1.2
abbrev dnp (d : JdS) : Nat := d.2.2.2.2.1.1
abbrev dP (d : JdS) : Nat → Nat → Int := d.2.2.2.2.1.2
abbrev dnt (d : JdS) : Nat := d.2.2.2.2.2.1
abbrev dT (d : JdS) : Nat → Nat → Int := d.2.2.2.2.2.2
/-- a place lies on a wire -/
def jTh (f : Nat → Nat → Int) (w : Nat) (x y : Int) : Prop := (f w 1 ≤ x ∧ x ≤ f w 3 ∨ f w 3 ≤ x ∧ x ≤ f w 1) ∧ (f w 2 ≤ y ∧ y ≤ f w 4 ∨ f w 4 ≤ y ∧ y ≤ f w 2) ∧ (f w 3 - f w 1) * (y - f w 2) = (f w 4 - f w 2) * (x - f w 1)
/-- two wires with a common end -/
def jEn (f : Nat → Nat → Int) (v w : Nat) : Prop := ∃ i j : Nat, (i = 0 ∨ i = 2) ∧ (j = 0 ∨ j = 2) ∧ f v (1 + i) = f w (1 + j) ∧ f v (2 + i) = f w (2 + j)
/-- a name's node on a sheet -/
def jNn (t : Nat) (n : Int) : Nat := 3520 + (if n ≥ 900 then 0 else 1000 * t) + n.toNat
/-- two wires joined on sheet t -/
def jWw (d : JdS) (t v w : Nat) : Prop := dW d v 0 = dbs d t ∧ dW d w 0 = dbs d t ∧ (jEn (dW d) v w ∨ ∃ j, j < dnj d ∧ dJ d j 0 = dbs d t ∧ jTh (dW d) v (dJ d j 1) (dJ d j 2) ∧ jTh (dW d) w (dJ d j 1) (dJ d j 2))
/-- what lies at a place of sheet t, as a node: a wire, a label, a terminal -/
def jAt (d : JdS) (t : Nat) (x y : Int) (b : Nat) : Prop := (∃ w, w < dnw d ∧ dW d w 0 = dbs d t ∧ jTh (dW d) w x y ∧ b = 16 * w + t) ∨ (∃ l, l < dnl d ∧ dL d l 0 = dbs d t ∧ dL d l 1 = x ∧ dL d l 2 = y ∧ b = 1600 + 16 * l + t) ∨
  (∃ p, p < dnt d ∧ dT d p 0 = dbs d t ∧ dT d p 1 = x ∧ dT d p 2 = y ∧ b = 2560 + 16 * p + t)
/-- what is joined on sheet t -/
def jEt (d : JdS) (t a b : Nat) : Prop := (∃ v w, v < dnw d ∧ w < v ∧ jWw d t v w ∧ a = 16 * v + t ∧ b = 16 * w + t) ∨
  (∃ l, l < dnl d ∧ dL d l 0 = dbs d t ∧ a = 1600 + 16 * l + t ∧ (jAt d t (dL d l 1) (dL d l 2) b ∨ b = jNn t (dL d l 3))) ∨ (∃ p, p < dnt d ∧ dT d p 0 = dbs d t ∧ a = 2560 + 16 * p + t ∧ jAt d t (dT d p 1) (dT d p 2) b)
/-- what is joined by ports -/
def jEp (d : JdS) (q a b : Nat) : Prop := a = 1600 + 16 * (dP d q 0).toNat + (dP d q 1).toNat ∧ b = jNn (dpr d (dP d q 1).toNat).toNat (dL d (dP d q 0).toNat 3)
def jE (d : JdS) (a b : Nat) : Prop := (∃ t, t < dns d ∧ jEt d t a b) ∨ ∃ q, q < dnp d ∧ jEp d q a b
/-- what holds of each drawing -/
def jFar (x : Int) : Prop := -1000000000 ≤ x ∧ x ≤ 1000000000
def jGd (d : JdS) : Prop := (dns d ≤ 16 ∧ dnw d ≤ 100 ∧ dnj d ≤ 50 ∧ dnl d ≤ 60 ∧ dnp d ≤ 30 ∧ dnt d ≤ 60) ∧ (∀ t, t < dns d → dbs d t ≤ t ∧ dbs d (dbs d t) = dbs d t ∧ -1 ≤ dpr d t ∧ dpr d t < t) ∧
  (∀ w, w < dnw d → (0 ≤ dW d w 0 ∧ dW d w 0 < dns d ∧ dbs d (dW d w 0).toNat = dW d w 0) ∧ ∀ i, 1 ≤ i → i ≤ 4 → jFar (dW d w i)) ∧ (∀ j, j < dnj d → (0 ≤ dJ d j 0 ∧ dJ d j 0 < dns d) ∧ jFar (dJ d j 1) ∧ jFar (dJ d j 2)) ∧
  (∀ l, l < dnl d → (0 ≤ dL d l 0 ∧ dL d l 0 < dns d ∧ dbs d (dL d l 0).toNat = dL d l 0) ∧ jFar (dL d l 1) ∧ jFar (dL d l 2) ∧ 0 ≤ dL d l 3 ∧ dL d l 3 < 1000) ∧
  (∀ q, q < dnp d → (0 ≤ dP d q 0 ∧ dP d q 0 < dnl d) ∧ (0 ≤ dP d q 1 ∧ dP d q 1 < dns d) ∧ dL d (dP d q 0).toNat 0 = dbs d (dP d q 1).toNat ∧ 0 ≤ dpr d (dP d q 1).toNat) ∧
  (∀ p, p < dnt d → (0 ≤ dT d p 0 ∧ dT d p 0 < dns d ∧ dbs d (dT d p 0).toNat = dT d p 0) ∧ jFar (dT d p 1) ∧ jFar (dT d p 2))
theorem jNn_b {t : Nat} {n : Int} (ht : t < 16) (hn : 0 ≤ n ∧ n < 1000) : 3520 ≤ jNn t n ∧ jNn t n < 19520 := by
  unfold jNn
  split <;> omega
theorem jAt_b {d : JdS} {t b : Nat} {x y : Int} (h : jGd d) (ht : t < 16) (hb : jAt d t x y b) : b < 3520 := by
  obtain ⟨⟨g1, g2, g3, g4, g5, g6⟩, -⟩ := h
  rcases hb with ⟨w, h1, -, -, h2⟩ | ⟨l, h1, -, -, -, h2⟩ | ⟨p, h1, -, -, -, h2⟩ <;> omega
theorem jE_b {d : JdS} {a b : Nat} (h : jGd d) (hE : jE d a b) : a < 19520 ∧ b < 19520 := by
  obtain ⟨⟨g1, g2, g3, g4, g5, g6⟩, gs, gw, gj, gl, gp, gt⟩ := id h
  rcases hE with ⟨t, ht, h1⟩ | ⟨q, hq, h1, h2⟩
  · rcases h1 with ⟨v, w, k1, k2, k3, k4, k5⟩ | ⟨l, k1, k2, k3, k4⟩ | ⟨p, k1, k2, k3, k4⟩
    · omega
    · refine ⟨by omega, ?_⟩
      rcases k4 with k4 | k4
      · have := jAt_b h (by omega) k4
        omega
      · rw [k4]
        have w := (gl l k1).2.2.2
        exact (jNn_b (by omega) w).2
    · have := jAt_b h (by omega) k4
      omega
  · obtain ⟨a1, a2, a3, a4⟩ := gp q hq
    have w := (gl (dP d q 0).toNat (by omega)).2.2.2
    have w2 := gs (dP d q 1).toNat (by omega)
    have w3 := jNn_b (t := (dpr d (dP d q 1).toNat).toNat) (by omega) w
    omega
/-- the copies of what lies on a drawn sheet: which sheet the o-th one is on -/
def jCp (f : Nat → Nat) (b : Int) : Nat → Nat → Nat → Int
  | 0, _, _ => -1
  | n + 1, t, o => if (f t : Int) = b then (if o = 0 then (t : Int) else jCp f b n (t + 1) (o - 1)) else jCp f b n (t + 1) o
/-- how many of the first t sheets have a base -/
def jNc (f : Nat → Nat) (b : Int) : Nat → Nat
  | 0 => 0
  | t + 1 => jNc f b t + if (f t : Int) = b then 1 else 0
theorem jNc_le (f : Nat → Nat) (b : Int) : ∀ t, jNc f b t ≤ t
  | 0 => Nat.le_refl 0
  | t + 1 => by
    have h := jNc_le f b t
    unfold jNc
    split <;> omega
theorem jNc_m {f : Nat → Nat} {b : Int} {s : Nat} : ∀ {t : Nat}, s ≤ t → jNc f b s ≤ jNc f b t
  | 0, h => by rw [show s = 0 by omega]; exact Nat.le_refl _
  | t + 1, h => by
    by_cases e : s = t + 1
    · rw [e]; exact Nat.le_refl _
    · exact Nat.le_trans (jNc_m (show s ≤ t by omega)) (Nat.le_add_right _ _)
/-- the o-th copy is on sheet t -/
def jOn (d : JdS) (b : Int) (o t : Nat) : Prop := t < dns d ∧ (dbs d t : Int) = b ∧ jNc (dbs d) b t = o
theorem jOn_1 {d : JdS} {b : Int} {o t u : Nat} (h : jOn d b o t) (g : jOn d b o u) : t = u := by
  obtain ⟨h1, h2, h3⟩ := h
  obtain ⟨g1, g2, g3⟩ := g
  have key : ∀ {p q : Nat}, (dbs d p : Int) = b → p < q → jNc (dbs d) b p + 1 ≤ jNc (dbs d) b q := fun {p q} e hpq => by
    have w : jNc (dbs d) b (p + 1) ≤ jNc (dbs d) b q := jNc_m hpq
    have w2 : jNc (dbs d) b (p + 1) = jNc (dbs d) b p + 1 := by
      show jNc (dbs d) b p + (if (dbs d p : Int) = b then 1 else 0) = _
      rw [if_pos e]
    omega
  rcases Nat.lt_trichotomy t u with w | w | w
  · have := key h2 w
    omega
  · exact w
  · have := key g2 w
    omega
theorem jOn_ex {d : JdS} {b : Int} {o : Nat} : ∀ {n : Nat}, n ≤ dns d → o < jNc (dbs d) b n → ∃ t, t < n ∧ jOn d b o t
  | 0, _, h => absurd h (Nat.not_lt_zero o)
  | n + 1, hn, h => by
    rcases Nat.lt_or_ge o (jNc (dbs d) b n) with q | q
    · obtain ⟨t, h1, h2⟩ := jOn_ex (by omega) q
      exact ⟨t, by omega, h2⟩
    · unfold jNc at h
      by_cases e : (dbs d n : Int) = b
      · rw [if_pos e] at h
        exact ⟨n, Nat.lt_succ_self n, by omega, e, by omega⟩
      · rw [if_neg e] at h
        omega
theorem jOn_lt {d : JdS} {b : Int} {o t : Nat} (h : jOn d b o t) : o < jNc (dbs d) b (dns d) := by
  obtain ⟨h1, h2, h3⟩ := h
  have w : jNc (dbs d) b (t + 1) ≤ jNc (dbs d) b (dns d) := jNc_m h1
  have w2 : jNc (dbs d) b (t + 1) = jNc (dbs d) b t + 1 := by
    show jNc (dbs d) b t + (if (dbs d t : Int) = b then 1 else 0) = _
    rw [if_pos h2]
  omega
/-- the drawing as the reference's object at k holds it: without its nets -/
def zNJ (k : Nat) (d : JdS) (I L : ZI) : Prop := (I k 1 = dns d ∧ I k 4 = dnw d ∧ I k 8 = dnj d ∧ I k 11 = dnl d ∧ I k 15 = dnt d ∧ I k 20 = dnp d ∧ I k 22 = 0) ∧ (∀ t : Nat, t < dns d → I (k + 1) t = dpr d t ∧ I (k + 2) t = dbs d t) ∧
  (∀ w : Nat, w < dnw d → I (k + 3) w = dW d w 0 ∧ ∀ i : Nat, i < 4 → L (k + 4) (4 * w + i) = dW d w (i + 1)) ∧ (∀ w : Nat, w < 100 → I (k + 5) w = 0) ∧ (∀ j : Nat, j < dnj d → I (k + 6) j = dJ d j 0 ∧ L (k + 7) (2 * j) = dJ d j 1 ∧ L (k + 7) (2 * j + 1) = dJ d j 2) ∧
  (∀ l : Nat, l < dnl d → I (k + 8) l = dL d l 0 ∧ I (k + 9) l = dL d l 3 ∧ L (k + 10) (2 * l) = dL d l 1 ∧ L (k + 10) (2 * l + 1) = dL d l 2) ∧ (∀ p : Nat, p < dnt d → I (k + 11) p = dT d p 0 ∧ I (k + 12) p = dT d p 3 ∧ L (k + 13) (2 * p) = dT d p 1 ∧ L (k + 13) (2 * p + 1) = dT d p 2) ∧
  (∀ p : Nat, p < 60 → I (k + 14) p = 0) ∧ (∀ q : Nat, q < dnp d → I (k + 15) (3 * q) = dP d q 1 ∧ I (k + 15) (3 * q + 1) = dP d q 0 ∧ I (k + 15) (3 * q + 2) = dL d (dP d q 0).toNat 3) ∧ ∀ n : Nat, n < 1000 → I (k + 17) n = 0
theorem zNJ_fr {k : Nat} {d : JdS} {I L I' L' : ZI} (h : zNJ k d I L) (hf : ∀ c j : Nat, (k ≤ c ∧ c ≤ k + 17) ∧ ¬ (c = k ∧ (j = 0 ∨ 29 ≤ j)) → I' c j = I c j) (hl : ∀ c j : Nat, k ≤ c ∧ c ≤ k + 17 → L' c j = L c j) : zNJ k d I' L' := by
  obtain ⟨⟨a1, a2, a3, a4, a5, a6, a7⟩, h2, h3, h4, h5, h6, h7, h8, h9, h10⟩ := h
  exact ⟨⟨(hf k 1 (by omega)).trans a1, (hf k 4 (by omega)).trans a2, (hf k 8 (by omega)).trans a3, (hf k 11 (by omega)).trans a4, (hf k 15 (by omega)).trans a5, (hf k 20 (by omega)).trans a6, (hf k 22 (by omega)).trans a7⟩,
    fun t ht => ⟨(hf (k + 1) t (by omega)).trans (h2 t ht).1, (hf (k + 2) t (by omega)).trans (h2 t ht).2⟩, fun w hw => ⟨(hf (k + 3) w (by omega)).trans (h3 w hw).1, fun i hi => (hl (k + 4) _ (by omega)).trans ((h3 w hw).2 i hi)⟩,
    fun w hw => (hf (k + 5) w (by omega)).trans (h4 w hw), fun j hj => ⟨(hf (k + 6) j (by omega)).trans (h5 j hj).1, (hl (k + 7) _ (by omega)).trans (h5 j hj).2.1, (hl (k + 7) _ (by omega)).trans (h5 j hj).2.2⟩,
    fun l hl' => ⟨(hf (k + 8) l (by omega)).trans (h6 l hl').1, (hf (k + 9) l (by omega)).trans (h6 l hl').2.1, (hl (k + 10) _ (by omega)).trans (h6 l hl').2.2.1, (hl (k + 10) _ (by omega)).trans (h6 l hl').2.2.2⟩,
    fun p hp => ⟨(hf (k + 11) p (by omega)).trans (h7 p hp).1, (hf (k + 12) p (by omega)).trans (h7 p hp).2.1, (hl (k + 13) _ (by omega)).trans (h7 p hp).2.2.1, (hl (k + 13) _ (by omega)).trans (h7 p hp).2.2.2⟩,
    fun p hp => (hf (k + 14) p (by omega)).trans (h8 p hp), fun q hq => ⟨(hf (k + 15) _ (by omega)).trans (h9 q hq).1, (hf (k + 15) _ (by omega)).trans (h9 q hq).2.1, (hf (k + 15) _ (by omega)).trans (h9 q hq).2.2⟩, fun n hn => (hf (k + 17) n (by omega)).trans (h10 n hn)⟩
/-- a forest that tells what is joined -/
def zJF (c : Nat) (E : Nat → Nat → Prop) (I : ZI) : Prop := ∃ rt : Nat → Nat, zUF c 19520 rt I ∧ jR 19520 E rt ∧ ∀ x y, E x y → x < 19520 ∧ y < 19520
theorem zJF_fr {c : Nat} {E : Nat → Nat → Prop} {I I' : ZI} (h : zJF c E I) (hf : ∀ d j : Nat, d = c → I' d j = I d j) : zJF c E I' := by
  obtain ⟨rt, h1, h2, h3⟩ := h
  exact ⟨rt, zUF_fr h1 hf, h2, h3⟩
theorem zJF_0 {c : Nat} {I : ZI} (h : ∀ n : Nat, n < 19520 → I c n = n) : zJF c (fun _ _ => False) I := ⟨fun n => n, zUF_id h, jR_id (fun _ _ q => q), fun _ _ q => q.elim⟩
theorem zJF_join {c : Nat} {E : Nat → Nat → Prop} {rt : Nat → Nat} {I I' : ZI} {a b : Nat} (h1 : zUF c 19520 rt I) (h2 : jR 19520 E rt) (h3 : ∀ x y, E x y → x < 19520 ∧ y < 19520) (ha : a < 19520) (hb : b < 19520) (hm : I' c (max (rt a) (rt b)) = (min (rt a) (rt b) : Nat))
    (hx : ∀ n : Nat, n < 19520 → n ≠ max (rt a) (rt b) → I' c n = I c n ∨ (I' c n = (min (rt a) (rt b) : Nat) ∧ (n = a ∨ n = b))) : zJF c (jAd E a b) I' :=
  ⟨jU rt a b, zUF_join h1 ha hb hm hx, jR_join h2 ha hb h3 (fun n hn => ⟨zUF_rt h1 hn, (h1 n hn).2.2.1⟩), fun x y q => by
    rcases q with q | q
    · exact h3 x y q
    · omega⟩
theorem jMb {a b A B : Int} (h1 : -A ≤ a) (h2 : a ≤ A) (h3 : -B ≤ b) (h4 : b ≤ B) : -(A * B) ≤ a * b ∧ a * b ≤ A * B := by
  have k1 := Int.mul_nonneg (a := A - a) (b := B + b) (by omega) (by omega)
  have k2 := Int.mul_nonneg (a := A + a) (b := B - b) (by omega) (by omega)
  have k3 := Int.mul_nonneg (a := A - a) (b := B - b) (by omega) (by omega)
  have k4 := Int.mul_nonneg (a := A + a) (b := B + b) (by omega) (by omega)
  rw [Int.sub_mul, Int.mul_add, Int.mul_add] at k1
  rw [Int.add_mul, Int.mul_sub, Int.mul_sub] at k2
  rw [Int.sub_mul, Int.mul_sub, Int.mul_sub] at k3
  rw [Int.add_mul, Int.mul_add, Int.mul_add] at k4
  constructor <;> omega
/-- two wires, as far as the first k junctions tell -/
def jWk (d : JdS) (t v w k : Nat) : Prop := jEn (dW d) v w ∨ ∃ j, j < k ∧ dJ d j 0 = dbs d t ∧ jTh (dW d) v (dJ d j 1) (dJ d j 2) ∧ jTh (dW d) w (dJ d j 1) (dJ d j 2)
theorem jWk_0 {d : JdS} {t v w : Nat} (h : ¬ jEn (dW d) v w) : ¬ jWk d t v w 0 := fun q => by
  rcases q with q | ⟨j, q, -⟩
  · exact h q
  · exact absurd q (Nat.not_lt_zero j)
theorem jWk_n {d : JdS} {t v w k : Nat} (h : ¬ jWk d t v w k) (h2 : ¬ (dJ d k 0 = dbs d t ∧ jTh (dW d) v (dJ d k 1) (dJ d k 2) ∧ jTh (dW d) w (dJ d k 1) (dJ d k 2))) : ¬ jWk d t v w (k + 1) := fun q => by
  rcases q with q | ⟨j, q, q2⟩
  · exact h (Or.inl q)
  · by_cases e : j = k
    · rw [e] at q2; exact h2 q2
    · exact h (Or.inr ⟨j, by omega, q2⟩)
/-- what is done of a sheet's wires -/
def jDw (d : JdS) (t : Nat) (E : Nat → Nat → Prop) (i j : Nat) : Prop := ∀ v w, v < dnw d → w < v → (v < i ∨ (v = i ∧ w < j)) → jWw d t v w → E (16 * v + t) (16 * w + t)
theorem jDw_0 {d : JdS} {t : Nat} {E : Nat → Nat → Prop} : jDw d t E 0 0 := fun v w _ _ q => by omega
theorem jDw_i {d : JdS} {t i j : Nat} {E : Nat → Nat → Prop} (h : jDw d t E i j) (hj : i ≤ j) : jDw d t E (i + 1) 0 := fun v w h1 h2 q => h v w h1 h2 (by omega)
theorem jDw_j {d : JdS} {t i j : Nat} {E : Nat → Nat → Prop} (h : jDw d t E i j) (hn : ¬ jWw d t i j) : jDw d t E i (j + 1) := fun v w h1 h2 q k => by
  by_cases e : v = i ∧ w = j
  · rw [e.1, e.2] at k; exact absurd k hn
  · exact h v w h1 h2 (by omega) k
theorem jDw_a {d : JdS} {t i j : Nat} {E : Nat → Nat → Prop} (h : jDw d t E i j) : jDw d t (jAd E (16 * i + t) (16 * j + t)) i (j + 1) := fun v w h1 h2 q k => by
  by_cases e : v = i ∧ w = j
  · rw [e.1, e.2]; exact Or.inr ⟨rfl, rfl⟩
  · exact Or.inl (h v w h1 h2 (by omega) k)
/-- E grew, by what is joined on sheet t alone -/
def jGr (d : JdS) (t : Nat) (E F : Nat → Nat → Prop) : Prop := (∀ x y, E x y → F x y) ∧ ∀ x y, F x y → E x y ∨ jEt d t x y
theorem jGr_r {d : JdS} {t : Nat} {E : Nat → Nat → Prop} : jGr d t E E := ⟨fun _ _ q => q, fun _ _ q => Or.inl q⟩
theorem jGr_a {d : JdS} {t a b : Nat} {E F : Nat → Nat → Prop} (h : jGr d t E F) (hn : jEt d t a b) : jGr d t E (jAd F a b) := ⟨fun x y q => Or.inl (h.1 x y q), fun x y q => by
  rcases q with q | q
  · exact h.2 x y q
  · rw [q.1, q.2]; exact Or.inr hn⟩
theorem jGr_t {d : JdS} {t : Nat} {E F G : Nat → Nat → Prop} (h : jGr d t E F) (g : jGr d t F G) : jGr d t E G := ⟨fun x y q => g.1 x y (h.1 x y q), fun x y q => by
  rcases g.2 x y q with q | q
  · exact h.2 x y q
  · exact Or.inr q⟩
/-- the state of joining wires -/
def zSw (c : Nat) (d : JdS) (t : Nat) (E : Nat → Nat → Prop) (i j : Nat) (I : ZI) : Prop := ∃ F, zJF c F I ∧ jGr d t E F ∧ jDw d t F i j
theorem zSw_fr {c : Nat} {d : JdS} {t : Nat} {E : Nat → Nat → Prop} {i j : Nat} {I I' : ZI} (h : zSw c d t E i j I) (hf : ∀ d j : Nat, d = c → I' d j = I d j) : zSw c d t E i j I' := by
  obtain ⟨F, h1, h2⟩ := h
  exact ⟨F, zJF_fr h1 hf, h2⟩
/-- what lies at a place, of the first wires, labels, terminals -/
def jAq (d : JdS) (t : Nat) (x y : Int) (i l p : Nat) (b : Nat) : Prop := (∃ w, w < i ∧ dW d w 0 = dbs d t ∧ jTh (dW d) w x y ∧ b = 16 * w + t) ∨ (∃ l', l' < l ∧ dL d l' 0 = dbs d t ∧ dL d l' 1 = x ∧ dL d l' 2 = y ∧ b = 1600 + 16 * l' + t) ∨
  (∃ p', p' < p ∧ dT d p' 0 = dbs d t ∧ dT d p' 1 = x ∧ dT d p' 2 = y ∧ b = 2560 + 16 * p' + t)
theorem jAq_at {d : JdS} {t : Nat} {x y : Int} {b : Nat} : jAt d t x y b ↔ jAq d t x y (dnw d) (dnl d) (dnt d) b := Iff.rfl
/-- E grew, by what lies at a place -/
def jGa (d : JdS) (t a : Nat) (x y : Int) (E F : Nat → Nat → Prop) : Prop := (∀ u v, E u v → F u v) ∧ ∀ u v, F u v → E u v ∨ (u = a ∧ jAt d t x y v)
def zSp (c : Nat) (d : JdS) (t a : Nat) (x y : Int) (E : Nat → Nat → Prop) (i l p : Nat) (I : ZI) : Prop := ∃ F, zJF c F I ∧ jGa d t a x y E F ∧ ∀ b, jAq d t x y i l p b → F a b
theorem zSp_fr {c : Nat} {d : JdS} {t a : Nat} {x y : Int} {E : Nat → Nat → Prop} {i l p : Nat} {I I' : ZI} (h : zSp c d t a x y E i l p I) (hf : ∀ d j : Nat, d = c → I' d j = I d j) : zSp c d t a x y E i l p I' := by
  obtain ⟨F, h1, h2⟩ := h
  exact ⟨F, zJF_fr h1 hf, h2⟩
theorem zSp_0 {c : Nat} {d : JdS} {t a : Nat} {x y : Int} {E : Nat → Nat → Prop} {I : ZI} (h : zJF c E I) : zSp c d t a x y E 0 0 0 I := ⟨E, h, ⟨fun _ _ q => q, fun _ _ q => Or.inl q⟩, fun b q => by
  rcases q with ⟨w, q, -⟩ | ⟨w, q, -⟩ | ⟨w, q, -⟩
  · exact absurd q (Nat.not_lt_zero w)
  · exact absurd q (Nat.not_lt_zero w)
  · exact absurd q (Nat.not_lt_zero w)⟩
theorem zSp_n {c : Nat} {d : JdS} {t a : Nat} {x y : Int} {E : Nat → Nat → Prop} {i l p i' l' p' : Nat} {I : ZI} (h : zSp c d t a x y E i l p I) (hn : ∀ b, jAq d t x y i' l' p' b → jAq d t x y i l p b) : zSp c d t a x y E i' l' p' I := by
  obtain ⟨F, h1, h2, h3⟩ := h
  exact ⟨F, h1, h2, fun b q => h3 b (hn b q)⟩
theorem zSp_a {c : Nat} {d : JdS} {t a : Nat} {x y : Int} {E F : Nat → Nat → Prop} {i l p i' l' p' b0 : Nat} {I : ZI} (h : zJF c (jAd F a b0) I) (h2 : jGa d t a x y E F) (h3 : ∀ b, jAq d t x y i l p b → F a b) (hb : jAt d t x y b0) (hn : ∀ b, jAq d t x y i' l' p' b → jAq d t x y i l p b ∨ b = b0) : zSp c d t a x y E i' l' p' I :=
  ⟨jAd F a b0, h, ⟨fun u v q => Or.inl (h2.1 u v q), fun u v q => by
    rcases q with q | q
    · exact h2.2 u v q
    · rw [q.1, q.2]; exact Or.inr ⟨rfl, hb⟩⟩, fun b q => by
    rcases hn b q with w | w
    · exact Or.inl (h3 b w)
    · exact Or.inr ⟨rfl, w⟩⟩
theorem jAq_w {d : JdS} {t : Nat} {x y : Int} {i l p : Nat} (hn : ¬ (dW d i 0 = dbs d t ∧ jTh (dW d) i x y)) : ∀ b, jAq d t x y (i + 1) l p b → jAq d t x y i l p b := fun b q => by
  rcases q with ⟨w, q1, q2, q3, q4⟩ | q
  · by_cases e : w = i
    · rw [e] at q2 q3; exact absurd ⟨q2, q3⟩ hn
    · exact Or.inl ⟨w, by omega, q2, q3, q4⟩
  · exact Or.inr q
theorem jAq_w1 {d : JdS} {t : Nat} {x y : Int} {i l p : Nat} : ∀ b, jAq d t x y (i + 1) l p b → jAq d t x y i l p b ∨ b = 16 * i + t := fun b q => by
  rcases q with ⟨w, q1, q2, q3, q4⟩ | q
  · by_cases e : w = i
    · rw [e] at q4; exact Or.inr q4
    · exact Or.inl (Or.inl ⟨w, by omega, q2, q3, q4⟩)
  · exact Or.inl (Or.inr q)
theorem jAq_l {d : JdS} {t : Nat} {x y : Int} {i l p : Nat} (hn : ¬ (dL d l 0 = dbs d t ∧ dL d l 1 = x ∧ dL d l 2 = y)) : ∀ b, jAq d t x y i (l + 1) p b → jAq d t x y i l p b := fun b q => by
  rcases q with q | ⟨w, q1, q2, q3, q4, q5⟩ | q
  · exact Or.inl q
  · by_cases e : w = l
    · rw [e] at q2 q3 q4; exact absurd ⟨q2, q3, q4⟩ hn
    · exact Or.inr (Or.inl ⟨w, by omega, q2, q3, q4, q5⟩)
  · exact Or.inr (Or.inr q)
theorem jAq_l1 {d : JdS} {t : Nat} {x y : Int} {i l p : Nat} : ∀ b, jAq d t x y i (l + 1) p b → jAq d t x y i l p b ∨ b = 1600 + 16 * l + t := fun b q => by
  rcases q with q | ⟨w, q1, q2, q3, q4, q5⟩ | q
  · exact Or.inl (Or.inl q)
  · by_cases e : w = l
    · rw [e] at q5; exact Or.inr q5
    · exact Or.inl (Or.inr (Or.inl ⟨w, by omega, q2, q3, q4, q5⟩))
  · exact Or.inl (Or.inr (Or.inr q))
theorem jAq_p {d : JdS} {t : Nat} {x y : Int} {i l p : Nat} (hn : ¬ (dT d p 0 = dbs d t ∧ dT d p 1 = x ∧ dT d p 2 = y)) : ∀ b, jAq d t x y i l (p + 1) b → jAq d t x y i l p b := fun b q => by
  rcases q with q | q | ⟨w, q1, q2, q3, q4, q5⟩
  · exact Or.inl q
  · exact Or.inr (Or.inl q)
  · by_cases e : w = p
    · rw [e] at q2 q3 q4; exact absurd ⟨q2, q3, q4⟩ hn
    · exact Or.inr (Or.inr ⟨w, by omega, q2, q3, q4, q5⟩)
theorem jAq_p1 {d : JdS} {t : Nat} {x y : Int} {i l p : Nat} : ∀ b, jAq d t x y i l (p + 1) b → jAq d t x y i l p b ∨ b = 2560 + 16 * p + t := fun b q => by
  rcases q with q | q | ⟨w, q1, q2, q3, q4, q5⟩
  · exact Or.inl (Or.inl q)
  · exact Or.inl (Or.inr (Or.inl q))
  · by_cases e : w = p
    · rw [e] at q5; exact Or.inr q5
    · exact Or.inl (Or.inr (Or.inr ⟨w, by omega, q2, q3, q4, q5⟩))
/-- the state of joining a sheet: its wires, its first labels and terminals -/
def jDl (d : JdS) (t : Nat) (E : Nat → Nat → Prop) (i p : Nat) : Prop := (∀ l, l < i → dL d l 0 = dbs d t → (∀ b, jAt d t (dL d l 1) (dL d l 2) b → E (1600 + 16 * l + t) b) ∧ E (1600 + 16 * l + t) (jNn t (dL d l 3))) ∧ ∀ q, q < p → dT d q 0 = dbs d t → ∀ b, jAt d t (dT d q 1) (dT d q 2) b → E (2560 + 16 * q + t) b
def zSh2 (c : Nat) (d : JdS) (t : Nat) (E : Nat → Nat → Prop) (i p : Nat) (I : ZI) : Prop := ∃ F, zJF c F I ∧ jGr d t E F ∧ jDw d t F (dnw d) 0 ∧ jDl d t F i p
theorem zSh2_fr {c : Nat} {d : JdS} {t : Nat} {E : Nat → Nat → Prop} {i p : Nat} {I I' : ZI} (h : zSh2 c d t E i p I) (hf : ∀ d j : Nat, d = c → I' d j = I d j) : zSh2 c d t E i p I' := by
  obtain ⟨F, h1, h2⟩ := h
  exact ⟨F, zJF_fr h1 hf, h2⟩
theorem jDw_mono {d : JdS} {t i j : Nat} {E F : Nat → Nat → Prop} (h : jDw d t E i j) (g : ∀ x y, E x y → F x y) : jDw d t F i j := fun v w h1 h2 h3 h4 => g _ _ (h v w h1 h2 h3 h4)
theorem jDl_mono {d : JdS} {t i p : Nat} {E F : Nat → Nat → Prop} (h : jDl d t E i p) (g : ∀ x y, E x y → F x y) : jDl d t F i p := ⟨fun l h1 h2 => ⟨fun b hb => g _ _ ((h.1 l h1 h2).1 b hb), g _ _ (h.1 l h1 h2).2⟩, fun q h1 h2 b hb => g _ _ (h.2 q h1 h2 b hb)⟩
theorem jGa_r {d : JdS} {t a : Nat} {x y : Int} {E F : Nat → Nat → Prop} (h : jGa d t a x y E F) (hn : ∀ v, jAt d t x y v → jEt d t a v) : jGr d t E F := ⟨h.1, fun u v q => by
  rcases h.2 u v q with w | w
  · exact Or.inl w
  · rw [w.1]; exact Or.inr (hn v w.2)⟩
/-- all of a sheet joined -/
theorem jEt_all {d : JdS} {t : Nat} {F : Nat → Nat → Prop} (h1 : jDw d t F (dnw d) 0) (h2 : jDl d t F (dnl d) (dnt d)) : ∀ a b, jEt d t a b → F a b := by
  intro a b q
  rcases q with ⟨v, w, k1, k2, k3, k4, k5⟩ | ⟨l, k1, k2, k3, k4⟩ | ⟨p, k1, k2, k3, k4⟩
  · rw [k4, k5]; exact h1 v w k1 k2 (Or.inl k1) k3
  · rw [k3]
    have w := h2.1 l k1 k2
    rcases k4 with k4 | k4
    · exact w.1 b k4
    · rw [k4]; exact w.2
  · rw [k3]; exact h2.2 p k1 k2 b k4
/-- the first sheets, the first ports joined -/
def zSa (c : Nat) (d : JdS) (n q : Nat) (I : ZI) : Prop := ∃ F, zJF c F I ∧ (∀ x y, F x y → jE d x y) ∧ (∀ t, t < n → ∀ a b, jEt d t a b → F a b) ∧ ∀ p, p < q → ∀ a b, jEp d p a b → F a b
theorem zSa_fr {c : Nat} {d : JdS} {n q : Nat} {I I' : ZI} (h : zSa c d n q I) (hf : ∀ d j : Nat, d = c → I' d j = I d j) : zSa c d n q I' := by
  obtain ⟨F, h1, h2⟩ := h
  exact ⟨F, zJF_fr h1 hf, h2⟩
theorem zSa_0 {c : Nat} {d : JdS} {I : ZI} (h : ∀ n : Nat, n < 19520 → I c n = n) : zSa c d 0 0 I := ⟨_, zJF_0 h, fun _ _ q => q.elim, fun t q => absurd q (Nat.not_lt_zero t), fun t q => absurd q (Nat.not_lt_zero t)⟩
theorem zSa_s {c : Nat} {d : JdS} {n : Nat} {E F : Nat → Nat → Prop} {I : ZI} (hF : zJF c F I) (h2 : ∀ x y, E x y → jE d x y) (h3 : ∀ t, t < n → ∀ a b, jEt d t a b → E a b) (hg : jGr d n E F) (hn : n < dns d) (ha : ∀ a b, jEt d n a b → F a b) : zSa c d (n + 1) 0 I :=
  ⟨F, hF, fun x y q => by
    rcases hg.2 x y q with w | w
    · exact h2 x y w
    · exact Or.inl ⟨n, hn, w⟩, fun t ht a b q => by
    by_cases e : t = n
    · rw [e] at q; exact ha a b q
    · exact hg.1 a b (h3 t (by omega) a b q), fun t q => absurd q (Nat.not_lt_zero t)⟩
theorem zSa_p {c : Nat} {d : JdS} {n q a b : Nat} {E : Nat → Nat → Prop} {I : ZI} (hF : zJF c (jAd E a b) I) (h2 : ∀ x y, E x y → jE d x y) (h3 : ∀ t, t < n → ∀ a b, jEt d t a b → E a b) (h4 : ∀ p, p < q → ∀ a b, jEp d p a b → E a b) (hq : q < dnp d) (hE : jEp d q a b) : zSa c d n (q + 1) I :=
  ⟨_, hF, fun x y w => by
    rcases w with w | w
    · exact h2 x y w
    · rw [w.1, w.2]; exact Or.inr ⟨q, hq, hE⟩, fun t ht x y w => Or.inl (h3 t ht x y w), fun p hp x y w => by
    by_cases e : p = q
    · rw [e] at w
      exact Or.inr ⟨w.1.trans hE.1.symm, w.2.trans hE.2.symm⟩
    · exact Or.inl (h4 p (by omega) x y w)⟩
/-- all joined: the forest tells what is joined in the drawing -/
theorem zSa_end {c : Nat} {d : JdS} {I : ZI} (hg : jGd d) (h : zSa c d (dns d) (dnp d) I) : zJF c (jE d) I := by
  obtain ⟨F, ⟨rt, h1, h2, h3⟩, h4, h5, h6⟩ := h
  exact ⟨rt, h1, jR_eq h2 (fun x y q => jCl_e (h4 x y q)) (fun x y q => jCl_e (by
    rcases q with ⟨t, q1, q2⟩ | ⟨p, q1, q2⟩
    · exact h5 t q1 x y q2
    · exact h6 p q1 x y q2)), fun x y q => jE_b hg q⟩
