/-! NETS: names, remarks -/
def jHas (d : JdS) (n m : Nat) : Prop := ∃ l, l < dnl d ∧ dL d l 3 = m ∧ ∃ t, t < dns d ∧ dL d l 0 = dbs d t ∧ ∃ i, i < 960 ∧ jV d i ∧ jNo d i = n ∧ jCl (jE d) (jNd d i) (1600 + 16 * l + t)
noncomputable def jNm (d : JdS) (n : Nat) : Int := if zlow (jHas d n) 1000 = -1 then -1 - (((zlow (fun i => jV d i ∧ jNo d i = n) 960).toNat / 16 : Nat) : Int) else zlow (jHas d n) 1000
noncomputable def jNmI (d : JdS) (n : Int) : Int := if 0 ≤ n ∧ n < zct (jFst d) 960 then jNm d n.toNat else -1000
def jRk (d : JdS) (q : Nat) : Prop := jNm d (q / 1000) ≠ ((q % 1000 : Nat) : Int) ∧ jHas d (q / 1000) (q % 1000)
def jBare (d : JdS) (l : Nat) : Prop := (∀ w, w < dnw d → ¬ (dW d w 0 = dL d l 0 ∧ jTh (dW d) w (dL d l 1) (dL d l 2))) ∧ ∀ p, p < dnt d → ¬ (dT d p 0 = dL d l 0 ∧ dT d p 1 = dL d l 1 ∧ dT d p 2 = dL d l 2)
/-- the k-th one of which something holds -/
noncomputable def zkth (P : Nat → Prop) (n : Nat) (k : Int) : Int := zlow (fun q => P q ∧ zct P q = k) n
theorem zkth_at {P : Nat → Prop} {n q : Nat} {k : Int} (hq : q < n) (h : P q) (hk : zct P q = k) : zkth P n k = q := by
  refine zlow_at (P := fun q => P q ∧ zct P q = k) ⟨h, hk⟩ (fun b hb w => ?_) hq
  have e := zct_t w.1
  have e2 : zct P (b + 1) ≤ zct P q := zct_le2 hb
  omega
theorem zkth_no {P : Nat → Prop} {n : Nat} {k : Int} (hk : (zct P n : Int) ≤ k ∨ k < 0) : zkth P n k = -1 := zlow_no (fun b hb w => by
  have e := zct_t w.1
  have e2 : zct P (b + 1) ≤ zct P n := zct_le2 hb
  omega)
/-- the k-th remark -/
noncomputable def jRm (d : JdS) (k : Int) : Int := if k < 0 then -1 else if k < zct (jRk d) (1000 * zct (jFst d) 960) then zkth (jRk d) (1000 * zct (jFst d) 960) k else if zkth (jBare d) (dnl d) (k - zct (jRk d) (1000 * zct (jFst d) 960)) = -1 then -1 else 100000000 + zkth (jBare d) (dnl d) (k - zct (jRk d) (1000 * zct (jFst d) 960))
/-- of the first labels -/
def jHl (d : JdS) (n m l t : Nat) : Prop := ∃ l' t', (l' < l ∨ (l' = l ∧ t' < t)) ∧ l' < dnl d ∧ dL d l' 3 = m ∧ t' < dns d ∧ dL d l' 0 = dbs d t' ∧ ∃ i, i < 960 ∧ jV d i ∧ jNo d i = n ∧ jCl (jE d) (jNd d i) (1600 + 16 * l' + t')
theorem jHl_end {d : JdS} {n m : Nat} : jHas d n m ↔ jHl d n m (dnl d) 0 := by
  constructor
  · rintro ⟨l, h1, h2, t, h3⟩
    exact ⟨l, t, Or.inl h1, h1, h2, h3⟩
  · rintro ⟨l, t, -, h1, h2, h3⟩
    exact ⟨l, h1, h2, t, h3⟩
theorem jHl_t {d : JdS} {n m l t : Nat} (h : ¬ jHl d n m l t) (hn : ¬ (dL d l 0 = dbs d t ∧ ∃ i, i < 960 ∧ jV d i ∧ jNo d i = n ∧ jCl (jE d) (jNd d i) (1600 + 16 * l + t))) : ¬ jHl d n m l (t + 1) := fun q => by
  obtain ⟨l', t', h1, h2, h3, h4, h5, h6⟩ := q
  by_cases e : l' = l ∧ t' = t
  · obtain ⟨e1, e2⟩ := e
    subst e1 e2
    exact hn ⟨h5, h6⟩
  · exact h ⟨l', t', by omega, h2, h3, h4, h5, h6⟩
theorem jHl_l {d : JdS} {n m l t : Nat} (h : ¬ jHl d n m l t) (ht : dL d l 3 ≠ m ∨ dns d ≤ t) : ¬ jHl d n m (l + 1) 0 := fun q => by
  obtain ⟨l', t', h1, h2, h3, h4, h5, h6⟩ := q
  by_cases e : l' = l
  · subst e
    rcases ht with k | k
    · exact k h3
    · exact h ⟨l', t', by omega, h2, h3, h4, h5, h6⟩
  · exact h ⟨l', t', by omega, h2, h3, h4, h5, h6⟩
theorem jHl_0 {d : JdS} {n m : Nat} : ¬ jHl d n m 0 0 := fun q => by
  obtain ⟨l', t', h1, -⟩ := q
  omega
/-- whose number a root has -/
theorem zNb_n {k : Nat} {d : JdS} {rt : Nat → Nat} {I : ZI} (hg : jGd d) (h : zNb k d rt 960 I) (hR : jR 19520 (jE d) rt) {r x n : Nat} (hx : x < 19520) (hr : rt x = r) (hr2 : r < 19520) : I (k + 19) r = n ↔ ∃ i, i < 960 ∧ jV d i ∧ jNo d i = n ∧ jCl (jE d) (jNd d i) x := by
  rcases h.2.1 r hr2 with ⟨h1, h2⟩ | ⟨i, h1, h2, h3, h4⟩
  · constructor
    · intro q; omega
    · rintro ⟨i, q1, q2, q3, q4⟩
      have b := jNd_lt hg q2
      exact absurd (((hR _ _ (by omega) hx).2 q4).trans hr) (h2 i q1 q2)
  · have b := jNd_lt hg h2
    have c : jCl (jE d) (jNd d i) x := (hR _ _ (by omega) hx).1 (h3.trans hr.symm)
    constructor
    · intro q
      exact ⟨i, h1, h2, by omega, c⟩
    · rintro ⟨j, q1, q2, q3, q4⟩
      have e := jNo_s h2 q2 (jCl_t c (jCl_s q4))
      omega
