/-! DRAWINGS: sheets joined; nets numbered -/
theorem zSh2_0 {c : Nat} {d : JdS} {t : Nat} {E : Nat → Nat → Prop} {I : ZI} (h : zSw c d t E (dnw d) 0 I) : zSh2 c d t E 0 0 I := by
  obtain ⟨F, h1, h2, h3⟩ := h
  exact ⟨F, h1, h2, h3, fun l q => absurd q (Nat.not_lt_zero l), fun l q => absurd q (Nat.not_lt_zero l)⟩
theorem zSh2_l {c : Nat} {d : JdS} {t l : Nat} {E F G : Nat → Nat → Prop} {I : ZI} (hG : zJF c (jAd G (1600 + 16 * l + t) (jNn t (dL d l 3))) I) (hgr : jGr d t E F) (hdw : jDw d t F (dnw d) 0) (hdl : jDl d t F l 0) (hl : l < dnl d) (hs : dL d l 0 = dbs d t)
    (hga : jGa d t (1600 + 16 * l + t) (dL d l 1) (dL d l 2) F G) (hall : ∀ b, jAq d t (dL d l 1) (dL d l 2) (dnw d) (dnl d) (dnt d) b → G (1600 + 16 * l + t) b) : zSh2 c d t E (l + 1) 0 I := by
  have hE : ∀ v, (jAt d t (dL d l 1) (dL d l 2) v ∨ v = jNn t (dL d l 3)) → jEt d t (1600 + 16 * l + t) v := fun v q => Or.inr (Or.inl ⟨l, hl, hs, rfl, q⟩)
  have mo : ∀ x y, F x y → jAd G (1600 + 16 * l + t) (jNn t (dL d l 3)) x y := fun x y q => Or.inl (hga.1 x y q)
  refine ⟨_, hG, jGr_a (jGr_t hgr (jGa_r hga (fun v q => hE v (Or.inl q)))) (hE _ (Or.inr rfl)), jDw_mono hdw mo, fun l' h1 h2 => ?_, fun q h1 => absurd h1 (Nat.not_lt_zero q)⟩
  by_cases e : l' = l
  · rw [e]
    exact ⟨fun b hb => Or.inl (hall b hb), Or.inr ⟨rfl, rfl⟩⟩
  · have w := hdl.1 l' (by omega) h2
    exact ⟨fun b hb => mo _ _ (w.1 b hb), mo _ _ w.2⟩
theorem zSh2_ln {c : Nat} {d : JdS} {t l : Nat} {E : Nat → Nat → Prop} {I : ZI} (h : zSh2 c d t E l 0 I) (hs : dL d l 0 ≠ dbs d t) : zSh2 c d t E (l + 1) 0 I := by
  obtain ⟨F, h1, h2, h3, h4⟩ := h
  refine ⟨F, h1, h2, h3, fun l' k1 k2 => ?_, h4.2⟩
  by_cases e : l' = l
  · rw [e] at k2; exact absurd k2 hs
  · exact h4.1 l' (by omega) k2
theorem zSh2_p {c : Nat} {d : JdS} {t p : Nat} {E F G : Nat → Nat → Prop} {I : ZI} (hG : zJF c G I) (hgr : jGr d t E F) (hdw : jDw d t F (dnw d) 0) (hdl : jDl d t F (dnl d) p) (hp : p < dnt d) (hs : dT d p 0 = dbs d t)
    (hga : jGa d t (2560 + 16 * p + t) (dT d p 1) (dT d p 2) F G) (hall : ∀ b, jAq d t (dT d p 1) (dT d p 2) (dnw d) (dnl d) (dnt d) b → G (2560 + 16 * p + t) b) : zSh2 c d t E (dnl d) (p + 1) I := by
  refine ⟨_, hG, jGr_t hgr (jGa_r hga (fun v q => Or.inr (Or.inr ⟨p, hp, hs, rfl, q⟩))), jDw_mono hdw hga.1, (jDl_mono hdl hga.1).1, fun q h1 h2 b hb => ?_⟩
  by_cases e : q = p
  · rw [e] at hb ⊢
    exact hall b hb
  · exact hga.1 _ _ (hdl.2 q (by omega) h2 b hb)
theorem zSh2_pn {c : Nat} {d : JdS} {t p : Nat} {E : Nat → Nat → Prop} {I : ZI} (h : zSh2 c d t E (dnl d) p I) (hs : dT d p 0 ≠ dbs d t) : zSh2 c d t E (dnl d) (p + 1) I := by
  obtain ⟨F, h1, h2, h3, h4⟩ := h
  refine ⟨F, h1, h2, h3, h4.1, fun l' k1 k2 => ?_⟩
  by_cases e : l' = p
  · rw [e] at k2; exact absurd k2 hs
  · exact h4.2 l' (by omega) k2
/-- the sheet of a terminal's o-th copy -/
theorem jCp_sp {f : Nat → Nat} {b : Int} : ∀ (n t o : Nat), (jCp f b n t o = -1 ∧ jNc f b (t + n) ≤ jNc f b t + o) ∨ ∃ u : Nat, jCp f b n t o = u ∧ t ≤ u ∧ u < t + n ∧ (f u : Int) = b ∧ jNc f b u = jNc f b t + o
  | 0, t, o => Or.inl ⟨rfl, by rw [Nat.add_zero]; omega⟩
  | n + 1, t, o => by
    have e : jCp f b (n + 1) t o = if (f t : Int) = b then (if o = 0 then (t : Int) else jCp f b n (t + 1) (o - 1)) else jCp f b n (t + 1) o := rfl
    have e2 : jNc f b (t + 1) = jNc f b t + if (f t : Int) = b then 1 else 0 := rfl
    rw [e, show t + (n + 1) = t + 1 + n by omega]
    by_cases q : (f t : Int) = b
    · rw [if_pos q] at e2 ⊢
      by_cases q2 : o = 0
      · rw [if_pos q2]
        exact Or.inr ⟨t, rfl, Nat.le_refl t, by omega, q, by omega⟩
      · rw [if_neg q2]
        rcases jCp_sp n (t + 1) (o - 1) with ⟨w1, w2⟩ | ⟨u, w1, w2, w3, w4, w5⟩
        · exact Or.inl ⟨w1, by omega⟩
        · exact Or.inr ⟨u, w1, by omega, w3, w4, by omega⟩
    · rw [if_neg q] at e2 ⊢
      rcases jCp_sp n (t + 1) o with ⟨w1, w2⟩ | ⟨u, w1, w2, w3, w4, w5⟩
      · exact Or.inl ⟨w1, by omega⟩
      · exact Or.inr ⟨u, w1, by omega, w3, w4, by omega⟩
noncomputable def jtt (d : JdS) (i : Nat) : Nat := (jCp (dbs d) (dT d (i / 16) 0) (dns d) 0 (i % 16)).toNat
/-- copies of terminals are numbered 16 * terminal + copy; which there are, their nodes -/
def jV (d : JdS) (i : Nat) : Prop := i / 16 < dnt d ∧ i % 16 < jNc (dbs d) (dT d (i / 16) 0) (dns d)
noncomputable def jNd (d : JdS) (i : Nat) : Nat := 2560 + 16 * (i / 16) + jtt d i
theorem jV_sp {d : JdS} {i : Nat} (h : jV d i) : jOn d (dT d (i / 16) 0) (i % 16) (jtt d i) := by
  unfold jtt
  rcases jCp_sp (f := dbs d) (b := dT d (i / 16) 0) (dns d) 0 (i % 16) with ⟨w1, w2⟩ | ⟨u, w1, w2, w3, w4, w5⟩
  · rw [Nat.zero_add] at w2
    have e : jNc (dbs d) (dT d (i / 16) 0) 0 = 0 := rfl
    have := h.2
    omega
  · rw [w1]
    have e : jNc (dbs d) (dT d (i / 16) 0) 0 = 0 := rfl
    exact ⟨by show u < dns d; omega, w4, by show jNc (dbs d) _ u = _; omega⟩
theorem jV_of {d : JdS} {p o t : Nat} (hp : p < dnt d) (h : jOn d (dT d p 0) o t) (ho : o < 16) : jV d (16 * p + o) ∧ jtt d (16 * p + o) = t := by
  have e1 : (16 * p + o) / 16 = p := by omega
  have e2 : (16 * p + o) % 16 = o := by omega
  have hv : jV d (16 * p + o) := by
    unfold jV
    rw [e1, e2]
    exact ⟨hp, jOn_lt h⟩
  have w := jV_sp hv
  rw [e1, e2] at w
  exact ⟨hv, jOn_1 w h⟩
def jS (d : JdS) (i i' : Nat) : Prop := jCl (jE d) (jNd d i) (jNd d i')
def jFst (d : JdS) (i : Nat) : Prop := jV d i ∧ ∀ i', i' < i → jV d i' → ¬ jS d i' i
noncomputable def jLd (d : JdS) (i : Nat) : Nat := (zmin (fun i' => jV d i' ∧ jS d i' i)).toNat
/-- a net's number -/
noncomputable def jNo (d : JdS) (i : Nat) : Nat := zct (jFst d) (jLd d i)
theorem jLd_sp {d : JdS} {i : Nat} (h : jV d i) : jV d (jLd d i) ∧ jS d (jLd d i) i ∧ jLd d i ≤ i ∧ ∀ i', jV d i' → jS d i' i → jLd d i ≤ i' := by
  have w := zmin_sp (P := fun i' => jV d i' ∧ jS d i' i) (k := i) ⟨h, jCl_r⟩
  refine ⟨w.2.2.1, w.2.2.2, by unfold jLd; omega, fun i' h1 h2 => ?_⟩
  have w2 := zmin_sp (P := fun i' => jV d i' ∧ jS d i' i) (k := i') ⟨h1, h2⟩
  unfold jLd
  omega
theorem jNo_f {d : JdS} {i : Nat} (h : jFst d i) : jNo d i = zct (jFst d) i := by
  have w := jLd_sp h.1
  unfold jNo
  have e : jLd d i = i := by
    rcases Nat.lt_or_ge (jLd d i) i with q | q
    · exact absurd w.2.1 (h.2 _ q w.1)
    · omega
  rw [e]
theorem jNo_s {d : JdS} {i i' : Nat} (h : jV d i) (h' : jV d i') (hs : jS d i i') : jNo d i = jNo d i' := by
  have w := jLd_sp h
  have w' := jLd_sp h'
  have e : jLd d i = jLd d i' := by
    have a := w.2.2.2 (jLd d i') w'.1 (jCl_t w'.2.1 (jCl_s hs))
    have b := w'.2.2.2 (jLd d i) w.1 (jCl_t w.2.1 hs)
    omega
  unfold jNo
  rw [e]
theorem zct_t {P : Nat → Prop} {k : Nat} (h : P k) : zct P (k + 1) = zct P k + 1 := by
  show zct P k + zite (P k) 1 0 = _
  rw [zite_t h]
theorem zct_f {P : Nat → Prop} {k : Nat} (h : ¬ P k) : zct P (k + 1) = zct P k := by
  show zct P k + zite (P k) 1 0 = _
  rw [zite_f h]
  rfl
theorem zct_k {P : Nat → Prop} {a : Nat} : ∀ {b : Nat}, a ≤ b → (∀ i, a ≤ i → i < b → ¬ P i) → zct P b = zct P a
  | 0, h, _ => by rw [show a = 0 by omega]
  | b + 1, h, hn => by
    by_cases e : a = b + 1
    · rw [e]
    · rw [zct_f (hn b (by omega) (by omega)), zct_k (by omega) (fun i h1 h2 => hn i h1 (by omega))]
theorem zct_le2 {P : Nat → Prop} {a : Nat} : ∀ {b : Nat}, a ≤ b → zct P a ≤ zct P b
  | 0, h => by rw [show a = 0 by omega]; exact Nat.le_refl _
  | b + 1, h => by
    by_cases e : a = b + 1
    · rw [e]; exact Nat.le_refl _
    · refine Nat.le_trans (zct_le2 (show a ≤ b by omega)) ?_
      show zct P b ≤ zct P b + _
      omega
/-- a first one counts -/
theorem jNo_lt {d : JdS} {i n : Nat} (h : jV d i) (hi : i < n) : jNo d i < zct (jFst d) n := by
  have w := jLd_sp h
  have hf : jFst d (jLd d i) := ⟨w.1, fun i' h1 h2 h3 => by
    have := w.2.2.2 i' h2 (jCl_t h3 w.2.1)
    omega⟩
  have e := zct_t hf
  have e2 : zct (jFst d) (jLd d i + 1) ≤ zct (jFst d) n := zct_le2 (by omega)
  unfold jNo
  omega
/-- each number is a first one's -/
theorem jNo_ex {d : JdS} {m : Nat} : ∀ {n : Nat}, m < zct (jFst d) n → ∃ i, i < n ∧ jFst d i ∧ jNo d i = m
  | 0, h => absurd h (Nat.not_lt_zero m)
  | n + 1, h => by
    rcases Nat.lt_or_ge m (zct (jFst d) n) with q | q
    · obtain ⟨i, h1, h2⟩ := jNo_ex q
      exact ⟨i, by omega, h2⟩
    · by_cases e : jFst d n
      · rw [zct_t e] at h
        exact ⟨n, Nat.lt_succ_self n, e, by rw [jNo_f e]; omega⟩
      · rw [zct_f e] at h
        omega
/-- nets, as far as numbered: roots' numbers, copies' numbers -/
def zNb (k : Nat) (d : JdS) (rt : Nat → Nat) (n : Nat) (I : ZI) : Prop := I k 29 = zct (jFst d) n ∧ (∀ r : Nat, r < 19520 → (I (k + 19) r = -1 ∧ ∀ i, i < n → jV d i → rt (jNd d i) ≠ r) ∨ ∃ i, i < n ∧ jV d i ∧ rt (jNd d i) = r ∧ I (k + 19) r = jNo d i) ∧
  (∀ i : Nat, i < n → jV d i → I (k + 20) (16 * (i / 16) + jtt d i) = jNo d i) ∧ ∀ j : Nat, j < 960 → I (k + 20) j = -1 ∨ ∃ i, i < n ∧ jV d i ∧ j = 16 * (i / 16) + jtt d i
theorem zNb_fr {k : Nat} {d : JdS} {rt : Nat → Nat} {n : Nat} {I I' : ZI} (h : zNb k d rt n I) (hf : ∀ c j : Nat, (c = k ∧ j = 29) ∨ c = k + 19 ∨ c = k + 20 → I' c j = I c j) : zNb k d rt n I' := by
  obtain ⟨h1, h2, h3, h4⟩ := h
  refine ⟨(hf k 29 (by omega)).trans h1, fun r hr => ?_, fun i hi hv => (hf (k + 20) _ (by omega)).trans (h3 i hi hv), fun j hj => ?_⟩
  · rw [hf (k + 19) r (by omega)]
    exact h2 r hr
  · rw [hf (k + 20) j (by omega)]
    exact h4 j hj
theorem zNb_0 {k : Nat} {d : JdS} {rt : Nat → Nat} {I : ZI} (h1 : I k 29 = 0) (h2 : ∀ r : Nat, r < 19520 → I (k + 19) r = -1) (h3 : ∀ j : Nat, j < 960 → I (k + 20) j = -1) : zNb k d rt 0 I := ⟨h1, fun r hr => Or.inl ⟨h2 r hr, fun i q => absurd q (Nat.not_lt_zero i)⟩, fun i q => absurd q (Nat.not_lt_zero i), fun j hj => Or.inl (h3 j hj)⟩
/-- what is no copy is passed -/
theorem zNb_sk {k : Nat} {d : JdS} {rt : Nat → Nat} {n m : Nat} {I : ZI} (h : zNb k d rt n I) (hnm : n ≤ m) (hv : ∀ i, n ≤ i → i < m → ¬ jV d i) : zNb k d rt m I := by
  obtain ⟨h1, h2, h3, h4⟩ := h
  have key : ∀ i, i < m → jV d i → i < n := fun i q1 q2 => Classical.byContradiction (fun q => hv i (by omega) q1 q2)
  refine ⟨h1.trans (by rw [zct_k hnm (fun i q1 q2 q3 => hv i q1 q2 q3.1)]), fun r hr => ?_, fun i hi hvi => h3 i (key i hi hvi) hvi, fun j hj => ?_⟩
  · rcases h2 r hr with ⟨q1, q2⟩ | ⟨i, q1, q2⟩
    · exact Or.inl ⟨q1, fun i hi hvi => q2 i (key i hi hvi) hvi⟩
    · exact Or.inr ⟨i, by omega, q2⟩
  · rcases h4 j hj with q | ⟨i, q1, q2⟩
    · exact Or.inl q
    · exact Or.inr ⟨i, by omega, q2⟩
theorem jNd_lt {d : JdS} (hg : jGd d) {i : Nat} (h : jV d i) : jNd d i < 3520 ∧ 2560 ≤ jNd d i ∧ 16 * (i / 16) + jtt d i < 960 ∧ jtt d i < 16 := by
  have w := jV_sp h
  have w1 : jtt d i < dns d := w.1
  have w2 : i / 16 < dnt d := h.1
  have g1 := hg.1.1
  have g2 := hg.1.2.2.2.2.2
  unfold jNd
  omega
/-- one numbered -/
theorem zNb_st {k : Nat} {d : JdS} {rt : Nat → Nat} {n : Nat} {I I' : ZI} (hg : jGd d) (h : zNb k d rt n I) (hR : jR 19520 (jE d) rt) (hv : jV d n) (hr : rt (jNd d n) < 19520)
    (hn : (I (k + 19) (rt (jNd d n)) = -1 ∧ I' k 29 = I k 29 + 1 ∧ ∀ r : Nat, I' (k + 19) r = if r = rt (jNd d n) then I k 29 else I (k + 19) r) ∨ (I (k + 19) (rt (jNd d n)) ≠ -1 ∧ I' k 29 = I k 29 ∧ ∀ r : Nat, I' (k + 19) r = I (k + 19) r))
    (h20 : ∀ j : Nat, I' (k + 20) j = if j = 16 * (n / 16) + jtt d n then I' (k + 19) (rt (jNd d n)) else I (k + 20) j) : zNb k d rt (n + 1) I' := by
  obtain ⟨h1, h2, h3, h4⟩ := h
  have hb := jNd_lt hg hv
  have same : ∀ i, jV d i → (rt (jNd d i) = rt (jNd d n) ↔ jS d i n) := fun i hvi => hR _ _ (by have := jNd_lt hg hvi; omega) (by omega)
  have eN : I' (k + 19) (rt (jNd d n)) = jNo d n ∧ I' k 29 = zct (jFst d) (n + 1) ∧ ∀ r : Nat, r < 19520 → r ≠ rt (jNd d n) → I' (k + 19) r = I (k + 19) r := by
    rcases hn with ⟨q1, q2, q3⟩ | ⟨q1, q2, q3⟩
    · have hf : jFst d n := ⟨hv, fun i hi hvi hs => by
        rcases h2 _ hr with ⟨w1, w2⟩ | ⟨i', w1, w2, w3, w4⟩
        · exact w2 i hi hvi ((same i hvi).2 hs)
        · rw [q1] at w4
          omega⟩
      refine ⟨?_, ?_, fun r _ hr2 => ?_⟩
      · rw [q3, if_pos rfl, h1, jNo_f hf]
      · rw [q2, h1, zct_t hf]; rfl
      · rw [q3, if_neg hr2]
    · have hx : ∃ i, i < n ∧ jV d i ∧ jS d i n ∧ I (k + 19) (rt (jNd d n)) = jNo d i := by
        rcases h2 _ hr with ⟨w1, w2⟩ | ⟨i', w1, w2, w3, w4⟩
        · exact absurd w1 q1
        · exact ⟨i', w1, w2, (same i' w2).1 w3, w4⟩
      obtain ⟨i, w1, w2, w3, w4⟩ := hx
      refine ⟨?_, ?_, fun r _ _ => q3 r⟩
      · rw [q3, w4, jNo_s w2 hv w3]
      · rw [q2, h1, zct_f (fun w => w.2 i w1 w2 w3)]
  obtain ⟨e1, e2, e3⟩ := eN
  refine ⟨e2, fun r hr2 => ?_, fun i hi hvi => ?_, fun j hj => ?_⟩
  · by_cases q : r = rt (jNd d n)
    · exact Or.inr ⟨n, Nat.lt_succ_self n, hv, q.symm, by rw [q]; exact e1⟩
    · rw [e3 r hr2 q]
      rcases h2 r hr2 with ⟨w1, w2⟩ | ⟨i, w1, w2⟩
      · refine Or.inl ⟨w1, fun i hi hvi => ?_⟩
        by_cases e : i = n
        · rw [e]; exact fun w => q w.symm
        · exact w2 i (by omega) hvi
      · exact Or.inr ⟨i, by omega, w2⟩
  · rw [h20]
    by_cases e : i = n
    · rw [e, if_pos rfl]; exact e1
    · rw [if_neg (fun w => e (by
        have b1 := jNd_lt hg hvi
        have o1 := jV_sp hvi
        have o2 := jV_sp hv
        have e5 : i / 16 = n / 16 := by omega
        have e6 : jtt d i = jtt d n := by omega
        have e7 := o1.2.2
        have e8 := o2.2.2
        rw [e6, e5] at e7
        omega))]
      exact h3 i (by omega) hvi
  · rw [h20]
    by_cases e : j = 16 * (n / 16) + jtt d n
    · exact Or.inr ⟨n, Nat.lt_succ_self n, hv, e⟩
    · rw [if_neg e]
      rcases h4 j hj with q | ⟨i, q1, q2⟩
      · exact Or.inl q
      · exact Or.inr ⟨i, by omega, q2⟩
theorem jNc_0 {f : Nat → Nat} {b : Nat} (h : ∀ u, u < b → f u ≤ u) : ∀ {t : Nat}, t ≤ b → jNc f b t = 0
  | 0, _ => rfl
  | t + 1, ht => by
    have w := jNc_0 h (t := t) (by omega)
    have w2 := h t (by omega)
    show jNc f b t + (if (f t : Int) = b then 1 else 0) = 0
    rw [w, if_neg (by omega)]
theorem jNc_t {f : Nat → Nat} {b : Int} {t : Nat} (h : (f t : Int) = b) : jNc f b (t + 1) = jNc f b t + 1 := by
  show jNc f b t + (if (f t : Int) = b then 1 else 0) = _
  rw [if_pos h]
theorem jNc_f {f : Nat → Nat} {b : Int} {t : Nat} (h : (f t : Int) ≠ b) : jNc f b (t + 1) = jNc f b t := by
  show jNc f b t + (if (f t : Int) = b then 1 else 0) = _
  rw [if_neg h]
  rfl
/-- all nets known -/
def zJN (k : Nat) (d : JdS) (I : ZI) : Prop := ∃ rt : Nat → Nat, zUF (k + 18) 19520 rt I ∧ jR 19520 (jE d) rt ∧ zNb k d rt 960 I
theorem zJN_fr {k : Nat} {d : JdS} {I I' : ZI} (h : zJN k d I) (hf : ∀ c j : Nat, (c = k ∧ j = 29) ∨ (k + 18 ≤ c ∧ c ≤ k + 20) → I' c j = I c j) : zJN k d I' := by
  obtain ⟨rt, h1, h2, h3⟩ := h
  exact ⟨rt, zUF_fr h1 (fun c j w => hf c j (by omega)), h2, zNb_fr h3 (fun c j w => hf c j (by omega))⟩
/-- the net of a copy, as it is told -/
noncomputable def jOf (d : JdS) (x y : Int) : Int := if (0 ≤ x ∧ x < dnt d) ∧ 0 ≤ y ∧ y < jNc (dbs d) (dT d x.toNat 0) (dns d) then jNo d (16 * x.toNat + y.toNat) else -1
theorem jNd_at {d : JdS} {p o t : Nat} (ho : o < 16) (h : jtt d (16 * p + o) = t) : jNd d (16 * p + o) = 2560 + 16 * p + t ∧ 16 * ((16 * p + o) / 16) + jtt d (16 * p + o) = 16 * p + t := by
  unfold jNd
  rw [h]
  omega
