/-! fk: SCRIPTS: the reference goes through codes: a step each -/
theorem dropc {l : CdL} {t : Nat} (h : t < l.length) : l.drop t = l.getD t (0, 0) :: l.drop (t + 1) := by
  rw [List.drop_eq_getElem_cons h]
  congr 1
  simp [List.getD, List.getElem?_eq_getElem h]
theorem zCo_z {b : Nat} {l : CdL} {I : ZI} (h : zCo b (l ++ [(0, 0)]) I) {t : Nat} (ht : t ≤ l.length) : (t < l.length → I 245 (b + t) = (l.getD t (0, 0)).1 ∧ I 246 (b + t) = (l.getD t (0, 0)).2) ∧ (t = l.length → I 245 (b + t) = 0) := by
  have w := h t (by rw [List.length_append]; show t < l.length + 1; omega)
  refine ⟨fun q => ?_, fun q => ?_⟩
  · have e3 : (l ++ [((0 : Int), (0 : Int))]).getD t (0, 0) = l.getD t (0, 0) := by simp [List.getD, List.getElem?_append, q]
    rw [e3] at w
    exact w
  · have e3 : (l ++ [((0 : Int), (0 : Int))]).getD t (0, 0) = (0, 0) := by rw [q]; simp [List.getD]
    rw [e3] at w
    exact w.1
def zAk (E : EvE) (l : CdL) (t : Nat) (st : List Int) (F : Nat) : Prop := (F = 0 ∧ cdH 64 (l.drop t) st.length 1 ∧ evL E (l.drop t) st = evL E l []) ∨ (F ≠ 0 ∧ evF E l = F)
theorem zAk_0 {E : EvE} {l : CdL} (h : cdH 64 l 0 1) : zAk E l 0 [] 0 := Or.inl ⟨rfl, h, rfl⟩
theorem ak_h {E : EvE} {l : CdL} {t : Nat} {st : List Int} (h : zAk E l t st 0) (ht : t < l.length) : (l.getD t (0, 0)).1 ≠ 0 ∧ ((cdP (l.getD t (0, 0)) ∧ st.length + 1 ≤ 64) ∨ (cdU (l.getD t (0, 0)) ∧ 1 ≤ st.length) ∨ (cdB (l.getD t (0, 0)) ∧ 2 ≤ st.length)) := by
  rcases h with ⟨_, h, _⟩ | ⟨h, _⟩
  · rw [dropc ht] at h
    have w := cdH_n h
    refine ⟨w.1, ?_⟩
    rcases w.2 with ⟨q1, q2, _⟩ | ⟨q1, q2, _⟩ | ⟨q1, q2, _⟩
    · exact Or.inl ⟨q1, q2⟩
    · exact Or.inr (Or.inl ⟨q1, q2⟩)
    · exact Or.inr (Or.inr ⟨q1, q2⟩)
  · exact absurd rfl h
theorem st_1 {st : List Int} (h : 1 ≤ st.length) : st = st.getD 0 0 :: st.drop 1 := by
  cases st with
  | nil => exact absurd h (by decide)
  | cons a s => rfl
theorem st_2 {st : List Int} (h : 2 ≤ st.length) : st = st.getD 0 0 :: st.getD 1 0 :: st.drop 2 := by
  cases st with
  | nil => exact absurd h (by show ¬ 2 ≤ 0; decide)
  | cons a s =>
    cases s with
    | nil => exact absurd h (by show ¬ 2 ≤ 1; decide)
    | cons b s => rfl
theorem ak_p {E : EvE} {l : CdL} {t : Nat} {st : List Int} {v : Int} (h : zAk E l t st 0) (ht : t < l.length) (hc : (l.getD t (0, 0)).1 = 48 ∨ (l.getD t (0, 0)).1 = 97 ∨ (l.getD t (0, 0)).1 = 35) (hv : v = if (l.getD t (0, 0)).1 = 48 then (l.getD t (0, 0)).2 else if (l.getD t (0, 0)).1 = 97 then E.1 (l.getD t (0, 0)).2.toNat else (E.2.1 : Int)) : zAk E l (t + 1) (v :: st) 0 := by
  rcases h with ⟨_, h, he⟩ | ⟨h, _⟩
  · rw [dropc ht] at h he
    have w := (cdH_n h).2
    have w3 : cdH 64 (l.drop (t + 1)) (st.length + 1) 1 := by
      rcases w with ⟨_, _, q⟩ | ⟨q, _⟩ | ⟨q, _⟩
      · exact q
      · unfold cdU at q; omega
      · unfold cdB at q; omega
    refine Or.inl ⟨rfl, w3, ?_⟩
    rw [← he]
    show _ = (if (evC E (l.getD t (0, 0)).1 (l.getD t (0, 0)).2 st).1 = 0 then evL E (l.drop (t + 1)) (evC E (l.getD t (0, 0)).1 (l.getD t (0, 0)).2 st).2 else _)
    have z : evC E (l.getD t (0, 0)).1 (l.getD t (0, 0)).2 st = (0, v :: st) := by
      rw [hv]
      unfold evC
      rcases hc with q | q | q
      · rw [if_pos q, if_pos q]
      · rw [if_neg (by omega), if_pos q, if_neg (by omega), if_pos q]
      · rw [if_neg (by omega), if_neg (by omega), if_pos q, if_neg (by omega), if_neg (by omega)]
    rw [z, if_pos rfl]
  · exact absurd rfl h
theorem evC_u {E : EvE} {c v a : Int} {s : List Int} (hc : c = 95 ∨ c = 64 ∨ c = 39) : evC E c v (a :: s) = if (evU E c v a).1 = 0 then (0, (evU E c v a).2 :: s) else ((evU E c v a).1, []) := by
  unfold evC
  rw [if_neg (by omega), if_neg (by omega), if_neg (by omega), if_pos hc]
theorem evC_b {E : EvE} {c v a b : Int} {s : List Int} (hc : c = 42 ∨ c = 47 ∨ c = 37 ∨ c = 43 ∨ c = 45 ∨ c = 60 ∨ c = 61) : evC E c v (b :: a :: s) = if evD c b = 0 then (0, evB c a b :: s) else (evD c b, []) := by
  unfold evC
  rw [if_neg (by omega), if_neg (by omega), if_neg (by omega), if_neg (by omega)]
theorem ak_u {E : EvE} {l : CdL} {t F : Nat} {st : List Int} {v : Int} (h : zAk E l t st 0) (ht : t < l.length) (hc : (l.getD t (0, 0)).1 = 95 ∨ (l.getD t (0, 0)).1 = 64 ∨ (l.getD t (0, 0)).1 = 39) (hv : evU E (l.getD t (0, 0)).1 (l.getD t (0, 0)).2 (st.getD 0 0) = (F, v)) : (F = 0 → zAk E l (t + 1) (v :: st.drop 1) 0) ∧ (F ≠ 0 → zAk E l (t + 1) st F) := by
  rcases h with ⟨_, h, he⟩ | ⟨h, _⟩
  · rw [dropc ht] at h he
    have w := (cdH_n h).2
    have w3 : 1 ≤ st.length ∧ cdH 64 (l.drop (t + 1)) st.length 1 := by
      rcases w with ⟨q, _⟩ | ⟨_, q⟩ | ⟨q, _⟩
      · unfold cdP at q; omega
      · exact q
      · unfold cdB at q; omega
    have z := evC_u (E := E) (v := (l.getD t (0, 0)).2) (a := st.getD 0 0) (s := st.drop 1) hc
    rw [← st_1 w3.1, hv] at z
    have he2 : (if (evC E (l.getD t (0, 0)).1 (l.getD t (0, 0)).2 st).1 = 0 then evL E (l.drop (t + 1)) (evC E (l.getD t (0, 0)).1 (l.getD t (0, 0)).2 st).2 else ((evC E (l.getD t (0, 0)).1 (l.getD t (0, 0)).2 st).1, [])) = evL E l [] := he
    refine ⟨fun q => ?_, fun q => ?_⟩
    · refine Or.inl ⟨rfl, ?_, ?_⟩
      · have e : (v :: st.drop 1).length = st.length := by
          show (st.drop 1).length + 1 = st.length
          rw [List.length_drop]; omega
        rw [e]; exact w3.2
      · rw [← he2, z, if_pos q, if_pos rfl]
    · refine Or.inr ⟨q, ?_⟩
      unfold evF
      rw [← he2, z, if_neg q]
      exact congrArg Prod.fst (if_neg q)
  · exact absurd rfl h
theorem ak_b {E : EvE} {l : CdL} {t F : Nat} {st : List Int} {v : Int} (h : zAk E l t st 0) (ht : t < l.length) (hc : (l.getD t (0, 0)).1 = 42 ∨ (l.getD t (0, 0)).1 = 47 ∨ (l.getD t (0, 0)).1 = 37 ∨ (l.getD t (0, 0)).1 = 43 ∨ (l.getD t (0, 0)).1 = 45 ∨ (l.getD t (0, 0)).1 = 60 ∨ (l.getD t (0, 0)).1 = 61) (hF : F = evD (l.getD t (0, 0)).1 (st.getD 0 0)) (hv : F = 0 → v = evB (l.getD t (0, 0)).1 (st.getD 1 0) (st.getD 0 0)) : (F = 0 → zAk E l (t + 1) (v :: st.drop 2) 0) ∧ (F ≠ 0 → zAk E l (t + 1) st F) := by
  rcases h with ⟨_, h, he⟩ | ⟨h, _⟩
  · rw [dropc ht] at h he
    have w := (cdH_n h).2
    have w3 : 2 ≤ st.length ∧ cdH 64 (l.drop (t + 1)) (st.length - 1) 1 := by
      rcases w with ⟨q, _⟩ | ⟨q, _⟩ | ⟨_, q⟩
      · unfold cdP at q; omega
      · unfold cdU at q; omega
      · exact q
    have z := evC_b (E := E) (v := (l.getD t (0, 0)).2) (b := st.getD 0 0) (a := st.getD 1 0) (s := st.drop 2) hc
    rw [← st_2 w3.1, ← hF] at z
    have he2 : (if (evC E (l.getD t (0, 0)).1 (l.getD t (0, 0)).2 st).1 = 0 then evL E (l.drop (t + 1)) (evC E (l.getD t (0, 0)).1 (l.getD t (0, 0)).2 st).2 else ((evC E (l.getD t (0, 0)).1 (l.getD t (0, 0)).2 st).1, [])) = evL E l [] := he
    refine ⟨fun q => ?_, fun q => ?_⟩
    · refine Or.inl ⟨rfl, ?_, ?_⟩
      · have e : (v :: st.drop 2).length = st.length - 1 := by
          show (st.drop 2).length + 1 = st.length - 1
          rw [List.length_drop]; omega
        rw [e]; exact w3.2
      · rw [hv q, ← he2, z, if_pos q, if_pos rfl]
    · refine Or.inr ⟨q, ?_⟩
      unfold evF
      rw [← he2, z, if_neg q]
      exact congrArg Prod.fst (if_neg q)
  · exact absurd rfl h
theorem ak_end {E : EvE} {l : CdL} {t F : Nat} {st : List Int} (h : zAk E l t st F) (ht : t ≤ l.length) (hx : F = 0 → ¬ t < l.length) : evF E l = F ∧ (F = 0 → st.length = 1 ∧ evV E l = st.getD 0 0) := by
  rcases h with ⟨h0, h, he⟩ | ⟨h0, he⟩
  · have e : t = l.length := by have := hx h0; omega
    rw [e, List.drop_length] at h he
    have h1 : st.length = 1 := h
    have he1 : ((0 : Nat), st) = evL E l [] := he
    refine ⟨?_, fun _ => ⟨h1, ?_⟩⟩
    · unfold evF; rw [← he1]; exact h0.symm
    · unfold evV; rw [← he1]
  · exact ⟨he, fun q => absurd q h0⟩
theorem len_c {v : Int} {st : List Int} : (((v :: st).length : Nat) : Int) = (st.length : Int) + 1 := by
  rw [List.length_cons]; omega
theorem len_1 {v : Int} {st : List Int} (h : 1 ≤ st.length) : (v :: st.drop 1).length = st.length := by
  rw [List.length_cons, List.length_drop]; omega
theorem len_2 {v : Int} {st : List Int} (h : 2 ≤ st.length) : (v :: st.drop 2).length = st.length - 1 := by
  rw [List.length_cons, List.length_drop]; omega
theorem zSk_h {st : List Int} {L : ZI} (h : zSk st L) (h1 : 1 ≤ st.length) : L 267 (st.length - 1) = st.getD 0 0 := by
  rw [h (st.length - 1) (by omega)]
  congr 1
  omega
theorem zSk_h2 {st : List Int} {L : ZI} (h : zSk st L) (h1 : 2 ≤ st.length) : L 267 (st.length - 2) = st.getD 1 0 := by
  rw [h (st.length - 2) (by omega)]
  congr 1
  omega
theorem zSk_u {st : List Int} {L L' : ZI} {v : Int} (h : zSk st L) (h1 : 1 ≤ st.length) (hv : L' 267 (st.length - 1) = v) (hf : ∀ i : Nat, ¬ i = st.length - 1 → L' 267 i = L 267 i) : zSk (v :: st.drop 1) L' := by
  have e := st_1 h1
  rw [e] at h
  have w := (zSk_t h).2
  have el : (st.drop 1).length = st.length - 1 := List.length_drop ..
  exact zSk_p w (by rw [el]; exact hv) (fun i hi => hf i (by omega))
theorem zSk_b {st : List Int} {L L' : ZI} {v : Int} (h : zSk st L) (h1 : 2 ≤ st.length) (hv : L' 267 (st.length - 2) = v) (hf : ∀ i : Nat, ¬ i = st.length - 2 → L' 267 i = L 267 i) : zSk (v :: st.drop 2) L' := by
  have e := st_2 h1
  rw [e] at h
  have w := (zSk_t (zSk_t h).2).2
  have el : (st.drop 2).length = st.length - 2 := List.length_drop ..
  exact zSk_p w (by rw [el]; exact hv) (fun i hi => hf i (by omega))
def zAv (E : EvE) (l : CdL) (L : ZI) : Prop := evF E l = 0 → L 234 65 = evV E l
theorem zSk_d {st : List Int} {L : ZI} (h : zSk st L) (h1 : 1 ≤ st.length) : zSk (st.drop 1) L := by
  rw [st_1 h1] at h
  exact (zSk_t h).2
theorem zSk_fr {st : List Int} {L L' : ZI} (h : zSk st L) (hf : ∀ i : Nat, L' 267 i = L 267 i) : zSk st L' := fun i hi => (hf i).trans (h i hi)
theorem ak_st {E : EvE} {l : CdL} {t F : Nat} {st st' : List Int} (hF : F ≠ 0) (h : zAk E l t st F) : zAk E l t st' F := by
  rcases h with h | h
  · exact absurd h.1 hF
  · exact Or.inr h
