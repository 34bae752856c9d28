/-! THE TREE OF OBJECTS, WALKED -/
def wPre (O : OoS) (dp : Nat → Nat) : Prop := dp 0 = 0 ∧ ∀ c, 0 < c → c < ocn O → 0 ≤ opa O c ∧ opa O c < c ∧ dp c = dp (opa O c).toNat + 1 ∧ okd O (opa O c).toNat ≠ 9 ∧ ∀ j, (opa O c).toNat < j → j < c → dp (opa O c).toNat < dp j
/-- the first m are written, the walk stands at a and looks for a child from f on -/
def wCu (O : OoS) (dp : Nat → Nat) (a m f : Nat) : Prop := a < m ∧ m ≤ ocn O ∧ f ≤ m ∧ (∀ j, a < j → j < m → dp a < dp j) ∧ (m < ocn O → dp m ≤ dp a + 1) ∧ ∀ c, f ≤ c → c < m → opa O c ≠ a
theorem wPre_n {O : OoS} {dp : Nat → Nat} {m : Nat} (h : wPre O dp) (h1 : 0 < m) (hm : m < ocn O) : dp m ≤ dp (m - 1) + 1 := by
  obtain ⟨a1, a2, a3, a4, a5⟩ := h.2 m h1 hm
  by_cases e : (opa O m).toNat = m - 1
  · rw [e] at a3
    omega
  · have z := a5 (m - 1) (by omega) (by omega)
    omega
theorem wCu_0 {O : OoS} {dp : Nat → Nat} (h : wPre O dp) (hn : 0 < ocn O) : wCu O dp 0 1 1 :=
  ⟨Nat.zero_lt_one, hn, Nat.le_refl _, fun j h1 h2 => by omega, fun h1 => wPre_n h (by omega) h1, fun c h1 h2 => by omega⟩
theorem wCu_c {O : OoS} {dp : Nat → Nat} {a m f v : Nat} (h : wPre O dp) (hc : wCu O dp a m f) (hv : v < ocn O) (hf : f ≤ v) (hp : opa O v = a) (hl : ∀ c, f ≤ c → c < v → opa O c ≠ a) : v = m ∧ dp m = dp a + 1 ∧ okd O a ≠ 9 := by
  obtain ⟨c1, c2, c3, c4, c5, c6⟩ := hc
  have hm : m ≤ v := by
    by_cases q : v < m
    · exact absurd hp (c6 v hf q)
    · omega
  obtain ⟨a1, a2, a3, a4, a5⟩ := h.2 v (by omega) hv
  have ea : (opa O v).toNat = a := by omega
  rw [ea] at a3 a4 a5
  by_cases e : v = m
  · subst e
    exact ⟨rfl, a3, a4⟩
  · have z := a5 m (by omega) (by omega)
    have z2 := c5 (by omega)
    obtain ⟨b1, b2, b3, b4, b5⟩ := h.2 m (by omega) (by omega)
    have z3 := hl m (by omega) (by omega)
    by_cases q : (opa O m).toNat < a
    · have z4 := b5 a q (by omega)
      omega
    · have z4 := c4 (opa O m).toNat (by omega) (by omega)
      omega
theorem wCu_d {O : OoS} {dp : Nat → Nat} {m : Nat} (h : wPre O dp) (hm : m < ocn O) : wCu O dp m (m + 1) (m + 1) :=
  ⟨Nat.lt_succ_self _, hm, Nat.le_refl _, fun j h1 h2 => by omega, fun h1 => wPre_n h (by omega) h1, fun c h1 h2 => by omega⟩
theorem wCu_n {O : OoS} {dp : Nat → Nat} {a m f : Nat} (h : wPre O dp) (hc : wCu O dp a m f) (hl : ∀ c, f ≤ c → c < ocn O → opa O c ≠ a) (hm : m < ocn O) : dp m ≤ dp a := by
  obtain ⟨c1, c2, c3, c4, c5, c6⟩ := hc
  have z2 := c5 hm
  obtain ⟨b1, b2, b3, b4, b5⟩ := h.2 m (by omega) hm
  have z3 := hl m c3 hm
  by_cases q : (opa O m).toNat < a
  · have z4 := b5 a q c1
    omega
  · have z4 := c4 (opa O m).toNat (by omega) (by omega)
    omega
theorem wCu_p {O : OoS} {dp : Nat → Nat} {a m f : Nat} (h : wPre O dp) (hc : wCu O dp a m f) (hl : ∀ c, f ≤ c → c < ocn O → opa O c ≠ a) (ha : 0 < a) : wCu O dp (opa O a).toNat m (a + 1) ∧ dp a = dp (opa O a).toNat + 1 ∧ okd O (opa O a).toNat ≠ 9 ∧ 0 ≤ opa O a ∧ opa O a < a := by
  have z := wCu_n h hc hl
  obtain ⟨c1, c2, c3, c4, c5, c6⟩ := hc
  obtain ⟨b1, b2, b3, b4, b5⟩ := h.2 a ha (by omega)
  refine ⟨⟨by omega, c2, by omega, fun j h1 h2 => ?_, fun h1 => by have := z h1; omega, fun c h1 h2 e => ?_⟩, b3, b4, b1, b2⟩
  · by_cases q : j < a
    · exact b5 j h1 q
    · by_cases q2 : j = a
      · rw [q2]; omega
      · have z4 := c4 j (by omega) h2
        omega
  · obtain ⟨d1, d2, d3, d4, d5⟩ := h.2 c (by omega) (by omega)
    have z4 := c4 c (by omega) h2
    have e2 : (opa O c).toNat = (opa O a).toNat := by omega
    rw [e2] at d3
    omega
theorem wCu_e {O : OoS} {dp : Nat → Nat} {m f : Nat} (h : wPre O dp) (hc : wCu O dp 0 m f) (hl : ∀ c, f ≤ c → c < ocn O → opa O c ≠ (0 : Nat)) : m = ocn O := by
  have z := wCu_n h hc hl
  have c1 := hc.1
  have c2 := hc.2.1
  by_cases q : m < ocn O
  · have z1 := z q
    have z2 := (h.2 m (by omega) q).2.2.1
    have z3 := h.1
    omega
  · omega
/-- how many are open -/
theorem wLo_e {O : OoS} {dp : Nat → Nat} (h : wPre O dp) : ∀ m, m < ocn O → dp m ≤ wLo O dp m ∧ wLo O dp (m + 1) = dp m + if okd O m = 9 then 0 else 1
  | 0, _ => by
    have z := h.1
    refine ⟨by omega, ?_⟩
    show min (wLo O dp 0) (dp 0) + (if okd O 0 = 9 then 0 else 1) = _
    rw [z]
    rfl
  | m + 1, hm => by
    have z := wLo_e h m (by omega)
    obtain ⟨a1, a2, a3, a4, a5⟩ := h.2 (m + 1) (by omega) hm
    have q : dp (m + 1) ≤ wLo O dp (m + 1) := by
      rw [z.2]
      by_cases e : (opa O (m + 1)).toNat = m
      · rw [e] at a3 a4
        rw [if_neg a4]
        omega
      · have z5 := a5 m (by omega) (by omega)
        omega
    refine ⟨q, ?_⟩
    show min (wLo O dp (m + 1)) (dp (m + 1)) + (if okd O (m + 1) = 9 then 0 else 1) = _
    rw [Nat.min_eq_right q]
/-- the lines without the last one's end; what is written when x are closed -/
def wLj (O : OoS) (dp : Nat → Nat) : Nat → List Int
  | 0 => []
  | m + 1 => (if 0 < m then wLj O dp m ++ [10] else []) ++ (wTm 46 (dp m) ++ wOw O m)
theorem wLj_e {O : OoS} {dp : Nat → Nat} : ∀ m, wLj O dp (m + 1) ++ [10] = wLi O dp (m + 1)
  | 0 => by
    show ((if 0 < 0 then _ else []) ++ (wTm 46 (dp 0) ++ wOw O 0)) ++ [10] = [] ++ (wTm 46 (dp 0) ++ (wOw O 0 ++ [10]))
    rw [if_neg (Nat.lt_irrefl 0), List.append_assoc, List.append_assoc]
  | m + 1 => by
    show ((if 0 < m + 1 then wLj O dp (m + 1) ++ [10] else []) ++ (wTm 46 (dp (m + 1)) ++ wOw O (m + 1))) ++ [10] = wLi O dp (m + 1) ++ (wTm 46 (dp (m + 1)) ++ (wOw O (m + 1) ++ [10]))
    rw [if_pos (Nat.succ_pos m), wLj_e m, List.append_assoc, List.append_assoc]
def wWr (O : OoS) (dp : Nat → Nat) (fm : Int) (m x : Nat) : List Int := if fm = 0 then wLs O dp m ++ wTm 41 x else wLj O dp m
theorem wWr_e {O : OoS} {dp : Nat → Nat} {fm : Int} (hn : 0 < ocn O) : wWr O dp fm (ocn O) (wLo O dp (ocn O)) ++ [10] = wPg O dp fm := by
  unfold wWr wPg
  by_cases e : fm = 0
  · rw [if_pos e, if_pos e, List.append_assoc]
  · rw [if_neg e, if_neg e]
    have z := wLj_e (O := O) (dp := dp) (ocn O - 1)
    have e2 : ocn O - 1 + 1 = ocn O := by omega
    rw [e2] at z
    exact z
theorem wWr_x {O : OoS} {dp : Nat → Nat} {fm : Int} {m x : Nat} : wWr O dp fm m (x + 1) = wWr O dp fm m x ++ if fm = 0 then [41] else [] := by
  unfold wWr
  by_cases e : fm = 0
  · rw [if_pos e, if_pos e, if_pos e, List.append_assoc]
    rfl
  · rw [if_neg e, if_neg e, if_neg e, List.append_nil]
/-- a further object: a line's end, what stands ahead, the object -/
theorem wWr_m {O : OoS} {dp : Nat → Nat} {fm : Int} {m : Nat} (hm : 0 < m) : wWr O dp fm (m + 1) 0 = wWr O dp fm m (wLo O dp m - dp m) ++ [10] ++ wTm (if fm = 0 then 32 else 46) (dp m) ++ ((if fm = 0 ∧ okd O m ≠ 9 then [40] else []) ++ wOw O m) := by
  unfold wWr
  by_cases e : fm = 0
  · rw [if_pos e, if_pos e, if_pos e]
    show (wLs O dp m ++ (wLh O dp m ++ wOw O m)) ++ [] = _
    unfold wLh
    rw [if_pos hm, List.append_nil]
    by_cases e9 : okd O m = 9
    · rw [if_pos e9, if_neg (fun q => q.2 e9)]
      simp only [List.append_assoc, List.nil_append, List.append_nil]
    · rw [if_neg e9, if_pos ⟨e, e9⟩]
      simp only [List.append_assoc]
  · rw [if_neg e, if_neg e, if_neg e, if_neg (fun q => e q.1)]
    show (if 0 < m then wLj O dp m ++ [10] else []) ++ (wTm 46 (dp m) ++ wOw O m) = _
    rw [if_pos hm]
    simp only [List.append_assoc, List.nil_append]
theorem wWr_0 {O : OoS} {dp : Nat → Nat} {fm : Int} (h : dp 0 = 0) : wWr O dp fm 1 0 = (if fm = 0 ∧ okd O 0 ≠ 9 then [40] else []) ++ wOw O 0 := by
  unfold wWr
  by_cases e : fm = 0
  · rw [if_pos e]
    show ([] ++ (wLh O dp 0 ++ wOw O 0)) ++ [] = _
    unfold wLh
    rw [if_neg (Nat.lt_irrefl 0), List.append_nil, List.nil_append, h]
    show (wTm 41 0 ++ ([] ++ _)) ++ _ = _
    by_cases e9 : okd O 0 = 9
    · rw [if_pos e9, if_neg (fun q => q.2 e9)]
      rfl
    · rw [if_neg e9, if_pos ⟨e, e9⟩]
      rfl
  · rw [if_neg e, if_neg (fun q => e q.1)]
    show (if 0 < 0 then _ else []) ++ (wTm 46 (dp 0) ++ wOw O 0) = _
    rw [if_neg (Nat.lt_irrefl 0), h]
    rfl
