/-! WHAT IS ASKED of a drawing, with sheets or without -/
theorem jFst_E {d : JdS} (hg : jGd d) (h : dns d = 0) : dnt d = 0 ∧ dnl d = 0 ∧ zct (jFst d) 960 = 0 := by
  have z2 : dnt d = 0 := by
    rcases Nat.eq_zero_or_pos (dnt d) with e | e
    · exact e
    · have w := (hg.2.2.2.2.2.2 0 e).1
      omega
  have z1 : dnl d = 0 := by
    rcases Nat.eq_zero_or_pos (dnl d) with e | e
    · exact e
    · have w := (hg.2.2.2.2.1 0 e).1
      omega
  refine ⟨z2, z1, zct_no (fun c w => ?_) 960⟩
  have w1 := w.1.1
  omega
theorem jNmI_E {d : JdS} {n : Int} (hg : jGd d) (h : dns d = 0) : jNmI d n = -1000 := by
  unfold jNmI
  rw [(jFst_E hg h).2.2, if_neg (by omega)]
theorem jRm_E {d : JdS} {k : Int} (hg : jGd d) (h : dns d = 0) : jRm d k = -1 := by
  have e2 := (jFst_E hg h).2.2
  have e3 : zct (jRk d) (1000 * zct (jFst d) 960) = 0 := by rw [e2]; rfl
  unfold jRm
  rw [e3, e2, (jFst_E hg h).2.1]
  by_cases q : k < 0
  · rw [if_pos q]
  · rw [if_neg q, if_neg (by omega)]
    exact if_pos rfl
def T_J_netO : ZT := fun args I L R S Q => ∃ (k : Nat) (d : JdS) (x : Int) (y : Int), args = [zvr k, zvi x, zvi y] ∧ (zDy zT18 zF18 k R S) ∧ (zNJ k d I L) ∧ (jGd d) ∧ (zJO k d I) ∧ (r32 x ∧ r32 y) ∧ ∀ (v : Int) (I' : ZI), ((I' k 0 = 0 ∧ v = jOf d x y ∧ 0 ≤ v ∧ v < 960) ∨ (I' k 0 = 1 ∧ jOf d x y = -1)) → (∀ c j : Nat, ¬ (c = k ∧ j = 0) → I' c j = I c j) → Q (some (zvi (v))) I' L R S
theorem sn_J_netO : ZSnd 2 18 26 T_J_netO := by
  intro n hn args I L R S Q hz g
  obtain ⟨k, d, x, y, rfl, h1, h2, h3, h4, h5, hQ⟩ := g
  rcases h4 with h4 | h4
  · exact sn_J_netOf n hn _ I L R S Q hz ⟨k, d, x, y, rfl, h1, h2, h3, h4, h5, hQ⟩
  · exact sn_J_netOfE n hn _ I L R S Q hz ⟨k, d, x, y, rfl, h1, h2, h3, h4.1, h4.2, h5, fun v I' a b => hQ v I' (Or.inr ⟨a, jOf_E h3 h4.1⟩) b⟩
def T_J_nameO : ZT := fun args I L R S Q => ∃ (k : Nat) (d : JdS) (n : Int), args = [zvr k, zvi n] ∧ (zDy zT18 zF18 k R S) ∧ (zNJ k d I L) ∧ (jGd d) ∧ (zJO k d I) ∧ (r32 n) ∧ ∀ (v : Int) (I' : ZI), ((I' k 0 = 0 ∧ v = jNmI d n) ∨ (I' k 0 = 1 ∧ jNmI d n = -1000)) → (∀ c j : Nat, ¬ (c = k ∧ j = 0) → I' c j = I c j) → Q (some (zvi (v))) I' L R S
theorem sn_J_nameO : ZSnd 4 18 23 T_J_nameO := by
  intro n hn args I L R S Q hz g
  obtain ⟨k, d, x, rfl, h1, h2, h3, h4, h5, hQ⟩ := g
  rcases h4 with h4 | h4
  · exact sn_J_name n hn _ I L R S Q hz ⟨k, d, x, rfl, h1, h2, h3, h4, h5, hQ⟩
  · exact sn_J_nameE n hn _ I L R S Q hz ⟨k, d, x, rfl, h1, h2, h3, h4.1, h4.2, h5, fun v I' a b => hQ v I' (Or.inr ⟨a, jNmI_E h3 h4.1⟩) b⟩
def T_J_toldO : ZT := fun args I L R S Q => ∃ (k : Nat) (d : JdS) (y : Int), args = [zvr k, zvi y] ∧ (zDy zT18 zF18 k R S) ∧ (zNJ k d I L) ∧ (jGd d) ∧ (zJO k d I) ∧ (r32 y) ∧ ∀ (v : Int) (I' : ZI), (v = jRm d y) → (∀ c j : Nat, ¬ (c = k ∧ j = 0) → I' c j = I c j) → Q (some (zvi (v))) I' L R S
theorem sn_J_toldO : ZSnd 4 18 34 T_J_toldO := by
  intro n hn args I L R S Q hz g
  obtain ⟨k, d, x, rfl, h1, h2, h3, h4, h5, hQ⟩ := g
  rcases h4 with h4 | h4
  · exact sn_J_told n hn _ I L R S Q hz ⟨k, d, x, rfl, h1, h2, h3, h4, h5, hQ⟩
  · exact sn_J_toldE n hn _ I L R S Q hz ⟨k, d, x, rfl, h1, h2, h3, h4.1, h4.2, h5, fun v I' a b => hQ v I' (a.trans (jRm_E h3 h4.1).symm) b⟩
