/-! CUTS, the reference: the letters of a drill text are characters -/
theorem zDy_212 {R : ZR} {S : ZS} (hR : zRs R) (hS : zSh S) : zDy zT16 zF16 212 R S := zDy_st hR hS rfl rfl (by decide +kernel) (by decide +kernel)
def wCh (u : Int) : Prop := u = 10 ∨ (32 ≤ u ∧ u ≤ 126)
theorem dSt_c {v : Int} : ∀ {i : Nat} {u : Int}, u ∈ dSt v i → wCh u
  | 0, u, h => absurd h List.not_mem_nil
  | i + 1, u, h => by
    rcases List.mem_append.mp h with h | h
    · exact dSt_c h
    · by_cases q : dU i ≤ v ∨ i = 4
      · rw [if_pos q] at h
        rw [List.mem_singleton.mp h]
        unfold wCh
        omega
      · rw [if_neg q] at h
        exact absurd h List.not_mem_nil
theorem dWd_c : ∀ a : Nat, 21 ≤ a → a ≤ 28 → ∀ u ∈ dWd a, wCh u := fun a h1 h2 u hu => by
  have key : ∀ x : List Int, (x.all fun u => decide (u = 10 ∨ (32 ≤ u ∧ u ≤ 126))) = true → u ∈ x → wCh u := fun x hx hm => of_decide_eq_true (p := u = 10 ∨ (32 ≤ u ∧ u ≤ 126)) (List.all_eq_true.mp hx u hm)
  obtain ⟨l1, l2, l3, l4, l5, l6, l7, l8⟩ := dWd_L
  rcases (show a = 21 ∨ a = 22 ∨ a = 23 ∨ a = 24 ∨ a = 25 ∨ a = 26 ∨ a = 27 ∨ a = 28 by omega) with e | e | e | e | e | e | e | e
  · rw [e, l1] at hu; exact key _ (by decide) hu
  · rw [e, l2] at hu; exact key _ (by decide) hu
  · rw [e, l3] at hu; exact key _ (by decide) hu
  · rw [e, l4] at hu; exact key _ (by decide) hu
  · rw [e, l5] at hu; exact key _ (by decide) hu
  · rw [e, l6] at hu; exact key _ (by decide) hu
  · rw [e, l7] at hu; exact key _ (by decide) hu
  · rw [e, l8] at hu; exact key _ (by decide) hu
theorem dHl_c {w : List CuR} {l : Int} {n : Nat} {u : Int} (h : u ∈ dHl w l n) : wCh u := by
  by_cases q : dIs w l n
  · rw [dHl_y q] at h
    rcases List.mem_append.mp h with h | h
    · rcases List.mem_append.mp h with h | h
      · rcases List.mem_append.mp h with h | h
        · rcases List.mem_append.mp h with h | h
          · exact dWd_c 25 (by decide) (by decide) _ h
          · exact dSt_c h
        · exact dWd_c 26 (by decide) (by decide) _ h
      · exact dSt_c h
    · exact dWd_c 27 (by decide) (by decide) _ h
  · rw [dHl_n q] at h
    exact absurd h List.not_mem_nil
theorem cuC_m {α : Type} {f : Nat → List α} {u : α} : ∀ {n : Nat}, u ∈ cuC f n → ∃ i, i < n ∧ u ∈ f i
  | 0, h => absurd h List.not_mem_nil
  | n + 1, h => by
    rcases List.mem_append.mp h with h | h
    · obtain ⟨i, h1, h2⟩ := cuC_m h
      exact ⟨i, by omega, h2⟩
    · exact ⟨n, Nat.lt_succ_self n, h⟩
theorem dTx_c {w : List CuR} {l : Int} {u : Int} (h : u ∈ dTx w l) : wCh u := by
  unfold dTx dHd at h
  rcases List.mem_append.mp h with h | h
  · rcases List.mem_append.mp h with h | h
    · rcases List.mem_append.mp h with h | h
      · rcases List.mem_append.mp h with h | h
        · rcases List.mem_append.mp h with h | h
          · rcases List.mem_append.mp h with h | h
            · rcases List.mem_append.mp h with h | h
              · exact dWd_c 21 (by decide) (by decide) _ h
              · exact dSt_c h
            · exact dWd_c 22 (by decide) (by decide) _ h
          · exact dSt_c h
        · exact dWd_c 23 (by decide) (by decide) _ h
      · by_cases q : zct (dIs w l) (cuHc w) = 0
        · rw [if_pos q] at h
          exact absurd h List.not_mem_nil
        · rw [if_neg q] at h
          exact dWd_c 24 (by decide) (by decide) _ h
    · obtain ⟨i, _, h2⟩ := cuC_m h
      exact dHl_c h2
  · exact dWd_c 28 (by decide) (by decide) _ h
theorem wAt_in {t : List Int} {i : Nat} (h : i < t.length) : wAt t i ∈ t := by
  unfold wAt
  rw [List.getD_eq_getElem?_getD, List.getElem?_eq_getElem h]
  exact List.getElem_mem h
theorem wTk {t : List Int} {i : Nat} (h : i < t.length) : t.take i ++ [wAt t i] = t.take (i + 1) := by
  rw [List.take_add_one, List.getElem?_eq_getElem h]
  unfold wAt
  rw [List.getD_eq_getElem?_getD, List.getElem?_eq_getElem h]
  rfl
theorem wTk_l {t : List Int} {i : Nat} (h : i ≤ t.length) : (t.take i).length = i := by
  rw [List.length_take]
  omega
