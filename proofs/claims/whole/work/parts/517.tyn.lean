/-! LINES of a text -/
theorem tDo_no : ¬ tDo (-1) := by unfold tDo; omega
theorem tyD_at {c : Nat → Int} {n : Nat} {s : TyS} {D : Nat} (hc : tOk c n) (hD : typ s + D ≤ n) (h : ∀ t, t < D → c (typ s + t) = 46) (h2 : c (typ s + D) ≠ 46) : tyD c n s = D := by
  have w := tSk_at (P := tDo) (c := c) (n := n) (p := typ s) (q := typ s + D) (by omega) (by omega) (fun i h1 h3 => by have z := h (i - typ s) (by omega); rw [show typ s + (i - typ s) = i by omega] at z; exact z) h2
  unfold tyD
  omega
theorem tyD_gt {c : Nat → Int} {n : Nat} {s : TyS} {D : Nat} (hc : tOk c n) (h : ∀ t, t < D → c (typ s + t) = 46) (h2 : c (typ s + D) = 46) : D < tyD c n s := by
  have w := tSk_sp (P := tDo) (p := typ s) hc tDo_no
  unfold tyD
  rcases Nat.lt_or_ge (typ s + D) (tSk tDo c n (typ s)) with q | q
  · omega
  · exfalso
    rcases Nat.lt_or_ge (tSk tDo c n (typ s)) (typ s + D) with x | x
    · have z := h (tSk tDo c n (typ s) - typ s) (by omega)
      rw [show typ s + (tSk tDo c n (typ s) - typ s) = tSk tDo c n (typ s) by omega] at z
      exact w.2.2.2 z
    · have e : tSk tDo c n (typ s) = typ s + D := by omega
      rw [e] at w
      exact w.2.2.2 h2
theorem tSm_dot {c : Nat → Int} {n p : Nat} (h : c p = 46) : tSk tSm c n p = p := tSk_at (Nat.le_refl p) (by omega) (fun i h1 h2 => by omega) (by unfold tSm; omega)
theorem tyA_0 {c : Nat → Int} {n : Nat} {s : TyS} : tyA c n 0 s = if tyd s < tyD c n s then tyF s (typ s + tyd s) else if tyD c n s = 0 ∧ 0 < typ s then tyF s (typ s) else tyG c n 0 s (typ s + tyD c n s) (typ s + tyD c n s) (tyD c n s) := if_neg (by decide)
/-- the line's fault where dots are wrong, or the name is none that may be -/
theorem tyA_d0 {c : Nat → Int} {n : Nat} {s : TyS} (hd : tyd s ≠ 0) (h0 : tyD c n s = 0) (hp : 0 < typ s) : tyA c n 0 s = tyF s (typ s) := by
  rw [tyA_0, if_neg (by omega), if_pos ⟨h0, hp⟩]
theorem tyA_nb {c : Nat → Int} {n : Nat} {s : TyS} {D : Nat} (hD : (D = tyD c n s ∧ D ≤ tyd s) ∨ (D = tyd s ∧ tyd s < tyD c n s)) (h0 : D = 0 → typ s = 0) (hb : ¬ tBg c n (typ s + D) (tyz s D) (tyn s)) : tyA c n 0 s = tyF s (typ s + D) := by
  rw [tyA_0]
  rcases hD with ⟨e, w⟩ | ⟨e, w⟩
  · rw [if_neg (by omega), if_neg (by omega), ← e, tyG_n hb]
  · rw [if_pos w, e]
theorem tyA_y {c : Nat → Int} {n : Nat} {s : TyS} {D : Nat} (hD : (D = tyD c n s ∧ D ≤ tyd s) ∨ (D = tyd s ∧ tyd s < tyD c n s)) (h46 : D = tyd s → tyd s < tyD c n s → c (typ s + D) = 46) (h0 : D = 0 → typ s = 0) (hb : tBg c n (typ s + D) (tyz s D) (tyn s)) : tyA c n 0 s = tyB c n 0 s (tSk tSm c n (typ s + D)) (typ s + D) D (tKd c (typ s + D) (tSk tSm c n (typ s + D))) := by
  rw [tyA_0]
  rcases hD with ⟨e, w⟩ | ⟨e, w⟩
  · rw [if_neg (by omega), if_neg (by omega), ← e, tyG_t hb]
  · exact absurd (tSm_dot (h46 e w)) hb.1
theorem tyE_l {n : Nat} {s : TyS} (hf : tyf s = -1) (hp : typ s < n ∨ tyn s = 0) : ¬ tyE n 0 s := fun w => by
  rcases w with w | w | w
  · exact w hf
  · omega
  · omega
theorem tyA_m {c : Nat → Int} {n : Nat} {s : TyS} (hc : tOk c n) (h : tyf (tyA c n 0 s) = -1) : tyn (tyA c n 0 s) = tyn s + 1 ∧ typ s < typ (tyA c n 0 s) := by
  rw [tyA_0] at h ⊢
  by_cases e : tyd s < tyD c n s
  · rw [if_pos e] at h
    exact absurd h tyF_f
  · rw [if_neg e] at h ⊢
    by_cases e1 : tyD c n s = 0 ∧ 0 < typ s
    · rw [if_pos e1] at h
      exact absurd h tyF_f
    · rw [if_neg e1] at h ⊢
      by_cases g : tBg c n (typ s + tyD c n s) (tyz s (tyD c n s)) (tyn s)
      · rw [tyG_t g] at h ⊢
        have w2 := tSm_s hc g.1
        by_cases a9 : tKd c (typ s + tyD c n s) (tSk tSm c n (typ s + tyD c n s)) = 9
        · rw [tyB_9 a9] at h
          have w3 := tkX_b hc (show 0 ≤ 1 by decide) h
          rw [tyB_u a9 h]
          exact ⟨rfl, by show typ s < _ + (1 - 0); omega⟩
        · by_cases hz : tVz c n 0 (tKd c (typ s + tyD c n s) (tSk tSm c n (typ s + tyD c n s))).toNat (tSk tSm c n (typ s + tyD c n s)) (tFv (tKd c (typ s + tyD c n s) (tSk tSm c n (typ s + tyD c n s))).toNat (tyx s)) = -1
          · have w3 := tVp_le (b := 0) hc w2.2.1 (tVz_p hz)
            by_cases h10 : c (tVp c n 0 (tKd c (typ s + tyD c n s) (tSk tSm c n (typ s + tyD c n s))).toNat (tSk tSm c n (typ s + tyD c n s)) (tFv (tKd c (typ s + tyD c n s) (tSk tSm c n (typ s + tyD c n s))).toNat (tyx s))) = 10
            · rw [tyB_v a9 hz (fun _ => h10)]
              exact ⟨rfl, by show typ s < _ + (1 - 0); omega⟩
            · rw [tyB_vn a9 hz h10] at h
              exact absurd h tyF_f
          · rw [tyB_vf hc w2.2.1 a9 hz] at h
            exact absurd h hz
      · rw [tyG_n g] at h
        exact absurd h tyF_f
