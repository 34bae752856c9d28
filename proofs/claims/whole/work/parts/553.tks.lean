/-! THE KEPT LETTERS OF A TEXT ARE COUNTED -/
def tyKs (r : Nat → Nat → Int) : Nat → Nat
  | 0 => 0
  | m + 1 => tyKs r m + if r m 0 = 9 then (r m 3 - r m 2).toNat else 0
theorem tyKs_up {r : Nat → Nat → Int} {k : Nat} {w : Nat → Int} : ∀ m, m ≤ k → tyKs (upF r k w) m = tyKs r m
  | 0, _ => rfl
  | m + 1, h => by
    show tyKs (upF r k w) m + (if upF r k w m 0 = 9 then (upF r k w m 3 - upF r k w m 2).toNat else 0) = tyKs r m + if r m 0 = 9 then (r m 3 - r m 2).toNat else 0
    rw [tyKs_up m (by omega), show upF r k w m = r m from upF_ne (by omega)]
def tyw (s : TyS) : Prop := tyKs (tyr s) (tyn s) = tyk s
theorem tyw_U {s : TyS} (h : tyw s) {p d q e : Nat} (hq : q ≤ e) : tyw (tyU s p d q e) := by
  show tyKs (upF (tyr s) (tyn s) (tyW s d 9 q e)) (tyn s) + (if upF (tyr s) (tyn s) (tyW s d 9 q e) (tyn s) 0 = 9 then (upF (tyr s) (tyn s) (tyW s d 9 q e) (tyn s) 3 - upF (tyr s) (tyn s) (tyW s d 9 q e) (tyn s) 2).toNat else 0) = tyk s + (e - q)
  rw [tyKs_up _ (Nat.le_refl _), upF_at, if_pos (show tyW s d 9 q e 0 = 9 from rfl)]
  have h' : tyKs (tyr s) (tyn s) = tyk s := h
  show tyKs (tyr s) (tyn s) + ((e : Int) - (q : Int)).toNat = tyk s + (e - q)
  omega
theorem tyw_O {s : TyS} (h : tyw s) {p d q : Nat} {a x : Int} (ha : a ≠ 9) : tyw (tyO s p d a q x) := by
  show tyKs (upF (tyr s) (tyn s) (tyW s d a q 0)) (tyn s) + (if upF (tyr s) (tyn s) (tyW s d a q 0) (tyn s) 0 = 9 then (upF (tyr s) (tyn s) (tyW s d a q 0) (tyn s) 3 - upF (tyr s) (tyn s) (tyW s d a q 0) (tyn s) 2).toNat else 0) = tyk s
  rw [tyKs_up _ (Nat.le_refl _), upF_at, if_neg (show ¬ tyW s d a q 0 0 = 9 from ha)]
  exact h
theorem tyw_C {s : TyS} (h : tyw s) {p : Nat} : tyw (tyC s p) := h
theorem tyw_B {c : Nat → Int} {n b : Nat} {s : TyS} (hc : tOk c n) (hb : b ≤ 1) (hv : tyw s) {q op d : Nat} {a : Int} (hq : op ≤ q) (hf : tyf (tyB c n b s q op d a) = -1) : tyw (tyB c n b s q op d a) := by
  unfold tyB at hf ⊢
  by_cases e9 : a = 9
  · rw [if_pos e9] at hf ⊢
    by_cases e : tkX c n b (op + 2000 - tyk s) d q = -1
    · rw [if_pos e]
      have w := tkX_b hc hb e
      exact tyw_U hv (by omega)
    · rw [if_neg e] at hf
      exact absurd hf tyF_f
  · rw [if_neg e9] at hf ⊢
    by_cases e : tVz c n b a.toNat q (tFv a.toNat (tyx s)) = -1
    · rw [if_pos e] at hf ⊢
      by_cases e2 : b = 0 ∧ c (tVp c n b a.toNat q (tFv a.toNat (tyx s))) ≠ 10
      · rw [if_pos e2] at hf
        exact absurd hf tyF_f
      · rw [if_neg e2]
        exact tyw_O hv e9
    · rw [if_neg e] at hf
      exact absurd hf tyF_f
theorem tyw_G {c : Nat → Int} {n b : Nat} {s : TyS} (hc : tOk c n) (hb : b ≤ 1) (hv : tyw s) {nm op d : Nat} (hq : op ≤ nm) (hf : tyf (tyG c n b s nm op d) = -1) : tyw (tyG c n b s nm op d) := by
  unfold tyG at hf ⊢
  by_cases e : tBg c n nm (tyz s d) (tyn s)
  · rw [zite_t e] at hf ⊢
    have w := tSm_s hc e.1
    exact tyw_B hc hb hv (by omega) hf
  · rw [zite_f e] at hf
    exact absurd hf tyF_f
theorem tyw_A {c : Nat → Int} {n b : Nat} {s : TyS} (hc : tOk c n) (hb : b ≤ 1) (hv : tyw s) (hf : tyf (tyA c n b s) = -1) : tyw (tyA c n b s) := by
  unfold tyA at hf ⊢
  by_cases eb : b = 1
  · rw [if_pos eb] at hf ⊢
    by_cases e1 : c (tSk tBk c n (typ s)) = 40
    · rw [if_pos e1] at hf ⊢
      unfold tyL at hf ⊢
      by_cases e2 : tyd s = 100
      · rw [if_pos e2] at hf
        exact absurd hf tyF_f
      · rw [if_neg e2] at hf ⊢
        have w2 := tSk_b (P := tBk) (p := tSk tBk c n (typ s) + 1) hc tBk_no
        exact tyw_G hc (by omega) hv (by omega) hf
    · rw [if_neg e1] at hf ⊢
      by_cases e2 : c (tSk tBk c n (typ s)) = 41 ∧ tyd s ≠ 0
      · rw [if_pos e2]
        exact tyw_C hv
      · rw [if_neg e2] at hf
        exact absurd hf tyF_f
  · rw [if_neg eb] at hf ⊢
    by_cases e1 : tyd s < tyD c n s
    · rw [if_pos e1] at hf
      exact absurd hf tyF_f
    · rw [if_neg e1] at hf ⊢
      by_cases e2 : tyD c n s = 0 ∧ 0 < typ s
      · rw [if_pos e2] at hf
        exact absurd hf tyF_f
      · rw [if_neg e2] at hf ⊢
        exact tyw_G hc (by omega) hv (Nat.le_refl _) hf
theorem tRe_w {c : Nat → Int} {n b : Nat} {s : TyS} (hc : tOk c n) (hb : b ≤ 1) (h : tRe c n b s) (hf : tyf s = -1) : tyw s := by
  obtain ⟨i, rfl⟩ := h
  have g : ∀ i, tyf (tyI c n b i) = -1 → tyw (tyI c n b i) := fun i => by
    induction i with
    | zero => intro _; rfl
    | succ i ih =>
      intro h1
      have e : tyI c n b (i + 1) = zite (tyE n b (tyI c n b i)) (tyI c n b i) (tyA c n b (tyI c n b i)) := rfl
      by_cases h2 : tyE n b (tyI c n b i)
      · rw [e, zite_t h2] at h1 ⊢
        exact ih h1
      · rw [e, zite_f h2] at h1 ⊢
        exact tyw_A hc hb (ih (Classical.not_not.mp (fun w => h2 (Or.inl w)))) h1
  exact g i hf
theorem tyKs_K {c : Nat → Int} {n b : Nat} {s : TyS} : ∀ m, wKp (tOS c n b s) m = tyKs (tyr s) m
  | 0 => rfl
  | m + 1 => by
    show wKp (tOS c n b s) m + (if tyr s m 0 = 9 then tOl c n b (tyr s m) 0 else 0) = tyKs (tyr s) m + if tyr s m 0 = 9 then (tyr s m 3 - tyr s m 2).toNat else 0
    rw [tyKs_K m]
    by_cases e : tyr s m 0 = 9
    · rw [if_pos e, if_pos e]
      have z : tOl c n b (tyr s m) 0 = (tyr s m 3 - tyr s m 2).toNat := (if_pos e).trans (if_pos rfl)
      rw [z]
    · rw [if_neg e, if_neg e]
theorem tRe_K {c : Nat → Int} {n b : Nat} {s : TyS} (hc : tOk c n) (hb : b ≤ 1) (h : tRe c n b s) (hf : tyf s = -1) : wKp (tOS c n b s) (tyn s) ≤ 2000 := by
  have z := tRe_w hc hb h hf
  have z2 := (tRe_g hc hb h hf).1.2.1
  rw [tyKs_K]
  have z3 : tyKs (tyr s) (tyn s) = tyk s := z
  omega
