/-! THE PAGE OF A TEXT HAS ROOM -/
noncomputable def tyM (c : Nat → Int) (n b : Nat) (r : Nat → Nat → Int) : Nat → Nat
  | 0 => 0
  | m + 1 => tyM c n b r m + (wRl c n b (r m) + if b = 1 then 0 else (r m 4).toNat + 1)
theorem tyM_up {c : Nat → Int} {n b : Nat} {r : Nat → Nat → Int} {k : Nat} {w : Nat → Int} : ∀ m, m ≤ k → tyM c n b (upF r k w) m = tyM c n b r m
  | 0, _ => rfl
  | m + 1, h => by
    show tyM c n b (upF r k w) m + (wRl c n b (upF r k w m) + if b = 1 then 0 else (upF r k w m 4).toNat + 1) = tyM c n b r m + (wRl c n b (r m) + if b = 1 then 0 else (r m 4).toNat + 1)
    rw [tyM_up m (by omega), show upF r k w m = r m from upF_ne (by omega)]
def tym (c : Nat → Int) (n b : Nat) (s : TyS) : Prop := tyM c n b (tyr s) (tyn s) ≤ typ s + 5 * tyn s ∧ (b = 1 → ∀ j, j < tyn s → tyr s j 4 ≤ 99)
theorem tym_r {c : Nat → Int} {n b : Nat} {s : TyS} (h : tym c n b s) {s' : TyS} {w : Nat → Int} (hn : tyn s' = tyn s + 1) (hr : tyr s' = upF (tyr s) (tyn s) w) (hd : b = 1 → w 4 ≤ 99) (hp : wRl c n b w + (if b = 1 then 0 else (w 4).toNat + 1) + typ s ≤ typ s' + 5) : tym c n b s' := by
  have e : tyM c n b (tyr s') (tyn s') = tyM c n b (tyr s) (tyn s) + (wRl c n b w + if b = 1 then 0 else (w 4).toNat + 1) := by
    rw [hn, hr]
    show tyM c n b (upF (tyr s) (tyn s) w) (tyn s) + (wRl c n b (upF (tyr s) (tyn s) w (tyn s)) + if b = 1 then 0 else (upF (tyr s) (tyn s) w (tyn s) 4).toNat + 1) = _
    rw [tyM_up _ (Nat.le_refl _), upF_at]
  have h1 := h.1
  refine ⟨?_, fun hb j hj => ?_⟩
  · rw [e]
    omega
  · rw [hr]
    by_cases q : j = tyn s
    · rw [q, upF_at]
      exact hd hb
    · rw [upF_ne q]
      exact h.2 hb j (by omega)
theorem tym_B {c : Nat → Int} {n b : Nat} {s : TyS} (hc : tOk c n) (hb : b ≤ 1) (hv : tym c n b s) {nm op d : Nat} (hd : b = 1 → d ≤ 99) (hop : typ s ≤ op ∧ op ≤ nm ∧ nm ≤ tSk tSm c n nm ∧ tSk tSm c n nm ≤ n) (hl : b ≠ 1 → typ s + d ≤ op) (hf : tyf (tyB c n b s (tSk tSm c n nm) op d (tKd c nm (tSk tSm c n nm))) = -1) : tym c n b (tyB c n b s (tSk tSm c n nm) op d (tKd c nm (tSk tSm c n nm))) := by
  have hk := tKd_b (c := c) (p := nm) (q := tSk tSm c n nm)
  generalize hq : tSk tSm c n nm = q at *
  unfold tyB at hf ⊢
  by_cases e9 : tKd c nm q = 9
  · rw [if_pos e9] at hf ⊢
    by_cases e : tkX c n b (op + 2000 - tyk s) d q = -1
    · rw [if_pos e]
      have w := tkX_b hc hb e
      have z : wRl c n b (tyW s d 9 op (tkE c n b (op + 2000 - tyk s) d q)) = ((tkE c n b (op + 2000 - tyk s) d q : Int) - op).toNat := wRl_9 (r := tyW s d 9 op (tkE c n b (op + 2000 - tyk s) d q)) rfl
      refine tym_r hv (w := tyW s d 9 op (tkE c n b (op + 2000 - tyk s) d q)) rfl rfl (fun y => by have := hd y; show (d : Int) ≤ 99; omega) ?_
      rw [z]
      show _ + (if b = 1 then 0 else ((d : Int)).toNat + 1) + typ s ≤ tkE c n b (op + 2000 - tyk s) d q + (1 - b) + 5
      by_cases g : b = 1
      · rw [if_pos g]
        omega
      · rw [if_neg g]
        have := hl g
        omega
    · rw [if_neg e] at hf
      exact absurd hf tyF_f
  · rw [if_neg e9] at hf ⊢
    by_cases e : tVz c n b (tKd c nm q).toNat q (tFv (tKd c nm q).toNat (tyx s)) = -1
    · rw [if_pos e] at hf ⊢
      by_cases e2 : b = 0 ∧ c (tVp c n b (tKd c nm q).toNat q (tFv (tKd c nm q).toNat (tyx s))) ≠ 10
      · rw [if_pos e2] at hf
        exact absurd hf tyF_f
      · rw [if_neg e2]
        obtain ⟨a, ha⟩ : ∃ a : Nat, tKd c nm q = a := ⟨(tKd c nm q).toNat, by omega⟩
        rw [ha] at e e9 hf e2 hk ⊢
        rw [Int.toNat_natCast] at e hf e2 ⊢
        have his : tIs c nm q a := by
          unfold tKd at ha
          rcases zlow_sp (tIs c nm q) 9 with ⟨w1, w2⟩ | ⟨r, w1, w2, w3, w4⟩
          · rw [w1, if_pos rfl] at ha
            omega
          · rw [w2, if_neg (by omega)] at ha
            have : r = a := by omega
            rw [← this]
            exact w3
        have hvp := tVp_le (b := b) (a := a) (i := tFv a (tyx s)) hc hop.2.2.2 (tVz_p e)
        have z := wRl_8 (r := tyW s d a q 0) (a := a) (q := q) (x := tyx s) hc rfl (by omega) rfl rfl e
        refine tym_r hv (w := tyW s d a q 0) rfl rfl (fun y => by have := hd y; show (d : Int) ≤ 99; omega) ?_
        have hlen := his.1
        show _ + (if b = 1 then 0 else ((d : Int)).toNat + 1) + typ s ≤ tVp c n b a q (tFv a (tyx s)) + (1 - b) + 5
        by_cases g : b = 1
        · rw [if_pos g]
          omega
        · rw [if_neg g]
          have := hl g
          omega
    · rw [if_neg e] at hf
      exact absurd hf tyF_f
theorem tym_G {c : Nat → Int} {n b : Nat} {s : TyS} (hc : tOk c n) (hb : b ≤ 1) (hv : tym c n b s) {nm op d : Nat} (hd : b = 1 → d ≤ 99) (hq : typ s ≤ op ∧ op ≤ nm) (hl : b ≠ 1 → typ s + d ≤ op) (hf : tyf (tyG c n b s nm op d) = -1) : tym c n b (tyG c n b s nm op d) := by
  unfold tyG at hf ⊢
  by_cases e : tBg c n nm (tyz s d) (tyn s)
  · rw [zite_t e] at hf ⊢
    have w := tSm_s hc e.1
    exact tym_B hc hb hv hd ⟨hq.1, hq.2, by omega, w.2.1⟩ hl hf
  · rw [zite_f e] at hf
    exact absurd hf tyF_f
theorem tym_A {c : Nat → Int} {n b : Nat} {s : TyS} (hc : tOk c n) (hb : b ≤ 1) (hg : tyg c n b s) (hv : tym c n b s) (hf : tyf (tyA c n b s) = -1) : tym c n b (tyA c n b s) := by
  unfold tyA at hf ⊢
  by_cases eb : b = 1
  · rw [if_pos eb] at hf ⊢
    have w := tSk_b (P := tBk) (p := typ s) hc tBk_no
    by_cases e1 : c (tSk tBk c n (typ s)) = 40
    · rw [if_pos e1] at hf ⊢
      unfold tyL at hf ⊢
      by_cases e2 : tyd s = 100
      · rw [if_pos e2] at hf
        exact absurd hf tyF_f
      · rw [if_neg e2] at hf ⊢
        have w2 := tSk_b (P := tBk) (p := tSk tBk c n (typ s) + 1) hc tBk_no
        have h6 := hg.1.2.2.2.2.2.1 eb
        subst eb
        exact tym_G hc (by omega) hv (fun _ => by omega) (by omega) (fun y => absurd rfl y) hf
    · rw [if_neg e1] at hf ⊢
      by_cases e2 : c (tSk tBk c n (typ s)) = 41 ∧ tyd s ≠ 0
      · rw [if_pos e2]
        have h1 := hv.1
        refine ⟨?_, hv.2⟩
        show tyM c n b (tyr s) (tyn s) ≤ tSk tBk c n (typ s) + 1 + 5 * tyn s
        omega
      · rw [if_neg e2] at hf
        exact absurd hf tyF_f
  · rw [if_neg eb] at hf ⊢
    by_cases e1 : tyd s < tyD c n s
    · rw [if_pos e1] at hf
      exact absurd hf tyF_f
    · rw [if_neg e1] at hf ⊢
      by_cases e2 : tyD c n s = 0 ∧ 0 < typ s
      · rw [if_pos e2] at hf
        exact absurd hf tyF_f
      · rw [if_neg e2] at hf ⊢
        have e0 : b = 0 := by omega
        subst e0
        exact tym_G hc (by omega) hv (fun y => by omega) (by omega) (fun _ => by omega) hf
theorem tRe_m {c : Nat → Int} {n b : Nat} {s : TyS} (hc : tOk c n) (hb : b ≤ 1) (h : tRe c n b s) (hf : tyf s = -1) : tym c n b s := by
  obtain ⟨i, rfl⟩ := h
  have g : ∀ i, tyf (tyI c n b i) = -1 → tym c n b (tyI c n b i) := fun i => by
    induction i with
    | zero => intro _; exact ⟨Nat.le_refl _, fun _ j hj => absurd hj (Nat.not_lt_zero j)⟩
    | succ i ih =>
      intro h1
      have e : tyI c n b (i + 1) = zite (tyE n b (tyI c n b i)) (tyI c n b i) (tyA c n b (tyI c n b i)) := rfl
      by_cases h2 : tyE n b (tyI c n b i)
      · rw [e, zite_t h2] at h1 ⊢
        exact ih h1
      · rw [e, zite_f h2] at h1 ⊢
        have h3 : tyf (tyI c n b i) = -1 := Classical.not_not.mp (fun w => h2 (Or.inl w))
        exact tym_A hc hb (tRe_g hc hb ⟨i, rfl⟩ h3) (ih h3) h1
  exact g i hf
/-- the pages -/
theorem wLi_M {c : Nat → Int} {n b : Nat} {s : TyS} (hb : b ≠ 1) : ∀ m, (wLi (tOS c n b s) (fun j => (tyr s j 4).toNat) m).length = tyM c n b (tyr s) m
  | 0 => rfl
  | m + 1 => by
    show (wLi (tOS c n b s) (fun j => (tyr s j 4).toNat) m ++ (wTm 46 (tyr s m 4).toNat ++ (wOw (tOS c n b s) m ++ [10]))).length = tyM c n b (tyr s) m + (wRl c n b (tyr s m) + if b = 1 then 0 else (tyr s m 4).toNat + 1)
    rw [List.length_append, List.length_append, List.length_append, wLi_M hb m, wTm_l, wOw_1, if_neg hb]
    show _ + (_ + (_ + 1)) = _
    omega
theorem wLs_M {c : Nat → Int} {n b : Nat} {s : TyS} (hb : b = 1) (h : ∀ j, j < tyn s → tyr s j 4 ≤ 99) : ∀ m, m ≤ tyn s → (wLs (tOS c n b s) (fun j => (tyr s j 4).toNat) m).length + wLo (tOS c n b s) (fun j => (tyr s j 4).toNat) m ≤ tyM c n b (tyr s) m + 102 * m
  | 0, _ => Nat.le_refl _
  | m + 1, hm => by
    have ih := wLs_M (c := c) (n := n) hb h m (by omega)
    have h4 := h m (by omega)
    have e1 : (wLs (tOS c n b s) (fun j => (tyr s j 4).toNat) (m + 1)).length = (wLs (tOS c n b s) (fun j => (tyr s j 4).toNat) m).length + ((wLh (tOS c n b s) (fun j => (tyr s j 4).toNat) m).length + (wOw (tOS c n b s) m).length) := by
      show (wLs (tOS c n b s) (fun j => (tyr s j 4).toNat) m ++ (wLh (tOS c n b s) (fun j => (tyr s j 4).toNat) m ++ wOw (tOS c n b s) m)).length = _
      rw [List.length_append, List.length_append]
    have e2 : wLo (tOS c n b s) (fun j => (tyr s j 4).toNat) (m + 1) = min (wLo (tOS c n b s) (fun j => (tyr s j 4).toNat) m) (tyr s m 4).toNat + if okd (tOS c n b s) m = 9 then 0 else 1 := rfl
    have e3 : tyM c n b (tyr s) (m + 1) = tyM c n b (tyr s) m + (wRl c n b (tyr s m) + if b = 1 then 0 else (tyr s m 4).toNat + 1) := rfl
    have e4 : (wLh (tOS c n b s) (fun j => (tyr s j 4).toNat) m).length ≤ (wLo (tOS c n b s) (fun j => (tyr s j 4).toNat) m - (tyr s m 4).toNat) + ((1 + (tyr s m 4).toNat) + 1) := by
      have a0 : wLh (tOS c n b s) (fun j => (tyr s j 4).toNat) m = wTm 41 (wLo (tOS c n b s) (fun j => (tyr s j 4).toNat) m - (tyr s m 4).toNat) ++ ((if 0 < m then [10] ++ wTm 32 (tyr s m 4).toNat else []) ++ if okd (tOS c n b s) m = 9 then [] else [40]) := rfl
      rw [a0, List.length_append, List.length_append, wTm_l]
      have a1 : (if 0 < m then [10] ++ wTm 32 (tyr s m 4).toNat else []).length ≤ 1 + (tyr s m 4).toNat := by
        by_cases q : 0 < m
        · rw [if_pos q, List.length_append, wTm_l]
          exact Nat.le_refl _
        · rw [if_neg q]
          exact Nat.zero_le _
      have a2 : (if okd (tOS c n b s) m = 9 then [] else [(40 : Int)]).length ≤ 1 := by
        by_cases q : okd (tOS c n b s) m = 9
        · rw [if_pos q]
          exact Nat.zero_le _
        · rw [if_neg q]
          exact Nat.le_refl _
      omega
    have e5 : (if okd (tOS c n b s) m = 9 then 0 else 1) ≤ 1 := by
      split <;> omega
    rw [wOw_1] at e1
    rw [e3, if_pos hb]
    omega
theorem tRe_pg {c : Nat → Int} {n b : Nat} {s : TyS} (hc : tOk c n) (hb : b ≤ 1) (h : tRe c n b s) (hf : tyf s = -1) (fm : Int) (hfm : fm = 0 ↔ b = 1) : (wPg (tOS c n b s) (fun j => (tyr s j 4).toNat) fm).length ≤ 26000 := by
  have z := tRe_m hc hb h hf
  have g := (tRe_g hc hb h hf).1
  have hn := hc.1
  have g1 : tyn s ≤ 200 ∧ typ s ≤ n := by omega
  unfold wPg
  have eo : ocn (tOS c n b s) = tyn s := rfl
  by_cases e : b = 1
  · rw [if_pos (hfm.mpr e), eo, List.length_append, List.length_append, wTm_l]
    have w := wLs_M (c := c) (n := n) e (z.2 e) (tyn s) (Nat.le_refl _)
    have z1 := z.1
    show _ + (_ + 1) ≤ _
    omega
  · rw [if_neg (fun y => e (hfm.mp y)), eo, wLi_M e]
    have z1 := z.1
    omega
