/-! THE OBJECTS OF A TEXT STAND IN THE TREE'S ORDER -/
def tyq (r : Nat → Nat → Int) (c : Nat) : Prop := r (r c 1).toNat 0 ≠ 9 ∧ r c 4 = r (r c 1).toNat 4 + 1 ∧ ∀ j, (r c 1).toNat < j → j < c → r (r c 1).toNat 4 < r j 4
def tyv (c : Nat → Int) (n b : Nat) (s : TyS) : Prop := (0 < tyn s → tyr s 0 4 = 0) ∧ (∀ m, 0 < m → m < tyn s → tyq (tyr s) m) ∧ ∀ d, d < tyd s → (b = 1 ∨ d < tyD c n s) → ∀ j, tyo s d < j → j < tyn s → (d : Int) < tyr s j 4
theorem tyv_0 {c : Nat → Int} {n b : Nat} : tyv c n b ty0 := ⟨fun h => absurd h (Nat.not_lt_zero _), fun m h1 h2 => absurd h2 (Nat.not_lt_zero _), fun d h => absurd h (Nat.not_lt_zero _)⟩
theorem tyq_up {r : Nat → Nat → Int} {m k : Nat} {w : Nat → Int} (hk : k < m) (hp : r k 1 < k) (hk0 : 0 < k) (h : tyq r k) : tyq (upF r m w) k := by
  have e : upF r m w k = r k := upF_ne (by omega)
  have e2 : upF r m w (r k 1).toNat = r (r k 1).toNat := upF_ne (by omega)
  unfold tyq
  rw [e, e2]
  refine ⟨h.1, h.2.1, fun j h1 h2 => ?_⟩
  rw [show upF r m w j = r j from upF_ne (by omega)]
  exact h.2.2 j h1 h2
/-- a row more -/
theorem tyq_n {c : Nat → Int} {n b : Nat} {s : TyS} (h : tyg c n b s) (hv : tyv c n b s) {d q e : Nat} {a : Int} (hd : d ≤ tyd s) (h0 : d = 0 ↔ tyn s = 0) (hl : b = 1 ∨ d ≤ tyD c n s) :
    (upF (tyr s) (tyn s) (tyW s d a q e) 0 4 = 0) ∧ ∀ m, 0 < m → m < tyn s + 1 → tyq (upF (tyr s) (tyn s) (tyW s d a q e)) m := by
  constructor
  · by_cases z : tyn s = 0
    · rw [z, upF_at]
      have : d = 0 := h0.2 z
      subst this
      rfl
    · rw [show upF (tyr s) (tyn s) (tyW s d a q e) 0 = tyr s 0 from upF_ne (by omega)]
      exact hv.1 (by omega)
  · intro m h1 h2
    by_cases z : m = tyn s
    · have hd0 : 0 < d := by
        by_cases q0 : d = 0
        · have := h0.1 q0
          omega
        · omega
      have g := h.2.1 (d - 1) (by omega)
      rw [z]
      have e1 : upF (tyr s) (tyn s) (tyW s d a q e) (tyn s) = tyW s d a q e := upF_at
      have ey : tyW s d a q e 1 = (tyo s (d - 1) : Int) := (show tyW s d a q e 1 = tyy s d from rfl).trans (if_neg (by omega))
      have e4 : tyW s d a q e 4 = d := rfl
      have ep : (tyW s d a q e 1).toNat = tyo s (d - 1) := by rw [ey]; omega
      have e2 : upF (tyr s) (tyn s) (tyW s d a q e) (tyo s (d - 1)) = tyr s (tyo s (d - 1)) := upF_ne (by omega)
      unfold tyq
      rw [e1, ep, e2, e4]
      refine ⟨by omega, by omega, fun j h3 h4 => ?_⟩
      rw [show upF (tyr s) (tyn s) (tyW s d a q e) j = tyr s j from upF_ne (by omega)]
      have w := hv.2.2 (d - 1) (by omega) (by omega) j h3 h4
      omega
    · have hr := h.2.2 m (by omega)
      exact tyq_up (by omega) hr.2.1.2 h1 (hv.2.1 m h1 (by omega))
theorem tyv_U {c : Nat → Int} {n b : Nat} {s : TyS} (h : tyg c n b s) (hv : tyv c n b s) {p d q e : Nat} (hd : d ≤ tyd s) (h0 : d = 0 ↔ tyn s = 0) (hl : (b = 1 ∧ d = tyd s) ∨ (b = 0 ∧ d ≤ tyD c n s ∧ tyD c n (tyU s p d q e) ≤ d)) : tyv c n b (tyU s p d q e) := by
  have z := tyq_n h hv (d := d) (q := q) (e := e) (a := 9) hd h0 (by omega)
  refine ⟨fun _ => z.1, z.2, fun d2 h1 h2 j h3 h4 => ?_⟩
  have h1' : d2 < tyd s := h1
  have h3' : tyo s d2 < j := h3
  have h4' : j < tyn s + 1 := h4
  show (d2 : Int) < upF (tyr s) (tyn s) (tyW s d 9 q e) j 4
  by_cases ej : j = tyn s
  · rw [ej, upF_at]
    show (d2 : Int) < (d : Int)
    omega
  · rw [show upF (tyr s) (tyn s) (tyW s d 9 q e) j = tyr s j from upF_ne ej]
    exact hv.2.2 d2 h1' (by omega) j h3' (by omega)
theorem tyv_O {c : Nat → Int} {n b : Nat} {s : TyS} (h : tyg c n b s) (hv : tyv c n b s) {p d q : Nat} {a x : Int} (hd : d ≤ tyd s) (h0 : d = 0 ↔ tyn s = 0) (hl : b = 1 ∨ d ≤ tyD c n s) : tyv c n b (tyO s p d a q x) := by
  have z := tyq_n h hv (d := d) (q := q) (e := 0) (a := a) hd h0 hl
  refine ⟨fun _ => z.1, z.2, fun d2 h1 h2 j h3 h4 => ?_⟩
  have h1' : d2 < d + 1 := h1
  have h3' : upF (tyo s) d (tyn s) d2 < j := h3
  have h4' : j < tyn s + 1 := h4
  show (d2 : Int) < upF (tyr s) (tyn s) (tyW s d a q 0) j 4
  by_cases ed : d2 = d
  · rw [ed, upF_at] at h3'
    omega
  · rw [show upF (tyo s) d (tyn s) d2 = tyo s d2 from upF_ne ed] at h3'
    by_cases ej : j = tyn s
    · rw [ej, upF_at]
      show (d2 : Int) < (d : Int)
      omega
    · rw [show upF (tyr s) (tyn s) (tyW s d a q 0) j = tyr s j from upF_ne ej]
      exact hv.2.2 d2 (by omega) (by omega) j h3' (by omega)
theorem tyv_C {c : Nat → Int} {n : Nat} {s : TyS} (hv : tyv c n 1 s) {p : Nat} : tyv c n 1 (tyC s p) :=
  ⟨hv.1, hv.2.1, fun d h1 _ j h3 h4 => hv.2.2 d (by have h1' : d < tyd s - 1 := h1; omega) (Or.inl rfl) j h3 h4⟩
theorem tlE_D {c : Nat → Int} {n lim d q0 : Nat} (hc : tOk c n) (h : tlX c n lim d q0 = -1) : tSk tDo c n (tlE c n lim d q0 + 1) - (tlE c n lim d q0 + 1) ≤ d := by
  have hx : c (tlE c n lim d q0) = 10 ∧ ¬ tDd c (tlE c n lim d q0 + 1) d := by
    unfold tlX at h
    by_cases e : lim < q0
    · rw [if_pos e] at h
      omega
    · rw [if_neg e] at h
      by_cases e2 : c (tlE c n lim d q0) = 10 ∧ ¬ tDd c (tlE c n lim d q0 + 1) d
      · exact e2
      · rw [zite_f e2] at h
        omega
  have w := tSk_sp (P := tDo) (p := tlE c n lim d q0 + 1) hc tDo_no
  by_cases e : tSk tDo c n (tlE c n lim d q0 + 1) - (tlE c n lim d q0 + 1) ≤ d
  · exact e
  · exact absurd (fun t ht => w.2.2.1 (tlE c n lim d q0 + 1 + t) (by omega) (by omega)) hx.2
theorem tyv_B {c : Nat → Int} {n b : Nat} {s : TyS} (hc : tOk c n) (hb : b ≤ 1) (h : tyg c n b s) (hv : tyv c n b s) {q op d : Nat} {a : Int} (hd : d ≤ tyd s) (h0 : d = 0 ↔ tyn s = 0) (hl : (b = 1 ∧ d = tyd s) ∨ (b = 0 ∧ d ≤ tyD c n s)) (hf : tyf (tyB c n b s q op d a) = -1) : tyv c n b (tyB c n b s q op d a) := by
  unfold tyB at hf ⊢
  by_cases e9 : a = 9
  · rw [if_pos e9] at hf ⊢
    by_cases e : tkX c n b (op + 2000 - tyk s) d q = -1
    · rw [if_pos e]
      refine tyv_U h hv hd h0 ?_
      rcases hl with ⟨l1, l2⟩ | ⟨l1, l2⟩
      · exact Or.inl ⟨l1, l2⟩
      · subst l1
        exact Or.inr ⟨rfl, l2, tlE_D hc e⟩
    · rw [if_neg e] at hf
      exact absurd hf tyF_f
  · rw [if_neg e9] at hf ⊢
    by_cases e : tVz c n b a.toNat q (tFv a.toNat (tyx s)) = -1
    · rw [if_pos e] at hf ⊢
      by_cases e2 : b = 0 ∧ c (tVp c n b a.toNat q (tFv a.toNat (tyx s))) ≠ 10
      · rw [if_pos e2] at hf
        exact absurd hf tyF_f
      · rw [if_neg e2]
        exact tyv_O h hv hd h0 (by omega)
    · rw [if_neg e] at hf
      exact absurd hf tyF_f
theorem tyv_G {c : Nat → Int} {n b : Nat} {s : TyS} (hc : tOk c n) (hb : b ≤ 1) (h : tyg c n b s) (hv : tyv c n b s) {nm op d : Nat} (hd : d ≤ tyd s) (h0 : d = 0 ↔ tyn s = 0) (hl : (b = 1 ∧ d = tyd s) ∨ (b = 0 ∧ d ≤ tyD c n s)) (hf : tyf (tyG c n b s nm op d) = -1) : tyv c n b (tyG c n b s nm op d) := by
  unfold tyG at hf ⊢
  by_cases e : tBg c n nm (tyz s d) (tyn s)
  · rw [zite_t e] at hf ⊢
    exact tyv_B hc hb h hv hd h0 hl hf
  · rw [zite_f e] at hf
    exact absurd hf tyF_f
theorem tyv_A {c : Nat → Int} {n b : Nat} {s : TyS} (hc : tOk c n) (hb : b ≤ 1) (h : tyg c n b s) (hv : tyv c n b s) (he : ¬ tyE n b s) (hf : tyf (tyA c n b s) = -1) : tyv c n b (tyA c n b s) := by
  have g1 := h.1
  unfold tyA at hf ⊢
  by_cases eb : b = 1
  · rw [if_pos eb] at hf ⊢
    by_cases e1 : c (tSk tBk c n (typ s)) = 40
    · rw [if_pos e1] at hf ⊢
      unfold tyL at hf ⊢
      by_cases e2 : tyd s = 100
      · rw [if_pos e2] at hf
        exact absurd hf tyF_f
      · rw [if_neg e2] at hf ⊢
        subst eb
        exact tyv_G hc (by omega) h hv (Nat.le_refl _) ⟨fun y => Classical.not_not.mp (fun y2 => he (Or.inr (Or.inl ⟨rfl, y, y2⟩))), fun y => by omega⟩ (Or.inl ⟨rfl, rfl⟩) hf
    · rw [if_neg e1] at hf ⊢
      by_cases e2 : c (tSk tBk c n (typ s)) = 41 ∧ tyd s ≠ 0
      · rw [if_pos e2]
        subst eb
        exact tyv_C hv
      · rw [if_neg e2] at hf
        exact absurd hf tyF_f
  · rw [if_neg eb] at hf ⊢
    by_cases e1 : tyd s < tyD c n s
    · rw [if_pos e1] at hf
      exact absurd hf tyF_f
    · rw [if_neg e1] at hf ⊢
      by_cases e2 : tyD c n s = 0 ∧ 0 < typ s
      · rw [if_pos e2] at hf
        exact absurd hf tyF_f
      · rw [if_neg e2] at hf ⊢
        have e0 : b = 0 := by omega
        have g9 := g1.2.2.2.2.2.2.2.2 eb
        subst e0
        exact tyv_G hc hb h hv (by omega) ⟨fun y => by omega, fun y => by omega⟩ (Or.inr ⟨rfl, Nat.le_refl _⟩) hf
theorem tRe_v {c : Nat → Int} {n b : Nat} {s : TyS} (hc : tOk c n) (hb : b ≤ 1) (h : tRe c n b s) (hf : tyf s = -1) : tyv c n b s := by
  obtain ⟨i, rfl⟩ := h
  have g : ∀ i, tyf (tyI c n b i) = -1 → tyv c n b (tyI c n b i) := fun i => by
    induction i with
    | zero => intro _; exact tyv_0
    | succ i ih =>
      intro h1
      have e : tyI c n b (i + 1) = zite (tyE n b (tyI c n b i)) (tyI c n b i) (tyA c n b (tyI c n b i)) := rfl
      by_cases h2 : tyE n b (tyI c n b i)
      · rw [e, zite_t h2] at h1 ⊢
        exact ih h1
      · rw [e, zite_f h2] at h1 ⊢
        have hs := Classical.not_not.mp (fun w => h2 (Or.inl w))
        exact tyv_A hc hb (tRe_g hc hb ⟨i, rfl⟩ hs) (ih hs) h2 h1
  exact g i hf
/-- the order of the objects; the kept letters -/
theorem tRe_P {c : Nat → Int} {n b : Nat} {s : TyS} (hc : tOk c n) (hb : b ≤ 1) (h : tRe c n b s) (hf : tyf s = -1) (hn : 0 < tyn s) : wPre (tOS c n b s) (fun j => (tyr s j 4).toNat) := by
  have hv := tRe_v hc hb h hf
  have hg := tRe_g hc hb h hf
  refine ⟨?_, fun m h1 h2 => ?_⟩
  · show (tyr s 0 4).toNat = 0
    rw [hv.1 hn]; rfl
  · have h2' : m < tyn s := h2
    have r := hg.2.2 m h2'
    have q := hv.2.1 m h1 h2'
    have d0 := r.2.1.2
    have d2 := r.2.2.2.1 h1
    have r2 := hg.2.2 (tyr s m 1).toNat (by omega)
    show 0 ≤ tyr s m 1 ∧ tyr s m 1 < m ∧ (tyr s m 4).toNat = (tyr s (tyr s m 1).toNat 4).toNat + 1 ∧ tyr s (tyr s m 1).toNat 0 ≠ 9 ∧ ∀ j, (tyr s m 1).toNat < j → j < m → (tyr s (tyr s m 1).toNat 4).toNat < (tyr s j 4).toNat
    have d1 := r2.2.2.2.2.2.1
    refine ⟨d2.2.1, r.2.1.2, by have := q.2.1; omega, q.1, fun j h3 h4 => ?_⟩
    have w := q.2.2 j h3 h4
    omega
