/-! A GOOD state of the reading -/
/-- a row j of a good state -/
def tyRg (c : Nat → Int) (n b : Nat) (r : Nat → Nat → Int) (j : Nat) : Prop :=
  (0 ≤ r j 0 ∧ r j 0 ≤ 9) ∧ (-1 ≤ r j 1 ∧ r j 1 < j) ∧ (j = 0 → r j 0 = 0) ∧ (0 < j → 1 ≤ r j 0 ∧ 0 ≤ r j 1 ∧ tCn (r j 0) (r (r j 1).toNat 0)) ∧ (0 ≤ r j 2 ∧ r j 2 ≤ n) ∧ (0 ≤ r j 4 ∧ r j 4 ≤ 199) ∧ (1 ≤ r j 5 ∧ r j 5 ≤ 3) ∧
  (r j 0 ≠ 9 → tVz c n b (r j 0).toNat (r j 2).toNat (tFv (r j 0).toNat (r j 5)) = -1) ∧ (r j 0 = 9 → r j 2 ≤ r j 3 ∧ r j 3 ≤ n ∧ r j 3 ≤ r j 2 + 2000)
def tyg (c : Nat → Int) (n b : Nat) (s : TyS) : Prop :=
  (tyn s ≤ 200 ∧ tyk s ≤ 2000 ∧ tyk s ≤ typ s ∧ typ s ≤ n ∧ tyd s ≤ tyn s ∧ (b = 1 → tyd s ≤ 100) ∧ (1 ≤ tyx s ∧ tyx s ≤ 3) ∧ (tyn s = 0 ↔ typ s = 0) ∧ (b ≠ 1 → (tyd s = 0 ↔ typ s = 0))) ∧
  (∀ d, d < tyd s → tyo s d < tyn s ∧ (0 ≤ tyr s (tyo s d) 0 ∧ tyr s (tyo s d) 0 ≤ 8) ∧ tyr s (tyo s d) 1 = tyy s d ∧ tyr s (tyo s d) 4 = d) ∧
  ∀ j, j < tyn s → tyRg c n b (tyr s) j
theorem tyg_0 {c : Nat → Int} {n b : Nat} : tyg c n b ty0 := ⟨⟨Nat.zero_le _, Nat.zero_le _, Nat.le_refl _, Nat.zero_le _, Nat.le_refl _, fun _ => Nat.zero_le _, by decide, ⟨fun _ => rfl, fun _ => rfl⟩, fun _ => ⟨fun _ => rfl, fun _ => rfl⟩⟩, fun d h => absurd h (Nat.not_lt_zero d), fun j h => absurd h (Nat.not_lt_zero j)⟩
theorem tyRg_up {c : Nat → Int} {n b m j : Nat} {r : Nat → Nat → Int} {w : Nat → Int} (hj : j < m) (h : tyRg c n b r j) : tyRg c n b (upF r m w) j := by
  obtain ⟨h1, h2, h3, h4, h5, h6, h7, h8, h9⟩ := h
  have e : upF r m w j = r j := upF_ne (by omega)
  unfold tyRg
  rw [e]
  refine ⟨h1, h2, h3, fun q => ⟨(h4 q).1, (h4 q).2.1, ?_⟩, h5, h6, h7, h8, h9⟩
  have z := h4 q
  have e2 : upF r m w (r j 1).toNat = r (r j 1).toNat := upF_ne (by omega)
  rw [e2]
  exact z.2.2
theorem tVz_p {c : Nat → Int} {n b a q m : Nat} (h : tVz c n b a q m = -1) : ∀ i, i < m → tVf c n b a q i = -1 := fun i hi => by
  unfold tVz at h
  by_cases e : ∃ i, i < m ∧ tVf c n b a q i ≠ -1
  · rw [zite_t e] at h
    rcases zlow_sp (fun i => tVf c n b a q i ≠ -1) m with ⟨w1, w2⟩ | ⟨r, w1, w2, w3, w4⟩
    · exact Classical.not_not.mp (w2 i hi)
    · rw [w2] at h
      exact absurd h w3
  · exact Classical.not_not.mp (fun w => e ⟨i, hi, w⟩)
theorem tXx_b {c : Nat → Int} {n b a q : Nat} {x : Int} (hx : 1 ≤ x ∧ x ≤ 3) (h : tVz c n b a q (tFv a x) = -1) : 1 ≤ tXx c n b a q (tFv a x) x ∧ tXx c n b a q (tFv a x) x ≤ 3 := by
  by_cases e : a = 0 ∧ 0 < tFv a x
  · rw [tXx_t e]
    have w := tVz_p h 0 e.2
    have e1 := e.1
    subst e1
    by_cases g : tGk c (tVp c n b 0 q 0) b
    · rw [tVf_n g (by rw [tFc_v.1]; decide), tFc_v.1, tFc_v.2.1, tFc_v.2.2.1, tFc_v.2.2.2] at w
      exact tNf_r w
    · rw [tVf_g g] at w
      omega
  · rw [tXx_f e]
    exact hx
theorem tyz_b {c : Nat → Int} {n b : Nat} {s : TyS} (h : tyg c n b s) {d : Nat} (hd : d ≤ tyd s) : (d = 0 ∧ tyy s d = -1 ∧ tyz s d = -1) ∨ (0 < d ∧ (0 ≤ tyy s d ∧ tyy s d < tyn s) ∧ (0 ≤ tyz s d ∧ tyz s d ≤ 8) ∧ tyz s d = tyr s (tyy s d).toNat 0 ∧ tyr s (tyy s d).toNat 4 = (d : Int) - 1 ∧ tyr s (tyy s d).toNat 1 = tyy s (d - 1)) := by
  rcases Nat.eq_zero_or_pos d with e | e
  · subst e
    exact Or.inl ⟨rfl, rfl, rfl⟩
  · have w := h.2.1 (d - 1) (by omega)
    have e1 : tyy s d = tyo s (d - 1) := if_neg (by omega)
    have e2 : tyz s d = tyr s (tyo s (d - 1)) 0 := if_neg (by omega)
    rw [e1, e2, Int.toNat_natCast]
    exact Or.inr ⟨e, by omega, w.2.1, rfl, by omega, w.2.2.1⟩
/-- the new row of an object -/
theorem tyW_g {c : Nat → Int} {n b : Nat} {s : TyS} (h : tyg c n b s) {d q e : Nat} {a : Int} (hn : tyn s < 200) (hd : d ≤ tyd s) (h0 : d = 0 ↔ tyn s = 0) (ha : 0 ≤ a ∧ a ≤ 9) (hcn : tCn a (tyz s d)) (hq : q ≤ n) (h8 : a ≠ 9 → tVz c n b a.toNat q (tFv a.toNat (tyx s)) = -1) (h9 : a = 9 → q ≤ e ∧ e ≤ n ∧ e ≤ q + 2000) : tyRg c n b (upF (tyr s) (tyn s) (tyW s d a q e)) (tyn s) := by
  have w := tyz_b h hd
  obtain ⟨g1, g2, g3⟩ := h
  have ec : upF (tyr s) (tyn s) (tyW s d a q e) (tyn s) = tyW s d a q e := upF_at
  have c0 : tyW s d a q e 0 = a := rfl
  have c1 : tyW s d a q e 1 = tyy s d := rfl
  have c2 : tyW s d a q e 2 = q := rfl
  have c3 : tyW s d a q e 3 = e := rfl
  have c4 : tyW s d a q e 4 = d := rfl
  have c5 : tyW s d a q e 5 = tyx s := rfl
  unfold tyRg
  rw [ec, c0, c1, c2, c3, c4, c5]
  refine ⟨ha, ?_, fun z => ?_, fun z => ?_, by omega, by omega, by omega, fun z => ?_, fun z => ?_⟩
  · rcases w with w | w <;> omega
  · rcases w with w | w
    · unfold tCn at hcn
      rw [w.2.2] at hcn
      rcases hcn with y | y
      · exact y.2
      · omega
    · omega
  · rcases w with w | w
    · omega
    · have e3 : upF (tyr s) (tyn s) (tyW s d a q e) (tyy s d).toNat = tyr s (tyy s d).toNat := upF_ne (by omega)
      rw [e3, ← w.2.2.2.1]
      refine ⟨?_, w.2.1.1, hcn⟩
      unfold tCn at hcn
      rcases hcn with y | ⟨y1, y | y | y | y | y | y | y | y | y⟩ <;> omega
  · rw [Int.toNat_natCast]
    exact h8 z
  · have y := h9 z
    omega
theorem tyo_u {s : TyS} {d d' m : Nat} (h : d' < d) : upF (tyo s) d m d' = tyo s d' := upF_ne (by omega)
/-- a good state's next one -/
theorem tyU_g {c : Nat → Int} {n b : Nat} {s : TyS} (h : tyg c n b s) {p d q e : Nat} (hn : tyn s < 200) (hd : d ≤ tyd s) (h0 : d = 0 ↔ tyn s = 0) (hcn : tCn 9 (tyz s d)) (hq : typ s ≤ q ∧ q ≤ e ∧ e ≤ p ∧ p ≤ n ∧ 0 < p) (hl : e ≤ q + 2000 - tyk s) : tyg c n b (tyU s p d q e) := by
  have hw := tyW_g (e := e) h hn hd h0 (a := 9) (by decide) hcn (show q ≤ n by omega) (fun w => absurd rfl w) (fun _ => by omega)
  have w := tyz_b h hd
  obtain ⟨g1, g2, g3⟩ := h
  have hd1 : 0 < tyd s := by
    rcases w with w | w
    · unfold tCn at hcn
      rw [w.2.2] at hcn
      omega
    · omega
  have e1 : tyn (tyU s p d q e) = tyn s + 1 := rfl
  have e2 : tyk (tyU s p d q e) = tyk s + (e - q) := rfl
  have e3 : typ (tyU s p d q e) = p := rfl
  have e4 : tyd (tyU s p d q e) = tyd s := rfl
  have e5 : tyx (tyU s p d q e) = tyx s := rfl
  refine ⟨?_, fun d' hd' => ?_, fun j hj => ?_⟩
  · rw [e1, e2, e3, e4, e5]
    exact ⟨by omega, by omega, by omega, by omega, by omega, g1.2.2.2.2.2.1, g1.2.2.2.2.2.2.1, by omega, fun _ => by omega⟩
  · have z := g2 d' hd'
    have y : tyr (tyU s p d q e) (tyo (tyU s p d q e) d') = tyr s (tyo s d') := upF_ne (show tyo s d' ≠ tyn s by omega)
    rw [y]
    exact ⟨by show tyo s d' < tyn s + 1; omega, z.2⟩
  · by_cases e6 : j = tyn s
    · rw [e6]
      exact hw
    · have hj2 : j < tyn s + 1 := hj
      exact tyRg_up (by omega) (g3 j (by omega))
theorem tyO_g {c : Nat → Int} {n b : Nat} {s : TyS} (h : tyg c n b s) {p d q : Nat} {a x : Int} (hn : tyn s < 200) (hd : d ≤ tyd s) (hd1 : b = 1 → d < 100) (h0 : d = 0 ↔ tyn s = 0) (ha : 0 ≤ a ∧ a ≤ 8) (hcn : tCn a (tyz s d)) (hq : typ s ≤ q ∧ q ≤ p ∧ p ≤ n ∧ 0 < p) (hx : 1 ≤ x ∧ x ≤ 3) (h8 : tVz c n b a.toNat q (tFv a.toNat (tyx s)) = -1) : tyg c n b (tyO s p d a q x) := by
  have hw := tyW_g (e := 0) h hn hd h0 (a := a) (by omega) hcn (show q ≤ n by omega) (fun _ => h8) (fun w => by omega)
  have w := tyz_b h hd
  obtain ⟨g1, g2, g3⟩ := h
  have e1 : tyn (tyO s p d a q x) = tyn s + 1 := rfl
  have e2 : tyk (tyO s p d a q x) = tyk s := rfl
  have e3 : typ (tyO s p d a q x) = p := rfl
  have e4 : tyd (tyO s p d a q x) = d + 1 := rfl
  have e5 : tyx (tyO s p d a q x) = x := rfl
  have e7 : ∀ d', d' ≤ d → tyy (tyO s p d a q x) d' = tyy s d' := fun d' h' => by
    rcases Nat.eq_zero_or_pos d' with z | z
    · subst z
      rfl
    · have y1 : tyy (tyO s p d a q x) d' = (upF (tyo s) d (tyn s) (d' - 1) : Nat) := if_neg (by omega)
      have y2 : tyy s d' = tyo s (d' - 1) := if_neg (by omega)
      rw [y1, y2, tyo_u (by omega)]
  refine ⟨?_, fun d' hd' => ?_, fun j hj => ?_⟩
  · rw [e1, e2, e3, e4, e5]
    omega
  · rw [e4] at hd'
    by_cases e6 : d' = d
    · subst e6
      have y0 : tyo (tyO s p d' a q x) d' = tyn s := upF_at
      have y : tyr (tyO s p d' a q x) (tyn s) = tyW s d' a q 0 := upF_at
      rw [y0, y, e7 d' (Nat.le_refl _), e1]
      exact ⟨Nat.lt_succ_self _, ha, rfl, rfl⟩
    · have z := g2 d' (by omega)
      have y0 : tyo (tyO s p d a q x) d' = tyo s d' := upF_ne (by omega)
      have y : tyr (tyO s p d a q x) (tyo s d') = tyr s (tyo s d') := upF_ne (by omega)
      rw [y0, y, e7 d' (by omega), e1]
      exact ⟨by omega, z.2⟩
  · by_cases e6 : j = tyn s
    · rw [e6]
      exact hw
    · have hj2 : j < tyn s + 1 := hj
      exact tyRg_up (by omega) (g3 j (by omega))
theorem tyC_g {c : Nat → Int} {n : Nat} {s : TyS} (h : tyg c n 1 s) {p : Nat} (hp : typ s ≤ p ∧ p ≤ n ∧ tyn s ≠ 0) : tyg c n 1 (tyC s p) := by
  obtain ⟨g1, g2, g3⟩ := h
  have e1 : tyn (tyC s p) = tyn s := rfl
  have e2 : tyk (tyC s p) = tyk s := rfl
  have e3 : typ (tyC s p) = p := rfl
  have e4 : tyd (tyC s p) = tyd s - 1 := rfl
  have e5 : tyx (tyC s p) = tyx s := rfl
  refine ⟨?_, fun d' hd' => g2 d' (by omega), g3⟩
  rw [e1, e2, e3, e4, e5]
  omega
theorem tSm_e {c : Nat → Int} {n p : Nat} (hc : tOk c n) : p ≤ tSk tSm c n p ∧ (tSk tSm c n p ≤ n ∨ tSk tSm c n p = p) := tSk_b hc tSm_no
theorem tyB_g {c : Nat → Int} {n b : Nat} {s : TyS} (hc : tOk c n) (hb : b ≤ 1) (h : tyg c n b s) {q op d : Nat} {a : Int} (hn : tyn s < 200) (hd : d ≤ tyd s) (hd1 : b = 1 → d < 100) (h0 : d = 0 ↔ tyn s = 0) (ha : 0 ≤ a ∧ a ≤ 9) (hcn : tCn a (tyz s d)) (hq : typ s ≤ op ∧ op ≤ q ∧ q ≤ n ∧ 0 < q) (hf : tyf (tyB c n b s q op d a) = -1) : tyg c n b (tyB c n b s q op d a) := by
  unfold tyB at hf ⊢
  by_cases e9 : a = 9
  · rw [if_pos e9] at hf ⊢
    by_cases e : tkX c n b (op + 2000 - tyk s) d q = -1
    · rw [if_pos e]
      have w := tkX_b hc hb e
      subst e9
      exact tyU_g h hn hd h0 hcn (by omega) (by omega)
    · rw [if_neg e] at hf
      have z : (((tkX c n b (op + 2000 - tyk s) d q).toNat : Nat) : Int) = -1 := hf
      omega
  · rw [if_neg e9] at hf ⊢
    by_cases e : tVz c n b a.toNat q (tFv a.toNat (tyx s)) = -1
    · rw [if_pos e] at hf ⊢
      have w := tVp_le (b := b) (a := a.toNat) (i := tFv a.toNat (tyx s)) hc hq.2.2.1 (tVz_p e)
      have hx := tXx_b h.1.2.2.2.2.2.2.1 e
      by_cases e2 : b = 0 ∧ c (tVp c n b a.toNat q (tFv a.toNat (tyx s))) ≠ 10
      · rw [if_pos e2] at hf
        have z : ((tVp c n b a.toNat q (tFv a.toNat (tyx s)) : Nat) : Int) = -1 := hf
        omega
      · rw [if_neg e2]
        have z2 := hc.2.2 (tVp c n b a.toNat q (tFv a.toNat (tyx s)))
        exact tyO_g h hn hd hd1 h0 (by omega) hcn (by omega) hx e
    · rw [if_neg e] at hf
      have z : (((tVz c n b a.toNat q (tFv a.toNat (tyx s))).toNat : Nat) : Int) = -1 := hf
      omega
theorem tyG_g {c : Nat → Int} {n b : Nat} {s : TyS} (hc : tOk c n) (hb : b ≤ 1) (h : tyg c n b s) {nm op d : Nat} (hd : d ≤ tyd s) (hd1 : b = 1 → d < 100) (h0 : d = 0 ↔ tyn s = 0) (hq : typ s ≤ op ∧ op ≤ nm) (hf : tyf (tyG c n b s nm op d) = -1) : tyg c n b (tyG c n b s nm op d) := by
  unfold tyG at hf ⊢
  by_cases e : tBg c n nm (tyz s d) (tyn s)
  · rw [zite_t e] at hf ⊢
    have w := tSm_s hc e.1
    have w2 := h.1.1
    have w3 := e.2.2
    exact tyB_g hc hb h (by omega) hd hd1 h0 tKd_b e.2.1 ⟨hq.1, by omega, w.2.1, by omega⟩ hf
  · rw [zite_f e] at hf
    have z : ((nm : Nat) : Int) = -1 := hf
    omega
theorem tyF_f {s : TyS} {f : Nat} : tyf (tyF s f) ≠ -1 := fun w => by
  have z : ((f : Nat) : Int) = -1 := w
  omega
theorem tyA_g {c : Nat → Int} {n b : Nat} {s : TyS} (hc : tOk c n) (hb : b ≤ 1) (h : tyg c n b s) (he : ¬ tyE n b s) (hf : tyf (tyA c n b s) = -1) : tyg c n b (tyA c n b s) := by
  have hsf : tyf s = -1 := Classical.not_not.mp (fun w => he (Or.inl w))
  have g1 := h.1
  unfold tyA at hf ⊢
  by_cases eb : b = 1
  · rw [if_pos eb] at hf ⊢
    have w := tSk_b (P := tBk) (p := typ s) hc tBk_no
    by_cases e1 : c (tSk tBk c n (typ s)) = 40
    · rw [if_pos e1] at hf ⊢
      unfold tyL at hf ⊢
      by_cases e2 : tyd s = 100
      · rw [if_pos e2] at hf
        exact absurd hf tyF_f
      · rw [if_neg e2] at hf ⊢
        have w2 := tSk_b (P := tBk) (p := tSk tBk c n (typ s) + 1) hc tBk_no
        subst eb
        exact tyG_g hc (by omega) h (Nat.le_refl _) (fun _ => by have := g1.2.2.2.2.2.1 rfl; omega) ⟨fun y => Classical.not_not.mp (fun y2 => he (Or.inr (Or.inl ⟨rfl, y, y2⟩))), fun y => by omega⟩ (by omega) hf
    · rw [if_neg e1] at hf ⊢
      by_cases e2 : c (tSk tBk c n (typ s)) = 41 ∧ tyd s ≠ 0
      · rw [if_pos e2]
        subst eb
        have w3 := hc.2.2 (tSk tBk c n (typ s))
        exact tyC_g h (by omega)
      · rw [if_neg e2] at hf
        exact absurd hf tyF_f
  · rw [if_neg eb] at hf ⊢
    by_cases e1 : tyd s < tyD c n s
    · rw [if_pos e1] at hf
      exact absurd hf tyF_f
    · rw [if_neg e1] at hf ⊢
      by_cases e2 : tyD c n s = 0 ∧ 0 < typ s
      · rw [if_pos e2] at hf
        exact absurd hf tyF_f
      · rw [if_neg e2] at hf ⊢
        have e0 : b = 0 := by omega
        have g9 := g1.2.2.2.2.2.2.2.2 eb
        subst e0
        exact tyG_g hc hb h (by omega) (fun w => by omega) ⟨fun y => by omega, fun y => by omega⟩ (by omega) hf
/-- the states that are reached are good -/
theorem tRe_g {c : Nat → Int} {n b : Nat} {s : TyS} (hc : tOk c n) (hb : b ≤ 1) (h : tRe c n b s) (hf : tyf s = -1) : tyg c n b s := by
  obtain ⟨i, rfl⟩ := h
  have g : ∀ i, tyf (tyI c n b i) = -1 → tyg c n b (tyI c n b i) := fun i => by
    induction i with
    | zero => intro _; exact tyg_0
    | succ i ih =>
      intro h1
      have e : tyI c n b (i + 1) = zite (tyE n b (tyI c n b i)) (tyI c n b i) (tyA c n b (tyI c n b i)) := rfl
      by_cases h2 : tyE n b (tyI c n b i)
      · rw [e, zite_t h2] at h1 ⊢
        exact ih h1
      · rw [e, zite_f h2] at h1 ⊢
        exact tyA_g hc hb (ih (Classical.not_not.mp (fun w => h2 (Or.inl w)))) h2 h1
  exact g i hf
