/-! THE DRAWING OF THE CLASS: sheets and rows more -/
theorem tsb_ab : ∀ l : List Nat, (l.all fun x => Nat.ble x 126) = true → ∀ j, l.getD j 0 ≤ 126
  | [], _, j => by show ([] : List Nat).getD j 0 ≤ 126; rw [List.getD_nil]; exact Nat.zero_le _
  | a :: r, h, 0 => by
    have w := List.all_eq_true.mp h a (List.mem_cons_self ..)
    exact Nat.le_of_ble_eq_true w
  | a :: r, h, j + 1 => by
    have w : (r.all fun x => Nat.ble x 126) = true := by
      refine List.all_eq_true.mpr fun x hx => List.all_eq_true.mp h x (List.mem_cons_of_mem _ hx)
    exact tsb_ab r w j
theorem tsb_q : (tsL.all fun e => (e.2.2.2.all fun x => Nat.ble x 126) && Nat.ble e.2.2.2.length 11) = true := by decide +kernel
theorem tsb_p (i : Nat) : ((tsb i).all fun x => Nat.ble x 126) = true ∧ (tsb i).length ≤ 11 := by
  unfold tsb
  rw [List.getD_eq_getElem?_getD]
  cases hi : tsL[i]? with
  | none => exact ⟨rfl, Nat.zero_le _⟩
  | some e =>
    have w := List.all_eq_true.mp tsb_q _ (List.mem_of_getElem? hi)
    rw [Bool.and_eq_true] at w
    exact ⟨w.1, Nat.le_of_ble_eq_true w.2⟩
theorem tsb_l (i : Nat) : ((tsb i).length : Int) ≤ 11 := by
  have := (tsb_p i).2
  omega
theorem tsb_b (i j : Nat) : (((tsb i).getD j 0 : Nat) : Int) ≤ 126 := by
  have := tsb_ab (tsb i) (tsb_p i).1 j
  omega
/-- objects that are there from the beginning, as those that calls make -/
theorem zDy_st {ts : List (Nat × Nat)} {fs : List (Nat × Nat × Nat)} {k : Nat} {R : ZR} {S : ZS} (hR : zRs R) (hS : zSh S) (h1 : Nat.ble 40 k = true) (h2 : Nat.ble (k + ts.length) 302 = true)
    (h3 : ((List.range ts.length).all fun i => match ts[i]? with | some e => Nat.beq (xsh xmB (k + i)).1 e.1 && Nat.beq (xsh xmB (k + i)).2 e.2 | none => true) = true) (h4 : (fs.all fun e => xfR.any fun q => Nat.beq q.1 (k + e.1) && Nat.beq q.2.1 e.2.1 && Nat.beq q.2.2 (k + e.2.2)) = true) : zDy ts fs k R S := by
  have g1 := Nat.le_of_ble_eq_true h1
  have g2 := Nat.le_of_ble_eq_true h2
  have g3 := hS.1
  refine ⟨g1, by omega, fun i t n e => ?_, fun i o f u e => ?_⟩
  · have hi := zD_lt e
    have w := List.all_eq_true.mp h3 i (List.mem_range.mpr hi)
    rw [e, Bool.and_eq_true] at w
    rw [hS.2 (k + i) (Nat.ble_eq_true_of_le (by omega)) (Nat.blt_eq.mpr (by omega))]
    exact Prod.ext (Nat.eq_of_beq_eq_true w.1) (Nat.eq_of_beq_eq_true w.2)
  · have w := List.all_eq_true.mp h4 (o, f, u) (List.mem_of_getElem? e)
    obtain ⟨q, q1, q2⟩ := List.any_eq_true.mp w
    rw [Bool.and_eq_true, Bool.and_eq_true] at q2
    have w9 := hR q q1
    rw [Nat.eq_of_beq_eq_true q2.1.1, Nat.eq_of_beq_eq_true q2.1.2, Nat.eq_of_beq_eq_true q2.2] at w9
    exact w9
theorem zDy_43 {R : ZR} {S : ZS} (hR : zRs R) (hS : zSh S) : zDy zT2 zF2 43 R S := zDy_st hR hS rfl rfl (by decide +kernel) (by decide +kernel)
theorem zDy_52 {R : ZR} {S : ZS} (hR : zRs R) (hS : zSh S) : zDy zT2 zF2 52 R S := zDy_st hR hS rfl rfl (by decide +kernel) (by decide +kernel)
/-- sheets of the class -/
def zSA (d : JdS) (ob : Nat → Int) (I : ZI) : Prop := zRT 65 16 (dns d) (cSR d ob) I ∧ ∀ t : Nat, t < dns d → I 67 (16 * dbs d t + cc d t) = t
theorem zSA_fr {d : JdS} {ob : Nat → Int} {I I' : ZI} (h : zSA d ob I) (hf : ∀ c j : Nat, 65 ≤ c ∧ c ≤ 67 → I' c j = I c j) : zSA d ob I' := ⟨zRT_fr h.1 (fun c j w => hf c j (by omega)), fun t ht => (hf 67 _ (by omega)).trans (h.2 t ht)⟩
theorem zSA_0 {ob : Nat → Int} {I : ZI} (h1 : I 65 1 = 16) (h2 : I 65 2 = 0) : zSA jd0 ob I := ⟨⟨h1, h2, Nat.zero_le _, fun x y h => absurd h (Nat.not_lt_zero x)⟩, fun t h => absurd h (Nat.not_lt_zero t)⟩
theorem jNc_cg {f g : Nat → Nat} {b : Int} : ∀ {t : Nat}, (∀ u, u < t → f u = g u) → jNc f b t = jNc g b t
  | 0, _ => rfl
  | t + 1, h => by
    have w := jNc_cg (b := b) (fun u hu => h u (Nat.lt_succ_of_lt hu))
    unfold jNc
    rw [w, h t (Nat.lt_succ_self t)]
theorem jNc_z {f : Nat → Nat} {b : Int} : ∀ {t : Nat}, (∀ u, u < t → (f u : Int) ≠ b) → jNc f b t = 0
  | 0, _ => rfl
  | t + 1, h => by
    have w := jNc_z (b := b) (fun u hu => h u (Nat.lt_succ_of_lt hu))
    unfold jNc
    rw [w, if_neg (h t (Nat.lt_succ_self t))]
/-- the new sheet's rows -/
def oBn (d : JdS) (r : Int) : Nat := if r = -1 then dns d else r.toNat
theorem djS_b {d : JdS} {p r : Int} : dbs (djS d p r) = upF (dbs d) (dns d) (oBn d r) := rfl
theorem cc_S {d : JdS} {p r : Int} {t : Nat} (h : jGd d) (ht : t < dns d) : cc (djS d p r) t = cc d t := by
  unfold cc
  rw [djS_b, upF_ne (by omega)]
  exact jNc_cg fun u hu => upF_ne (by omega)
theorem cc_Sn {d : JdS} {p r : Int} (h : jGd d) (hr : r = -1 ∨ (0 ≤ r ∧ r < dns d ∧ dbs d r.toNat = r)) : cc (djS d p r) (dns d) = if r = -1 then 0 else jNc (dbs d) r.toNat (dns d) := by
  unfold cc
  rw [djS_b, upF_at, jNc_cg (g := dbs d) fun u hu => upF_ne (by omega)]
  unfold oBn
  split
  · exact jNc_z fun u hu => by have := (h.2.1 u hu).1; omega
  · rfl
theorem jNc_S {d : JdS} {p r : Int} {b : Nat} : jNc (dbs (djS d p r)) b (dns d + 1) = jNc (dbs d) b (dns d) + if (oBn d r : Int) = b then 1 else 0 := by
  show jNc (dbs (djS d p r)) b (dns d) + (if (dbs (djS d p r) (dns d) : Int) = b then 1 else 0) = _
  rw [djS_b, upF_at, jNc_cg (g := dbs d) fun u hu => upF_ne (by omega)]
theorem jNc_1 {d : JdS} {b : Nat} (hb : b < dns d) (h : dbs d b = b) : 1 ≤ jNc (dbs d) b (dns d) := by
  have w := cc_lt (d := d) hb
  rw [h] at w
  omega
theorem upR_at {f : Nat → Nat → Int} {c y : Nat} {a b d e g : Int} : upR f c a b d e g c y = if y = 0 then a else if y = 1 then b else if y = 2 then d else if y = 3 then e else if y = 4 then g else 0 := if_pos rfl
theorem cSR_q {d : JdS} {ob : Nat → Int} {s : Nat} (h : dbs d s = s) : cSR d ob s 4 = jNc (dbs d) s (dns d) := by
  show (((if dbs d s = s then jNc (dbs d) s (dns d) else 1 : Nat)) : Int) = _
  rw [if_pos h]
theorem cSR_old {d : JdS} {ob : Nat → Int} {k p r : Int} {s y : Nat} (h : jGd d) (hs : s < dns d) (hy : y < 6) : cSR (djS d p r) (upF ob (dns d) k) s y = if y = 4 ∧ dbs d s = s ∧ oBn d r = s then cSR d ob s 4 + 1 else cSR d ob s y := by
  have z : y = 0 ∨ y = 1 ∨ y = 2 ∨ y = 3 ∨ y = 4 ∨ y = 5 := by omega
  rcases z with rfl | rfl | rfl | rfl | rfl | rfl
  · rw [if_neg (fun w => by have := w.1; omega)]
    show upF ob (dns d) k s = ob s
    exact upF_ne (by omega)
  · rw [if_neg (fun w => by have := w.1; omega)]
    show upF (dpr d) (dns d) p s = dpr d s
    exact upF_ne (by omega)
  · rw [if_neg (fun w => by have := w.1; omega)]
    show ((upF (dbs d) (dns d) (oBn d r) s : Nat) : Int) = (dbs d s : Nat)
    rw [upF_ne (by omega)]
  · rw [if_neg (fun w => by have := w.1; omega)]
    show ((cc (djS d p r) s : Nat) : Int) = (cc d s : Nat)
    rw [cc_S h hs]
  · show (((if upF (dbs d) (dns d) (oBn d r) s = s then jNc (dbs (djS d p r)) s (dns d + 1) else 1) : Nat) : Int) = _
    rw [upF_ne (by omega), jNc_S]
    by_cases e1 : dbs d s = s
    · rw [if_pos e1]
      by_cases e2 : oBn d r = s
      · have e3 : ((oBn d r : Nat) : Int) = (s : Nat) := by omega
        rw [if_pos e3, if_pos ⟨rfl, e1, e2⟩]
        show _ = (((if dbs d s = s then jNc (dbs d) s (dns d) else 1) : Nat) : Int) + 1
        rw [if_pos e1]
        omega
      · have e3 : ¬ ((oBn d r : Nat) : Int) = (s : Nat) := by omega
        rw [if_neg e3, if_neg (fun w => e2 w.2.2)]
        show _ = (((if dbs d s = s then jNc (dbs d) s (dns d) else 1) : Nat) : Int)
        rw [if_pos e1]
        omega
    · rw [if_neg e1, if_neg (fun w => e1 w.2.1)]
      show _ = (((if dbs d s = s then jNc (dbs d) s (dns d) else 1) : Nat) : Int)
      rw [if_neg e1]
  · rw [if_neg (fun w => by have := w.1; omega)]
    rfl
theorem cSR_new {d : JdS} {ob : Nat → Int} {k p r : Int} {y : Nat} (h : jGd d) (hr : r = -1 ∨ (0 ≤ r ∧ r < dns d ∧ dbs d r.toNat = r)) (hy : y < 6) : cSR (djS d p r) (upF ob (dns d) k) (dns d) y = if y = 0 then k else if y = 1 then p else if y = 2 then (oBn d r : Int) else if y = 3 then ((if r = -1 then 0 else jNc (dbs d) r.toNat (dns d) : Nat) : Int) else if y = 4 then 1 else 0 := by
  have z : y = 0 ∨ y = 1 ∨ y = 2 ∨ y = 3 ∨ y = 4 ∨ y = 5 := by omega
  rcases z with rfl | rfl | rfl | rfl | rfl | rfl
  · show upF ob (dns d) k (dns d) = k
    exact upF_at
  · show upF (dpr d) (dns d) p (dns d) = p
    exact upF_at
  · show ((upF (dbs d) (dns d) (oBn d r) (dns d) : Nat) : Int) = (oBn d r : Nat)
    rw [upF_at]
  · show ((cc (djS d p r) (dns d) : Nat) : Int) = ((if r = -1 then 0 else jNc (dbs d) r.toNat (dns d) : Nat) : Int)
    rw [cc_Sn h hr]
  · show (((if upF (dbs d) (dns d) (oBn d r) (dns d) = dns d then jNc (dbs (djS d p r)) (dns d) (dns d + 1) else 1) : Nat) : Int) = 1
    rw [upF_at, jNc_S]
    by_cases e : oBn d r = dns d
    · have e3 : ((oBn d r : Nat) : Int) = (dns d : Nat) := by omega
      rw [if_pos e, if_pos e3, jNc_z (fun u hu => by have := (h.2.1 u hu).1; omega)]
      rfl
    · rw [if_neg e]
      rfl
  · rfl
/-- a sheet that repeats none -/
theorem zSA_n {d : JdS} {ob : Nat → Int} {I : ZI} {k p : Int} (h : jGd d) (hT : zRT 65 16 (dns d + 1) (up2z (upR (cSR d ob) (dns d) k p (-1) 0 1) (dns d) 2 (dns d)) I) (hc : ∀ t : Nat, t < dns d → I 67 (16 * dbs d t + cc d t) = t) (hn : I 67 (16 * dns d) = dns d) : zSA (djS d p (-1)) (upF ob (dns d) k) I := by
  obtain ⟨t1, t2, t3, t4⟩ := hT
  have eb : oBn d (-1) = dns d := rfl
  refine ⟨⟨t1, t2, t3, fun x y hx hy => (t4 x y hx hy).trans ?_⟩, fun t ht => ?_⟩
  · have hx2 : x < dns d + 1 := hx
    by_cases q : x = dns d
    · rw [q, cSR_new h (Or.inl rfl) hy, eb]
      by_cases e : y = 2
      · rw [e]
        exact up2z_at
      · rw [up2z_ne (fun w => e w.2), upR_at]
        have z : y = 0 ∨ y = 1 ∨ y = 3 ∨ y = 4 ∨ y = 5 := by omega
        rcases z with rfl | rfl | rfl | rfl | rfl <;> rfl
    · rw [up2z_ne (fun w => q w.1), upR_ne q, cSR_old h (by omega) hy, if_neg (fun w => by have := w.2.2; omega)]
  · have ht2 : t < dns d + 1 := ht
    by_cases q : t = dns d
    · subst q
      rw [djS_b, upF_at, cc_Sn h (Or.inl rfl), if_pos (rfl : (-1 : Int) = -1), eb]
      exact hn
    · rw [djS_b, upF_ne q, cc_S h (by omega)]
      exact hc t (by omega)
/-- a sheet that repeats r -/
theorem zSA_r {d : JdS} {ob : Nat → Int} {I : ZI} {k p r c1 c2 : Int} {b : Nat} (h : jGd d) (hr : r = b ∧ b < dns d ∧ dbs d b = b) (hc2 : c2 = jNc (dbs d) b (dns d)) (hc1 : c1 = (jNc (dbs d) b (dns d) + 1 : Nat)) (hT : zRT 65 16 (dns d + 1) (up2z (up2z (up2z (upR (cSR d ob) (dns d) k p (-1) 0 1) (dns d) 2 r) b 4 c1) (dns d) 3 c2) I) (hc : ∀ t : Nat, t < dns d → I 67 (16 * dbs d t + cc d t) = t) (hn : I 67 (16 * b + jNc (dbs d) b (dns d)) = dns d) : zSA (djS d p r) (upF ob (dns d) k) I := by
  obtain ⟨t1, t2, t3, t4⟩ := hT
  obtain ⟨r1, r2, r3⟩ := hr
  have hne : ¬ r = -1 := by omega
  have eb : oBn d r = b := by unfold oBn; rw [if_neg hne]; omega
  have er : r.toNat = b := by omega
  have hr9 : r = -1 ∨ (0 ≤ r ∧ r < dns d ∧ dbs d r.toNat = r) := Or.inr (by rw [er]; omega)
  refine ⟨⟨t1, t2, t3, fun x y hx hy => (t4 x y hx hy).trans ?_⟩, fun t ht => ?_⟩
  · have hx2 : x < dns d + 1 := hx
    by_cases q : x = dns d
    · rw [q, cSR_new h hr9 hy, eb, if_neg hne, er]
      by_cases e : y = 3
      · rw [e]
        exact up2z_at.trans hc2
      · rw [up2z_ne (fun w => e w.2), up2z_ne (fun w => by have := w.1; omega)]
        by_cases e2 : y = 2
        · rw [e2]
          exact up2z_at.trans r1
        · rw [up2z_ne (fun w => e2 w.2), upR_at]
          have z : y = 0 ∨ y = 1 ∨ y = 4 ∨ y = 5 := by omega
          rcases z with rfl | rfl | rfl | rfl <;> rfl
    · rw [up2z_ne (fun w => q w.1), cSR_old h (by omega) hy, eb]
      by_cases e : x = b ∧ y = 4
      · obtain ⟨rfl, rfl⟩ := e
        rw [up2z_at, if_pos ⟨rfl, r3, rfl⟩, cSR_q r3, hc1]
        omega
      · rw [up2z_ne e, up2z_ne (fun w => q w.1), upR_ne q, if_neg (fun w => e ⟨w.2.2.symm, w.1⟩)]
  · have ht2 : t < dns d + 1 := ht
    by_cases q : t = dns d
    · subst q
      rw [djS_b, upF_at, cc_Sn h hr9, if_neg hne, eb, er]
      exact hn
    · rw [djS_b, upF_ne q, cc_S h (by omega)]
      exact hc t (by omega)
/-- rows more -/
theorem zDA_S {d : JdS} {ob : Nat → Int} {I : ZI} (h : zDA d ob I) : zSA d ob I := ⟨h.1, h.2.1⟩
theorem zDA_W {d : JdS} {ob : Nat → Int} {I I' : ZI} {a b c e g : Int} (h : zDA d ob I) (hn : b ≠ e ∨ c ≠ g) (hT : zRT 68 100 (if dnw d < 100 then dnw d + 1 else dnw d) (if dnw d < 100 then upR (dW d) (dnw d) a b c e g else dW d) I') (hf : ∀ x j : Nat, (65 ≤ x ∧ x ≤ 77) ∧ ¬ (x = 68 ∨ x = 69) → I' x j = I x j) : zDA (djWs d a b c e g) ob I' := by
  obtain ⟨h1, h2, h3, h4, h5, h6, h7⟩ := h
  have k1 := zRT_fr h1 (fun x j w => hf x j (by omega))
  have k2 : ∀ t : Nat, t < dns d → I' 67 (16 * dbs d t + cc d t) = t := fun t ht => (hf 67 _ (by omega)).trans (h2 t ht)
  have k4 := zRT_fr h4 (fun x j w => hf x j (by omega))
  have k5 := zRT_fr h5 (fun x j w => hf x j (by omega))
  have k6 := zRT_fr h6 (fun x j w => hf x j (by omega))
  have k7 := zRT_fr h7 (fun x j w => hf x j (by omega))
  unfold djWs
  by_cases q : dnw d < 100
  · rw [if_pos q] at hT
    rw [if_pos q] at hT
    rw [if_pos ⟨hn, q⟩]
    exact ⟨k1, k2, hT, k4, k5, k6, k7⟩
  · rw [if_neg q] at hT
    rw [if_neg q] at hT
    rw [if_neg (fun w => q w.2)]
    exact ⟨k1, k2, hT, k4, k5, k6, k7⟩
theorem zDA_J {d : JdS} {ob : Nat → Int} {I I' : ZI} {a b c : Int} (h : zDA d ob I) (hn : ∀ j, j < dnj d → ¬ (dJ d j 0 = a ∧ dJ d j 1 = b ∧ dJ d j 2 = c)) (hT : zRT 70 50 (if dnj d < 50 then dnj d + 1 else dnj d) (if dnj d < 50 then upR (dJ d) (dnj d) a b c 0 0 else dJ d) I') (hf : ∀ x j : Nat, (65 ≤ x ∧ x ≤ 77) ∧ ¬ (x = 70 ∨ x = 71) → I' x j = I x j) : zDA (djJs d a b c) ob I' := by
  obtain ⟨h1, h2, h3, h4, h5, h6, h7⟩ := h
  have k1 := zRT_fr h1 (fun x j w => hf x j (by omega))
  have k2 : ∀ t : Nat, t < dns d → I' 67 (16 * dbs d t + cc d t) = t := fun t ht => (hf 67 _ (by omega)).trans (h2 t ht)
  have k3 := zRT_fr h3 (fun x j w => hf x j (by omega))
  have k5 := zRT_fr h5 (fun x j w => hf x j (by omega))
  have k6 := zRT_fr h6 (fun x j w => hf x j (by omega))
  have k7 := zRT_fr h7 (fun x j w => hf x j (by omega))
  unfold djJs
  by_cases q : dnj d < 50
  · rw [if_pos q] at hT
    rw [if_pos q] at hT
    rw [if_pos ⟨q, hn⟩]
    exact ⟨k1, k2, k3, hT, k5, k6, k7⟩
  · rw [if_neg q] at hT
    rw [if_neg q] at hT
    rw [if_neg (fun w => q w.1)]
    exact ⟨k1, k2, k3, hT, k5, k6, k7⟩
theorem zDA_J0 {d : JdS} {ob : Nat → Int} {I : ZI} {a b c : Int} (h : zDA d ob I) (hn : ¬ ∀ j, j < dnj d → ¬ (dJ d j 0 = a ∧ dJ d j 1 = b ∧ dJ d j 2 = c)) : zDA (djJs d a b c) ob I := by
  unfold djJs
  rw [if_neg (fun w => hn w.2)]
  exact h
theorem zDA_L {d : JdS} {ob : Nat → Int} {I I' : ZI} {a b c e : Int} (h : zDA d ob I) (hT : zRT 72 60 (if dnl d < 60 then dnl d + 1 else dnl d) (if dnl d < 60 then upR (dL d) (dnl d) a b c e 0 else dL d) I') (hf : ∀ x j : Nat, (65 ≤ x ∧ x ≤ 77) ∧ ¬ (x = 72 ∨ x = 73) → I' x j = I x j) : zDA (djLs d a b c e) ob I' := by
  obtain ⟨h1, h2, h3, h4, h5, h6, h7⟩ := h
  have k1 := zRT_fr h1 (fun x j w => hf x j (by omega))
  have k2 : ∀ t : Nat, t < dns d → I' 67 (16 * dbs d t + cc d t) = t := fun t ht => (hf 67 _ (by omega)).trans (h2 t ht)
  have k3 := zRT_fr h3 (fun x j w => hf x j (by omega))
  have k4 := zRT_fr h4 (fun x j w => hf x j (by omega))
  have k6 := zRT_fr h6 (fun x j w => hf x j (by omega))
  have k7 := zRT_fr h7 (fun x j w => hf x j (by omega))
  unfold djLs
  by_cases q : dnl d < 60
  · rw [if_pos q] at hT ⊢
    rw [if_pos q] at hT
    exact ⟨k1, k2, k3, k4, hT, k6, k7⟩
  · rw [if_neg q] at hT ⊢
    rw [if_neg q] at hT
    exact ⟨k1, k2, k3, k4, hT, k6, k7⟩
theorem zDA_P {d : JdS} {ob : Nat → Int} {I I' : ZI} {a b : Int} (h : zDA d ob I) (hT : zRT 74 30 (if dnp d < 30 then dnp d + 1 else dnp d) (if dnp d < 30 then upR (dP d) (dnp d) a b 0 0 0 else dP d) I') (hf : ∀ x j : Nat, (65 ≤ x ∧ x ≤ 77) ∧ ¬ (x = 74 ∨ x = 75) → I' x j = I x j) : zDA (djPs d a b) ob I' := by
  obtain ⟨h1, h2, h3, h4, h5, h6, h7⟩ := h
  have k1 := zRT_fr h1 (fun x j w => hf x j (by omega))
  have k2 : ∀ t : Nat, t < dns d → I' 67 (16 * dbs d t + cc d t) = t := fun t ht => (hf 67 _ (by omega)).trans (h2 t ht)
  have k3 := zRT_fr h3 (fun x j w => hf x j (by omega))
  have k4 := zRT_fr h4 (fun x j w => hf x j (by omega))
  have k5 := zRT_fr h5 (fun x j w => hf x j (by omega))
  have k7 := zRT_fr h7 (fun x j w => hf x j (by omega))
  unfold djPs
  by_cases q : dnp d < 30
  · rw [if_pos q] at hT ⊢
    rw [if_pos q] at hT
    exact ⟨k1, k2, k3, k4, k5, hT, k7⟩
  · rw [if_neg q] at hT ⊢
    rw [if_neg q] at hT
    exact ⟨k1, k2, k3, k4, k5, hT, k7⟩
theorem zDA_T {d : JdS} {ob : Nat → Int} {I I' : ZI} {a b c e : Int} (h : zDA d ob I) (hn : ∀ p, p < dnt d → ¬ (dT d p 0 = a ∧ dT d p 3 = e ∧ dT d p 1 = b ∧ dT d p 2 = c)) (hT : zRT 76 60 (if dnt d < 60 then dnt d + 1 else dnt d) (if dnt d < 60 then upR (dT d) (dnt d) a b c e 0 else dT d) I') (hf : ∀ x j : Nat, (65 ≤ x ∧ x ≤ 77) ∧ ¬ (x = 76 ∨ x = 77) → I' x j = I x j) : zDA (djTs d a b c e) ob I' := by
  obtain ⟨h1, h2, h3, h4, h5, h6, h7⟩ := h
  have k1 := zRT_fr h1 (fun x j w => hf x j (by omega))
  have k2 : ∀ t : Nat, t < dns d → I' 67 (16 * dbs d t + cc d t) = t := fun t ht => (hf 67 _ (by omega)).trans (h2 t ht)
  have k3 := zRT_fr h3 (fun x j w => hf x j (by omega))
  have k4 := zRT_fr h4 (fun x j w => hf x j (by omega))
  have k5 := zRT_fr h5 (fun x j w => hf x j (by omega))
  have k6 := zRT_fr h6 (fun x j w => hf x j (by omega))
  unfold djTs
  by_cases q : dnt d < 60
  · rw [if_pos q] at hT
    rw [if_pos q] at hT
    rw [if_pos ⟨q, hn⟩]
    exact ⟨k1, k2, k3, k4, k5, k6, hT⟩
  · rw [if_neg q] at hT
    rw [if_neg q] at hT
    rw [if_neg (fun w => q w.1)]
    exact ⟨k1, k2, k3, k4, k5, k6, hT⟩
theorem zDA_T0 {d : JdS} {ob : Nat → Int} {I : ZI} {a b c e : Int} (h : zDA d ob I) (hn : ¬ ∀ p, p < dnt d → ¬ (dT d p 0 = a ∧ dT d p 3 = e ∧ dT d p 1 = b ∧ dT d p 2 = c)) : zDA (djTs d a b c e) ob I := by
  unfold djTs
  rw [if_neg (fun w => hn w.2)]
  exact h
theorem oRp_at {O : OoS} {d : JdS} {ob : Nat → Int} {k t : Nat} {f : Int} (hf : oFl O k = f) (h0 : 0 ≤ f) (ht : t < dns d) (hq : oRq O (d, ob) f.toNat t) (hn : ∀ u, u < t → ¬ oRq O (d, ob) f.toNat u) : (t : Int) = oRp O (d, ob) k := by
  unfold oRp
  rw [hf, if_neg (by omega)]
  exact (zlow_at hq hn ht).symm
theorem oRp_no {O : OoS} {d : JdS} {ob : Nat → Int} {k : Nat} {f : Int} (hf : oFl O k = f) (hn : f = -1 ∨ ∀ u, u < dns d → ¬ oRq O (d, ob) f.toNat u) : -1 = oRp O (d, ob) k := by
  unfold oRp
  rw [hf]
  split
  · rfl
  · next q => exact (zlow_no (hn.resolve_left q)).symm
theorem cSR_0 {d : JdS} {ob : Nat → Int} {s : Nat} : cSR d ob s 0 = ob s := rfl
theorem cSR_1 {d : JdS} {ob : Nat → Int} {s : Nat} : cSR d ob s 1 = dpr d s := rfl
theorem cSR_2 {d : JdS} {ob : Nat → Int} {s : Nat} : cSR d ob s 2 = dbs d s := rfl
theorem cSR_4 {d : JdS} {ob : Nat → Int} {s : Nat} (h : dbs d s = s) : cSR d ob s 4 = jNc (dbs d) s (dns d) := by
  show (((if dbs d s = s then jNc (dbs d) s (dns d) else 1 : Nat)) : Int) = _
  rw [if_pos h]
/-- the drawing as its things begin to be gathered -/
theorem zDA_0 {O : OoS} {ob : Nat → Int} {I I' : ZI} (h : zSA (oDs O) ob I) (hr : (I' 68 1 = 100 ∧ I' 70 1 = 50 ∧ I' 72 1 = 60 ∧ I' 74 1 = 30 ∧ I' 76 1 = 60) ∧ I' 68 2 = 0 ∧ I' 70 2 = 0 ∧ I' 72 2 = 0 ∧ I' 74 2 = 0 ∧ I' 76 2 = 0) (hf : ∀ c j : Nat, 65 ≤ c ∧ c ≤ 67 → I' c j = I c j) : zDA (oDt O 0) ob I' := by
  have w := zSA_fr h hf
  have e : (oDs O).2 = jd0.2 := oSt_r (ocn O)
  obtain ⟨⟨a1, a2, a3, a4, a5⟩, b1, b2, b3, b4, b5⟩ := hr
  have z : ∀ {k rm : Nat} {f : Nat → Nat → Int}, I' k 1 = rm → I' k 2 = 0 → zRT k rm 0 f I' := fun q1 q2 => ⟨q1, q2, Nat.zero_le _, fun x y q => absurd q (Nat.not_lt_zero x)⟩
  refine ⟨w.1, w.2, ?_, ?_, ?_, ?_, ?_⟩
  · show zRT 68 100 (oDs O).2.1.1 (oDs O).2.1.2 I'
    rw [e]; exact z a1 b1
  · show zRT 70 50 (oDs O).2.2.1.1 (oDs O).2.2.1.2 I'
    rw [e]; exact z a2 b2
  · show zRT 72 60 (oDs O).2.2.2.1.1 (oDs O).2.2.2.1.2 I'
    rw [e]; exact z a3 b3
  · show zRT 74 30 (oDs O).2.2.2.2.1.1 (oDs O).2.2.2.2.1.2 I'
    rw [e]; exact z a4 b4
  · show zRT 76 60 (oDs O).2.2.2.2.2.1 (oDs O).2.2.2.2.2.2 I'
    rw [e]; exact z a5 b5
theorem oPc_t {d : JdS} {l s c : Nat} (h : 0 ≤ dpr d (jCp (dbs d) s (dns d) 0 c).toNat) : oPc d l s (c + 1) = djPs (oPc d l s c) l (jCp (dbs d) s (dns d) 0 c) := if_pos h
theorem oPc_n {d : JdS} {l s c : Nat} (h : ¬ 0 ≤ dpr d (jCp (dbs d) s (dns d) 0 c).toNat) : oPc d l s (c + 1) = oPc d l s c := if_neg h
theorem oNm_e {O : OoS} {k a : Nat} (h : oFr O k = a) : oNi O k a = oNm O k := by
  unfold oNm
  rw [h]
theorem oNi_y {O : OoS} {k a : Nat} (h : oNa O k a) : oVl O k a (otl O k 0 - a) = oNi O k a := (if_pos h).symm
theorem oNi_n {O : OoS} {k a : Nat} (h : ¬ oNa O k a) : -1 = oNi O k a := (if_neg h).symm
theorem oNt_p {O : OoS} {k : Nat} {d : JdS} {s : Int} (h : oPl O k) : oNt O k d s = djJs d s (onm O k 0) (onm O k 1) := if_pos h
theorem oNt_0 {O : OoS} {k : Nat} {d : JdS} {s : Int} (h : ¬ oPl O k) (h2 : oNm O k = -1) : oNt O k d s = d := (if_neg h).trans (if_pos h2)
theorem oNt_l {O : OoS} {k : Nat} {d : JdS} {s : Int} (h : ¬ oPl O k) (h2 : ¬ oNm O k = -1) (h3 : ¬ (dnl d < 60 ∧ oFr O k = 1)) : oNt O k d s = djLs d s (onm O k 0) (onm O k 1) (oNm O k) := (if_neg h).trans ((if_neg h2).trans (if_neg h3))
theorem oNt_L {O : OoS} {k s : Nat} {d : JdS} (h : ¬ oPl O k) (h2 : ¬ oNm O k = -1) (h3 : dnl d < 60 ∧ oFr O k = 1) : oNt O k d s = oPc (djLs d s (onm O k 0) (onm O k 1) (oNm O k)) (dnl d) s (jNc (dbs (djLs d s (onm O k 0) (onm O k 1) (oNm O k))) s (dns (djLs d s (onm O k 0) (onm O k 1) (oNm O k)))) := by
  have e : (djLs d (s : Int) (onm O k 0) (onm O k 1) (oNm O k)).1 = d.1 := djLs_s.1
  have e1 : dbs (djLs d (s : Int) (onm O k 0) (onm O k 1) (oNm O k)) = dbs d := congrArg (fun z => z.2.1) e
  have e2 : dns (djLs d (s : Int) (onm O k 0) (onm O k 1) (oNm O k)) = dns d := congrArg (fun z => z.1) e
  rw [e1, e2]
  exact (if_neg h).trans ((if_neg h2).trans (if_pos h3))
theorem oDr_i {O : OoS} {d : JdS} {j : Int} {s : Int} (h : d.1 = (oDs O).1) (hs : s = oSh O j.toNat) : oDr O j ↔ (0 ≤ s ∧ (dbs d s.toNat : Int) = s) := by
  have e : dbs d = dbs (oDs O) := congrArg (fun z => z.2.1) h
  rw [e, hs]
  unfold oDr
  omega
theorem oPi_n {O : OoS} {k : Nat} {d : JdS} (h : ¬ oDr O (opa O (oSy O k).toNat)) : oPi O k d = d := if_neg h
theorem oPi_y {O : OoS} {k : Nat} {d : JdS} (h : oDr O (opa O (oSy O k).toNat)) : oPi O k d = oTm d (oSh O (opa O (oSy O k).toNat).toNat) (oTx O k 0) (oTx O k 1) (oSy O k) := if_pos h
theorem oTm_f {d : JdS} {s x y n : Int} (h : ¬ (jFar x ∧ jFar y)) : oTm d s x y n = d := if_neg h
theorem oTm_t {d : JdS} {s x y n : Int} (h : jFar x ∧ jFar y) : oTm d s x y n = djTs d s x y n := if_pos h
theorem oTm_s {O : OoS} {d : JdS} {s x y n : Int} {p : Nat} (hi : oTi O d) (hs : s = oSh O (opa O n.toNat).toNat) (hp : p < dnt d) (h3 : dT d p 3 = n) (h1 : dT d p 1 = x) (h2 : dT d p 2 = y) : oTm d s x y n = d := by
  unfold oTm
  split
  · unfold djTs
    rw [if_neg]
    intro w
    refine w.2 p hp ⟨?_, h3, h1, h2⟩
    rw [(hi p hp).2, h3, hs]
  · rfl
theorem oSh_c {O : OoS} {d : JdS} {v : Int} {j : Nat} (hok : oOk O d) (hv : v = oSh O j) (hj : j < ocn O) : -1 ≤ v ∧ v + 1 ≤ dns d := by
  have w := oSh_b (O := O) hj
  have e : dns d = dns (oDs O) := congrArg (fun z => z.1) hok.2.1
  have e2 : dns (oSt O (ocn O)).1 = dns (oDs O) := rfl
  omega
theorem oSy_b {O : OoS} {k : Nat} (hG : oGd O) (hk : k < ocn O) (h4 : okd O k = 4) : (0 ≤ oSy O k ∧ oSy O k < ocn O) ∧ (0 ≤ opa O (oSy O k).toNat ∧ opa O (oSy O k).toNat < ocn O) := by
  obtain ⟨a0, a1, a2⟩ := oPar hG hk (by omega)
  have a4 := a2.2.2.2.1 h4
  obtain ⟨b0, b1, b2⟩ := oPar hG (k := (opa O k).toNat) (by omega) (by omega)
  have b4 := b2.2.2.1 a4
  have e5 : oSy O k = opa O (opa O k).toNat := rfl
  obtain ⟨c0, c1, c2⟩ := oPar hG (k := (oSy O k).toNat) (by omega) (by rw [e5]; omega)
  exact ⟨by omega, by omega⟩
/-- nets numbered, when their names are taken -/
def zCw (d : JdS) (I : ZI) : Prop := I 63 14 = zct (jFst d) 960 ∧ ∀ i : Nat, i < 960 → jV d i → I 79 i = jNo d i
theorem zCw_n {d : JdS} {I I' : ZI} (h : zCn d 960 I) (hf : ∀ c j : Nat, (c = 63 ∧ j = 14) ∨ c = 79 → I' c j = I c j) : zCw d I' := ⟨(hf 63 14 (by omega)).trans h.1, fun i h1 h2 => (hf 79 i (by omega)).trans (h.2.1 i h1 h2)⟩
theorem zCw_fr {d : JdS} {I I' : ZI} (h : zCw d I) (hf : ∀ c j : Nat, (c = 63 ∧ j = 14) ∨ c = 79 → I' c j = I c j) : zCw d I' := ⟨(hf 63 14 (by omega)).trans h.1, fun i h1 h2 => (hf 79 i (by omega)).trans (h.2 i h1 h2)⟩
/-- objects that calls make, as another field is written -/
theorem zDy_xu {ts : List (Nat × Nat)} {fs : List (Nat × Nat × Nat)} {k a b : Nat} {v : Option Nat} {R : ZR} {S : ZS} (h : zDy ts fs k R S) (ho : (fs.all fun e => Nat.blt e.1 ts.length) = true) (hne : a < k ∨ k + ts.length ≤ a) : zDy ts fs k (xu R a b v) S := by
  refine ⟨h.1, h.2.1, h.2.2.1, fun i o f u e => zxu ?_ (h.2.2.2 i o f u e)⟩
  have w := Nat.blt_eq.mp (List.all_eq_true.mp ho _ (List.mem_of_getElem? e))
  have w2 : o < ts.length := w
  omega
theorem zRs_xk {R : ZR} {k j : Nat} {v : Option Nat} (h : zRs R) (hk : 302 ≤ k) : zRs (xu R k j v) := zRs_fr h (fun c i q => zxu (by have := Nat.blt_eq.mp q; omega) rfl)
