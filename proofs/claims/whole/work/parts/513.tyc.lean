/-! LISTS are closed -/
theorem tyA_c {c : Nat → Int} {n : Nat} {s : TyS} (h : c (tSk tBk c n (typ s)) = 41) (hd : tyd s ≠ 0) : tyA c n 1 s = tyC s (tSk tBk c n (typ s) + 1) := by
  unfold tyA
  rw [if_pos rfl, if_neg (by omega), if_pos ⟨h, hd⟩]
theorem tyA_f {c : Nat → Int} {n : Nat} {s : TyS} (h : c (tSk tBk c n (typ s)) ≠ 40) (hd : c (tSk tBk c n (typ s)) ≠ 41 ∨ tyd s = 0) : tyA c n 1 s = tyF s (tSk tBk c n (typ s)) := by
  unfold tyA
  rw [if_pos rfl, if_neg h, if_neg (by omega)]
theorem tyA_l {c : Nat → Int} {n : Nat} {s : TyS} (h : c (tSk tBk c n (typ s)) = 40) : tyA c n 1 s = tyL c n s (tSk tBk c n (typ s)) := by
  unfold tyA
  rw [if_pos rfl, if_pos h]
theorem tyE_n {n : Nat} {s : TyS} (hf : tyf s = -1) (hd : tyd s ≠ 0 ∨ tyn s = 0) : ¬ tyE n 1 s := fun w => by
  rcases w with w | w | w
  · exact w hf
  · omega
  · exact w.1 rfl
theorem zKO_C {k : Nat} {c : Nat → Int} {n b : Nat} {s : TyS} {I L : ZI} (h : zKO k c n b s I L) {p : Nat} (hp : typ s ≤ p) : zKO k c n b (tyC s p) I L := ⟨h.1, h.2.1, ⟨h.2.2.1.1, by have w := h.2.2.1.2; show I k 10 ≤ (p : Int); omega⟩, h.2.2.2⟩
theorem tyy_C {s : TyS} {p d : Nat} : tyy (tyC s p) d = tyy s d := rfl
/-- the state at the end, in the class's memory -/
def zKF (k : Nat) (c : Nat → Int) (n b : Nat) (I L : ZI) : Prop := ∃ t, tRe c n b t ∧ tyE n b t ∧ I 61 3 = tyZ c n b t ∧ (tyZ c n b t = -1 → zKO k c n b t I L ∧ I 61 5 = tyx t)
theorem tyL_m {c : Nat → Int} {n : Nat} {s : TyS} {p : Nat} (hc : tOk c n) (h : tyf (tyL c n s p) = -1) : tyn (tyL c n s p) = tyn s + 1 ∧ p < typ (tyL c n s p) := by
  unfold tyL at h ⊢
  by_cases e : tyd s = 100
  · rw [if_pos e] at h
    exact absurd h tyF_f
  · rw [if_neg e] at h ⊢
    have w := tSk_b (P := tBk) (p := p + 1) hc tBk_no
    by_cases g : tBg c n (tSk tBk c n (p + 1)) (tyz s (tyd s)) (tyn s)
    · rw [tyG_t g] at h ⊢
      have w2 := tSm_s hc g.1
      by_cases a9 : tKd c (tSk tBk c n (p + 1)) (tSk tSm c n (tSk tBk c n (p + 1))) = 9
      · rw [tyB_9 a9] at h
        have w3 := tkX_b hc (Nat.le_refl 1) h
        rw [tyB_u a9 h]
        exact ⟨rfl, by show p < _ + (1 - 1); omega⟩
      · rw [tyB_8 hc w2.2.1 a9] at h
        have w3 := tVp_le (b := 1) hc w2.2.1 (tVz_p h)
        rw [tyB_v a9 h (fun w => absurd w (by decide))]
        exact ⟨rfl, by show p < _ + (1 - 1); omega⟩
    · rw [tyG_n g] at h
      exact absurd h tyF_f
theorem tyZ_f {c : Nat → Int} {n b : Nat} {s : TyS} (h : tyf s ≠ -1) : tyZ c n b s = tyf s := if_pos h
theorem tyZ_b {c : Nat → Int} {n : Nat} {s : TyS} (h : tyf s = -1) (hp : tSk tBk c n (typ s) < n) : tyZ c n 1 s = tSk tBk c n (typ s) := (if_neg (fun w => w h)).trans (if_pos ⟨rfl, hp⟩)
theorem tyZ_e {c : Nat → Int} {n : Nat} {s : TyS} (h : tyf s = -1) (hp : n ≤ tSk tBk c n (typ s)) : tyZ c n 1 s = -1 := (if_neg (fun w => w h)).trans (if_neg (fun w => by omega))
theorem tyZ_0 {c : Nat → Int} {n b : Nat} {s : TyS} (h : tyf s = -1) (hb : b ≠ 1) : tyZ c n b s = -1 := (if_neg (fun w => w h)).trans (if_neg (fun w => hb w.1))
theorem zKO_0 {k : Nat} {c : Nat → Int} {n b : Nat} {I L : ZI} (h0 : I k 0 = 0) (h2 : I k 2 = 0) (h10 : I k 10 = 0) : zKO k c n b ty0 I L := ⟨h0, h2, ⟨by omega, by show I k 10 ≤ ((0 : Nat) : Int); omega⟩, fun j hj => absurd hj (Nat.not_lt_zero j)⟩
theorem tuX_le {c : Nat → Int} {n lim ar q0 : Nat} (hc : tOk c n) (hq : q0 ≤ n) : tuX c n lim ar q0 ≤ n + 1 := by
  unfold tuX
  split
  · omega
  · split
    · omega
    · have g : (tuS c q0 (tuN c n lim ar q0)).1 ≤ n := by
        rcases zlow_sp (tuP c n lim ar q0) (n + 2) with ⟨q1, q2⟩ | ⟨r, q1, q2, q3, q4⟩
        · have e : tuN c n lim ar q0 = 0 := by unfold tuN; rw [q1]; rfl
          rw [e]
          exact hq
        · have e : tuN c n lim ar q0 = r := by unfold tuN; rw [q2]; rfl
          rw [e]
          rcases Nat.eq_zero_or_pos r with z | z
          · rw [z]
            exact hq
          · have w3 : tuF c n lim ar (tuS c q0 (r - 1)) = -1 := Classical.not_not.mp (fun y => q4 (r - 1) (by omega) (Or.inr y))
            have w4 := tuS_n hc w3
            rw [show r - 1 + 1 = r by omega] at w4
            exact w4.1
      unfold tuF
      split
      · omega
      · split <;> omega
theorem tlX_le {c : Nat → Int} {n lim d q0 : Nat} : tlX c n lim d q0 ≤ q0 + n + 1 := by
  have g : tlE c n lim d q0 ≤ q0 + n := by
    unfold tlE
    rcases zlow_sp (fun t => tlP c n lim d (q0 + t)) (n + 1) with ⟨q1, q2⟩ | ⟨r, q1, q2, q3, q4⟩
    · rw [q1]; omega
    · rw [q2]; omega
  unfold tlX
  split
  · omega
  · by_cases e : c (tlE c n lim d q0) = 10 ∧ ¬ tDd c (tlE c n lim d q0 + 1) d
    · rw [zite_t e]; omega
    · rw [zite_f e]; omega
theorem tkX_le {c : Nat → Int} {n b lim d q : Nat} (hc : tOk c n) (hq : q ≤ n) : tkX c n b lim d q ≤ 9000 := by
  have hn := hc.1
  unfold tkX
  split
  · have w := tuX_le (lim := lim) (ar := d) hc hq
    omega
  · have w := tlX_le (c := c) (n := n) (lim := lim) (d := d) (q0 := q)
    omega
theorem tVz_le {c : Nat → Int} {n b a q m : Nat} (hc : tOk c n) (hq : q ≤ n) : tVz c n b a q m ≤ 9000 := by
  unfold tVz
  by_cases e : ∃ i, i < m ∧ tVf c n b a q i ≠ -1
  · rw [zite_t e]
    rcases zlow_sp (fun i => tVf c n b a q i ≠ -1) m with ⟨w1, w2⟩ | ⟨r, w1, w2, w3, w4⟩
    · obtain ⟨i, h1, h2⟩ := e
      exact absurd h2 (w2 i h1)
    · rw [w2]
      have z := tVp_le (b := b) (a := a) (i := r) hc hq (fun j hj => Classical.not_not.mp (w4 j hj))
      exact (tVf_b1 hc z.1).2
  · rw [zite_f e]
    decide
theorem tyF_b {s : TyS} {f : Nat} (h : f ≤ 9000) : -1 ≤ tyf (tyF s f) ∧ tyf (tyF s f) ≤ 9000 := by
  show -1 ≤ (f : Int) ∧ (f : Int) ≤ 9000
  omega
theorem tyG_b {c : Nat → Int} {n b nm op d : Nat} {s : TyS} (hc : tOk c n) (hnm : nm ≤ 9000) : -1 ≤ tyf (tyG c n b s nm op d) ∧ tyf (tyG c n b s nm op d) ≤ 9000 := by
  by_cases e : tBg c n nm (tyz s d) (tyn s)
  · rw [tyG_t e]
    have w := tSm_s hc e.1
    have hn := hc.1
    by_cases a9 : tKd c nm (tSk tSm c n nm) = 9
    · rw [tyB_9 a9]
      exact ⟨tkX_ge, tkX_le hc w.2.1⟩
    · by_cases z : tVz c n b (tKd c nm (tSk tSm c n nm)).toNat (tSk tSm c n nm) (tFv (tKd c nm (tSk tSm c n nm)).toNat (tyx s)) = -1
      · have z2 := tVp_le (b := b) hc w.2.1 (tVz_p z)
        unfold tyB
        rw [if_neg a9, if_pos z]
        split
        · exact tyF_b (by omega)
        · show -1 ≤ (-1 : Int) ∧ (-1 : Int) ≤ 9000
          decide
      · rw [tyB_vf hc w.2.1 a9 z]
        exact ⟨tVz_ge hc w.2.1, tVz_le hc w.2.1⟩
  · rw [tyG_n e]
    exact tyF_b hnm
/-- faults lie within the text -/
theorem tyA_b {c : Nat → Int} {n b : Nat} {s : TyS} (hc : tOk c n) (hb : b ≤ 1) (h : tyg c n b s) : -1 ≤ tyf (tyA c n b s) ∧ tyf (tyA c n b s) ≤ 9000 := by
  have g1 := h.1
  have hn := hc.1
  unfold tyA
  by_cases eb : b = 1
  · rw [if_pos eb]
    have w := tSk_b (P := tBk) (p := typ s) hc tBk_no
    by_cases e1 : c (tSk tBk c n (typ s)) = 40
    · rw [if_pos e1]
      unfold tyL
      split
      · exact tyF_b (by omega)
      · have w2 := tSk_b (P := tBk) (p := tSk tBk c n (typ s) + 1) hc tBk_no
        exact tyG_b hc (by omega)
    · rw [if_neg e1]
      split
      · show -1 ≤ (-1 : Int) ∧ (-1 : Int) ≤ 9000
        decide
      · exact tyF_b (by omega)
  · rw [if_neg eb]
    have w3 : tyD c n s ≤ n := by
      have w4 := tSk_sp (P := tDo) (p := typ s) hc (by unfold tDo; omega)
      unfold tyD
      omega
    split
    · exact tyF_b (by omega)
    · split
      · exact tyF_b (by omega)
      · exact tyG_b hc (by omega)
theorem tRe_b {c : Nat → Int} {n b : Nat} {s : TyS} (hc : tOk c n) (hb : b ≤ 1) (h : tRe c n b s) : -1 ≤ tyf s ∧ tyf s ≤ 9000 := by
  obtain ⟨i, rfl⟩ := h
  have g : ∀ i, -1 ≤ tyf (tyI c n b i) ∧ tyf (tyI c n b i) ≤ 9000 := fun i => by
    induction i with
    | zero => exact ⟨Int.le_refl (-1), by show (-1 : Int) ≤ 9000; decide⟩
    | succ i ih =>
      have e : tyI c n b (i + 1) = zite (tyE n b (tyI c n b i)) (tyI c n b i) (tyA c n b (tyI c n b i)) := rfl
      by_cases h2 : tyE n b (tyI c n b i)
      · rw [e, zite_t h2]
        exact ih
      · rw [e, zite_f h2]
        exact tyA_b hc hb (tRe_g hc hb ⟨i, rfl⟩ (Classical.not_not.mp (fun w => h2 (Or.inl w))))
  exact g i
/-- where the reading of lists begins -/
noncomputable def tys0 (c : Nat → Int) (n : Nat) : TyS := if c (tSk tBk c n 0) = 40 then ty0 else tyA c n 1 ty0
theorem tys0_t {c : Nat → Int} {n : Nat} (h : c (tSk tBk c n 0) = 40) : tys0 c n = ty0 := if_pos h
theorem tys0_f {c : Nat → Int} {n : Nat} (h : c (tSk tBk c n 0) ≠ 40) : tys0 c n = tyF ty0 (tSk tBk c n 0) := (if_neg h).trans (tyA_f (s := ty0) h (Or.inr rfl))
theorem tys0_r {c : Nat → Int} {n : Nat} : tRe c n 1 (tys0 c n) := by
  unfold tys0
  split
  · exact tRe_0
  · exact tRe_s tRe_0 (tyE_n rfl (Or.inr rfl))
