/-! gh: SCRIPTS: within an expression no statement ends -/
def nsC (c : Nat → Int) (p q : Nat) : Prop := ∀ x, p ≤ x → x < q → c x ≠ 59
theorem nsC_1 {c : Nat → Int} {p q : Nat} (h : nsC c p q) (h1 : c q ≠ 59) : nsC c p (q + 1) := fun x a b => by
  by_cases e : x = q
  · rw [e]; exact h1
  · exact h x a (by omega)
theorem nsC_t {c : Nat → Int} {p q r : Nat} (h : nsC c p q) (g : nsC c q r) : nsC c p r := fun x a b => by
  by_cases e : x < q
  · exact h x a e
  · exact g x (by omega) b
theorem nsC_0 {c : Nat → Int} {p : Nat} : nsC c p p := fun x a b => by omega
theorem nsC_b {c : Nat → Int} {p q : Nat} (h1 : c p ≠ 59) (h : nsC c (p + 1) q) : nsC c p q := nsC_t (nsC_1 nsC_0 h1) h
def nsX (c : Nat → Int) (p : Nat) (x : ExR) : Prop := x.1 = 1 → nsC c p x.2.1
theorem exB_ns {c : Nat → Int} {p : Nat} : nsX c p (exB c p) := by
  intro h
  by_cases e1 : 48 ≤ c p ∧ c p ≤ 57
  · rw [exB_d e1]
    intro x a b
    have b2 : x < p + dgN c 4 p := b
    have w := dgN_in (c := c) (k := 4) (p := p) (j := x - p) (by omega)
    rw [show p + (x - p) = x by omega] at w
    omega
  · by_cases e2 : 97 ≤ c p ∧ c p ≤ 122
    · rw [exB_v e2]
      exact nsC_1 nsC_0 (by omega)
    · by_cases e3 : c p = 35
      · rw [exB_h e3]
        exact nsC_1 nsC_0 (by omega)
      · rw [exB_f e1 e2 e3] at h
        exact absurd (show (0 : Nat) = 1 from h) (by decide)
theorem exO_ns {c : Nat → Int} {p : Nat} {x y : ExR} (hx : nsX c p x) (h1 : x.1 = 1) (hc : c x.2.1 ≠ 59) (hy : nsX c (x.2.1 + 1) y) : nsX c p (exO c x y) := by
  intro h
  unfold exO at h ⊢
  by_cases e : y.1 = 1
  · rw [if_pos e]
    exact nsC_t (hx h1) (nsC_b hc (hy e))
  · rw [if_neg e] at h
    exact absurd h e
theorem exLp_ns {c : Nat → Int} {a b d : Int} (hs : a ≠ 59 ∧ b ≠ 59 ∧ d ≠ 59) {A : Nat → ExR} (hA : ∀ p, nsX c p (A p)) {p : Nat} : ∀ {m : Nat} {x : ExR}, nsX c p x → nsX c p (exLp c a b d A m x)
  | 0, x, hx => hx
  | m + 1, x, hx => by
    by_cases e : x.1 = 1 ∧ (c x.2.1 = a ∨ c x.2.1 = b ∨ c x.2.1 = d)
    · rw [exLp_1 e]
      exact exLp_ns hs hA (exO_ns hx e.1 (by omega) (hA _))
    · rw [exLp_0 e]
      exact hx
theorem exPr_ns {c : Nat → Int} {A : Nat → ExR} (hA : ∀ p, nsX c p (A p)) {p : Nat} : nsX c p (exPr c A p) := exLp_ns (by decide) hA (hA p)
theorem exSm_ns {c : Nat → Int} {A : Nat → ExR} (hA : ∀ p, nsX c p (A p)) {p : Nat} : nsX c p (exSm c A p) := exLp_ns (by decide) (fun _ => exPr_ns hA) (exPr_ns hA)
theorem exCm_ns {c : Nat → Int} {A : Nat → ExR} (hA : ∀ p, nsX c p (A p)) {p : Nat} : nsX c p (exCm c A p) := by
  unfold exCm exC1
  by_cases e : (exSm c A p).1 = 1 ∧ (c (exSm c A p).2.1 = 60 ∨ c (exSm c A p).2.1 = 61)
  · rw [if_pos e]
    exact exO_ns (exSm_ns hA) e.1 (by omega) (exSm_ns hA)
  · rw [if_neg e]
    exact exSm_ns hA
theorem exUn_ns {c : Nat → Int} {p : Nat} {u : Int} {x : ExR} (h : nsX c p x) : nsX c p (exUn u x) := by
  intro g
  unfold exUn at g ⊢
  by_cases e : x.1 = 1
  · rw [if_pos e]; exact h e
  · rw [if_neg e] at g; exact absurd g e
theorem nsX_b {c : Nat → Int} {p : Nat} {x : ExR} (h1 : c p ≠ 59) (h : nsX c (p + 1) x) : nsX c p x := fun g => nsC_b h1 (h g)
theorem exPa_ns {c : Nat → Int} {p : Nat} {x : ExR} (h : nsX c p x) : nsX c p (exPa c x) := by
  intro g
  unfold exPa at g ⊢
  by_cases e : x.1 = 1
  · rw [if_pos e] at g ⊢
    by_cases e2 : c x.2.1 = 41
    · rw [if_pos e2]; exact nsC_1 (h e) (by omega)
    · rw [if_neg e2] at g; exact absurd (show (0 : Nat) = 1 from g) (by decide)
  · rw [if_neg e] at g; exact absurd g e
theorem exFd_ns {c : Nat → Int} {p : Nat} {x : ExR} (h : nsX c p x) : nsX c p (exFd c x) := by
  intro g
  unfold exFd at g ⊢
  by_cases e : x.1 = 1
  · rw [if_pos e] at g ⊢
    by_cases e2 : c x.2.1 = 58
    · rw [if_pos e2] at g ⊢
      by_cases e3 : 48 ≤ c (x.2.1 + 1) ∧ c (x.2.1 + 1) ≤ 53
      · rw [if_pos e3]; exact nsC_1 (nsC_1 (h e) (by omega)) (by omega)
      · rw [if_neg e3] at g; exact absurd (show (0 : Nat) = 1 from g) (by decide)
    · rw [if_neg e2] at g; exact absurd (show (0 : Nat) = 1 from g) (by decide)
  · rw [if_neg e] at g; exact absurd g e
theorem exAt_ns {c : Nat → Int} : ∀ {r p : Nat}, nsX c p (exAt c r p)
  | 0, p => exB_ns
  | r + 1, p => by
    by_cases e1 : c p = 40
    · rw [exAt_p e1]; exact exPa_ns (nsX_b (by omega) (exCm_ns (fun _ => exAt_ns)))
    · by_cases e2 : c p = 45
      · rw [exAt_m e2]; exact exUn_ns (nsX_b (by omega) exAt_ns)
      · by_cases e3 : c p = 39
        · rw [exAt_q e3]; exact exUn_ns (nsX_b (by omega) exAt_ns)
        · by_cases e4 : c p = 64
          · rw [exAt_a e4]; exact exFd_ns (nsX_b (by omega) exAt_ns)
          · rw [exAt_B ⟨e1, e2, e3, e4⟩]; exact exB_ns
theorem exEx_ns {c : Nat → Int} {r p : Nat} : nsX c p (exEx c r p) := exCm_ns (fun _ => exAt_ns)
section
variable {n : Nat} {e : Nat → Int} {M : WkM} {s : WkS} {I L I' L' : ZI}
/-- a statement that sets, or fails -/
theorem zWk_q {f : Nat} {E2 : EvE} {p : Int} (h : zWk n e M s I L) (hq : (f = 0 ∧ zEv E2 I' L' ∧ ∀ j : Nat, 13 ≤ j → j ≤ 15 → I' 138 j = I 138 j) ∨ (¬ f = 0 ∧ zEv s.1.1 I' L' ∧ I' 138 13 = (f : Nat) ∧ I' 138 14 = p ∧ I' 138 15 = 0)) (hf : ∀ c j : Nat, (c = 138 ∧ (j = 8 ∨ (10 ≤ j ∧ j ≤ 12))) ∨ c = 144 → I' c j = I c j) (hl : ∀ j : Nat, L' 143 j = L 143 j) : zWk n e M (if f = 0 then wkE s E2 else wkF s (f : Nat) p 0) I' L' := by
  rcases hq with ⟨q1, q2, q3⟩ | ⟨q1, q2, q3, q4, q5⟩
  · rw [if_pos q1]
    exact zWk_E h q2 (fun c j w => by
      by_cases w2 : c = 138 ∧ 13 ≤ j
      · rw [w2.1]; exact q3 j w2.2 (by omega)
      · exact hf c j (by omega)) hl
  · rw [if_neg q1]
    exact zWk_F h q2 hf hl q3 q4 q5
/-- one that fails all the same -/
theorem zWk_q2 {f : Nat} {p k v : Int} (h : zWk n e M s I L) (hq : (f = 0 ∧ zEv s.1.1 I' L' ∧ I' 138 13 = k ∧ I' 138 14 = p ∧ I' 138 15 = v) ∨ (¬ f = 0 ∧ zEv s.1.1 I' L' ∧ I' 138 13 = (f : Nat) ∧ I' 138 14 = p ∧ I' 138 15 = 0)) (hf : ∀ c j : Nat, (c = 138 ∧ (j = 8 ∨ (10 ≤ j ∧ j ≤ 12))) ∨ c = 144 → I' c j = I c j) (hl : ∀ j : Nat, L' 143 j = L 143 j) : zWk n e M (if f = 0 then wkF s k p v else wkF s (f : Nat) p 0) I' L' := by
  rcases hq with ⟨q1, q2, q3⟩ | ⟨q1, q2, q3⟩
  · rw [if_pos q1]
    exact zWk_F h q2 hf hl q3.1 q3.2.1 q3.2.2
  · rw [if_neg q1]
    exact zWk_F h q2 hf hl q3.1 q3.2.1 q3.2.2
theorem zWk_qs {I0 : ZI} {f : Nat} {E2 : EvE} {p : Int} (hq : (f = 0 ∧ zEv E2 I' L' ∧ ∀ j : Nat, 13 ≤ j → j ≤ 15 → I' 138 j = I 138 j) ∨ (¬ f = 0 ∧ zEv s.1.1 I' L' ∧ I' 138 13 = (f : Nat) ∧ I' 138 14 = p ∧ I' 138 15 = 0)) (h0 : zWk n e M s I0 L) (h1 : s.2.1 < M.2.2.1) (hs : ∀ c j : Nat, (c = 138 ∧ (j = 3 ∨ j = 6 ∨ j = 8 ∨ j = 10 ∨ (12 ≤ j ∧ j ≤ 15))) ∨ c = 144 → I c j = I0 c j) (h2 : I 138 11 = I0 138 11 - 1) (hf : ∀ c j : Nat, (c = 138 ∧ (j = 8 ∨ (10 ≤ j ∧ j ≤ 12))) ∨ c = 144 → I' c j = I c j) (hl : ∀ j : Nat, L' 143 j = L 143 j) : zWk n e M (if f = 0 then wkE (wkSp s) E2 else wkF (wkSp s) (f : Nat) p 0) I' L' := zWk_q (zWk_sp h0 h1 hs h2) hq hf hl
theorem zWk_q2s {I0 : ZI} {f : Nat} {p k v : Int} (hq : (f = 0 ∧ zEv s.1.1 I' L' ∧ I' 138 13 = k ∧ I' 138 14 = p ∧ I' 138 15 = v) ∨ (¬ f = 0 ∧ zEv s.1.1 I' L' ∧ I' 138 13 = (f : Nat) ∧ I' 138 14 = p ∧ I' 138 15 = 0)) (h0 : zWk n e M s I0 L) (h1 : s.2.1 < M.2.2.1) (hs : ∀ c j : Nat, (c = 138 ∧ (j = 3 ∨ j = 6 ∨ j = 8 ∨ j = 10 ∨ (12 ≤ j ∧ j ≤ 15))) ∨ c = 144 → I c j = I0 c j) (h2 : I 138 11 = I0 138 11 - 1) (hf : ∀ c j : Nat, (c = 138 ∧ (j = 8 ∨ (10 ≤ j ∧ j ≤ 12))) ∨ c = 144 → I' c j = I c j) (hl : ∀ j : Nat, L' 143 j = L 143 j) : zWk n e M (if f = 0 then wkF (wkSp s) k p v else wkF (wkSp s) (f : Nat) p 0) I' L' := zWk_q2 (zWk_sp h0 h1 hs h2) hq hf hl
theorem zWk_x {s2 : WkS} (h : zWk n e M s I L) (q : s = s2) : zWk n e M s2 I L := by rw [← q]; exact h
theorem wk13_Y {p : Int} {l : CdL} (h : ¬ s.1.1.2.1 = 12) : (if evF s.1.1 l = 0 then wkE s (evNw s.1.1 (evV s.1.1 l)) else wkF s (evF s.1.1 l : Nat) p 0) = wk13 s p l := by
  unfold wk13; rw [if_neg h]
theorem wk13_N {p : Int} {l : CdL} (h : s.1.1.2.1 = 12) : (if evF s.1.1 l = 0 then wkF s 3 p 0 else wkF s (evF s.1.1 l : Nat) p 0) = wk13 s p l := by
  unfold wk13; rw [if_pos h]
theorem wk16_Y {p : Int} {l : CdL} (h : ¬ (evV s.1.1 l < 0 ∨ 20 < evV s.1.1 l)) : (if evF s.1.1 l = 0 then wkE s (evLn s.1.1 (evV s.1.1 l).toNat) else wkF s (evF s.1.1 l : Nat) p 0) = wk16 s p l := by
  unfold wk16; rw [if_neg h]
theorem wk16_N {p : Int} {l : CdL} (h : evV s.1.1 l < 0 ∨ 20 < evV s.1.1 l) : (if evF s.1.1 l = 0 then wkF s 3 p 0 else wkF s (evF s.1.1 l : Nat) p 0) = wk16 s p l := by
  unfold wk16; rw [if_pos h]
theorem apF_0 {E : EvE} {A B : CdL} {m : Nat} (h : apF E A B m = 0) : 0 ≤ evV E A := by
  unfold apF at h
  by_cases hA : evF E A ≠ 0
  · rw [if_pos hA] at h; exact absurd h hA
  · rw [if_neg hA] at h
    by_cases hr : ¬ (0 ≤ evV E A ∧ evV E A < (m : Int))
    · rw [if_pos hr] at h; exact absurd h (by decide)
    · omega
theorem wk2_ix {E : EvE} {A B : CdL} {m : Nat} {d : Int} (h : apF E A B m = 0) (hd : 48 ≤ d ∧ d ≤ 53) : (6 * evV E A + d - 48).toNat = 6 * (evV E A).toNat + (d - 48).toNat := by
  have w := apF_0 h
  omega
/-- a demand, with its step -/
theorem zWk_dms {I0 : ZI} {o : Nat} (h : zWk n e M s I0 L) (h1 : s.2.1 < M.2.2.1) (hn : s.1.2.2.1 < 8) (h2 : I' 138 11 = I0 138 11 - 1) (h8 : I' 138 10 = I0 138 10 + 1) (hf : ∀ c j : Nat, (c = 138 ∧ (j = 3 ∨ j = 6 ∨ j = 8 ∨ (12 ≤ j ∧ j ≤ 15))) ∨ (c = 144 ∧ ¬ j = s.1.2.2.1) → I' c j = I0 c j) (hv : zDm n e M o (I' 144 s.1.2.2.1)) : zWk n e M (wk14 (wkSp s) o) I' L := by
  have w := zWk_sp (I' := fun c j => if c = 138 ∧ j = 11 then I0 138 11 - 1 else I0 c j) h h1 (fun c j q => if_neg (by omega)) (if_pos ⟨rfl, rfl⟩)
  have e : wk14 (wkSp s) o = ((s.1.1, s.1.2.1, (s.1.2.2.1 + 1, upF s.1.2.2.2 s.1.2.2.1 o)), (wkSp s).2) := if_pos hn
  rw [e]
  have z0 : (wkSp s).1.2.2.1 = s.1.2.2.1 := rfl
  exact zWk_dm w hn (h8.trans (by rw [if_neg (by omega)])) (fun c j q => by
    by_cases z : c = 138 ∧ j = 11
    · rw [z.1, z.2, h2]; exact (if_pos ⟨rfl, rfl⟩).symm
    · rw [if_neg z]; exact hf c j (by omega)) hv
theorem zWk_dmn {I0 : ZI} {o : Nat} (h : zWk n e M s I0 L) (h1 : s.2.1 < M.2.2.1) (hn : ¬ s.1.2.2.1 < 8) (h2 : I' 138 11 = I0 138 11 - 1) (hf : ∀ c j : Nat, (c = 138 ∧ (j = 3 ∨ j = 6 ∨ j = 8 ∨ j = 10 ∨ (12 ≤ j ∧ j ≤ 15))) ∨ c = 144 → I' c j = I0 c j) : zWk n e M (wk14 (wkSp s) o) I' L := by
  have e : wk14 (wkSp s) o = wkSp s := if_neg hn
  rw [e]
  exact zWk_sp h h1 hf h2
/-- a question, with its step -/
theorem zWk_q15s {I0 : ZI} {l : CdL} {p : Int} (hq : ((qrL l s.1.1.2.1 0 s.1.1).1 = 0 ∧ zEv (evSv (qrL l s.1.1.2.1 0 s.1.1).2 25 (s.1.1.1 25)) I' L' ∧ ∀ j : Nat, 13 ≤ j → j ≤ 15 → I' 138 j = I 138 j) ∨ (¬ (qrL l s.1.1.2.1 0 s.1.1).1 = 0 ∧ zEv (qrL l s.1.1.2.1 0 s.1.1).2 I' L' ∧ I' 138 13 = ((qrL l s.1.1.2.1 0 s.1.1).1 : Nat) ∧ I' 138 14 = p ∧ I' 138 15 = 0)) (h0 : zWk n e M s I0 L) (h1 : s.2.1 < M.2.2.1) (hs : ∀ c j : Nat, (c = 138 ∧ (j = 3 ∨ j = 6 ∨ j = 8 ∨ j = 10 ∨ (12 ≤ j ∧ j ≤ 15))) ∨ c = 144 → I c j = I0 c j) (h2 : I 138 11 = I0 138 11 - 1) (hf : ∀ c j : Nat, (c = 138 ∧ (j = 8 ∨ (10 ≤ j ∧ j ≤ 12))) ∨ c = 144 → I' c j = I c j) (hl : ∀ j : Nat, L' 143 j = L 143 j) : zWk n e M (wk15 (wkSp s) p l) I' L' := by
  have w := zWk_sp h0 h1 hs h2
  unfold wk15
  rcases hq with ⟨q1, q2, q3⟩ | ⟨q1, q2, q3, q4, q5⟩
  · refine zWk_x (zWk_E w q2 (fun c j z => ?_) hl) (if_pos q1).symm
    by_cases w2 : c = 138 ∧ 13 ≤ j
    · rw [w2.1]; exact q3 j w2.2 (by omega)
    · exact hf c j (by omega)
  · have w3 : zWk n e M (wkE (wkSp s) (qrL l s.1.1.2.1 0 s.1.1).2) (fun c j => if c = 138 ∧ 13 ≤ j ∧ j ≤ 15 then I c j else I' c j) L' := zWk_E w (zEv_fr q2 (fun c j z => if_neg (by omega)) (fun _ _ _ => rfl)) (fun c j z => by
      by_cases w2 : c = 138 ∧ 13 ≤ j ∧ j ≤ 15
      · exact if_pos w2
      · exact (if_neg w2).trans (hf c j (by omega))) hl
    exact zWk_x (zWk_F w3 q2 (fun c j z => (if_neg (by omega)).symm) (fun _ => rfl) q3 q4 q5) (if_neg q1).symm
/-- the semicolon behind an expression -/
theorem smF_X {c : Nat → Int} {p : Nat} (h1 : c p ≠ 59) (h : (exEx c 3 (p + 1)).1 = 1) (hq : c (exEx c 3 (p + 1)).2.1 = 59) (hp : p < (exEx c 3 (p + 1)).2.1) (hn : (exEx c 3 (p + 1)).2.1 < n) : smF c (n - p) p = (exEx c 3 (p + 1)).2.1 := smF_at (Nat.le_of_lt hp) (by omega) (fun j a b => nsC_b h1 (exEx_ns h) j a b) hq
end
