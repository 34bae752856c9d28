/-! CUTS: the shapes of a board are good -/
def cuOk (r : CuR) : Prop := (0 ≤ r 0 ∧ r 0 ≤ 3) ∧ (0 ≤ r 1 ∧ r 1 ≤ 11) ∧ (0 ≤ r 2 ∧ r 2 ≤ 3) ∧ (0 ≤ r 3 ∧ r 3 ≤ 255) ∧ (0 ≤ r 4 ∧ r 4 ≤ 255) ∧ (r 0 ≠ 0 → r 4 = r 3) ∧ (r 0 = 0 → (r 3 % 16 < r 4 % 16 ∧ r 3 / 16 = r 4 / 16) ∨ (r 3 % 16 = r 4 % 16 ∧ r 3 / 16 < r 4 / 16)) ∧ (r 0 = 3 → r 2 ≤ 2)
theorem cg_m {w : List CuR} {i : Nat} (h : i < w.length) : ∃ r, r ∈ w ∧ ∀ c, cg w i c = r c := ⟨w[i], List.getElem_mem h, fun c => by
  unfold cg
  rw [List.getD_eq_getElem?_getD, List.getElem?_eq_getElem h]
  rfl⟩
theorem cuG_of {w : List CuR} (h : ∀ r, r ∈ w → cuOk r) : cuG w := fun i hi => by
  obtain ⟨r, h1, h2⟩ := cg_m hi
  have z := h r h1
  simp only [h2]
  exact z
theorem cuC_mem {f : Nat → List CuR} {r : CuR} : ∀ {n}, r ∈ cuC f n → ∃ i, i < n ∧ r ∈ f i
  | 0, h => by cases h
  | n + 1, h => by
    have h' : r ∈ cuC f n ++ f n := h
    rcases List.mem_append.mp h' with z | z
    · obtain ⟨i, h1, h2⟩ := cuC_mem z
      exact ⟨i, by omega, h2⟩
    · exact ⟨n, Nat.lt_succ_self n, z⟩
theorem cuL_mem {mk : Nat → Nat → CuR} {h : Nat → Int} {r : CuR} : ∀ {n}, r ∈ cuL mk h n → ∃ a b, a < b ∧ b + 1 < n ∧ r = mk a b
  | 0, q => by cases q
  | n + 1, q => by
    by_cases e : h n = 1
    · rw [cuL_y e] at q
      obtain ⟨a, b, h1, h2, h3⟩ := cuL_mem q
      exact ⟨a, b, h1, by omega, h3⟩
    · by_cases e2 : 1 < cuR h n
      · rw [cuL_r e e2] at q
        rcases List.mem_append.mp q with z | z
        · obtain ⟨a, b, h1, h2, h3⟩ := cuL_mem z
          exact ⟨a, b, h1, by omega, h3⟩
        · have w := cuR_le (h := h) n
          exact ⟨n - cuR h n, n - 1, by omega, by omega, List.mem_singleton.mp z⟩
      · rw [cuL_n e e2] at q
        obtain ⟨a, b, h1, h2, h3⟩ := cuL_mem q
        exact ⟨a, b, h1, by omega, h3⟩
theorem cRw_c {a b d e g : Int} : cRw a b d e g 0 = a ∧ cRw a b d e g 1 = b ∧ cRw a b d e g 2 = d ∧ cRw a b d e g 3 = e ∧ cRw a b d e g 4 = g := ⟨rfl, rfl, rfl, rfl, rfl⟩
theorem cuLn_ok {s : BdS} {net : Int} {l r al : Nat} (hG : bGd s) (hn : 0 ≤ net ∧ net ≤ 11) (hl : l < bD s) (hr : r < cuMl s al) {x : CuR} (h : x ∈ cuLn s net l r al) : cuOk x ∧ x 0 = 0 := by
  obtain ⟨⟨⟨w1, w2⟩, ⟨g1, g2⟩, ⟨d1, d2⟩, _⟩, _⟩ := hG
  obtain ⟨a, b, h1, h2, h3⟩ := cuL_mem h
  obtain ⟨c0, c1, c2, c3, c4⟩ := cRw_c (a := 0) (b := net) (d := (l : Int)) (e := cuPl r al a) (g := cuPl r al b)
  subst h3
  unfold cuMk cuOk
  rw [c0, c1, c2, c3, c4]
  by_cases e : al = 1
  · rw [cuMx_1 e] at h2
    rw [cuMl_1 e] at hr
    rw [cuPl_1 e, cuPl_1 e]
    refine ⟨⟨by omega, hn, by omega, by omega, by omega, fun q => absurd rfl q, fun _ => Or.inl (by omega), fun q => by omega⟩, rfl⟩
  · rw [cuMx_0 e] at h2
    rw [cuMl_0 e] at hr
    rw [cuPl_0 e, cuPl_0 e]
    refine ⟨⟨by omega, hn, by omega, by omega, by omega, fun q => absurd rfl q, fun _ => Or.inr (by omega), fun q => by omega⟩, rfl⟩
theorem cuHo_ok {s : BdS} {net : Int} {l j i : Nat} (hG : bGd s) (hn : 0 ≤ net ∧ net ≤ 11) (hl : l + 1 < bD s) (hj : j < bH s) (hi : i < bW s) {x : CuR} (h : x ∈ cuHo s net l j i) : cuOk x := by
  obtain ⟨⟨⟨w1, w2⟩, ⟨g1, g2⟩, ⟨d1, d2⟩, _⟩, _⟩ := hG
  by_cases q : cuHb s net l i j = 1 ∧ cuHb s net ((l : Int) + 1) i j = 1
  · rw [cuHo_y q.1 q.2] at h
    have key : ∀ (c d : Int), (c = 2 ∨ (c = 3 ∧ d ≤ 2)) → 0 ≤ d ∧ d ≤ 3 → cuOk (cRw c net d (16 * (j : Int) + i) (16 * (j : Int) + i)) := fun c d hc hd => by
      obtain ⟨c0, c1, c2, c3, c4⟩ := cRw_c (a := c) (b := net) (d := d) (e := 16 * (j : Int) + i) (g := 16 * (j : Int) + i)
      unfold cuOk
      rw [c0, c1, c2, c3, c4]
      exact ⟨by omega, hn, hd, by omega, by omega, fun _ => rfl, fun q => by omega, fun q => by omega⟩
    rcases List.mem_cons.mp h with z | z
    · rw [z]; exact key 2 l (Or.inl rfl) (by omega)
    · rcases List.mem_cons.mp z with z | z
      · rw [z]; exact key 2 _ (Or.inl rfl) (by omega)
      · rw [List.mem_singleton.mp z]; exact key 3 l (Or.inr ⟨rfl, by omega⟩) (by omega)
  · rw [cuHo_n q] at h
    cases h
theorem cuPd_ok {s : BdS} {p : Nat} (hG : bGd s) (hp : p < bnp s) : cuOk (cuPd s p) := by
  obtain ⟨⟨⟨w1, w2⟩, ⟨g1, g2⟩, ⟨d1, d2⟩, _⟩, hb, _, hP, _⟩ := hG
  have z := hP p hp
  have zc := cx_of (W := bW s) (H := bH s) (D := bD s) (c := (bP s p 2).toNat) (by omega)
  have hpp : 0 ≤ cuPp s (bP s p 2).toNat ∧ cuPp s (bP s p 2).toNat ≤ 255 := by
    unfold cuPp
    generalize (bP s p 2).toNat / bW s % bH s = a at *
    generalize (bP s p 2).toNat % bW s = b at *
    omega
  obtain ⟨c0, c1, c2, c3, c4⟩ := cRw_c (a := 1) (b := bP s p 3) (d := (((bP s p 2).toNat / bW s / bH s : Nat) : Int)) (e := cuPp s (bP s p 2).toNat) (g := cuPp s (bP s p 2).toNat)
  unfold cuPd cuOk
  rw [c0, c1, c2, c3, c4]
  generalize (bP s p 2).toNat / bW s / bH s = q at *
  exact ⟨by omega, by omega, by omega, hpp, hpp, fun _ => rfl, fun q => by omega, fun q => by omega⟩
theorem cuS_ok {s : BdS} (hG : bGd s) : ∀ r, r ∈ cuS s → cuOk r := fun r h => by
  have hnn := hG.2.1.2
  rcases List.mem_append.mp h with z | z
  · obtain ⟨p, h1, h2⟩ := cuC_mem z
    rw [List.mem_singleton.mp h2]
    exact cuPd_ok hG h1
  · obtain ⟨n, h1, h2⟩ := cuC_mem z
    unfold cuNt at h2
    by_cases q : bN s n 2 = 1
    · rw [if_pos q] at h2
      rcases List.mem_append.mp h2 with y | y
      · rcases List.mem_append.mp y with x | x
        · obtain ⟨l, a1, a2⟩ := cuC_mem x
          obtain ⟨r2, b1, b2⟩ := cuC_mem a2
          exact (cuLn_ok hG (by omega) a1 b1 b2).1
        · obtain ⟨l, a1, a2⟩ := cuC_mem x
          obtain ⟨r2, b1, b2⟩ := cuC_mem a2
          exact (cuLn_ok hG (by omega) a1 b1 b2).1
      · obtain ⟨l, a1, a2⟩ := cuC_mem y
        obtain ⟨j, b1, b2⟩ := cuC_mem a2
        obtain ⟨i, c1, c2⟩ := cuC_mem b2
        exact cuHo_ok hG (by omega) (by omega) b1 c1 c2
    · rw [if_neg q] at h2
      cases h2
theorem cuS_G {s : BdS} (hG : bGd s) : cuG (cuS s) := cuG_of (cuS_ok hG)
theorem cuS_p {s : BdS} (hG : bGd s) : cuPq (cuS s) (bnp s) := by
  have hnp := hG.2.1.1
  have hl : (cuC (fun p => [cuPd s p]) (bnp s)).length = bnp s := cuC_1 _
  refine ⟨hnp, by unfold cuS; rw [List.length_append]; omega, fun p hp => ?_⟩
  unfold cuS
  rw [cg_l (by omega)]
  have z := (cuC_in (f := fun p => [cuPd s p]) (N := p) (n := bnp s) (t := 0) (c := 0) hp (by show 0 < 1; omega)).2
  rw [cuC_1] at z
  exact z
/-- each hole has two rings -/
theorem zct_on {P Q : Nat → Prop} : ∀ {n}, (∀ i, i < n → (P i ↔ Q i)) → zct P n = zct Q n
  | 0, _ => rfl
  | n + 1, h => by
    have ih := zct_on (P := P) (Q := Q) (n := n) (fun i hi => h i (by omega))
    have e := h n (Nat.lt_succ_self n)
    by_cases q : P n
    · rw [zct_t q, zct_t (e.mp q), ih]
    · rw [zct_f q, zct_f (fun y => q (e.mpr y)), ih]
theorem cuHc_a {a b : List CuR} : cuHc (a ++ b) = cuHc a + cuHc b := by
  have key : ∀ m, m ≤ b.length → zct (cuHn (a ++ b)) (a.length + m) = zct (cuHn a) a.length + zct (cuHn b) m := fun m => by
    induction m with
    | zero => intro _; exact zct_on (fun i hi => by unfold cuHn; rw [cg_l hi])
    | succ m ih =>
      intro hm
      have i2 := ih (by omega)
      rw [← Nat.add_assoc]
      by_cases q : cuHn b m
      · rw [zct_t (show cuHn (a ++ b) (a.length + m) by unfold cuHn; rw [cg_r]; exact q), zct_t q, i2]
        omega
      · rw [zct_f (show ¬ cuHn (a ++ b) (a.length + m) by unfold cuHn; rw [cg_r]; exact q), zct_f q, i2]
  unfold cuHc
  rw [List.length_append]
  exact key _ (Nat.le_refl _)
def cu3 (w : List CuR) : Prop := 3 * cuHc w ≤ w.length
theorem cu3_0 : cu3 [] := Nat.le_refl 0
theorem cu3_a {a b : List CuR} (h : cu3 a) (g : cu3 b) : cu3 (a ++ b) := by
  unfold cu3 at h g ⊢
  rw [cuHc_a, List.length_append]
  omega
theorem cu3_n {w : List CuR} (h : ∀ r, r ∈ w → r 0 ≠ 3) : cu3 w := by
  have e : cuHc w = 0 := by
    have z := zct_on (P := cuHn w) (Q := fun _ => False) (n := w.length) (fun i hi => by
      obtain ⟨r, h1, h2⟩ := cg_m hi
      constructor
      · intro q
        unfold cuHn at q
        rw [h2] at q
        exact h r h1 q
      · exact fun q => q.elim)
    unfold cuHc
    rw [z]
    exact zct_no (fun _ q => q) _
  unfold cu3
  omega
theorem cu3_c {f : Nat → List CuR} : ∀ {n}, (∀ i, i < n → cu3 (f i)) → cu3 (cuC f n)
  | 0, _ => cu3_0
  | n + 1, h => cu3_a (cu3_c (fun i hi => h i (by omega))) (h n (Nat.lt_succ_self n))
theorem cu3_h {s : BdS} {net : Int} {l j i : Nat} : cu3 (cuHo s net l j i) := by
  by_cases q : cuHb s net l i j = 1 ∧ cuHb s net ((l : Int) + 1) i j = 1
  · rw [cuHo_y q.1 q.2]
    generalize hp : 16 * (j : Int) + i = p
    have e : ([cRw 2 net l p p, cRw 2 net ((l : Int) + 1) p p, cRw 3 net l p p] : List CuR) = [cRw 2 net l p p, cRw 2 net ((l : Int) + 1) p p] ++ [cRw 3 net l p p] := rfl
    have e1 : cuHc [cRw 2 net l p p, cRw 2 net ((l : Int) + 1) p p] = 0 := by
      have z : cu3 [cRw 2 net l p p, cRw 2 net ((l : Int) + 1) p p] := cu3_n (fun r h => by
        rcases List.mem_cons.mp h with z | z
        · rw [z]; show (2 : Int) ≠ 3; decide
        · rw [List.mem_singleton.mp z]; show (2 : Int) ≠ 3; decide)
      unfold cu3 at z
      have z2 : ([cRw 2 net l p p, cRw 2 net ((l : Int) + 1) p p] : List CuR).length = 2 := rfl
      omega
    have e2 : cuHc [cRw 3 net l p p] ≤ 1 := zct_le _ _
    unfold cu3
    rw [e, cuHc_a, List.length_append]
    have z2 : ([cRw 2 net l p p, cRw 2 net ((l : Int) + 1) p p] : List CuR).length = 2 := rfl
    have z3 : ([cRw 3 net l p p] : List CuR).length = 1 := rfl
    omega
  · rw [cuHo_n q]
    exact cu3_0
theorem cuS_3 {s : BdS} (hG : bGd s) : cu3 (cuS s) := by
  have hnn := hG.2.1.2
  refine cu3_a (cu3_c fun p hp => cu3_n fun r h => by rw [List.mem_singleton.mp h]; show (1 : Int) ≠ 3; decide) (cu3_c fun n hn => ?_)
  unfold cuNt
  by_cases q : bN s n 2 = 1
  · rw [if_pos q]
    refine cu3_a (cu3_a ?_ ?_) ?_
    · exact cu3_c fun l hl => cu3_c fun r hr => cu3_n fun x hx => by rw [(cuLn_ok hG (by omega) hl hr hx).2]; decide
    · exact cu3_c fun l hl => cu3_c fun r hr => cu3_n fun x hx => by rw [(cuLn_ok hG (by omega) hl hr hx).2]; decide
    · exact cu3_c fun l _ => cu3_c fun j _ => cu3_c fun i _ => cu3_h
  · rw [if_neg q]
    exact cu3_0
theorem cuS_20 {s : BdS} (hG : bGd s) (h : (cuS s).length ≤ 60) : cuHc (cuS s) ≤ 20 := by
  have z := cuS_3 hG
  unfold cu3 at z
  omega
/-- a cut, as the class holds it -/
def zUC (k : Nat) (w : List CuR) (pc nr : Nat) (rf : Nat → Nat → Int) (bn al : Int) (I : ZI) : Prop := ((I k 0 = bn ∧ I k 3 = al ∧ I k 4 = pc) ∧ (w.length ≤ 60 ∧ cuG w ∧ cuPq w pc ∧ cuHc w ≤ 20 ∧ (cuAA w pc).length ≤ 40)) ∧ zUw k w I ∧ zUp k w I ∧ zUa k w pc I ∧ I k 9 = cuSc w pc ∧ (zFs k (cuAl w nr rf) I ∧ (∀ a b : Nat, a < b → (b : Int) < I k 11 → I (k + 7) a < I (k + 7) b) ∧ I k 11 ≤ 1950) ∧ zUh k w I ∧ zUo k w I
theorem zUC_fr {k pc nr : Nat} {w : List CuR} {rf : Nat → Nat → Int} {bn al : Int} {I I' : ZI} (h : zUC k w pc nr rf bn al I) (hf : ∀ c j : Nat, (c = k ∧ j ≠ 17 ∧ j ≠ 18) ∨ (k + 1 ≤ c ∧ c ≤ k + 9) → I' c j = I c j) : zUC k w pc nr rf bn al I' := by
  obtain ⟨⟨⟨h1, h2, h3⟩, h4⟩, h5, h6, h7, h8, ⟨h9, h10, h11⟩, h12, h13⟩ := h
  refine ⟨⟨⟨(hf _ _ (by omega)).trans h1, (hf _ _ (by omega)).trans h2, (hf _ _ (by omega)).trans h3⟩, h4⟩, zUw_fr h5 (fun c j q => hf c j (by omega)), zUp_fr h6 (fun c j q => hf c j (by omega)), zUa_fr h7 (fun c j q => hf c j (by omega)), (hf _ _ (by omega)).trans h8, ⟨zFs_fr h9 (fun c j q => hf c j (by omega)), ?_, ?_⟩, zUh_fr h12 (fun c j q => hf c j (by omega)), zUo_fr h13 (fun c j q => hf c j (by omega))⟩
  · rw [hf k 11 (by omega)]
    intro a b q1 q2
    rw [hf (k + 7) a (by omega), hf (k + 7) b (by omega)]
    exact h10 a b q1 q2
  · rw [hf k 11 (by omega)]
    exact h11
theorem zUw_0 {k : Nat} {I : ZI} (h1 : I (k + 1) 1 = 60) (h2 : I (k + 1) 2 = 0) (h3 : I k 2 = 0) : zUw k [] I := ⟨⟨h1, h2, by decide, fun x y h => absurd h (by show ¬ x < min 0 60; omega)⟩, h3⟩
theorem cuNt_y {s : BdS} {n : Nat} (h : bN s n 2 = 1) : cuNt s n = cuRs s n 1 ++ cuRs s n 0 ++ cuHs s n := if_pos h
theorem cuNt_n {s : BdS} {n : Nat} (h : ¬ bN s n 2 = 1) : cuNt s n = [] := if_neg h
