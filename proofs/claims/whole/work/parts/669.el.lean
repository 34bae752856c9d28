/-! CUTS, the reference: exact, rules, a cut made -/
def zEx (P : Prop) (v : Int) : Prop := (v = 1 ∧ P) ∨ (v = 0 ∧ ¬ P)
theorem zEx_b {P : Prop} {v : Int} (h : zEx P v) : v = 0 ∨ v = 1 := by
  rcases h with h | h
  · exact Or.inr h.1
  · exact Or.inl h.1
theorem zEx_i {P Q : Prop} {v : Int} (h : zEx P v) (e : P ↔ Q) : zEx Q v := by
  rcases h with h | h
  · exact Or.inl ⟨h.1, e.mp h.2⟩
  · exact Or.inr ⟨h.1, fun q => h.2 (e.mpr q)⟩
theorem zEx_u {P : Prop} {u v : Int} (h : zEx P u) (g : zEx P v) : u = v := by
  rcases h with h | h <;> rcases g with g | g
  · exact h.1.trans g.1.symm
  · exact absurd h.2 g.2
  · exact absurd g.2 h.2
  · exact h.1.trans g.1.symm
theorem cuAn_no {w : List CuR} {pc : Nat} {net : Int} (h : ∀ p, p < pc → cg w p 1 ≠ net) : cuAn w pc net = 0 := by
  have hx : cuNx w pc net (cuM w pc net 0) (-1) := Or.inl ⟨rfl, fun x y q => h y q.1.2 q.2.2.1⟩
  exact cuAn_at (cuAr_e hx) (fun s hs => absurd hs (Nat.not_lt_zero s)) (Nat.zero_le _)
theorem cuC_z {α : Type} {f : Nat → List α} : ∀ {n : Nat}, (cuC f n).length = 0 ↔ ∀ i, i < n → (f i).length = 0
  | 0 => ⟨fun _ i hi => absurd hi (Nat.not_lt_zero i), fun _ => rfl⟩
  | n + 1 => by
    have e : (cuC f (n + 1)).length = (cuC f n).length + (f n).length := cuC_sl
    have ih := cuC_z (f := f) (n := n)
    constructor
    · intro h i hi
      by_cases q : i = n
      · rw [q]; omega
      · exact ih.mp (by omega) i (by omega)
    · intro h
      have a := ih.mpr (fun i hi => h i (by omega))
      have b := h n (Nat.lt_succ_self n)
      omega
theorem cuPd_n {s : BdS} {p : Nat} (h : p < bnp s) : cg (cuS s) p 1 = bP s p 3 := by
  have hl : (cuC (fun p => [cuPd s p]) (bnp s)).length = bnp s := cuC_1 _
  unfold cuS
  rw [cg_l (by omega)]
  have z := (cuC_in (f := fun p => [cuPd s p]) (N := p) (n := bnp s) (t := 0) (c := 1) h (by show 0 < 1; omega)).2
  rw [cuC_1] at z
  exact z
/-- exact, as both reckon it -/
def cuX (s : BdS) (F : Int) (n : Nat) : Prop := (bOpn s (bnn s) = 0 ∧ cuSc (cuS s) (bnp s) = 0 ∧ F = 0) ∧ ∀ j : Nat, j < n → cuAc (cuS s) (bnp s) j = 0
theorem cuX_s {s : BdS} {F : Int} {n : Nat} : cuX s F (n + 1) ↔ cuX s F n ∧ cuAc (cuS s) (bnp s) n = 0 := by
  constructor
  · intro h
    exact ⟨⟨h.1, fun j hj => h.2 j (by omega)⟩, h.2 n (Nat.lt_succ_self n)⟩
  · intro h
    refine ⟨h.1.1, fun j hj => ?_⟩
    by_cases e : j = n
    · rw [e]; exact h.2
    · exact h.1.2 j (by omega)
theorem cuX_e {s : BdS} {F : Int} (hG : bGd s) : cuX s F (bnn s) ↔ (bOpn s (bnn s) = 0 ∧ (cuAA (cuS s) (bnp s)).length = 0 ∧ cuSc (cuS s) (bnp s) = 0 ∧ F = 0) := by
  have hw := cuS_G hG
  have hp := cuS_p hG
  have gp := hG.2.2.2.1
  have hn12 := hG.2.1.2
  have key : (∀ j : Nat, j < bnn s → cuAc (cuS s) (bnp s) j = 0) ↔ (cuAA (cuS s) (bnp s)).length = 0 := by
    unfold cuAA
    rw [cuC_z]
    constructor
    · intro h i hi
      rw [cuAL_l]
      by_cases q : i < bnn s
      · rw [← cuAc_n hw hp.2.1 (by omega)]
        exact h i q
      · exact cuAn_no (fun p hp2 => by
          rw [cuPd_n hp2]
          have z := (gp p hp2).2.2.2.1
          omega)
    · intro h j hj
      have z := h j (by omega)
      rw [cuAL_l] at z
      rw [cuAc_n hw hp.2.1 (by omega)]
      exact z
  constructor
  · intro h
    exact ⟨h.1.1, key.mp h.2, h.1.2.1, h.1.2.2⟩
  · intro h
    exact ⟨⟨h.1, h.2.2.1, h.2.2.2⟩, key.mpr h.2.1⟩
/-- rules, as the mill keeps them -/
def zMR (nr : Nat) (rf : Nat → Nat → Int) (I : ZI) : Prop := (I 165 24 = nr ∧ nr ≤ 30) ∧ ∀ r : Nat, r < nr → (I 204 r = rf r 0 ∧ I 205 r = rf r 1 ∧ I 206 r = rf r 2 ∧ I 207 r = rf r 3) ∧ (rf r 0 = 4 → rf r 3 = 0)
theorem zMR_fr {nr : Nat} {rf : Nat → Nat → Int} {I I' : ZI} (h : zMR nr rf I) (hf : ∀ c j : Nat, (c = 165 ∧ j = 24) ∨ (204 ≤ c ∧ c ≤ 207) → I' c j = I c j) : zMR nr rf I' :=
  ⟨⟨(hf _ _ (by omega)).trans h.1.1, h.1.2⟩, fun r hr => ⟨⟨(hf _ _ (by omega)).trans (h.2 r hr).1.1, (hf _ _ (by omega)).trans (h.2 r hr).1.2.1, (hf _ _ (by omega)).trans (h.2 r hr).1.2.2.1, (hf _ _ (by omega)).trans (h.2 r hr).1.2.2.2⟩, (h.2 r hr).2⟩⟩
theorem zCr_a {k n nr : Nat} {rf : Nat → Nat → Int} {I I' L L' : ZI} (h : zCr k n rf I L) (hn : n ≤ 29) (h1 : I' k 11 = n + 1) (h2 : I' (k + 9) n = cuRk (rf n 0) ∧ I' (k + 10) n = rf n 1 ∧ I' (k + 11) n = rf n 2 ∧ L' (k + 12) n = rf n 3) (hf : ∀ c j : Nat, (k + 9 ≤ c ∧ c ≤ k + 11) → j ≠ n → I' c j = I c j) (hl : ∀ j : Nat, j ≠ n → L' (k + 12) j = L (k + 12) j) : zCr k (n + 1) rf I' L' := by
  refine ⟨h1.trans rfl, by omega, fun r hr => ?_⟩
  by_cases e : r = n
  · rw [e]
    exact h2
  · obtain ⟨a1, a2, a3, a4⟩ := h.2.2 r (by omega)
    exact ⟨(hf _ _ (by omega) e).trans a1, (hf _ _ (by omega) e).trans a2, (hf _ _ (by omega) e).trans a3, (hl _ e).trans a4⟩
theorem zCr_0 {k : Nat} {rf : Nat → Nat → Int} {I L : ZI} (h : I k 11 = 0) : zCr k 0 rf I L := ⟨h, by decide, fun r hr => absurd hr (Nat.not_lt_zero r)⟩
theorem zCk_0 {k : Nat} {I L : ZI} (h : I k 2 = 0) : zCk k [] I L := ⟨h, by decide, fun r hr => absurd hr (Nat.not_lt_zero r)⟩
theorem zPc_0 {k : Nat} {I L : ZI} (h : I k 2 = 0) (h2 : ∀ q : Nat, q < 40 → I (k + 10) q = -1) : zPc k [] 0 I L := ⟨h, fun r hr => absurd hr (Nat.not_lt_zero r), fun q hq => (h2 q hq).trans (if_neg (Nat.not_lt_zero q)).symm⟩
theorem zDh_0 {k : Nat} {I L : ZI} (h : I (k + 4) 0 = 0) (h2 : I (k + 1) 0 = 1) : zDh k [] I L := ⟨⟨h, h2⟩, fun r hr => absurd hr (Nat.not_lt_zero r)⟩
theorem zMh_0 {I : ZI} (h : I 165 35 = 0) : zMh [] I := ⟨h, fun r hr => absurd hr (Nat.not_lt_zero r)⟩
/-- what is kept of a cut by the mill of the reference -/
def zYC (k q : Nat) (w : List CuR) (pc nr : Nat) (rf : Nat → Nat → Int) (ex : Prop) (I L : ZI) : Prop := (zPc q w pc I L ∧ zFY k w (cuAl w nr rf) I ∧ I 165 33 = I k 19) ∧ (zMh w I ∧ ∀ p : Nat, p < cuHc w → I 211 p = cuOr w p) ∧ zEx ex (I 165 34)
theorem zYC_fr {k q pc nr : Nat} {w : List CuR} {rf : Nat → Nat → Int} {ex : Prop} {I I' L L' : ZI} (h : zYC k q w pc nr rf ex I L) (hf : ∀ c j : Nat, (c = 165 ∧ (j = 33 ∨ j = 34 ∨ j = 35)) ∨ (208 ≤ c ∧ c ≤ 211) ∨ (c = k ∧ j = 19) ∨ c = k + 14 ∨ (c = q ∧ j = 2) ∨ (q + 1 ≤ c ∧ c ≤ q + 3) ∨ c = q + 9 ∨ c = q + 10 → I' c j = I c j) (hl : ∀ c j : Nat, q + 4 ≤ c ∧ c ≤ q + 8 → L' c j = L c j) : zYC k q w pc nr rf ex I' L' := by
  obtain ⟨⟨h1, h2, h3⟩, ⟨h4, h5⟩, h6⟩ := h
  refine ⟨⟨zPc_fr h1 (fun c j g => hf c j (by omega)) hl, zFY_fr h2 (fun c j g => hf c j (by omega)), ?_⟩, ⟨zMh_fr h4 (fun c j g => hf c j (by omega)), fun p hp => (hf _ _ (by omega)).trans (h5 p hp)⟩, ?_⟩
  · rw [hf 165 33 (by omega), hf k 19 (by omega)]
    exact h3
  · rw [hf 165 34 (by omega)]
    exact h6
theorem upR_c {f : Nat → Nat → Int} {c : Nat} {a b d e g : Int} : upR f c a b d e g c 0 = a ∧ upR f c a b d e g c 1 = b ∧ upR f c a b d e g c 2 = d ∧ upR f c a b d e g c 3 = e := by
  refine ⟨?_, ?_, ?_, ?_⟩ <;> simp [upR]
theorem upR_f {f : Nat → Nat → Int} {c x : Nat} {a b d e g : Int} (h : x ≠ c) : upR f c a b d e g x = f x := funext fun y => upR_ne h
/-- a rule said -/
def ruOk (kd a b u : Int) : Prop := (0 ≤ kd ∧ kd ≤ 4) ∧ (-1 ≤ a ∧ a ≤ 3) ∧ (-1 ≤ b ∧ b ≤ 3) ∧ (0 ≤ u ∧ u ≤ 100000) ∧ (kd = 4 → u = 0)
noncomputable def ruV (nr : Nat) (kd a b u : Int) : Int := @ite Int (ruOk kd a b u) (Classical.propDecidable _) (if nr = 30 then -1 else nr) (-2)
noncomputable def ruN (nr : Nat) (kd a b u : Int) : Nat := if 0 ≤ ruV nr kd a b u then nr + 1 else nr
noncomputable def ruF (nr : Nat) (rf : Nat → Nat → Int) (kd a b u : Int) : Nat → Nat → Int := if 0 ≤ ruV nr kd a b u then upR rf nr kd a b u 0 else rf
theorem ruV_n {nr : Nat} {rf : Nat → Nat → Int} {kd a b u : Int} (h : ¬ ruOk kd a b u) : (if 0 ≤ ruV nr kd a b u then ruV nr kd a b u else -1) = -1 ∧ (if 0 ≤ ruV nr kd a b u then 0 else -(ruV nr kd a b u)) = 2 ∧ ruN nr kd a b u = nr ∧ ruF nr rf kd a b u = rf := by
  have e : ruV nr kd a b u = -2 := if_neg h
  unfold ruN ruF
  rw [e]
  exact ⟨rfl, rfl, rfl, rfl⟩
theorem ruV_f {nr : Nat} {rf : Nat → Nat → Int} {kd a b u : Int} (h : ruOk kd a b u) (hn : nr = 30) : (if 0 ≤ ruV nr kd a b u then ruV nr kd a b u else -1) = -1 ∧ (if 0 ≤ ruV nr kd a b u then 0 else -(ruV nr kd a b u)) = 1 ∧ ruN nr kd a b u = nr ∧ ruF nr rf kd a b u = rf := by
  have e : ruV nr kd a b u = -1 := (if_pos h).trans (if_pos hn)
  unfold ruN ruF
  rw [e]
  exact ⟨rfl, rfl, rfl, rfl⟩
theorem ruV_y {nr : Nat} {rf : Nat → Nat → Int} {kd a b u : Int} (h : ruOk kd a b u) (hn : nr ≠ 30) : (if 0 ≤ ruV nr kd a b u then ruV nr kd a b u else -1) = nr ∧ (if 0 ≤ ruV nr kd a b u then 0 else -(ruV nr kd a b u)) = 0 ∧ ruN nr kd a b u = nr + 1 ∧ ruF nr rf kd a b u = upR rf nr kd a b u 0 := by
  have e : ruV nr kd a b u = nr := (if_pos h).trans (if_neg hn)
  have p : 0 ≤ ruV nr kd a b u := by omega
  unfold ruN ruF
  rw [if_pos p, if_pos p, if_pos p, if_pos p]
  exact ⟨e, rfl, rfl, rfl⟩
theorem zMR_a {nr : Nat} {rf : Nat → Nat → Int} {kd a b u : Int} {I I' : ZI} (h : zMR nr rf I) (ho : ruOk kd a b u) (hn : nr ≠ 30) (h1 : I' 165 24 = nr + 1) (h2 : I' 204 nr = kd ∧ I' 205 nr = a ∧ I' 206 nr = b ∧ I' 207 nr = u) (hf : ∀ c j : Nat, (204 ≤ c ∧ c ≤ 207) → j ≠ nr → I' c j = I c j) : zMR (ruN nr kd a b u) (ruF nr rf kd a b u) I' := by
  have e := ruV_y (rf := rf) ho hn
  rw [e.2.2.1, e.2.2.2]
  have h30 := h.1.2
  refine ⟨⟨h1.trans rfl, by omega⟩, fun r hr => ?_⟩
  by_cases q : r = nr
  · subst q
    obtain ⟨u1, u2, u3, u4⟩ := upR_c (f := rf) (c := r) (a := kd) (b := a) (d := b) (e := u) (g := 0)
    rw [u1, u2, u3, u4]
    exact ⟨h2, ho.2.2.2.2⟩
  · rw [upR_f q]
    obtain ⟨⟨a1, a2, a3, a4⟩, a5⟩ := h.2 r (by omega)
    exact ⟨⟨(hf _ _ (by omega) q).trans a1, (hf _ _ (by omega) q).trans a2, (hf _ _ (by omega) q).trans a3, (hf _ _ (by omega) q).trans a4⟩, a5⟩
theorem cuRg_a {nr : Nat} {rf : Nat → Nat → Int} {kd a b u : Int} (h : cuRg nr rf) : cuRg (ruN nr kd a b u) (ruF nr rf kd a b u) := by
  by_cases ho : ruOk kd a b u
  · by_cases hn : nr = 30
    · rw [(ruV_f (rf := rf) ho hn).2.2.1, (ruV_f (rf := rf) ho hn).2.2.2]
      exact h
    · rw [(ruV_y (rf := rf) ho hn).2.2.1, (ruV_y (rf := rf) ho hn).2.2.2]
      intro r hr
      by_cases q : r = nr
      · subst q
        obtain ⟨u1, u2, u3, u4⟩ := upR_c (f := rf) (c := r) (a := kd) (b := a) (d := b) (e := u) (g := 0)
        rw [u1, u2, u3, u4]
        exact ⟨ho.1, ho.2.1, ho.2.2.1, ho.2.2.2.1⟩
      · rw [upR_f q]
        exact h r (by omega)
  · rw [(ruV_n (rf := rf) (nr := nr) ho).2.2.1, (ruV_n (rf := rf) (nr := nr) ho).2.2.2]
    exact h
