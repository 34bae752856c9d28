/-! CUTS, the reference: the row of what is found -/
def zFe (c j : Nat) (x : Int) (I : ZI) : Prop := I c (3 * j) = cuRk (x / 3660 % 5) ∧ I c (3 * j + 1) = x / 61 % 60 ∧ I c (3 * j + 2) = x % 61 - 1
def cuWf (w : List CuR) (x : Int) : Prop := 0 ≤ x ∧ (x / 61 % 60).toNat < w.length ∧ x = cuCd w (x / 3660 % 5) (x / 61 % 60).toNat (x % 61 - 1)
theorem cuCd_d {w : List CuR} {kd b : Int} {i : Nat} (h : cuG w) (hi : i < w.length) (hl : w.length ≤ 60) (hk : 0 ≤ kd ∧ kd ≤ 4) (hb : -1 ≤ b ∧ b < 60) : cuCd w kd i b / 3660 % 5 = kd ∧ cuCd w kd i b / 61 % 60 = i ∧ cuCd w kd i b % 61 - 1 = b := by
  have z := h i hi
  unfold cuCd
  have hA : 0 ≤ (cg w i 2 * 16 + cg w i 3 % 16) * 16 + cg w i 3 / 16 := by omega
  generalize (cg w i 2 * 16 + cg w i 3 % 16) * 16 + cg w i 3 / 16 = A at hA ⊢
  omega
theorem cuWf_c {w : List CuR} {kd b : Int} {i : Nat} (h : cuG w) (hi : i < w.length) (hl : w.length ≤ 60) (hk : 0 ≤ kd ∧ kd ≤ 4) (hb : -1 ≤ b ∧ b < 60) : cuWf w (cuCd w kd i b) := by
  have z := cuCd_b h hi hl hk hb
  obtain ⟨e1, e2, e3⟩ := cuCd_d h hi hl hk hb
  unfold cuWf
  rw [e1, e2, e3, Int.toNat_natCast]
  exact ⟨z.1, hi, rfl⟩
theorem zFe_c {c j : Nat} {w : List CuR} {kd b : Int} {i : Nat} {I : ZI} (h : cuG w) (hi : i < w.length) (hl : w.length ≤ 60) (hk : 0 ≤ kd ∧ kd ≤ 4) (hb : -1 ≤ b ∧ b < 60) (h1 : I c (3 * j) = cuRk kd) (h2 : I c (3 * j + 1) = i) (h3 : I c (3 * j + 2) = b) : zFe c j (cuCd w kd i b) I := by
  obtain ⟨e1, e2, e3⟩ := cuCd_d h hi hl hk hb
  unfold zFe
  rw [e1, e2, e3]
  exact ⟨h1, h2, h3⟩
theorem zFe_fr {c j : Nat} {x : Int} {I I' : ZI} (h : zFe c j x I) (hf : ∀ i : Nat, 3 * j ≤ i → i ≤ 3 * j + 2 → I' c i = I c i) : zFe c j x I' := ⟨(hf _ (by omega) (by omega)).trans h.1, (hf _ (by omega) (by omega)).trans h.2.1, (hf _ (by omega) (by omega)).trans h.2.2⟩
/-- what is put in its place -/
def cuIn (h : Nat → Int) (m : Nat) (y : Int) (j : Nat) : Int := if j < m ∧ h j < y then h j else if j = 0 ∨ h (j - 1) < y then y else h (j - 1)
theorem cuIn_a {h : Nat → Int} {m j : Nat} {y : Int} (q : j < m ∧ h j < y) : cuIn h m y j = h j := if_pos q
theorem cuIn_b {h : Nat → Int} {m j : Nat} {y : Int} (q : ¬ (j < m ∧ h j < y)) (g : j = 0 ∨ h (j - 1) < y) : cuIn h m y j = y := by
  unfold cuIn
  rw [if_neg q, if_pos g]
theorem cuIn_c {h : Nat → Int} {m j : Nat} {y : Int} (q : ¬ (j < m ∧ h j < y)) (g : ¬ (j = 0 ∨ h (j - 1) < y)) : cuIn h m y j = h (j - 1) := by
  unfold cuIn
  rw [if_neg q, if_neg g]
def cuStr (m : Nat) (h : Nat → Int) : Prop := ∀ a b : Nat, a < b → b < m → h a < h b
/-- its place is q -/
theorem cuIn_q {h : Nat → Int} {m q : Nat} {y : Int} (hs : cuStr m h) (hq : q ≤ m) (h1 : ∀ j : Nat, q ≤ j → j < m → y < h j) (h2 : q = 0 ∨ h (q - 1) < y) : (∀ j : Nat, j < q → cuIn h m y j = h j) ∧ cuIn h m y q = y ∧ ∀ j : Nat, q < j → j ≤ m → cuIn h m y j = h (j - 1) := by
  refine ⟨fun j hj => ?_, ?_, fun j hj hm => ?_⟩
  · have z : h j < y := by
      by_cases e : j = q - 1
      · rcases h2 with h2 | h2
        · omega
        · rw [e]; exact h2
      · have := hs j (q - 1) (by omega) (by omega)
        rcases h2 with h2 | h2 <;> omega
    exact cuIn_a ⟨by omega, z⟩
  · refine cuIn_b (fun z => ?_) h2
    have := h1 q (Nat.le_refl _) z.1
    omega
  · have z := h1 (j - 1) (by omega) (by omega)
    refine cuIn_c (fun y2 => ?_) (fun y2 => ?_)
    · have := h1 j (by omega) y2.1
      omega
    · rcases y2 with y2 | y2
      · omega
      · omega
/-- there is a place -/
theorem cuIn_x {h : Nat → Int} {m : Nat} {y : Int} (hs : cuStr m h) (hn : ∀ j : Nat, j < m → h j ≠ y) : ∀ n, n ≤ m → (∀ j : Nat, n ≤ j → j < m → y < h j) → ∃ q, q ≤ m ∧ (∀ j : Nat, q ≤ j → j < m → y < h j) ∧ (q = 0 ∨ h (q - 1) < y)
  | 0, _, g => ⟨0, Nat.zero_le _, g, Or.inl rfl⟩
  | n + 1, hm, g => by
    by_cases e : h n < y
    · exact ⟨n + 1, hm, g, Or.inr e⟩
    · refine cuIn_x hs hn n (by omega) (fun j h1 h2 => ?_)
      by_cases z : j = n
      · have := hn n (by omega)
        rw [z]
        omega
      · exact g j (by omega) h2
theorem cuIn_s {h : Nat → Int} {m : Nat} {y : Int} (hs : cuStr m h) (hn : ∀ j : Nat, j < m → h j ≠ y) : cuStr (m + 1) (cuIn h m y) := by
  obtain ⟨q, hq, h1, h2⟩ := cuIn_x hs hn m (Nat.le_refl _) (fun j a b => absurd b (by omega))
  obtain ⟨a1, a2, a3⟩ := cuIn_q hs hq h1 h2
  intro a b hab hb
  have lo : ∀ j : Nat, j < q → h j < y := fun j hj => by
    by_cases e : j = q - 1
    · rcases h2 with h2 | h2
      · omega
      · rw [e]; exact h2
    · have := hs j (q - 1) (by omega) (by omega)
      rcases h2 with h2 | h2 <;> omega
  rcases Nat.lt_trichotomy a q with p | p | p
  · rw [a1 a p]
    rcases Nat.lt_trichotomy b q with r | r | r
    · rw [a1 b r]; exact hs a b hab (by omega)
    · rw [r, a2]; exact lo a p
    · rw [a3 b r (by omega)]
      have := lo a p
      have := h1 (b - 1) (by omega) (by omega)
      omega
  · rw [p, a2, a3 b (by omega) (by omega)]
    exact h1 (b - 1) (by omega) (by omega)
  · rw [a3 a p (by omega), a3 b (by omega) (by omega)]
    exact hs (a - 1) (b - 1) (by omega) (by omega)
theorem cuIn_t {m : Nat} {P Q : Nat → Prop} {h : Nat → Int} {x : Nat} (g : zFt m P h) (hs : cuStr m h) (hn : ¬ P x) (hx : x < cuNN) (e : ∀ y : Nat, (P y ∨ y = x) ↔ Q y) : zFt (m + 1) Q (cuIn h m x) ∧ cuStr (m + 1) (cuIn h m x) ∧ ∀ j : Nat, j < m → h j ≠ (x : Int) := by
  have hne : ∀ j : Nat, j < m → h j ≠ (x : Int) := fun j hj q => by
    have z := (g.2.2.1 j hj).2
    rw [q, Int.toNat_natCast] at z
    exact hn z
  refine ⟨?_, cuIn_s hs hne, hne⟩
  obtain ⟨q, hq, h1, h2⟩ := cuIn_x hs hne m (Nat.le_refl _) (fun j a b => absurd b (by omega))
  obtain ⟨a1, a2, a3⟩ := cuIn_q hs hq h1 h2
  have w := zFt_a (h' := fun j => if j = m then (x : Int) else h j) g hn hx e (if_pos rfl) (fun j hj => if_neg (by omega))
  obtain ⟨g1, g2, g3, g4⟩ := g
  refine ⟨w.1, w.2.1, fun j hj => ?_, fun y hy => ?_⟩
  · rcases Nat.lt_trichotomy j q with p | p | p
    · rw [a1 j p]
      have z := g3 j (by omega)
      exact ⟨z.1, (e _).mp (Or.inl z.2)⟩
    · rw [p, a2]
      exact ⟨by omega, (e _).mp (Or.inr (by omega))⟩
    · rw [a3 j p (by omega)]
      have z := g3 (j - 1) (by omega)
      exact ⟨z.1, (e _).mp (Or.inl z.2)⟩
  · rcases (e y).mpr hy with z | z
    · obtain ⟨j, w1, w2⟩ := g4 y z
      by_cases p : j < q
      · exact Exists.intro j ⟨by omega, (a1 j p).trans w2⟩
      · exact Exists.intro (j + 1) ⟨by omega, (a3 (j + 1) (by omega) (by omega)).trans (by rw [Nat.add_sub_cancel]; exact w2)⟩
    · subst z
      exact Exists.intro q ⟨by omega, a2⟩
/-- the row of what is found -/
def zFX (k : Nat) (w : List CuR) (P : Nat → Prop) (B : Int) (I : ZI) : Prop := ∃ (m : Nat) (h : Nat → Int), (I k 17 = m ∧ (m : Int) ≤ B) ∧ (zFt m P h ∧ cuStr m h) ∧ (∀ j : Nat, j < m → cuWf w (h j)) ∧ ∀ j : Nat, j < m → zFe (k + 13) j (h j) I
theorem zFX_fr {k : Nat} {w : List CuR} {P : Nat → Prop} {B : Int} {I I' : ZI} (h : zFX k w P B I) (hf : ∀ c j : Nat, (c = k ∧ j = 17) ∨ c = k + 13 → I' c j = I c j) : zFX k w P B I' := by
  obtain ⟨m, h0, h1, h2, h3, h4⟩ := h
  exact ⟨m, h0, ⟨(hf _ _ (by omega)).trans h1.1, h1.2⟩, h2, h3, fun j hj => zFe_fr (h4 j hj) (fun i _ _ => hf _ _ (Or.inr rfl))⟩
theorem zFX_e {k : Nat} {w : List CuR} {P Q : Nat → Prop} {B B' : Int} {I : ZI} (h : zFX k w P B I) (e : ∀ x, P x ↔ Q x) (hB : B ≤ B') : zFX k w Q B' I := by
  obtain ⟨m, h0, h1, h2, h3, h4⟩ := h
  exact ⟨m, h0, ⟨h1.1, by omega⟩, ⟨zFt_e h2.1 e, h2.2⟩, h3, h4⟩
theorem zFX_0 {k : Nat} {w : List CuR} {P : Nat → Prop} {B : Int} {I : ZI} (h : I k 17 = 0) (hB : 0 ≤ B) (e : ∀ x, ¬ P x) : zFX k w P B I := ⟨0, fun _ => 0, ⟨h, by omega⟩, ⟨zFt_0 e, fun a b _ q => absurd q (Nat.not_lt_zero _)⟩, fun j q => absurd q (Nat.not_lt_zero _), fun j q => absurd q (Nat.not_lt_zero _)⟩
/-- those that the reference finds ahead of one -/
def cuPs (w : List CuR) (nr : Nat) (rf : Nat → Nat → Int) (S O K : Int) (x : Nat) : Prop := ∃ (kd : Int) (i : Nat) (b s o : Int), cuV w nr rf kd i b ∧ ((b = -1 ∧ s = i ∧ o = -1) ∨ (b ≠ -1 ∧ s = b ∧ o = i)) ∧ (s < S ∨ (s = S ∧ (o < O ∨ (o = O ∧ kd < K)))) ∧ (x : Int) = cuCd w kd i b
theorem cuPs_n {w : List CuR} {nr : Nat} {rf : Nat → Nat → Int} {S O K b : Int} {i : Nat} (hk : (O = -1 ∧ (i : Int) = S ∧ b = -1) ∨ (0 ≤ O ∧ (i : Int) = O ∧ b = S ∧ 0 ≤ S)) (hl : w.length ≤ 60) (h : ¬ cuV w nr rf K i b) (x : Nat) : cuPs w nr rf S O K x ↔ cuPs w nr rf S O (K + 1) x := by
  constructor
  · rintro ⟨kd, i', b', s, o, q1, q2, q3, q4⟩
    exact ⟨kd, i', b', s, o, q1, q2, by omega, q4⟩
  · rintro ⟨kd, i', b', s, o, q1, q2, q3, q4⟩
    have hb := cuV_b hl q1
    refine ⟨kd, i', b', s, o, q1, q2, ?_, q4⟩
    by_cases e : i' = i ∧ b' = b ∧ kd = K
    · obtain ⟨rfl, rfl, rfl⟩ := e
      exact absurd q1 h
    · omega
theorem cuPs_y {w : List CuR} {nr : Nat} {rf : Nat → Nat → Int} {S O K b : Int} {i : Nat} (hk : (O = -1 ∧ (i : Int) = S ∧ b = -1) ∨ (0 ≤ O ∧ (i : Int) = O ∧ b = S ∧ 0 ≤ S)) (hG : cuG w) (hl : w.length ≤ 60) (h : cuV w nr rf K i b) : (¬ cuPs w nr rf S O K (cuCd w K i b).toNat) ∧ ∀ x : Nat, (cuPs w nr rf S O K x ∨ x = (cuCd w K i b).toNat) ↔ cuPs w nr rf S O (K + 1) x := by
  have hb := cuV_b hl h
  have hc := cuCd_b hG hb.1 hl hb.2.1 hb.2.2.1
  constructor
  · rintro ⟨kd, i', b', s, o, q1, q2, q3, q4⟩
    have hb2 := cuV_b hl q1
    rw [Int.toNat_of_nonneg hc.1] at q4
    have z := cuCd_i hG hb.1 hb2.1 hl hb.2.1 hb.2.2.1 hb2.2.1 hb2.2.2.1 q4
    omega
  · intro x
    constructor
    · rintro (⟨kd, i', b', s, o, q1, q2, q3, q4⟩ | q)
      · exact ⟨kd, i', b', s, o, q1, q2, by omega, q4⟩
      · exact ⟨K, i, b, S, O, h, by omega, by omega, by omega⟩
    · rintro ⟨kd, i', b', s, o, q1, q2, q3, q4⟩
      have hb2 := cuV_b hl q1
      by_cases e : i' = i ∧ b' = b ∧ kd = K
      · obtain ⟨rfl, rfl, rfl⟩ := e
        right
        omega
      · left
        exact ⟨kd, i', b', s, o, q1, q2, by omega, q4⟩
theorem cuPs_b {w : List CuR} {nr : Nat} {rf : Nat → Nat → Int} {S O K : Int} (hl : w.length ≤ 60) (hK : 5 ≤ K) (x : Nat) : cuPs w nr rf S O K x ↔ cuPs w nr rf S (O + 1) 0 x := by
  constructor
  · rintro ⟨kd, i', b', s, o, q1, q2, q3, q4⟩
    exact ⟨kd, i', b', s, o, q1, q2, by omega, q4⟩
  · rintro ⟨kd, i', b', s, o, q1, q2, q3, q4⟩
    have hb := cuV_b hl q1
    exact ⟨kd, i', b', s, o, q1, q2, by omega, q4⟩
theorem cuPs_1 {w : List CuR} {nr : Nat} {rf : Nat → Nat → Int} {S : Int} (hl : w.length ≤ 60) (x : Nat) : cuPs w nr rf S (-1) 0 x ↔ cuPs w nr rf S (-1) 1 x := by
  constructor
  · rintro ⟨kd, i', b', s, o, q1, q2, q3, q4⟩
    exact ⟨kd, i', b', s, o, q1, q2, by omega, q4⟩
  · rintro ⟨kd, i', b', s, o, q1, q2, q3, q4⟩
    have hb := cuV_b hl q1
    exact ⟨kd, i', b', s, o, q1, q2, by omega, q4⟩
theorem cuPs_i {w : List CuR} {nr : Nat} {rf : Nat → Nat → Int} {S O S' : Int} (hl : w.length ≤ 60) (hO : S ≤ O) (hS : S' = S + 1) (h0 : 0 ≤ S) (x : Nat) : cuPs w nr rf S O 0 x ↔ cuPs w nr rf S' (-1) 0 x := by
  subst hS
  constructor
  · rintro ⟨kd, i', b', s, o, q1, q2, q3, q4⟩
    exact ⟨kd, i', b', s, o, q1, q2, by omega, q4⟩
  · rintro ⟨kd, i', b', s, o, q1, q2, q3, q4⟩
    have hb := cuV_b hl q1
    exact ⟨kd, i', b', s, o, q1, q2, by omega, q4⟩
theorem cuPs_0 {w : List CuR} {nr : Nat} {rf : Nat → Nat → Int} (hl : w.length ≤ 60) (x : Nat) : ¬ cuPs w nr rf 0 (-1) 0 x := by
  rintro ⟨kd, i', b', s, o, q1, q2, q3, q4⟩
  have hb := cuV_b hl q1
  omega
theorem cuPs_e {w : List CuR} {nr : Nat} {rf : Nat → Nat → Int} {S O K : Int} (hl : w.length ≤ 60) (hS : w.length ≤ S) (x : Nat) : cuPs w nr rf S O K x ↔ cuAl w nr rf x := by
  constructor
  · rintro ⟨kd, i', b', s, o, q1, q2, q3, q4⟩
    exact ⟨kd, i', b', q1, q4⟩
  · rintro ⟨kd, i', b', q1, q4⟩
    have hb := cuV_b hl q1
    by_cases e : b' = -1
    · exact ⟨kd, i', b', i', -1, q1, Or.inl ⟨e, rfl, rfl⟩, by omega, q4⟩
    · exact ⟨kd, i', b', b', i', q1, Or.inr ⟨e, rfl, rfl⟩, by omega, q4⟩
def cuT2 : Nat → Nat
  | 0 => 0
  | n + 1 => cuT2 n + 3 + n
theorem cuT2_b : ∀ n, n ≤ 60 → cuT2 n ≤ 1950 := by decide +kernel
theorem cuT2_s {n : Nat} (h : n < 60) : cuT2 n + 3 + n ≤ 1950 := cuT2_b (n + 1) h
theorem cuRk_r (k : Int) : (0 ≤ k ∧ k ≤ 4) → 0 ≤ cuRk k ∧ cuRk k ≤ 5 := fun h => by
  rcases cuRk_c k with z | z <;> omega
theorem cuRk_m (a b : Int) : (cuRk a < cuRk b ↔ a < b) ∧ (cuRk a = cuRk b ↔ a = b) := by
  rcases cuRk_c a with z | z <;> rcases cuRk_c b with y | y <;> omega
def cuLx (w : List CuR) (kd b : Int) (i : Nat) (kd' b' : Int) (i' : Nat) : Prop := cg w i 2 < cg w i' 2 ∨ (cg w i' 2 = cg w i 2 ∧ (cg w i 3 % 16 < cg w i' 3 % 16 ∨ (cg w i' 3 % 16 = cg w i 3 % 16 ∧ (cg w i 3 / 16 < cg w i' 3 / 16 ∨ (cg w i' 3 / 16 = cg w i 3 / 16 ∧ (kd < kd' ∨ (kd' = kd ∧ ((i : Int) < i' ∨ ((i' : Int) = i ∧ b < b')))))))))
theorem cuCd_x {w : List CuR} {kd b kd' b' : Int} {i i' : Nat} (h : 0 ≤ cg w i 3 ∧ cg w i 3 ≤ 255) (h' : 0 ≤ cg w i' 3 ∧ cg w i' 3 ≤ 255) (hi : i < 60) (hi' : i' < 60) (hk : 0 ≤ kd ∧ kd ≤ 4) (hb : -1 ≤ b ∧ b < 60) (hk' : 0 ≤ kd' ∧ kd' ≤ 4) (hb' : -1 ≤ b' ∧ b' < 60) : (cuLx w kd b i kd' b' i' → cuCd w kd i b < cuCd w kd' i' b') ∧ (¬ cuLx w kd b i kd' b' i' → cuCd w kd' i' b' ≤ cuCd w kd i b) := by
  unfold cuLx cuCd
  generalize cg w i 2 = A at *
  generalize cg w i' 2 = A' at *
  have r1 : 0 ≤ cg w i 3 % 16 ∧ cg w i 3 % 16 ≤ 15 ∧ 0 ≤ cg w i 3 / 16 ∧ cg w i 3 / 16 ≤ 15 := by omega
  have r2 : 0 ≤ cg w i' 3 % 16 ∧ cg w i' 3 % 16 ≤ 15 ∧ 0 ≤ cg w i' 3 / 16 ∧ cg w i' 3 / 16 ≤ 15 := by omega
  generalize cg w i 3 % 16 = X at *
  generalize cg w i 3 / 16 = Y at *
  generalize cg w i' 3 % 16 = X' at *
  generalize cg w i' 3 / 16 = Y' at *
  clear h h'
  constructor
  · rintro (q | ⟨q, q | ⟨q2, q | ⟨q3, q | ⟨q4, q | ⟨q5, q⟩⟩⟩⟩⟩) <;> omega
  · intro q
    rcases Int.lt_trichotomy A A' with y | y | y
    · exact absurd (Or.inl y) q
    · rcases Int.lt_trichotomy X X' with z | z | z
      · exact absurd (Or.inr ⟨y.symm, Or.inl z⟩) q
      · rcases Int.lt_trichotomy Y Y' with u | u | u
        · exact absurd (Or.inr ⟨y.symm, Or.inr ⟨z.symm, Or.inl u⟩⟩) q
        · rcases Int.lt_trichotomy kd kd' with v | v | v
          · exact absurd (Or.inr ⟨y.symm, Or.inr ⟨z.symm, Or.inr ⟨u.symm, Or.inl v⟩⟩⟩) q
          · rcases Int.lt_trichotomy (i : Int) i' with a | a | a
            · exact absurd (Or.inr ⟨y.symm, Or.inr ⟨z.symm, Or.inr ⟨u.symm, Or.inr ⟨v.symm, Or.inl a⟩⟩⟩⟩) q
            · rcases Int.lt_or_le b b' with c | c
              · exact absurd (Or.inr ⟨y.symm, Or.inr ⟨z.symm, Or.inr ⟨u.symm, Or.inr ⟨v.symm, Or.inr ⟨a.symm, c⟩⟩⟩⟩⟩) q
              · clear q; omega
            · clear q; omega
          · clear q; omega
        · clear q; omega
      · clear q; omega
    · clear q; omega
