/-! CUTS: violations, each as one number -/
def cuNN : Nat := 20000000
def cuCd (w : List CuR) (kd : Int) (i : Nat) (b : Int) : Int := ((((cg w i 2 * 16 + cg w i 3 % 16) * 16 + cg w i 3 / 16) * 5 + kd) * 60 + i) * 61 + b + 1
theorem cuCd_b {w : List CuR} {kd b : Int} {i : Nat} (h : cuG w) (hi : i < w.length) (hl : w.length ≤ 60) (hk : 0 ≤ kd ∧ kd ≤ 4) (hb : -1 ≤ b ∧ b < 60) : 0 ≤ cuCd w kd i b ∧ cuCd w kd i b < 20000000 := by
  have z := h i hi
  unfold cuCd
  omega
theorem cuCd_i {w : List CuR} {kd kd' b b' : Int} {i i' : Nat} (h : cuG w) (hi : i < w.length) (hi' : i' < w.length) (hl : w.length ≤ 60) (hk : 0 ≤ kd ∧ kd ≤ 4) (hb : -1 ≤ b ∧ b < 60) (hk' : 0 ≤ kd' ∧ kd' ≤ 4) (hb' : -1 ≤ b' ∧ b' < 60) (e : cuCd w kd i b = cuCd w kd' i' b') : kd = kd' ∧ i = i' ∧ b = b' := by
  unfold cuCd at e
  generalize (cg w i 2 * 16 + cg w i 3 % 16) * 16 + cg w i 3 / 16 = A at e
  generalize (cg w i' 2 * 16 + cg w i' 3 % 16) * 16 + cg w i' 3 / 16 = A' at e
  omega
noncomputable def cuV (w : List CuR) (nr : Nat) (rf : Nat → Nat → Int) (kd : Int) (i : Nat) (b : Int) : Prop :=
  i < w.length ∧ ((b = -1 ∧ ((kd = 1 ∧ cg w i 0 ≠ 3 ∧ cuVl rf 1 (cg w i 0) (-1) nr ≠ -1 ∧ 2 * cuRa (cg w i 0) < cuVl rf 1 (cg w i 0) (-1) nr) ∨
      (kd = 3 ∧ cg w i 0 = 3 ∧ cuVl rf 3 (cg w i 0) (-1) nr ≠ -1 ∧ ¬ zex (fun s => s < w.length ∧ cuRn w i (cuVl rf 3 (cg w i 0) (-1) nr) s)) ∨
      (kd = 4 ∧ cg w i 0 = 0 ∧ cuVl rf 4 (cg w i 0) (-1) nr ≠ -1 ∧ ¬ (zex (fun s => s < w.length ∧ cuEn w i 0 s) ∧ zex (fun s => s < w.length ∧ cuEn w i 1 s))))) ∨
    (((i : Int) < b ∧ b < w.length) ∧ ((kd = 0 ∧ (cg w i 0 ≠ 3 ∧ cg w b.toNat 0 ≠ 3) ∧ cg w i 2 = cg w b.toNat 2 ∧ cg w i 1 ≠ cg w b.toNat 1 ∧ cuNr w i b.toNat (cuVl rf 0 (cg w i 0) (cg w b.toNat 0) nr)) ∨
      (kd = 2 ∧ (cg w i 0 = 3 ∧ cg w b.toNat 0 = 3) ∧ cuNr w i b.toNat (cuVl rf 2 (cg w i 0) (cg w b.toNat 0) nr)))))
theorem cuV_b {w : List CuR} {nr : Nat} {rf : Nat → Nat → Int} {kd b : Int} {i : Nat} (hl : w.length ≤ 60) (h : cuV w nr rf kd i b) : i < w.length ∧ (0 ≤ kd ∧ kd ≤ 4) ∧ (-1 ≤ b ∧ b < 60) ∧ ((b = -1 ∧ 1 ≤ kd) ∨ ((i : Int) < b ∧ b < w.length)) := by
  obtain ⟨h1, h2⟩ := h
  rcases h2 with ⟨q, h2⟩ | ⟨q, h2⟩
  · rcases h2 with h2 | h2 | h2 <;> exact ⟨h1, by have := h2.1; omega, by omega, Or.inl ⟨q, by have := h2.1; omega⟩⟩
  · rcases h2 with h2 | h2 <;> exact ⟨h1, by have := h2.1; omega, by omega, Or.inr q⟩
/-- those that are found ahead of one -/
def cuPr (w : List CuR) (nr : Nat) (rf : Nat → Nat → Int) (I : Nat) (B K : Int) (x : Nat) : Prop := ∃ (kd : Int) (i : Nat) (b : Int), cuV w nr rf kd i b ∧ (i < I ∨ (i = I ∧ (b < B ∨ (b = B ∧ kd < K)))) ∧ (x : Int) = cuCd w kd i b
theorem cuPr_n {w : List CuR} {nr : Nat} {rf : Nat → Nat → Int} {I : Nat} {B K : Int} (h : ¬ cuV w nr rf K I B) (x : Nat) : cuPr w nr rf I B K x ↔ cuPr w nr rf I B (K + 1) x := by
  constructor
  · rintro ⟨kd, i, b, q1, q2, q3⟩
    exact ⟨kd, i, b, q1, by omega, q3⟩
  · rintro ⟨kd, i, b, q1, q2, q3⟩
    refine ⟨kd, i, b, q1, ?_, q3⟩
    by_cases e : i = I ∧ b = B ∧ kd = K
    · obtain ⟨rfl, rfl, rfl⟩ := e
      exact absurd q1 h
    · omega
theorem cuPr_y {w : List CuR} {nr : Nat} {rf : Nat → Nat → Int} {I : Nat} {B K : Int} (hG : cuG w) (hl : w.length ≤ 60) (h : cuV w nr rf K I B) : (¬ cuPr w nr rf I B K (cuCd w K I B).toNat) ∧ ∀ x : Nat, (cuPr w nr rf I B K x ∨ x = (cuCd w K I B).toNat) ↔ cuPr w nr rf I B (K + 1) x := by
  have hb := cuV_b hl h
  have hc := cuCd_b hG hb.1 hl hb.2.1 hb.2.2.1
  constructor
  · rintro ⟨kd, i, b, q1, q2, q3⟩
    have hb2 := cuV_b hl q1
    rw [Int.toNat_of_nonneg hc.1] at q3
    have z := cuCd_i hG hb.1 hb2.1 hl hb.2.1 hb.2.2.1 hb2.2.1 hb2.2.2.1 q3
    omega
  · intro x
    constructor
    · rintro (⟨kd, i, b, q1, q2, q3⟩ | q)
      · exact ⟨kd, i, b, q1, by omega, q3⟩
      · exact ⟨K, I, B, h, by omega, by omega⟩
    · rintro ⟨kd, i, b, q1, q2, q3⟩
      by_cases e : i = I ∧ b = B ∧ kd = K
      · obtain ⟨rfl, rfl, rfl⟩ := e
        right
        omega
      · left
        exact ⟨kd, i, b, q1, by omega, q3⟩
/-- behind all kinds: the next pair, the next shape -/
theorem cuPr_b {w : List CuR} {nr : Nat} {rf : Nat → Nat → Int} {I : Nat} {B : Int} (hl : w.length ≤ 60) (hB : (I : Int) < B) (x : Nat) : cuPr w nr rf I B 5 x ↔ cuPr w nr rf I (B + 1) 0 x := by
  constructor
  · rintro ⟨kd, i, b, q1, q2, q3⟩
    exact ⟨kd, i, b, q1, by omega, q3⟩
  · rintro ⟨kd, i, b, q1, q2, q3⟩
    have hb := cuV_b hl q1
    exact ⟨kd, i, b, q1, by omega, q3⟩
theorem cuPr_s {w : List CuR} {nr : Nat} {rf : Nat → Nat → Int} {I : Nat} (hl : w.length ≤ 60) (x : Nat) : cuPr w nr rf I (-1) 5 x ↔ cuPr w nr rf I ((I : Int) + 1) 0 x := by
  constructor
  · rintro ⟨kd, i, b, q1, q2, q3⟩
    exact ⟨kd, i, b, q1, by omega, q3⟩
  · rintro ⟨kd, i, b, q1, q2, q3⟩
    have hb := cuV_b hl q1
    exact ⟨kd, i, b, q1, by omega, q3⟩
theorem cuPr_i {w : List CuR} {nr : Nat} {rf : Nat → Nat → Int} {I : Nat} {B : Int} (hl : w.length ≤ 60) (hB : w.length ≤ B) (x : Nat) : cuPr w nr rf I B 0 x ↔ cuPr w nr rf (I + 1) (-1) 0 x := by
  constructor
  · rintro ⟨kd, i, b, q1, q2, q3⟩
    exact ⟨kd, i, b, q1, by omega, q3⟩
  · rintro ⟨kd, i, b, q1, q2, q3⟩
    have hb := cuV_b hl q1
    exact ⟨kd, i, b, q1, by omega, q3⟩
/-- all of them -/
def cuAl (w : List CuR) (nr : Nat) (rf : Nat → Nat → Int) (x : Nat) : Prop := ∃ (kd : Int) (i : Nat) (b : Int), cuV w nr rf kd i b ∧ (x : Int) = cuCd w kd i b
theorem cuPr_e {w : List CuR} {nr : Nat} {rf : Nat → Nat → Int} {I : Nat} {B : Int} (hI : w.length ≤ I) (x : Nat) : cuPr w nr rf I B 0 x ↔ cuAl w nr rf x := by
  constructor
  · rintro ⟨kd, i, b, q1, q2, q3⟩
    exact ⟨kd, i, b, q1, q3⟩
  · rintro ⟨kd, i, b, q1, q3⟩
    have := q1.1
    exact ⟨kd, i, b, q1, by omega, q3⟩
theorem cuPr_0 {w : List CuR} {nr : Nat} {rf : Nat → Nat → Int} (hl : w.length ≤ 60) (x : Nat) : ¬ cuPr w nr rf 0 (-1) 0 x := by
  rintro ⟨kd, i, b, q1, q2, q3⟩
  have hb := cuV_b hl q1
  omega
/-- a row that holds just the numbers with P, as many as there are -/
def zFt (m : Nat) (P : Nat → Prop) (h : Nat → Int) : Prop := m = zct P cuNN ∧ (∀ x, P x → x < cuNN) ∧ (∀ j, j < m → 0 ≤ h j ∧ P (h j).toNat) ∧ ∀ x : Nat, P x → zex (fun j => j < m ∧ h j = x)
theorem zct_ext {P Q : Nat → Prop} (h : ∀ x, P x ↔ Q x) : ∀ n, zct P n = zct Q n := fun n => Nat.le_antisymm (zct_mono (fun d => (h d).mp) n) (zct_mono (fun d => (h d).mpr) n)
theorem zFt_e {m : Nat} {P Q : Nat → Prop} {h : Nat → Int} (g : zFt m P h) (e : ∀ x, P x ↔ Q x) : zFt m Q h := ⟨g.1.trans (zct_ext e _), fun x q => g.2.1 x ((e x).mpr q), fun j hj => ⟨(g.2.2.1 j hj).1, (e _).mp (g.2.2.1 j hj).2⟩, fun x q => g.2.2.2 x ((e x).mpr q)⟩
theorem zFt_0 {P : Nat → Prop} {h : Nat → Int} (e : ∀ x, ¬ P x) : zFt 0 P h := ⟨(zct_no e _).symm, fun x q => absurd q (e x), fun j hj => absurd hj (Nat.not_lt_zero j), fun x q => absurd q (e x)⟩
theorem zFt_a {m : Nat} {P Q : Nat → Prop} {h h' : Nat → Int} {x : Nat} (g : zFt m P h) (hn : ¬ P x) (hx : x < cuNN) (e : ∀ y : Nat, (P y ∨ y = x) ↔ Q y) (h1 : h' m = x) (h2 : ∀ j, j < m → h' j = h j) : zFt (m + 1) Q h' := by
  obtain ⟨g1, g2, g3, g4⟩ := g
  refine ⟨?_, fun y q => ?_, fun j hj => ?_, fun y q => ?_⟩
  · rw [← zct_ext e, zct_eq hn hx, ← g1]
  · rcases (e y).mpr q with q | q
    · exact g2 y q
    · omega
  · by_cases z : j = m
    · subst z
      rw [h1]
      exact ⟨by omega, (e _).mp (Or.inr (by omega))⟩
    · rw [h2 j (by omega)]
      have w := g3 j (by omega)
      exact ⟨w.1, (e _).mp (Or.inl w.2)⟩
  · rcases (e y).mpr q with q | q
    · obtain ⟨j, w1, w2⟩ := g4 y q
      exact Exists.intro j ⟨by omega, (h2 j w1).trans w2⟩
    · subst q
      exact Exists.intro m ⟨by omega, h1⟩
theorem zFt_c {m : Nat} {P : Nat → Prop} {h h' : Nat → Int} (g : zFt m P h) (h2 : ∀ j, j < m → h' j = h j) : zFt m P h' := by
  obtain ⟨g1, g2, g3, g4⟩ := g
  refine ⟨g1, g2, fun j hj => by rw [h2 j hj]; exact g3 j hj, fun x q => ?_⟩
  obtain ⟨j, w1, w2⟩ := g4 x q
  exact Exists.intro j ⟨w1, (h2 j w1).trans w2⟩
/-- how many there can be -/
def cuSm : Nat → Nat
  | 0 => 0
  | n + 1 => cuSm n + n
def cuT (n : Nat) : Nat → Nat
  | 0 => 0
  | a + 1 => cuT n a + 3 + (n - 1 - a)
theorem cuT_60 : ∀ a, a ≤ 60 → cuT 60 a ≤ 1950 := by decide +kernel
theorem cuT_m {n : Nat} (h : n ≤ 60) : ∀ a, cuT n a ≤ cuT 60 a
  | 0 => Nat.le_refl _
  | a + 1 => by
    have w := cuT_m h a
    show cuT n a + 3 + (n - 1 - a) ≤ cuT 60 a + 3 + (60 - 1 - a)
    omega
theorem cuT_b {n a : Nat} (h : n ≤ 60) (ha : a ≤ 60) : cuT n a ≤ 1950 := Nat.le_trans (cuT_m h a) (cuT_60 a ha)
/-- a row that is sorted holds them in order -/
theorem zFt_sr {m : Nat} {P : Nat → Prop} {h h0 : Nat → Int} (g : zFt m P h0) (hs : zSe m h h0) (ho : zSo 1 m h) : zFt m P h ∧ ∀ a b, a < b → b < m → h a < h b := by
  obtain ⟨g1, g2, g3, g4⟩ := g
  have f3 : ∀ j, j < m → 0 ≤ h j ∧ P (h j).toNat := fun j hj => by
    have w : zex (fun i => i < m ∧ h0 i = h j) := (hs (h j)).mp (Exists.intro j ⟨hj, rfl⟩)
    obtain ⟨i, w1, w2⟩ := w
    have w3 := g3 i w1
    rw [w2] at w3
    exact w3
  have f4 : ∀ x : Nat, P x → zex (fun j => j < m ∧ h j = x) := fun x q => (hs x).mpr (g4 x q)
  refine ⟨⟨g1, g2, f3, f4⟩, ?_⟩
  have ho' : ∀ a b : Nat, a < b → b < m → h a ≤ h b := ho rfl
  -- how many there are below: at most as many as places
  have key : ∀ k, k ≤ m → ∀ N : Nat, (k = 0 → N = 0) → (0 < k → (N : Int) = h (k - 1) + 1) → zct P N ≤ k ∧ ((∃ a, a + 1 < k ∧ h a = h (a + 1)) → zct P N + 1 ≤ k) := fun k => by
    induction k with
    | zero =>
      intro _ N h0 _
      rw [h0 rfl]
      exact ⟨Nat.le_refl _, fun ⟨a, ha, _⟩ => absurd ha (Nat.not_lt_zero _)⟩
    | succ k ih =>
      intro hk N _ hN
      have hN' := hN (Nat.succ_pos k)
      rw [Nat.add_sub_cancel] at hN'
      have b1 := f3 k (by omega)
      by_cases hk0 : k = 0
      · subst hk0
        refine ⟨?_, fun ⟨a, ha, _⟩ => by omega⟩
        have e : zct P (h 0).toNat = zct P 0 := zct_k (Nat.zero_le _) (fun i _ hi q => by
          obtain ⟨j, w1, w2⟩ := f4 i q
          have : h 0 ≤ h j := by
            by_cases z : j = 0
            · rw [z]; exact Int.le_refl _
            · exact ho' 0 j (by omega) w1
          omega)
        have e2 : N = (h 0).toNat + 1 := by omega
        rw [e2, zct_t b1.2, e]
        exact Nat.le_refl _
      · have b0 := f3 (k - 1) (by omega)
        have hle := ho' (k - 1) k (by omega) (by omega)
        have ih' := ih (by omega) ((h (k - 1)).toNat + 1) (fun q => absurd q hk0) (fun _ => by omega)
        by_cases heq : h (k - 1) = h k
        · have e2 : N = (h (k - 1)).toNat + 1 := by omega
          rw [e2]
          exact ⟨by omega, fun _ => by omega⟩
        · have e : zct P (h k).toNat = zct P ((h (k - 1)).toNat + 1) := zct_k (by omega) (fun i hi1 hi2 q => by
            obtain ⟨j, w1, w2⟩ := f4 i q
            rcases Nat.lt_trichotomy j k with z | z | z
            · have : h j ≤ h (k - 1) := by
                by_cases z2 : j = k - 1
                · rw [z2]; exact Int.le_refl _
                · exact ho' j (k - 1) (by omega) (by omega)
              omega
            · rw [z] at w2; omega
            · have := ho' k j z w1
              omega)
          have e2 : N = (h k).toNat + 1 := by omega
          rw [e2, zct_t b1.2, e]
          refine ⟨by omega, fun ⟨a, ha1, ha2⟩ => ?_⟩
          by_cases z : a + 1 < k
          · have := ih'.2 ⟨a, z, ha2⟩
            omega
          · have z2 : a = k - 1 := by omega
            rw [z2, show k - 1 + 1 = k by omega] at ha2
            exact absurd ha2 heq
  have strict : ∀ a, a + 1 < m → h a < h (a + 1) := fun a ha => by
    have hle := ho' a (a + 1) (by omega) ha
    by_cases heq : h a = h (a + 1)
    · exfalso
      have b := f3 (m - 1) (by omega)
      have w := (key m (Nat.le_refl _) ((h (m - 1)).toNat + 1) (fun q => by omega) (fun _ => by omega)).2 ⟨a, ha, heq⟩
      have hlast : zct P cuNN = zct P ((h (m - 1)).toNat + 1) := zct_k (by have := g2 _ b.2; omega) (fun i hi1 hi2 q => by
        obtain ⟨j, w1, w2⟩ := f4 i q
        have : h j ≤ h (m - 1) := by
          by_cases z2 : j = m - 1
          · rw [z2]; exact Int.le_refl _
          · exact ho' j (m - 1) (by omega) (by omega)
        omega)
      omega
    · omega
  intro a b hab hb
  have go : ∀ d a, a + d + 1 < m → h a < h (a + d + 1) := fun d => by
    induction d with
    | zero => intro a ha; exact strict a ha
    | succ d ih =>
      intro a ha
      have w1 := ih a (by omega)
      have w2 := strict (a + d + 1) ha
      show h a < h (a + d + 1 + 1)
      omega
  have w := go (b - a - 1) a (by omega)
  rw [show a + (b - a - 1) + 1 = b by omega] at w
  exact w
/-- the k-th one -/
theorem zFt_k {m : Nat} {P : Nat → Prop} {h : Nat → Int} (g : zFt m P h) (hst : ∀ a b, a < b → b < m → h a < h b) {j : Nat} (hj : j < m) : h j = zkth P cuNN j := by
  obtain ⟨g1, g2, g3, g4⟩ := g
  have b := g3 j hj
  have cnt : ∀ k, k < m → zct P (h k).toNat = k := fun k => by
    induction k with
    | zero =>
      intro hk
      exact zct_k (Nat.zero_le _) (fun i _ hi q => by
        obtain ⟨j, w1, w2⟩ := g4 i q
        have b0 := g3 0 hk
        by_cases z : j = 0
        · rw [z] at w2; omega
        · have := hst 0 j (by omega) w1
          omega)
    | succ k ih =>
      intro hk
      have i1 := ih (by omega)
      have b1 := g3 k (by omega)
      have b2 := g3 (k + 1) hk
      have hs := hst k (k + 1) (by omega) hk
      have e : zct P (h (k + 1)).toNat = zct P ((h k).toNat + 1) := zct_k (by omega) (fun i hi1 hi2 q => by
        obtain ⟨j, w1, w2⟩ := g4 i q
        rcases Nat.lt_trichotomy j k with z | z | z
        · have := hst j k z (by omega)
          omega
        · rw [z] at w2; omega
        · by_cases z2 : j = k + 1
          · rw [z2] at w2; omega
          · have := hst (k + 1) j (by omega) w1
            omega)
      rw [e, zct_t b1.2, i1]
  have w : zkth P cuNN (j : Int) = ((h j).toNat : Nat) := zkth_at (g2 _ b.2) b.2 (by rw [cnt j hj])
  rw [w]
  omega
theorem zFt_n {m : Nat} {w : List CuR} {nr : Nat} {rf : Nat → Nat → Int} {I : Nat} {B K K' : Int} {h : Nat → Int} (g : zFt m (cuPr w nr rf I B K) h) (hn : ¬ cuV w nr rf K I B) (hK : K' = K + 1) : zFt m (cuPr w nr rf I B K') h := by
  subst hK
  exact zFt_e g (cuPr_n hn)
theorem zFt_y {m : Nat} {w : List CuR} {nr : Nat} {rf : Nat → Nat → Int} {I : Nat} {B K K' : Int} {h h' : Nat → Int} (hG : cuG w) (hl : w.length ≤ 60) (g : zFt m (cuPr w nr rf I B K) h) (hv : cuV w nr rf K I B) (hK : K' = K + 1) (h1 : h' m = cuCd w K I B) (h2 : ∀ j, j ≠ m → h' j = h j) : zFt (m + 1) (cuPr w nr rf I B K') h' := by
  subst hK
  have hb := cuV_b hl hv
  have hc := cuCd_b hG hb.1 hl hb.2.1 hb.2.2.1
  have hy := cuPr_y hG hl hv
  exact zFt_a g hy.1 (by show (cuCd w K I B).toNat < 20000000; omega) hy.2 (h1.trans (Int.toNat_of_nonneg hc.1).symm) (fun j hj => h2 j (by omega))
theorem cuV_k1 {w : List CuR} {nr : Nat} {rf : Nat → Nat → Int} {i : Nat} : cuV w nr rf 1 i (-1) ↔ (i < w.length ∧ cg w i 0 ≠ 3 ∧ cuVl rf 1 (cg w i 0) (-1) nr ≠ -1 ∧ 2 * cuRa (cg w i 0) < cuVl rf 1 (cg w i 0) (-1) nr) := by
  unfold cuV
  constructor
  · rintro ⟨h1, ⟨_, h2 | h2 | h2⟩ | ⟨h2, _⟩⟩
    · exact ⟨h1, h2.2⟩
    · exact absurd h2.1 (by decide)
    · exact absurd h2.1 (by decide)
    · omega
  · exact fun h => ⟨h.1, Or.inl ⟨rfl, Or.inl ⟨rfl, h.2⟩⟩⟩
theorem cuV_k3 {w : List CuR} {nr : Nat} {rf : Nat → Nat → Int} {i : Nat} : cuV w nr rf 3 i (-1) ↔ (i < w.length ∧ cg w i 0 = 3 ∧ cuVl rf 3 (cg w i 0) (-1) nr ≠ -1 ∧ ¬ zex (fun s => s < w.length ∧ cuRn w i (cuVl rf 3 (cg w i 0) (-1) nr) s)) := by
  unfold cuV
  constructor
  · rintro ⟨h1, ⟨_, h2 | h2 | h2⟩ | ⟨h2, _⟩⟩
    · exact absurd h2.1 (by decide)
    · exact ⟨h1, h2.2⟩
    · exact absurd h2.1 (by decide)
    · omega
  · exact fun h => ⟨h.1, Or.inl ⟨rfl, Or.inr (Or.inl ⟨rfl, h.2⟩)⟩⟩
theorem cuV_k4 {w : List CuR} {nr : Nat} {rf : Nat → Nat → Int} {i : Nat} : cuV w nr rf 4 i (-1) ↔ (i < w.length ∧ cg w i 0 = 0 ∧ cuVl rf 4 (cg w i 0) (-1) nr ≠ -1 ∧ ¬ (zex (fun s => s < w.length ∧ cuEn w i 0 s) ∧ zex (fun s => s < w.length ∧ cuEn w i 1 s))) := by
  unfold cuV
  constructor
  · rintro ⟨h1, ⟨_, h2 | h2 | h2⟩ | ⟨h2, _⟩⟩
    · exact absurd h2.1 (by decide)
    · exact absurd h2.1 (by decide)
    · exact ⟨h1, h2.2⟩
    · omega
  · exact fun h => ⟨h.1, Or.inl ⟨rfl, Or.inr (Or.inr ⟨rfl, h.2⟩)⟩⟩
theorem cuV_s {w : List CuR} {nr : Nat} {rf : Nat → Nat → Int} {i : Nat} {kd : Int} (h : kd = 0 ∨ kd = 2) : ¬ cuV w nr rf kd i (-1) := by
  rintro ⟨h1, ⟨_, h2 | h2 | h2⟩ | ⟨h2, _⟩⟩
  · have := h2.1; omega
  · have := h2.1; omega
  · have := h2.1; omega
  · omega
theorem cuV_p {w : List CuR} {nr : Nat} {rf : Nat → Nat → Int} {i b : Nat} {kd : Int} (h : kd ≠ 0 ∧ kd ≠ 2) : ¬ cuV w nr rf kd i b := by
  rintro ⟨h1, ⟨q, _⟩ | ⟨_, h2 | h2⟩⟩
  · omega
  · exact h.1 h2.1
  · exact h.2 h2.1
theorem cuV_k0 {w : List CuR} {nr : Nat} {rf : Nat → Nat → Int} {i b : Nat} (hib : i < b) (hb : b < w.length) : cuV w nr rf 0 i b ↔ ((cg w i 0 ≠ 3 ∧ cg w b 0 ≠ 3) ∧ cg w i 2 = cg w b 2 ∧ cg w i 1 ≠ cg w b 1 ∧ cuNr w i b (cuVl rf 0 (cg w i 0) (cg w b 0) nr)) := by
  unfold cuV
  rw [Int.toNat_natCast]
  constructor
  · rintro ⟨h1, ⟨q, _⟩ | ⟨_, h2 | h2⟩⟩
    · omega
    · exact h2.2
    · exact absurd h2.1 (by decide)
  · exact fun h => ⟨by omega, Or.inr ⟨by omega, Or.inl ⟨rfl, h⟩⟩⟩
theorem cuV_k2 {w : List CuR} {nr : Nat} {rf : Nat → Nat → Int} {i b : Nat} (hib : i < b) (hb : b < w.length) : cuV w nr rf 2 i b ↔ ((cg w i 0 = 3 ∧ cg w b 0 = 3) ∧ cuNr w i b (cuVl rf 2 (cg w i 0) (cg w b 0) nr)) := by
  unfold cuV
  rw [Int.toNat_natCast]
  constructor
  · rintro ⟨h1, ⟨q, _⟩ | ⟨_, h2 | h2⟩⟩
    · omega
    · exact absurd h2.1 (by decide)
    · exact h2.2
  · exact fun h => ⟨by omega, Or.inr ⟨by omega, Or.inr ⟨rfl, h⟩⟩⟩
/-- the row of violations in the class's cut -/
def zFs (k : Nat) (P : Nat → Prop) (I : ZI) : Prop := 0 ≤ I k 11 ∧ zFt (I k 11).toNat P (I (k + 7))
theorem zFs_fr {k : Nat} {P : Nat → Prop} {I I' : ZI} (h : zFs k P I) (hf : ∀ c j : Nat, (c = k ∧ j = 11) ∨ c = k + 7 → I' c j = I c j) : zFs k P I' := by
  unfold zFs
  rw [hf k 11 (by omega)]
  exact ⟨h.1, zFt_c h.2 (fun j _ => hf _ _ (by omega))⟩
theorem zFs_e {k : Nat} {P Q : Nat → Prop} {I : ZI} (g : zFs k P I) (e : ∀ x, P x ↔ Q x) : zFs k Q I := ⟨g.1, zFt_e g.2 e⟩
theorem zFs_n {k : Nat} {w : List CuR} {nr : Nat} {rf : Nat → Nat → Int} {i : Nat} {B K K' : Int} {I : ZI} (g : zFs k (cuPr w nr rf i B K) I) (hn : ¬ cuV w nr rf K i B) (hK : K' = K + 1) : zFs k (cuPr w nr rf i B K') I := ⟨g.1, zFt_n g.2 hn hK⟩
theorem zFs_y {k : Nat} {w : List CuR} {nr : Nat} {rf : Nat → Nat → Int} {i m : Nat} {B K K' : Int} {I I' : ZI} (hG : cuG w) (hl : w.length ≤ 60) (g : zFs k (cuPr w nr rf i B K) I) (hv : cuV w nr rf K i B) (hK : K' = K + 1) (hm : m = (I k 11).toNat) (h0 : I' k 11 = m + 1) (h1 : I' (k + 7) m = cuCd w K i B) (h2 : ∀ j, j ≠ m → I' (k + 7) j = I (k + 7) j) : zFs k (cuPr w nr rf i B K') I' := by
  subst hm
  have e : (I' k 11).toNat = (I k 11).toNat + 1 := by omega
  unfold zFs
  rw [e]
  exact ⟨by omega, zFt_y hG hl g.2 hv hK h1 h2⟩
theorem zFs_v {k : Nat} {w : List CuR} {nr : Nat} {rf : Nat → Nat → Int} {i m : Nat} {B K K' : Int} {I I' : ZI} (hG : cuG w) (hl : w.length ≤ 60) (g : zFs k (cuPr w nr rf i B K) I) (hv : cuV w nr rf K i B) (hK : K' = K + 1) (hm : m = (I k 11).toNat) (h0 : I' k 11 = m + 1) (h1 : I' (k + 7) m = cuCd w K i B) (h2 : ∀ j, j ≠ m → I' (k + 7) j = I (k + 7) j) (hn : ¬ cuV w nr rf (K + 1) i B) {K2 : Int} (hK2 : K2 = K + 1 + 1) : zFs k (cuPr w nr rf i B K2) I' := zFs_n (zFs_y hG hl g hv rfl hm h0 h1 h2) hn hK2
