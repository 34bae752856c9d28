/-! CUTS, the reference: groups joined; nets of a piece of copper as bits -/
theorem cuJm_y {mk : Nat → Int} {lo hi : Int} {p : Nat} (h1 : 0 ≤ lo) (h2 : 0 ≤ hi ∧ hi < 60) (h : mk p = mk hi.toNat) : cuJm mk (60 * lo + hi) p = mk lo.toNat := by
  unfold cuJm
  rw [show ((60 * lo + hi) % 60).toNat = hi.toNat by omega, show ((60 * lo + hi) / 60).toNat = lo.toNat by omega, if_pos h]
theorem cuJm_n {mk : Nat → Int} {lo hi : Int} {p : Nat} (h1 : 0 ≤ lo) (h2 : 0 ≤ hi ∧ hi < 60) (h : mk p ≠ mk hi.toNat) : cuJm mk (60 * lo + hi) p = mk p := by
  unfold cuJm
  rw [show ((60 * lo + hi) % 60).toNat = hi.toNat by omega, if_neg h]
theorem cuRo_i {E : Nat → Nat → Prop} {p : Nat} : cuRo E p ≤ p ∧ cuIr E (cuRo E p) := by
  have h : ∃ r, r ≤ p ∧ jCl E r p ∧ ∀ q, q < r → ¬ jCl E q p := by
    rcases zlow_sp (fun q => jCl E q p) (p + 1) with ⟨_, h⟩ | ⟨r, _, h2, h3, h4⟩
    · exact absurd jCl_r (h p (Nat.lt_succ_self p))
    · exact ⟨r, by omega, h3, h4⟩
  obtain ⟨r, h1, h2, h3⟩ := h
  have e := cuRo_at h1 h2 h3
  rw [e]
  refine ⟨h1, ?_⟩
  unfold cuIr
  exact cuRo_at (Nat.le_refl _) jCl_r (fun q hq hj => h3 q hq (jCl_t hj h2))
theorem cuNm_c {w : List CuR} {p : Nat} (h : p < cuNp w) : cuNm w p < cuNc w := by
  have z := cuRo_i (E := cuEE w) (p := p)
  exact zct_lt2 (show cuRo (cuEE w) p < cuNp w by omega) z.2
theorem cuNc_b {w : List CuR} : cuNc w ≤ cuNp w := zct_le _ _
theorem cuSc_c {w : List CuR} {pc : Nat} (h : pc ≤ cuNp w) : zct (cuSx w pc) (cuNc w) = cuSc w pc := by
  unfold cuSc
  exact (zct_k cuNc_b (fun i h1 _ q => by
    obtain ⟨p, x, p1, x1, p2, x2, _⟩ := q
    have z := cuNm_c (w := w) (p := p) (by omega)
    omega)).symm
/-- bits -/
def zNbt (v : Int) (P : Nat → Prop) : Prop := 0 ≤ v ∧ v < 4096 ∧ ∀ t : Nat, t < 12 → (v.toNat.testBit t = true ↔ P t)
theorem zNbt_0 {P : Nat → Prop} (h : ∀ t, ¬ P t) : zNbt 0 P := ⟨by decide, by decide, fun t _ => ⟨fun q => by rw [show (0 : Int).toNat = 0 from rfl, Nat.zero_testBit] at q; exact absurd q (by decide), fun q => absurd q (h t)⟩⟩
theorem zNbt_e {v : Int} {P Q : Nat → Prop} (h : zNbt v P) (e : ∀ t, P t ↔ Q t) : zNbt v Q := ⟨h.1, h.2.1, fun t ht => (h.2.2 t ht).trans (e t)⟩
theorem zshl_1 : ∀ t : Nat, t < 12 → zshl 1 (t : Int) = ((2 ^ t : Nat) : Int) := by decide +kernel
theorem zor_n {a b : Nat} (ha : a < 4096) (hb : b < 4096) : zor (a : Int) (b : Int) = ((a ||| b : Nat) : Int) := by
  have hab : a ||| b < 2 ^ 12 := Nat.or_lt_two_pow ha hb
  unfold zor
  show ((BitVec.ofInt 32 (a : Int)) ||| BitVec.ofInt 32 (b : Int)).toInt = _
  rw [BitVec.toInt_eq_toNat_of_msb]
  · rw [BitVec.toNat_or, BitVec.ofInt_natCast, BitVec.ofInt_natCast, BitVec.toNat_ofNat, BitVec.toNat_ofNat, Nat.mod_eq_of_lt (show a < 2 ^ 32 by omega), Nat.mod_eq_of_lt (show b < 2 ^ 32 by omega)]
  · rw [BitVec.msb_eq_false_iff_two_mul_lt, BitVec.toNat_or, BitVec.ofInt_natCast, BitVec.ofInt_natCast, BitVec.toNat_ofNat, BitVec.toNat_ofNat, Nat.mod_eq_of_lt (show a < 2 ^ 32 by omega), Nat.mod_eq_of_lt (show b < 2 ^ 32 by omega)]
    omega
theorem zNbt_o {v t : Int} {P Q : Nat → Prop} (h : zNbt v P) (ht : 0 ≤ t ∧ t < 12) (e : ∀ x, (P x ∨ (x : Int) = t) ↔ Q x) : zNbt (zor v (zshl 1 t)) Q := by
  obtain ⟨h1, h2, h3⟩ := h
  obtain ⟨a, rfl⟩ := Int.eq_ofNat_of_zero_le h1
  obtain ⟨r, rfl⟩ := Int.eq_ofNat_of_zero_le ht.1
  have hr : r < 12 := by omega
  have hp : 2 ^ r < 4096 := Nat.pow_lt_pow_right (by decide) hr
  have hor : a ||| 2 ^ r < 2 ^ 12 := Nat.or_lt_two_pow (show a < 2 ^ 12 by omega) hp
  rw [zshl_1 r hr, zor_n (by omega) hp]
  refine ⟨by omega, by omega, fun x hx => ?_⟩
  rw [Int.toNat_natCast, Nat.testBit_or, Nat.testBit_two_pow, ← e x]
  have w := h3 x hx
  rw [Int.toNat_natCast] at w
  rw [Bool.or_eq_true, w, decide_eq_true_iff]
  constructor
  · rintro (q | q)
    · exact Or.inl q
    · exact Or.inr (by omega)
  · rintro (q | q)
    · exact Or.inl q
    · exact Or.inr (by omega)
def cuPwr (b : Nat) : Bool := b == 0 || b == 1 || b == 2 || b == 4 || b == 8 || b == 16 || b == 32 || b == 64 || b == 128 || b == 256 || b == 512 || b == 1024 || b == 2048
theorem cuPwr_y : ∀ x : Nat, x < 64 → ∀ y : Nat, y < 64 → (zand ((64 * x + y : Nat) : Int) (((64 * x + y : Nat) : Int) - 1) = 0 ↔ cuPwr (64 * x + y) = true) := by decide +kernel
theorem cuPwr_z (b : Nat) (h : b < 4096) : zand (b : Int) ((b : Int) - 1) = 0 ↔ cuPwr b = true := by
  have z := cuPwr_y (b / 64) (by omega) (b % 64) (by omega)
  rwa [show 64 * (b / 64) + b % 64 = b by omega] at z
def cuP2b (b : Nat) : Bool := (List.range 12).any (fun s => b.testBit s && (List.range s).any (fun t => b.testBit t))
theorem cuPwr_3 : ∀ x : Nat, x < 64 → ∀ y : Nat, y < 64 → cuPwr (64 * x + y) = !cuP2b (64 * x + y) := by decide +kernel
theorem cuPwr_2 (b : Nat) (h : b < 4096) : cuPwr b = !cuP2b b := by
  have z := cuPwr_3 (b / 64) (by omega) (b % 64) (by omega)
  rwa [show 64 * (b / 64) + b % 64 = b by omega] at z
theorem cuP2b_i {b : Nat} : cuP2b b = true ↔ ∃ s t, s < 12 ∧ t < s ∧ b.testBit s = true ∧ b.testBit t = true := by
  unfold cuP2b
  rw [List.any_eq_true]
  constructor
  · rintro ⟨s, h1, h2⟩
    rw [Bool.and_eq_true, List.any_eq_true] at h2
    obtain ⟨h3, t, h4, h5⟩ := h2
    exact ⟨s, t, List.mem_range.mp h1, List.mem_range.mp h4, h3, h5⟩
  · rintro ⟨s, t, h1, h2, h3, h4⟩
    refine ⟨s, List.mem_range.mpr h1, ?_⟩
    rw [Bool.and_eq_true, List.any_eq_true]
    exact ⟨h3, t, List.mem_range.mpr h2, h4⟩
/-- nets of the copper numbered c, of the pieces below m -/
def cuNs (w : List CuR) (pc c m t : Nat) : Prop := ∃ p, p < m ∧ p < pc ∧ cuNm w p = c ∧ cg w p 1 = t
theorem cuNs_0 {w : List CuR} {pc c t : Nat} : ¬ cuNs w pc c 0 t := fun ⟨p, h, _⟩ => absurd h (Nat.not_lt_zero p)
theorem cuNs_n {w : List CuR} {pc c m : Nat} (h : ¬ (m < pc ∧ cuNm w m = c)) (t : Nat) : cuNs w pc c m t ↔ cuNs w pc c (m + 1) t := by
  constructor
  · rintro ⟨p, h1, h2, h3, h4⟩
    exact ⟨p, by omega, h2, h3, h4⟩
  · rintro ⟨p, h1, h2, h3, h4⟩
    by_cases e : p = m
    · subst e; exact absurd ⟨h2, h3⟩ h
    · exact ⟨p, by omega, h2, h3, h4⟩
theorem cuNs_y {w : List CuR} {pc c m : Nat} {v : Int} (h : m < pc ∧ cuNm w m = c) (hv : v = cg w m 1) (t : Nat) : (cuNs w pc c m t ∨ (t : Int) = v) ↔ cuNs w pc c (m + 1) t := by
  constructor
  · rintro (⟨p, h1, h2, h3, h4⟩ | q)
    · exact ⟨p, by omega, h2, h3, h4⟩
    · exact ⟨m, by omega, h.1, h.2, by omega⟩
  · rintro ⟨p, h1, h2, h3, h4⟩
    by_cases e : p = m
    · subst e; exact Or.inr (by omega)
    · exact Or.inl ⟨p, by omega, h2, h3, h4⟩
theorem cuNs_s {w : List CuR} {pc c n : Nat} {v z : Int} (hG : cuG w) (hpq : cuPq w pc) (hn : pc ≤ n) (h : zNbt v (cuNs w pc c n)) (hz : (z = 1 ∧ zand v (v - 1) ≠ 0) ∨ (z = 0 ∧ zand v (v - 1) = 0)) : (z = 1 ∧ cuSx w pc c) ∨ (z = 0 ∧ ¬ cuSx w pc c) := by
  obtain ⟨h1, h2, h3⟩ := h
  obtain ⟨a, rfl⟩ := Int.eq_ofNat_of_zero_le h1
  have e1 := cuPwr_z a (by omega)
  have e2 := cuPwr_2 a (by omega)
  rw [Int.toNat_natCast] at h3
  have key : cuSx w pc c ↔ cuP2b a = true := by
    rw [cuP2b_i]
    constructor
    · rintro ⟨p, q, p1, q1, p2, q2, r⟩
      have gp := (hG p (by have := hpq.2.1; omega)).2.1
      have gq := (hG q (by have := hpq.2.1; omega)).2.1
      have b1 := (h3 (cg w p 1).toNat (by omega)).mpr ⟨p, by omega, p1, p2, by omega⟩
      have b2 := (h3 (cg w q 1).toNat (by omega)).mpr ⟨q, by omega, q1, q2, by omega⟩
      rcases Int.lt_trichotomy (cg w p 1) (cg w q 1) with y | y | y
      · exact ⟨_, _, by omega, by omega, b2, b1⟩
      · exact absurd y r
      · exact ⟨_, _, by omega, by omega, b1, b2⟩
    · rintro ⟨s, t, s1, t1, b1, b2⟩
      obtain ⟨p, p1, p2, p3, p4⟩ := (h3 s s1).mp b1
      obtain ⟨q, q1, q2, q3, q4⟩ := (h3 t (by omega)).mp b2
      exact ⟨p, q, p2, q2, p3, q3, by omega⟩
  rw [key]
  cases hb : cuP2b a
  · rw [hb] at e2
    have : cuPwr a = true := e2
    have e3 := e1.mpr this
    rcases hz with z | z
    · exact absurd e3 z.2
    · exact Or.inr ⟨z.1, by decide⟩
  · rw [hb] at e2
    have e4 : cuPwr a = false := e2
    rcases hz with z | z
    · exact Or.inl ⟨z.1, rfl⟩
    · have := e1.mp z.2
      rw [e4] at this
      exact absurd this (by decide)
