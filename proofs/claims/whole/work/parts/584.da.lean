/-! CUTS: holes and their order -/
def cuHn (w : List CuR) (i : Nat) : Prop := cg w i 0 = 3
noncomputable def cuHc (w : List CuR) : Nat := zct (cuHn w) w.length
noncomputable def cuHx (w : List CuR) (p : Nat) : Nat := (zkth (cuHn w) w.length p).toNat
theorem cuHx_at {w : List CuR} {i : Nat} (hi : i < w.length) (h : cuHn w i) : cuHx w (zct (cuHn w) i) = i := by
  unfold cuHx
  rw [zkth_at hi h rfl]
  rfl
theorem cuHx_b {w : List CuR} {p : Nat} (h : p < cuHc w) : cuHx w p < w.length ∧ cuHn w (cuHx w p) ∧ zct (cuHn w) (cuHx w p) = p := by
  obtain ⟨i, h1, h2, h3⟩ := zct_sj h
  have e := cuHx_at h1 h2
  rw [h3] at e
  rw [e]
  exact ⟨h1, h2, h3⟩
/-- a hole in one number; its layer and place -/
noncomputable def cuHv (w : List CuR) (p : Nat) : Int := cg w (cuHx w p) 2 * 16 * 16 + cg w (cuHx w p) 3
theorem cuHv_b {w : List CuR} {p : Nat} (hG : cuG w) (h : p < cuHc w) : 0 ≤ cuHv w p ∧ cuHv w p < 768 ∧ cuHv w p / 256 = cg w (cuHx w p) 2 ∧ cuHv w p % 16 = cg w (cuHx w p) 3 % 16 ∧ cuHv w p / 16 % 16 = cg w (cuHx w p) 3 / 16 := by
  have z := cuHx_b h
  have g := hG _ z.1
  have z2 : cg w (cuHx w p) 0 = 3 := z.2.1
  unfold cuHv
  omega
def cuAs (d : Int) : Int := if d < 0 then -d else d
/-- the way from a hole (-1: from 0, 0) to one -/
noncomputable def cuWy (w : List CuR) (a : Int) (b : Nat) : Int := if a = -1 then max (cuAs (1000 * (cuHv w b % 16))) (cuAs (1000 * (cuHv w b / 16 % 16))) else max (cuAs (1000 * (cuHv w b % 16) - 1000 * (cuHv w a.toNat % 16))) (cuAs (1000 * (cuHv w b / 16 % 16) - 1000 * (cuHv w a.toNat / 16 % 16)))
theorem cuAs_b {d B : Int} (h : -B ≤ d ∧ d ≤ B) : 0 ≤ cuAs d ∧ cuAs d ≤ B := by
  unfold cuAs
  split <;> omega
theorem cuWy_b {w : List CuR} {a : Int} {b : Nat} (hG : cuG w) (hb : b < cuHc w) (ha : a = -1 ∨ (0 ≤ a ∧ a < cuHc w)) : 0 ≤ cuWy w a b ∧ cuWy w a b ≤ 15000 := by
  have zb := cuHv_b hG hb
  unfold cuWy
  by_cases q : a = -1
  · rw [if_pos q]
    have x := cuAs_b (d := 1000 * (cuHv w b % 16)) (B := 15000) (by omega)
    have y := cuAs_b (d := 1000 * (cuHv w b / 16 % 16)) (B := 15000) (by omega)
    omega
  · rw [if_neg q]
    have za := cuHv_b hG (show a.toNat < cuHc w by omega)
    have x := cuAs_b (d := 1000 * (cuHv w b % 16) - 1000 * (cuHv w a.toNat % 16)) (B := 15000) (by omega)
    have y := cuAs_b (d := 1000 * (cuHv w b / 16 % 16) - 1000 * (cuHv w a.toNat / 16 % 16)) (B := 15000) (by omega)
    omega
/-- the first of those left with the least value -/
noncomputable def cuMg (U : Nat → Prop) (g : Nat → Int) : Nat → Int
  | 0 => -1
  | h + 1 => zite (¬ U h ∧ (cuMg U g h = -1 ∨ g h < g (cuMg U g h).toNat)) (h : Int) (cuMg U g h)
theorem cuMg_y {U : Nat → Prop} {g : Nat → Int} {h : Nat} (q : ¬ U h ∧ (cuMg U g h = -1 ∨ g h < g (cuMg U g h).toNat)) : cuMg U g (h + 1) = h := zite_t q
theorem cuMg_n {U : Nat → Prop} {g : Nat → Int} {h : Nat} (q : ¬ (¬ U h ∧ (cuMg U g h = -1 ∨ g h < g (cuMg U g h).toNat))) : cuMg U g (h + 1) = cuMg U g h := zite_f q
theorem cuMg_b {U : Nat → Prop} {g : Nat → Int} : ∀ n, cuMg U g n = -1 ∨ (0 ≤ cuMg U g n ∧ cuMg U g n < n ∧ ¬ U (cuMg U g n).toNat)
  | 0 => Or.inl rfl
  | n + 1 => by
    by_cases q : ¬ U n ∧ (cuMg U g n = -1 ∨ g n < g (cuMg U g n).toNat)
    · rw [cuMg_y q, Int.toNat_natCast]
      exact Or.inr ⟨by omega, by omega, q.1⟩
    · rw [cuMg_n q]
      rcases cuMg_b n with z | z
      · exact Or.inl z
      · exact Or.inr ⟨z.1, by omega, z.2.2⟩
theorem cuMg_m {U : Nat → Prop} {g : Nat → Int} : ∀ {n}, cuMg U g n = -1 → ∀ h, h < n → U h
  | 0, _, h, hh => absurd hh (Nat.not_lt_zero h)
  | n + 1, e, h, hh => by
    by_cases q : ¬ U n ∧ (cuMg U g n = -1 ∨ g n < g (cuMg U g n).toNat)
    · rw [cuMg_y q] at e
      omega
    · rw [cuMg_n q] at e
      by_cases z : h = n
      · rw [z]
        exact Classical.not_not.mp (fun y => q ⟨y, Or.inl e⟩)
      · exact cuMg_m e h (by omega)
/-- it is the least, of several the first one -/
theorem cuMg_l {U : Nat → Prop} {g : Nat → Int} : ∀ {n}, cuMg U g n ≠ -1 → ∀ h, h < n → ¬ U h → g (cuMg U g n).toNat ≤ g h
  | 0, e, _, _, _ => absurd rfl e
  | n + 1, e, h, hh, hu => by
    by_cases q : ¬ U n ∧ (cuMg U g n = -1 ∨ g n < g (cuMg U g n).toNat)
    · rw [cuMg_y q, Int.toNat_natCast]
      by_cases z : h = n
      · rw [z]; exact Int.le_refl _
      · rcases q.2 with q2 | q2
        · exact absurd (cuMg_m q2 h (by omega)) hu
        · by_cases q3 : cuMg U g n = -1
          · exact absurd (cuMg_m q3 h (by omega)) hu
          · have := cuMg_l q3 h (by omega) hu
            omega
    · rw [cuMg_n q] at e ⊢
      by_cases z : h = n
      · rw [z] at hu ⊢
        by_cases q3 : g n < g (cuMg U g n).toNat
        · exact absurd ⟨hu, Or.inr q3⟩ q
        · omega
      · exact cuMg_l e h (by omega) hu
theorem cuMg_c {U V : Nat → Prop} {g g' : Nat → Int} : ∀ {n}, (∀ h, h < n → (U h ↔ V h)) → (∀ h, h < n → ¬ U h → g h = g' h) → cuMg U g n = cuMg V g' n
  | 0, _, _ => rfl
  | n + 1, hu, hg => by
    have ih := cuMg_c (U := U) (V := V) (g := g) (g' := g') (n := n) (fun h q => hu h (by omega)) (fun h q => hg h (by omega))
    have u := hu n (Nat.lt_succ_self n)
    by_cases q : ¬ U n ∧ (cuMg U g n = -1 ∨ g n < g (cuMg U g n).toNat)
    · rw [cuMg_y q, cuMg_y]
      refine ⟨fun y => q.1 (u.mpr y), ?_⟩
      rw [← ih, ← hg n (Nat.lt_succ_self n) q.1]
      rcases q.2 with z | z
      · exact Or.inl z
      · rcases cuMg_b (U := U) (g := g) n with b | b
        · exact Or.inl b
        · rw [← hg (cuMg U g n).toNat (by omega) b.2.2]
          exact Or.inr z
    · rw [cuMg_n q, cuMg_n, ih]
      rintro ⟨y1, y2⟩
      have y3 : ¬ U n := fun y => y1 (u.mp y)
      refine q ⟨y3, ?_⟩
      rw [← ih, ← hg n (Nat.lt_succ_self n) y3] at y2
      rcases y2 with z | z
      · exact Or.inl z
      · rcases cuMg_b (U := U) (g := g) n with b | b
        · exact Or.inl b
        · rw [← hg (cuMg U g n).toNat (by omega) b.2.2] at z
          exact Or.inr z
/-- many: always the nearest one -/
noncomputable def cuMn (w : List CuR) (N : Nat) : Nat → Int × (Nat → Prop)
  | 0 => (-1, fun _ => False)
  | i + 1 => (cuMg (cuMn w N i).2 (cuWy w (cuMn w N i).1) N, fun h => (cuMn w N i).2 h ∨ (h : Int) = cuMg (cuMn w N i).2 (cuWy w (cuMn w N i).1) N)
theorem cuMn_b {w : List CuR} {N : Nat} : ∀ {i}, i ≤ N → zct (cuMn w N i).2 N = i ∧ (i ≠ 0 → 0 ≤ (cuMn w N i).1 ∧ (cuMn w N i).1 < N)
  | 0, _ => ⟨zct_no (fun _ q => q) N, fun q => absurd rfl q⟩
  | i + 1, hi => by
    have ih := cuMn_b (w := w) (N := N) (i := i) (by omega)
    have e1 : (cuMn w N (i + 1)).1 = cuMg (cuMn w N i).2 (cuWy w (cuMn w N i).1) N := rfl
    have e2 : (cuMn w N (i + 1)).2 = fun h : Nat => (cuMn w N i).2 h ∨ (h : Int) = cuMg (cuMn w N i).2 (cuWy w (cuMn w N i).1) N := rfl
    rcases cuMg_b (U := (cuMn w N i).2) (g := cuWy w (cuMn w N i).1) N with b | b
    · exfalso
      have all := cuMg_m b
      have z : zct (cuMn w N i).2 N = N := by
        have g : ∀ n, n ≤ N → zct (cuMn w N i).2 n = n := fun n => by
          induction n with
          | zero => intro _; rfl
          | succ n ihn => intro hn; rw [zct_t (all n (by omega)), ihn (by omega)]
        exact g N (Nat.le_refl _)
      omega
    · rw [e1, e2]
      refine ⟨?_, fun _ => ⟨b.1, b.2.1⟩⟩
      have z := zct_eq (P := (cuMn w N i).2) (c := (cuMg (cuMn w N i).2 (cuWy w (cuMn w N i).1) N).toNat) b.2.2 (k := N) (by omega)
      rw [ih.1] at z
      rw [← z]
      exact zct_ext (fun x => by
        constructor
        · rintro (y | y)
          · exact Or.inl y
          · exact Or.inr (by omega)
        · rintro (y | y)
          · exact Or.inl y
          · exact Or.inr (by omega)) N
/-- few: the row of least travel; a set of holes as a number -/
def cuBt (d h : Nat) : Prop := d / 2 ^ h % 2 = 1
noncomputable def cuTv (w : List CuR) (N : Nat) : Nat → Nat → Int → Int
  | 0, _, _ => 0
  | F + 1, d, l => if cuMg (cuBt d) (fun n => cuWy w l n + cuTv w N F (d + 2 ^ n) n) N = -1 then 0 else cuWy w l (cuMg (cuBt d) (fun n => cuWy w l n + cuTv w N F (d + 2 ^ n) n) N).toNat + cuTv w N F (d + 2 ^ (cuMg (cuBt d) (fun n => cuWy w l n + cuTv w N F (d + 2 ^ n) n) N).toNat) (cuMg (cuBt d) (fun n => cuWy w l n + cuTv w N F (d + 2 ^ n) n) N).toNat
theorem cuBt_q : ∀ d : Nat, d < 256 → ∀ h : Nat, h < 8 → (d / 2 ^ h % 2 = 1 ∨ (d + 2 ^ h < 256 ∧ zor (d : Int) (zshl 1 (h : Int)) = ((d + 2 ^ h : Nat) : Int))) := by decide +kernel
theorem cuBt_N : ∀ N, N < 9 → ∀ d, d < 2 ^ N → ∀ h, h < N → (d / 2 ^ h % 2 = 1 ∨ d + 2 ^ h < 2 ^ N) := by decide +kernel
theorem cuBt_a : ∀ d, d < 256 → ∀ h, h < 8 → (d / 2 ^ h % 2 = 1 ∨ ∀ j, j < 8 → (if j = h then 1 else d / 2 ^ j % 2) = (d + 2 ^ h) / 2 ^ j % 2) := by decide +kernel
theorem cuBt_f : ∀ N, N < 9 → ∀ d, d < 2 ^ N → (d + 1 = 2 ^ N ∨ ∃ h, h < N ∧ d / 2 ^ h % 2 = 0) := by decide +kernel
theorem cuTv_s {w : List CuR} {N : Nat} (hN : N < 9) : ∀ F G d l, d < 2 ^ N → 2 ^ N ≤ F + d + 1 → 2 ^ N ≤ G + d + 1 → cuTv w N F d l = cuTv w N G d l
  | 0, 0, _, _, _, _, _ => rfl
  | 0, G + 1, d, l, h1, h2, h3 => by
    have e : cuMg (cuBt d) (fun n => cuWy w l n + cuTv w N G (d + 2 ^ n) n) N = -1 := by
      rcases cuMg_b (U := cuBt d) (g := fun n => cuWy w l n + cuTv w N G (d + 2 ^ n) n) N with z | z
      · exact z
      · exfalso
        rcases cuBt_N N hN d h1 _ (show (cuMg (cuBt d) (fun n => cuWy w l n + cuTv w N G (d + 2 ^ n) n) N).toNat < N by omega) with y | y
        · exact z.2.2 y
        · have := Nat.two_pow_pos (cuMg (cuBt d) (fun n => cuWy w l n + cuTv w N G (d + 2 ^ n) n) N).toNat
          omega
    show 0 = if _ = -1 then 0 else _
    rw [if_pos e]
  | F + 1, 0, d, l, h1, h2, h3 => (cuTv_s hN 0 (F + 1) d l h1 h3 h2).symm
  | F + 1, G + 1, d, l, h1, h2, h3 => by
    have ih : ∀ n, n < N → ¬ cuBt d n → cuTv w N F (d + 2 ^ n) n = cuTv w N G (d + 2 ^ n) n := fun n hn hb => by
      have p := Nat.two_pow_pos n
      rcases cuBt_N N hN d h1 n hn with y | y
      · exact absurd y hb
      · exact cuTv_s hN F G (d + 2 ^ n) n y (by omega) (by omega)
    have e : cuMg (cuBt d) (fun n => cuWy w l n + cuTv w N F (d + 2 ^ n) n) N = cuMg (cuBt d) (fun n => cuWy w l n + cuTv w N G (d + 2 ^ n) n) N := cuMg_c (fun _ _ => Iff.rfl) (fun n hn hb => by rw [ih n hn hb])
    show (if cuMg (cuBt d) (fun n => cuWy w l n + cuTv w N F (d + 2 ^ n) n) N = -1 then 0 else _) = if cuMg (cuBt d) (fun n => cuWy w l n + cuTv w N G (d + 2 ^ n) n) N = -1 then 0 else _
    rw [e]
    by_cases q : cuMg (cuBt d) (fun n => cuWy w l n + cuTv w N G (d + 2 ^ n) n) N = -1
    · rw [if_pos q, if_pos q]
    · rw [if_neg q, if_neg q]
      rcases cuMg_b (U := cuBt d) (g := fun n => cuWy w l n + cuTv w N G (d + 2 ^ n) n) N with z | z
      · exact absurd z q
      · rw [ih _ (by omega) z.2.2]
/-- the least travel that is left; what each next one costs; the next one -/
noncomputable def cuTt (w : List CuR) (N d : Nat) (l : Int) : Int := cuTv w N 256 d l
noncomputable def cuTb (w : List CuR) (N d : Nat) (l : Int) (n : Nat) : Int := cuWy w l n + cuTt w N (d + 2 ^ n) n
noncomputable def cuTn (w : List CuR) (N d : Nat) (l : Int) : Int := cuMg (cuBt d) (cuTb w N d l) N
theorem cuTv_e {w : List CuR} {N F d : Nat} {l : Int} (hN : N < 9) (hd : d < 2 ^ N) (hF : 2 ^ N ≤ F + 1) : cuTv w N (F + 1) d l = if cuMg (cuBt d) (fun n => cuWy w l n + cuTv w N (F + 1) (d + 2 ^ n) n) N = -1 then 0 else cuWy w l (cuMg (cuBt d) (fun n => cuWy w l n + cuTv w N (F + 1) (d + 2 ^ n) n) N).toNat + cuTv w N (F + 1) (d + 2 ^ (cuMg (cuBt d) (fun n => cuWy w l n + cuTv w N (F + 1) (d + 2 ^ n) n) N).toNat) (cuMg (cuBt d) (fun n => cuWy w l n + cuTv w N (F + 1) (d + 2 ^ n) n) N).toNat := by
  have ih : ∀ n, n < N → ¬ cuBt d n → cuTv w N F (d + 2 ^ n) n = cuTv w N (F + 1) (d + 2 ^ n) n := fun n hn hb => by
    have p := Nat.two_pow_pos n
    rcases cuBt_N N hN d hd n hn with y | y
    · exact absurd y hb
    · exact cuTv_s hN F (F + 1) (d + 2 ^ n) n y (by omega) (by omega)
  have e : cuMg (cuBt d) (fun n => cuWy w l n + cuTv w N F (d + 2 ^ n) n) N = cuMg (cuBt d) (fun n => cuWy w l n + cuTv w N (F + 1) (d + 2 ^ n) n) N := cuMg_c (fun _ _ => Iff.rfl) (fun n hn hb => by rw [ih n hn hb])
  have e0 : cuTv w N (F + 1) d l = if cuMg (cuBt d) (fun n => cuWy w l n + cuTv w N F (d + 2 ^ n) n) N = -1 then 0 else cuWy w l (cuMg (cuBt d) (fun n => cuWy w l n + cuTv w N F (d + 2 ^ n) n) N).toNat + cuTv w N F (d + 2 ^ (cuMg (cuBt d) (fun n => cuWy w l n + cuTv w N F (d + 2 ^ n) n) N).toNat) (cuMg (cuBt d) (fun n => cuWy w l n + cuTv w N F (d + 2 ^ n) n) N).toNat := rfl
  rw [e0, e]
  by_cases q : cuMg (cuBt d) (fun n => cuWy w l n + cuTv w N (F + 1) (d + 2 ^ n) n) N = -1
  · rw [if_pos q, if_pos q]
  · rw [if_neg q, if_neg q]
    rcases cuMg_b (U := cuBt d) (g := fun n => cuWy w l n + cuTv w N (F + 1) (d + 2 ^ n) n) N with z | z
    · exact absurd z q
    · rw [ih _ (by omega) z.2.2]
theorem cuTt_e {w : List CuR} {N d : Nat} {l : Int} (hN : N < 9) (hd : d < 2 ^ N) : cuTt w N d l = if cuTn w N d l = -1 then 0 else cuTb w N d l (cuTn w N d l).toNat := by
  have p8 : 2 ^ N ≤ 2 ^ 8 := Nat.pow_le_pow_right (by decide) (by omega)
  exact cuTv_e (F := 255) hN hd (by omega)
noncomputable def cuFw (w : List CuR) (N : Nat) : Nat → Nat × Int
  | 0 => (0, -1)
  | i + 1 => ((cuFw w N i).1 + 2 ^ (cuTn w N (cuFw w N i).1 (cuFw w N i).2).toNat, cuTn w N (cuFw w N i).1 (cuFw w N i).2)
theorem cuFw_b {w : List CuR} {N : Nat} (hN : N < 9) : ∀ {i}, i ≤ N → (cuFw w N i).1 < 2 ^ N ∧ zct (cuBt (cuFw w N i).1) N = i ∧ (i ≠ 0 → 0 ≤ (cuFw w N i).2 ∧ (cuFw w N i).2 < N)
  | 0, _ => ⟨Nat.two_pow_pos N, by
      refine zct_no (fun c q => ?_) N
      have z : 0 / 2 ^ c % 2 = 1 := q
      rw [Nat.zero_div] at z
      exact absurd z (by decide), fun q => absurd rfl q⟩
  | i + 1, hi => by
    have ih := cuFw_b (w := w) hN (i := i) (by omega)
    have e1 : (cuFw w N (i + 1)).1 = (cuFw w N i).1 + 2 ^ (cuTn w N (cuFw w N i).1 (cuFw w N i).2).toNat := rfl
    have e2 : (cuFw w N (i + 1)).2 = cuTn w N (cuFw w N i).1 (cuFw w N i).2 := rfl
    have p8 : 2 ^ N ≤ 2 ^ 8 := Nat.pow_le_pow_right (by decide) (by omega)
    rcases cuMg_b (U := cuBt (cuFw w N i).1) (g := cuTb w N (cuFw w N i).1 (cuFw w N i).2) N with b | b
    · exfalso
      have all := cuMg_m b
      have g : ∀ n, n ≤ N → zct (cuBt (cuFw w N i).1) n = n := fun n => by
        induction n with
        | zero => intro _; rfl
        | succ n ihn => intro hn; rw [zct_t (all n (by omega)), ihn (by omega)]
      have := g N (Nat.le_refl _)
      omega
    · have b1 : 0 ≤ cuTn w N (cuFw w N i).1 (cuFw w N i).2 ∧ cuTn w N (cuFw w N i).1 (cuFw w N i).2 < N ∧ ¬ cuBt (cuFw w N i).1 (cuTn w N (cuFw w N i).1 (cuFw w N i).2).toNat := b
      rw [e1, e2]
      generalize hr : (cuTn w N (cuFw w N i).1 (cuFw w N i).2).toNat = r at *
      refine ⟨?_, ?_, fun _ => ⟨b1.1, b1.2.1⟩⟩
      · rcases cuBt_N N hN _ ih.1 r (by omega) with y | y
        · exact absurd y b1.2.2
        · exact y
      · have z := zct_eq (P := cuBt (cuFw w N i).1) (c := r) b1.2.2 (k := N) (by omega)
        rw [ih.2.1] at z
        rw [← z]
        have key : ∀ n, n ≤ 8 → zct (cuBt ((cuFw w N i).1 + 2 ^ r)) n = zct (fun d => cuBt (cuFw w N i).1 d ∨ d = r) n := fun n => by
          induction n with
          | zero => intro _; rfl
          | succ n ihn =>
            intro hn
            have i2 := ihn (by omega)
            rcases cuBt_a (cuFw w N i).1 (by omega) r (by omega) with y | y
            · exact absurd y b1.2.2
            · have y2 := y n (by omega)
              by_cases q : n = r
              · rw [if_pos q] at y2
                rw [zct_t (show cuBt ((cuFw w N i).1 + 2 ^ r) n from y2.symm), zct_t (P := fun d => cuBt (cuFw w N i).1 d ∨ d = r) (Or.inr q), i2]
              · rw [if_neg q] at y2
                by_cases q2 : cuBt (cuFw w N i).1 n
                · rw [zct_t (show cuBt ((cuFw w N i).1 + 2 ^ r) n from y2.symm.trans q2), zct_t (P := fun d => cuBt (cuFw w N i).1 d ∨ d = r) (Or.inl q2), i2]
                · rw [zct_f (fun (x : cuBt ((cuFw w N i).1 + 2 ^ r) n) => q2 (y2.trans x)), zct_f (P := fun d => cuBt (cuFw w N i).1 d ∨ d = r) (fun x => by rcases x with x | x; exact q2 x; exact q x), i2]
        exact key N (by omega)
/-- the order -/
noncomputable def cuOr (w : List CuR) (i : Nat) : Int := if cuHc w ≤ 8 then (cuFw w (cuHc w) (i + 1)).2 else (cuMn w (cuHc w) (i + 1)).1
theorem cuOr_b {w : List CuR} {i : Nat} (h : i < cuHc w) : 0 ≤ cuOr w i ∧ cuOr w i < cuHc w := by
  unfold cuOr
  by_cases q : cuHc w ≤ 8
  · rw [if_pos q]
    exact (cuFw_b (by omega) (show i + 1 ≤ cuHc w by omega)).2.2 (by omega)
  · rw [if_neg q]
    exact (cuMn_b (show i + 1 ≤ cuHc w by omega)).2 (by omega)
