/-! CUTS, the reference: rows of holes under way -/
def zVr (N : Nat) (U : Nat → Prop) (h : Nat → Int) : Prop := ∀ n : Nat, n < N → (U n ∧ h n = -1) ∨ (¬ U n ∧ h n = n)
theorem zVr_y {N n : Nat} {U : Nat → Prop} {h : Nat → Int} (q : zVr N U h) (hn : n < N) (e : h n = -1) : U n := by
  rcases q n hn with z | z
  · exact z.1
  · have := z.2; omega
theorem zVr_n {N n : Nat} {U : Nat → Prop} {h : Nat → Int} (q : zVr N U h) (hn : n < N) (e : h n ≠ -1) : ¬ U n := by
  rcases q n hn with z | z
  · exact absurd z.2 e
  · exact z.1
theorem zVr_v {N n : Nat} {U : Nat → Prop} {h : Nat → Int} (q : zVr N U h) (hn : n < N) : h n = -1 ∨ h n = n := by
  rcases q n hn with z | z
  · exact Or.inl z.2
  · exact Or.inr z.2
theorem zVr_u {N n : Nat} {U : Nat → Prop} {h : Nat → Int} (q : zVr N U h) (hn : n < N) (e : ¬ U n) : h n = n := by
  rcases q n hn with z | z
  · exact absurd z.1 e
  · exact z.2
theorem zVr_0 {N : Nat} {h : Nat → Int} (e : ∀ p : Nat, p < N → h p = p) : zVr N (fun _ => False) h := fun n hn => Or.inr ⟨fun q => q, e n hn⟩
theorem zVr_s {N : Nat} {U : Nat → Prop} {h h' : Nat → Int} {r : Int} (q : zVr N U h) (hr : 0 ≤ r) (e1 : h' r.toNat = -1) (e2 : ∀ n : Nat, n ≠ r.toNat → h' n = h n) : zVr N (fun n => U n ∨ (n : Int) = r) h' := fun n hn => by
  by_cases e : n = r.toNat
  · subst e
    exact Or.inl ⟨Or.inr (by omega), e1⟩
  · rw [e2 n e]
    rcases q n hn with z | z
    · exact Or.inl ⟨Or.inl z.1, z.2⟩
    · exact Or.inr ⟨fun y => by rcases y with y | y; exact z.1 y; omega, z.2⟩
/-- the last mark of a full set -/
theorem cuBt_full : ∀ N, N < 9 → ∀ h, h < N → cuBt (2 ^ N - 1) h := by
  unfold cuBt
  decide +kernel
theorem cuTt_full {w : List CuR} {N d : Nat} {l : Int} (hN : N < 9) (hd : d = 2 ^ N - 1) : cuTt w N d l = 0 := by
  have p := Nat.two_pow_pos N
  rw [cuTt_e hN (by omega)]
  have e : cuTn w N d l = -1 := by
    rcases cuMg_b (U := cuBt d) (g := cuTb w N d l) N with z | z
    · exact z
    · exfalso
      have y := cuBt_full N hN (cuMg (cuBt d) (cuTb w N d l) N).toNat (by omega)
      rw [← hd] at y
      exact z.2.2 y
  rw [if_pos e]
theorem cuTt_some {w : List CuR} {N d : Nat} {l b : Int} (hN : N < 9) (hd : d < 2 ^ N) (hb : b = cuBs (cuBt d) (cuTb w N d l) (-1) N) (hf : d ≠ 2 ^ N - 1) : cuTt w N d l = b := by
  rw [cuTt_e hN hd, hb]
  have e : cuTn w N d l ≠ -1 := fun e => by
    have all := cuMg_m (U := cuBt d) (g := cuTb w N d l) e
    rcases cuBt_f N hN d hd with z | ⟨h, h1, h2⟩
    · omega
    · have y : d / 2 ^ h % 2 = 1 := all h h1
      omega
  have e2 : cuMg (cuBt d) (cuTb w N d l) N ≠ -1 := e
  unfold cuBs
  rw [if_neg e, zite_f e2]
  rfl
theorem cuBt_on : ∀ d : Nat, d < 256 → ∀ h : Nat, h < 8 → d / 2 ^ h % 2 = 1 ∨ cuBt (d + 2 ^ h) h := by
  unfold cuBt
  decide +kernel
theorem cuTb_b {w : List CuR} {N d n : Nat} {l : Int} (hG : cuG w) (hN : N = cuHc w) (hl : l = -1 ∨ (0 ≤ l ∧ l < N)) (hn : n < N) : 0 ≤ cuTb w N d l n ∧ cuTb w N d l n ≤ 3900000 := by
  have a := cuWy_b (w := w) (a := l) (b := n) hG (by omega) (by omega)
  have b := cuTt_b (w := w) (N := N) (d := d + 2 ^ n) (l := (n : Int)) hG hN (Or.inr (by omega))
  unfold cuTb
  omega
theorem cuBs_i {U : Nat → Prop} {g : Nat → Int} {b0 B : Int} {n : Nat} (hg : ∀ m, m < n → 0 ≤ g m ∧ g m ≤ B) (h0 : -1 ≤ b0 ∧ b0 ≤ 0) (hB : 0 ≤ B) : -1 ≤ cuBs U g b0 n ∧ cuBs U g b0 n ≤ B := by
  unfold cuBs
  by_cases e : cuMg U g n = -1
  · rw [zite_t e]; omega
  · rw [zite_f e]
    rcases cuMg_b (U := U) (g := g) n with z | z
    · exact absurd z e
    · have := hg (cuMg U g n).toNat (by omega)
      omega
theorem cuBs_v {U : Nat → Prop} {g : Nat → Int} {b0 : Int} {n : Nat} (h : ¬ U n) (hb : cuBs U g b0 n < 0 ∨ g n < cuBs U g b0 n) (hg : ∀ m, m < n → 0 ≤ g m) : cuBs U g b0 (n + 1) = g n := by
  have hq : ¬ U n ∧ (cuMg U g n = -1 ∨ g n < g (cuMg U g n).toNat) := by
    refine ⟨h, ?_⟩
    rcases cuMg_b (U := U) (g := g) n with z | z
    · exact Or.inl z
    · right
      unfold cuBs at hb
      rw [zite_f (by omega)] at hb
      have := hg (cuMg U g n).toNat (by omega)
      omega
  unfold cuBs
  rw [cuMg_y hq, zite_f (by omega), Int.toNat_natCast]
/-- the bits of a full set: none is left -/
theorem cuBs_full {U : Nat → Prop} {g : Nat → Int} {b0 : Int} : ∀ {n : Nat}, (∀ h, h < n → U h) → cuBs U g b0 n = b0
  | 0, _ => cuBs_0
  | n + 1, h => by
    rw [cuBs_s (h n (Nat.lt_succ_self n))]
    exact cuBs_full (fun x hx => h x (by omega))
