/-! eu: a board put back: a version's bytes, four by four -/
theorem bRs_nd {s : BdS} {x : Int} : bnd (bRs s x) = bnd s := by
  unfold bRs
  split <;> rfl
theorem bPutS_nd {b : Nat} {s : BdS} {t o l i j : Int} : bnd (bPutS b s t o l i j) = bnd s := by
  unfold bPutS
  split
  · rfl
  · split
    · rfl
    · unfold zite
      split
      · rfl
      · split
        · rfl
        · split
          · exact bRs_nd
          · exact bRs_nd
/-- blocks of whole fours, of bytes -/
def stM4 (g : Nat → Int) (s : StS) : Prop := ∀ b, b < sB s → sL s b % 4 = 0 ∧ ∀ i, i < sL s b → 0 ≤ g (sF s b + i) ∧ g (sF s b + i) ≤ 255
def stTt (s : StS) (v : Nat) : Nat → Nat → Nat
  | 0, _ => 0
  | n + 1, k => sL s (sR s v k) + stTt s v n (k + 1)
theorem stTt_b {s : StS} {v a : Nat} (hG : stG a s) (hv : v ≤ sV s) {g : Nat → Int} (h4 : stM4 g s) : ∀ {n k : Nat}, k + n ≤ sC s v → stTt s v n k ≤ 24 * n ∧ stTt s v n k % 4 = 0
  | 0, k, _ => ⟨Nat.le_refl 0, rfl⟩
  | n + 1, k, h => by
    have w := stTt_b hG hv h4 (n := n) (k := k + 1) (by omega)
    have hr := (hG.2.2.1 v hv).2.2 k (by omega)
    have hl := (hG.2.2.2 _ hr).1
    have hm := (h4 _ hr).1
    show sL s (sR s v k) + stTt s v n (k + 1) ≤ 24 * (n + 1) ∧ (sL s (sR s v k) + stTt s v n (k + 1)) % 4 = 0
    omega
theorem stOut_in {s : StS} {v a : Nat} (hG : stG a s) (hv : v ≤ sV s) {g : Nat → Int} (h4 : stM4 g s) : ∀ {n k : Nat} {x : Int}, k + n ≤ sC s v → 0 ≤ x → (x < stTt s v n k → 0 ≤ stOut g s v n k x ∧ stOut g s v n k x ≤ 255) ∧ ((stTt s v n k : Int) ≤ x → stOut g s v n k x = -1)
  | 0, k, x, _, h0 => ⟨fun h => by have z : (stTt s v 0 k : Int) = 0 := rfl; omega, fun _ => rfl⟩
  | n + 1, k, x, h, h0 => by
    have hr := (hG.2.2.1 v hv).2.2 k (by omega)
    have e : (stTt s v (n + 1) k : Int) = sL s (sR s v k) + stTt s v n (k + 1) := by
      show ((sL s (sR s v k) + stTt s v n (k + 1) : Nat) : Int) = _
      omega
    show (x < stTt s v (n + 1) k → 0 ≤ (if x < sL s (sR s v k) then g (sF s (sR s v k) + x.toNat) else stOut g s v n (k + 1) (x - sL s (sR s v k))) ∧ (if x < sL s (sR s v k) then g (sF s (sR s v k) + x.toNat) else stOut g s v n (k + 1) (x - sL s (sR s v k))) ≤ 255) ∧ ((stTt s v (n + 1) k : Int) ≤ x → (if x < sL s (sR s v k) then g (sF s (sR s v k) + x.toNat) else stOut g s v n (k + 1) (x - sL s (sR s v k))) = -1)
    by_cases q : x < sL s (sR s v k)
    · rw [if_pos q]
      exact ⟨fun _ => (h4 _ hr).2 _ (by omega), fun h => by omega⟩
    · rw [if_neg q]
      have w := stOut_in hG hv h4 (n := n) (k := k + 1) (x := x - sL s (sR s v k)) (by omega) (by omega)
      exact ⟨fun h => w.1 (by omega), fun h => w.2 (by omega)⟩
/-- how many fours a version has -/
def stFr (s : StS) (e : Int) : Nat := stTt s e.toNat (sC s e.toNat) 0 / 4
theorem stFr_b {s : StS} {a : Nat} (hG : stG a s) {g : Nat → Int} (h4 : stM4 g s) {e : Int} (he : 0 ≤ e ∧ e < sV s) : stFr s e ≤ 48 ∧ (∀ q r : Nat, r < 4 → q < stFr s e → 0 ≤ stQ g s 0 e (4 * q + r) ∧ stQ g s 0 e (4 * q + r) ≤ 255) ∧ ∀ q r : Nat, r < 4 → stFr s e ≤ q → stQ g s 0 e (4 * q + r) = -1 := by
  have hv : e.toNat ≤ sV s := by omega
  have hb := stTt_b hG hv h4 (n := sC s e.toNat) (k := 0) (by omega)
  have h8 := (hG.2.2.1 e.toNat hv).1
  have e4 : 4 * stFr s e = stTt s e.toNat (sC s e.toNat) 0 := by unfold stFr; omega
  have hq : ∀ x : Int, 0 ≤ x → stQ g s 0 e x = stOut g s e.toNat (sC s e.toNat) 0 x := fun x hx => if_pos ⟨rfl, he.1, he.2, hx⟩
  refine ⟨by omega, fun q r hr hq' => ?_, fun q r hr hq' => ?_⟩
  · rw [hq _ (by omega)]
    exact (stOut_in hG hv h4 (n := sC s e.toNat) (k := 0) (x := 4 * q + r) (by omega) (by omega)).1 (by omega)
  · rw [hq _ (by omega)]
    exact (stOut_in hG hv h4 (n := sC s e.toNat) (k := 0) (x := 4 * q + r) (by omega) (by omega)).2 (by omega)
/-- the boards on the way, and how many pads were put -/
noncomputable def ldK (f : Int → Int) (s : BdS) : Nat → BdS × Nat
  | 0 => (s, 0)
  | q + 1 => (bPutS 1 (ldK f s q).1 (f (4 * q)) (f (4 * q + 1)) (f (4 * q + 2)) (f (4 * q + 3) % 16) (f (4 * q + 3) / 16), (ldK f s q).2 + if 0 ≤ bPutV 1 (ldK f s q).1 (f (4 * q)) (f (4 * q + 1)) (f (4 * q + 2)) (f (4 * q + 3) % 16) (f (4 * q + 3) / 16) then 1 else 0)
theorem ldK_g {f : Int → Int} {s : BdS} (h : bGd s) : ∀ q, bGd (ldK f s q).1 ∧ bnd (ldK f s q).1 = bnd s ∧ (ldK f s q).2 ≤ q
  | 0 => ⟨h, rfl, Nat.le_refl 0⟩
  | q + 1 => by
    have w := ldK_g (f := f) h q
    refine ⟨bGd_put w.1, bPutS_nd.trans w.2.1, ?_⟩
    show (ldK f s q).2 + (if 0 ≤ bPutV 1 (ldK f s q).1 (f (4 * q)) (f (4 * q + 1)) (f (4 * q + 2)) (f (4 * q + 3) % 16) (f (4 * q + 3) / 16) then 1 else 0) ≤ q + 1
    split <;> omega
def ldF (g : Nat → Int) (t : StS) (e : Int) (i : Int) : Int := stQ g t 0 e i
noncomputable def ldE (g : Nat → Int) (t : StS) (e : Int) (s : BdS) : BdS × Nat := ldK (ldF g t e) s (stFr t e)
noncomputable def ldV (b cr : Nat) (t : StS) (g : Nat → Int) (e : Int) (s : BdS) : Int := if b = 0 ∨ cr = 1 then -3 else if ¬ (0 ≤ e ∧ e < sV t) then -2 else (ldE g t e s).2
theorem bPutV_b {b : Nat} {s : BdS} {t o l i j : Int} : -4 ≤ bPutV b s t o l i j ∧ (bPutV b s t o l i j < 41 ∨ 40 < bnp s) := by
  unfold bPutV zite
  split
  · omega
  · split
    · omega
    · split
      · omega
      · split
        · omega
        · split <;> omega
theorem ldF_b {s : StS} {a : Nat} (hG : stG a s) {g : Nat → Int} (h4 : stM4 g s) {e : Int} (he : 0 ≤ e ∧ e < sV s) {q : Nat} (hq : q < stFr s e) : (0 ≤ ldF g s e (4 * q) ∧ ldF g s e (4 * q) ≤ 255) ∧ (0 ≤ ldF g s e (4 * q + 1) ∧ ldF g s e (4 * q + 1) ≤ 255) ∧ (0 ≤ ldF g s e (4 * q + 2) ∧ ldF g s e (4 * q + 2) ≤ 255) ∧ 0 ≤ ldF g s e (4 * q + 3) ∧ ldF g s e (4 * q + 3) ≤ 255 := by
  have w := (stFr_b hG h4 he).2.1 q
  have w0 := w 0 (by omega) hq
  rw [show (4 * (q : Int) + ((0 : Nat) : Int)) = 4 * q by omega] at w0
  exact ⟨w0, w 1 (by omega) hq, w 2 (by omega) hq, w 3 (by omega) hq⟩
theorem ldF_n {s : StS} {a : Nat} (hG : stG a s) {g : Nat → Int} (h4 : stM4 g s) {e : Int} (he : 0 ≤ e ∧ e < sV s) {q : Nat} (hq : stFr s e ≤ q) : ldF g s e (4 * q) = -1 ∧ ldF g s e (4 * q + 3) = -1 := by
  have w := (stFr_b hG h4 he).2.2 q
  have w0 := w 0 (by omega) hq
  rw [show (4 * (q : Int) + ((0 : Nat) : Int)) = 4 * q by omega] at w0
  exact ⟨w0, w 3 (by omega) hq⟩
noncomputable def ldb (g : Nat → Int) (t : StS) (e : Int) (s : BdS) (q : Nat) : BdS := (ldK (ldF g t e) s q).1
noncomputable def ldn (g : Nat → Int) (t : StS) (e : Int) (s : BdS) (q : Nat) : Nat := (ldK (ldF g t e) s q).2
theorem ldb_s {g : Nat → Int} {t : StS} {e : Int} {s : BdS} {q : Nat} {a b c d : Int} (ha : a = ldF g t e (4 * q)) (hb : b = ldF g t e (4 * q + 1)) (hc : c = ldF g t e (4 * q + 2)) (hd : d = ldF g t e (4 * q + 3)) : ldb g t e s (q + 1) = bPutS 1 (ldb g t e s q) a b c (d % 16) (d / 16) ∧ (0 ≤ bPutV 1 (ldb g t e s q) a b c (d % 16) (d / 16) → ldn g t e s (q + 1) = ldn g t e s q + 1) ∧ (¬ 0 ≤ bPutV 1 (ldb g t e s q) a b c (d % 16) (d / 16) → ldn g t e s (q + 1) = ldn g t e s q) := by
  subst ha hb hc hd
  refine ⟨rfl, fun h => ?_, fun h => ?_⟩
  · show (ldK (ldF g t e) s q).2 + _ = _
    rw [if_pos (show 0 ≤ bPutV 1 (ldK (ldF g t e) s q).1 _ _ _ _ _ from h)]
    rfl
  · show (ldK (ldF g t e) s q).2 + _ = _
    rw [if_neg (show ¬ 0 ≤ bPutV 1 (ldK (ldF g t e) s q).1 _ _ _ _ _ from h)]
    rfl
noncomputable def ldS (b cr : Nat) (t : StS) (g : Nat → Int) (e : Int) (s : BdS) : BdS := if b = 0 ∨ cr = 1 then s else if ¬ (0 ≤ e ∧ e < sV t) then s else (ldE g t e s).1
theorem ld_3 {b cr : Nat} {t : StS} {g : Nat → Int} {e : Int} {s : BdS} (h : b = 0 ∨ cr = 1) : ldV b cr t g e s = -3 ∧ ldS b cr t g e s = s := ⟨if_pos h, if_pos h⟩
theorem ld_2 {b cr : Nat} {t : StS} {g : Nat → Int} {e : Int} {s : BdS} (h : ¬ (b = 0 ∨ cr = 1)) (h2 : ¬ (0 ≤ e ∧ e < sV t)) : ldV b cr t g e s = -2 ∧ ldS b cr t g e s = s := ⟨(if_neg h).trans (if_pos h2), (if_neg h).trans (if_pos h2)⟩
theorem ld_y {b cr : Nat} {t : StS} {g : Nat → Int} {e : Int} {s : BdS} {q : Nat} (h : ¬ (b = 0 ∨ cr = 1)) (h2 : 0 ≤ e ∧ e < sV t) (hq : q = stFr t e) : ldV b cr t g e s = ldn g t e s q ∧ ldS b cr t g e s = ldb g t e s q := by
  subst hq
  exact ⟨(if_neg h).trans (if_neg (fun w => w h2)), (if_neg h).trans (if_neg (fun w => w h2))⟩
theorem svV_b {b cr : Nat} {s : BdS} {x : SvK} : svV b cr s x = -3 ∨ svV b cr s x = -1 ∨ svV b cr s x = sV x.2.2.1 := by
  by_cases h : b = 0 ∨ cr = 1
  · exact Or.inl (svV_3 h)
  · by_cases h2 : svFit s x
    · exact Or.inr (Or.inr (svV_y h h2))
    · exact Or.inr (Or.inl (svV_n h h2))
theorem ldV_b {g : Nat → Int} {m : Nat} {t : StS} {z cr cn : Nat} {I : ZI} (hCL : zCL g m t z cr cn I) (h4 : stM4 g t) {s : BdS} (hg : bGd s) {b : Nat} {e : Int} : -4 ≤ ldV b cr t g e s ∧ ldV b cr t g e s ≤ 1000 := by
  have hG : stG (stN g m).1 t := by
    have w := stN_G hCL.2.2.2.2.1.2.2.2.1
    rw [← hCL.2.2.2.2.1.2.2.1] at w
    exact w.1
  by_cases h : b = 0 ∨ cr = 1
  · rw [(ld_3 h).1]; omega
  · by_cases h2 : 0 ≤ e ∧ e < sV t
    · rw [(ld_y h h2 rfl).1]
      have w := (ldK_g (f := ldF g t e) hg (stFr t e)).2.2
      have w2 := (stFr_b hG h4 h2).1
      have w3 : ldn g t e s (stFr t e) ≤ stFr t e := w
      omega
    · rw [(ld_2 h h2).1]; omega
