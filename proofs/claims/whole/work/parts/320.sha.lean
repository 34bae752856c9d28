/-! DIGESTS, as both sides reckon them -/
def shT (x n : Int) : Int := zor (zushr x n) (zshl x (32 - n))
/-- the first words of a block -/
def shF (m : Nat → Int) (f w : Nat) : Int := zor (zor (zor (zshl (m (f + 4 * w)) 24) (zshl (m (f + 4 * w + 1)) 16)) (zshl (m (f + 4 * w + 2)) 8)) (m (f + 4 * w + 3))
/-- the words of a block, k behind the first sixteen -/
def shW (m : Nat → Int) (f : Nat) : Nat → Nat → Int
  | 0, w => shF m f w
  | k + 1, w => if w = 16 + k then zn (shW m f k k + zxor (zxor (shT (shW m f k (k + 1)) 7) (shT (shW m f k (k + 1)) 18)) (zushr (shW m f k (k + 1)) 3) + shW m f k (k + 9) + zxor (zxor (shT (shW m f k (k + 14)) 17) (shT (shW m f k (k + 14)) 19)) (zushr (shW m f k (k + 14)) 10)) else shW m f k w
/-- the words of the rounds -/
def shK (k : Nat) : Int := (xmh.1 5 k).toInt
def sh1 (W : Nat → Int) (k : Nat) (s : Nat → Int) : Int := s 7 + zxor (zxor (shT (s 4) 6) (shT (s 4) 11)) (shT (s 4) 25) + zxor (zand (s 4) (s 5)) (zand (zxor (s 4) (-1)) (s 6)) + shK k + W k
def sh2 (s : Nat → Int) : Int := zxor (zxor (shT (s 0) 2) (shT (s 0) 13)) (shT (s 0) 22) + zxor (zxor (zand (s 0) (s 1)) (zand (s 0) (s 2))) (zand (s 1) (s 2))
/-- the row of eight behind k rounds -/
def shR (W : Nat → Int) (s : Nat → Int) : Nat → Nat → Int
  | 0, i => s i
  | k + 1, i => if i = 0 then zn (sh1 W k (shR W s k) + sh2 (shR W s k)) else if i = 4 then zn (shR W s k 3 + sh1 W k (shR W s k)) else shR W s k (i - 1)
def shB (m : Nat → Int) (f : Nat) (s : Nat → Int) (i : Nat) : Int := zn (s i + shR (shW m f 48) s 64 i)
/-- what is digested: n bytes, filled up -/
def shN (n : Nat) : Nat := (n + 8) / 64 + 1
def shP (m : Nat → Int) (n j : Nat) : Int := if j < n then m j else if j = n then 128 else if j < 64 * shN n - 4 then 0 else if j = 64 * shN n - 4 then (8 * (n : Int) / 16777216 % 256) else if j = 64 * shN n - 3 then (8 * (n : Int) / 65536 % 256) else if j = 64 * shN n - 2 then (8 * (n : Int) / 256 % 256) else (8 * (n : Int) % 256)
def shS0 (k : Nat) : Int := (xmh.1 4 k).toInt
def shS (m : Nat → Int) (n : Nat) : Nat → Nat → Int
  | 0 => shS0
  | b + 1 => shB (shP m n) (64 * b) (shS m n b)
def shD (m : Nat → Int) (n i : Nat) : Int := zand (zushr (shS m n (shN n) (i / 4)) (24 - (i % 4 : Nat) * 8)) 255
theorem zxor_c (x y : Int) : zxor x y = zxor y x := by unfold zxor; rw [Int32.xor_comm]
theorem shT_zn (x n : Int) : shT (zn x) n = shT x n := by unfold shT; rw [zushr_l, zshl_l]
theorem sh1_zn {W : Nat → Int} {k : Nat} {s : Nat → Int} {e f g h : Int} (h4 : s 4 = zn e) (h5 : s 5 = zn f) (h6 : s 6 = zn g) (h7 : s 7 = zn h) : Int32.ofInt (sh1 W k s) = Int32.ofInt (h + zxor (zxor (shT e 6) (shT e 11)) (shT e 25) + zxor (zand e f) (zand (zxor e (-1)) g) + shK k + W k) := by
  unfold sh1
  rw [h4, h5, h6, h7]
  simp only [shT_zn, zand_l, zand_r, zxor_l, Int32.ofInt_add, zn_of]
theorem sh2_zn {s : Nat → Int} {a b c : Int} (h0 : s 0 = zn a) (h1 : s 1 = zn b) (h2 : s 2 = zn c) : sh2 s = zxor (zxor (shT a 2) (shT a 13)) (shT a 22) + zxor (zxor (zand a b) (zand a c)) (zand b c) := by
  unfold sh2
  rw [h0, h1, h2]
  simp only [shT_zn, zand_l, zand_r]
theorem shR_s {W : Nat → Int} {s : Nat → Int} {k : Nat} : (∀ i, 0 < i → i ≠ 4 → shR W s (k + 1) i = shR W s k (i - 1)) ∧ shR W s (k + 1) 0 = zn (sh1 W k (shR W s k) + sh2 (shR W s k)) ∧ shR W s (k + 1) 4 = zn (shR W s k 3 + sh1 W k (shR W s k)) :=
  ⟨fun i h1 h2 => (if_neg (by omega)).trans (if_neg h2), if_pos rfl, (if_neg (by decide)).trans (if_pos rfl)⟩
/-- the class's arrays that never change -/
def zSt (I L : ZI) : Prop := ∀ c, 1 ≤ c → c ≤ 5 → ∀ j, j < 64 → I c j = (xmh.1 c j).toInt ∧ L c j = (xmh.2.1 c j).toInt
theorem zStf {I L I' L' : ZI} (h : zSt I L) (hf : ∀ c j, 1 ≤ c → c ≤ 5 → I' c j = I c j ∧ L' c j = L c j) : zSt I' L' := fun c h1 h2 j hj => ⟨(hf c j h1 h2).1.trans (h c h1 h2 j hj).1, (hf c j h1 h2).2.trans (h c h1 h2 j hj).2⟩
theorem shF_ext {m m' : Nat → Int} {f w : Nat} (h : ∀ j, f ≤ j → j < f + 64 → m j = m' j) (hw : w < 16) : shF m f w = shF m' f w := by
  unfold shF
  rw [h (f + 4 * w) (by omega) (by omega), h (f + 4 * w + 1) (by omega) (by omega), h (f + 4 * w + 2) (by omega) (by omega), h (f + 4 * w + 3) (by omega) (by omega)]
theorem shW_ext {m m' : Nat → Int} {f : Nat} (h : ∀ j, f ≤ j → j < f + 64 → m j = m' j) : ∀ k w, w < 16 + k → shW m f k w = shW m' f k w
  | 0, w, hw => shF_ext h hw
  | k + 1, w, hw => by
    unfold shW
    rw [shW_ext h k k (by omega), shW_ext h k (k + 1) (by omega), shW_ext h k (k + 9) (by omega), shW_ext h k (k + 14) (by omega)]
    split
    · rfl
    · exact shW_ext h k w (by omega)
theorem zushr0 (x : Int) : zushr x 0 = zn x := by
  unfold zushr zn
  have e : (Int32.ofInt 0).toUInt32 &&& Int32.toUInt32 31 = 0 := by decide
  rw [e, UInt32.shiftRight_zero]
  rfl
/-! trees of digests -/
theorem shP_ext {m m' : Nat → Int} {n : Nat} (h : ∀ j, j < n → m j = m' j) : shP m n = shP m' n := by
  funext j
  unfold shP
  split
  · next h1 => rw [h j h1]
  · rfl
theorem shS_ext {m m' : Nat → Int} {n : Nat} (h : ∀ j, j < n → m j = m' j) : ∀ b, shS m n b = shS m' n b
  | 0 => rfl
  | b + 1 => by
    show shB (shP m n) (64 * b) (shS m n b) = shB (shP m' n) (64 * b) (shS m' n b)
    rw [shP_ext h, shS_ext h b]
theorem shD_ext {m m' : Nat → Int} {n : Nat} (h : ∀ j, j < n → m j = m' j) (i : Nat) : shD m n i = shD m' n i := by
  unfold shD
  rw [shS_ext h]
theorem shD_b (m : Nat → Int) (n i : Nat) : 0 ≤ shD m n i ∧ shD m n i ≤ 255 := by
  unfold shD
  rw [zand255]
  omega
def rlM (t : Nat → Int) (k j : Nat) : Int := if j = 0 then 0 else if j = 1 then (k / 256 : Nat) else if j = 2 then (k % 256 : Nat) else t (64 * k + (j - 3))
def rlN (n k : Nat) : Nat := 3 + min 64 (n - 64 * k)
def rnM (a b : Nat → Int) (j : Nat) : Int := if j = 0 then 1 else if j < 33 then a (j - 1) else b (j - 33)
def rW (n : Nat) : Nat → Nat
  | 0 => (n + 63) / 64
  | l + 1 => (rW n l + 1) / 2
def rO (n : Nat) : Nat → Nat
  | 0 => 0
  | l + 1 => rO n l + rW n l
def rD (t : Nat → Int) (n : Nat) : Nat → Nat → Nat → Int
  | 0, k => shD (rlM t k) (rlN n k)
  | l + 1, k => if 2 * k + 1 < rW n l then shD (rnM (rD t n l (2 * k)) (rD t n l (2 * k + 1))) 65 else rD t n l (2 * k)
theorem rD_b (t : Nat → Int) (n : Nat) : ∀ l k i, 0 ≤ rD t n l k i ∧ rD t n l k i ≤ 255
  | 0, k, i => shD_b _ _ _
  | l + 1, k, i => by
    unfold rD
    split
    · exact shD_b _ _ _
    · exact rD_b t n l (2 * k) i
theorem rO_mono (n : Nat) : ∀ {a b : Nat}, a ≤ b → rO n a ≤ rO n b
  | a, 0, h => by rw [show a = 0 by omega]; exact Nat.le_refl _
  | a, b + 1, h => by
    by_cases e : a = b + 1
    · rw [e]; exact Nat.le_refl _
    · exact Nat.le_trans (rO_mono n (show a ≤ b by omega)) (Nat.le_add_right _ _)
theorem rO_lt (n : Nat) {m l k : Nat} (h : m < l) (hk : k < rW n m) : rO n m + k < rO n l := by
  have h1 := rO_mono n (show m + 1 ≤ l by omega)
  have h2 : rO n (m + 1) = rO n m + rW n m := rfl
  omega
theorem cpy_in {f g : Nat → Int} {s d n k : Nat} (h1 : d ≤ k) (h2 : k < d + n) : va_cpy f g s d n k = f (s + (k - d)) := if_pos ⟨h1, h2⟩
theorem cpF_in {F : Nat → Nat → Int} {ks kd s d n k : Nat} (h1 : d ≤ k) (h2 : k < d + n) : xcpF F ks kd s d n kd k = F ks (s + (k - d)) := by
  unfold xcpF
  rw [if_pos rfl]
  exact if_pos ⟨h1, h2⟩
/-- the row in which the root lies -/
def rT (n : Nat) : Nat := if rW n 0 ≤ 1 then 0 else if rW n 1 ≤ 1 then 1 else if rW n 2 ≤ 1 then 2 else 3
theorem rW_le {n : Nat} (h : 1 ≤ n ∧ n ≤ 512) : (1 ≤ rW n 0 ∧ rW n 0 ≤ 8) ∧ (1 ≤ rW n 1 ∧ rW n 1 ≤ 4) ∧ (1 ≤ rW n 2 ∧ rW n 2 ≤ 2) ∧ rW n 3 = 1 := by
  have h0 : rW n 0 = (n + 63) / 64 := rfl
  have h1 : rW n 1 = (rW n 0 + 1) / 2 := rfl
  have h2 : rW n 2 = (rW n 1 + 1) / 2 := rfl
  have h3 : rW n 3 = (rW n 2 + 1) / 2 := rfl
  omega
theorem rT_le (n : Nat) : rT n ≤ 3 := by
  unfold rT
  split
  · decide
  · split
    · decide
    · split <;> decide
theorem rT_of {n l : Nat} (h : 1 ≤ n ∧ n ≤ 512) (hl : l ≤ 3) (hu : ∀ m, m < l → 1 < rW n m) (h1 : rW n l ≤ 1) : rT n = l := by
  unfold rT
  have z : l = 0 ∨ l = 1 ∨ l = 2 ∨ l = 3 := by omega
  rcases z with rfl | rfl | rfl | rfl
  · rw [if_pos h1]
  · rw [if_neg (by have := hu 0 (by omega); omega), if_pos h1]
  · rw [if_neg (by have := hu 0 (by omega); omega), if_neg (by have := hu 1 (by omega); omega), if_pos h1]
  · rw [if_neg (by have := hu 0 (by omega); omega), if_neg (by have := hu 1 (by omega); omega), if_neg (by have := hu 2 (by omega); omega)]
theorem rT_w {n : Nat} (h : 1 ≤ n ∧ n ≤ 512) : (∀ m, m < rT n → 1 < rW n m) ∧ rW n (rT n) = 1 := by
  obtain ⟨h0, h1, h2, h3⟩ := rW_le h
  unfold rT
  split
  · exact ⟨fun m hm => absurd hm (Nat.not_lt_zero m), by omega⟩
  · split
    · exact ⟨fun m hm => by obtain rfl : m = 0 := by omega
                            omega, by omega⟩
    · split
      · exact ⟨fun m hm => by
          have z : m = 0 ∨ m = 1 := by omega
          rcases z with rfl | rfl <;> omega, by omega⟩
      · exact ⟨fun m hm => by
          have z : m = 0 ∨ m = 1 ∨ m = 2 := by omega
          rcases z with rfl | rfl | rfl <;> omega, by omega⟩
/-- the releases, as the class holds them -/
def zRA (cn : Nat) (t : Nat → Nat → Int) (n : Nat → Nat) (I : ZI) : Prop := I 154 0 = cn ∧ cn ≤ 10 ∧ ∀ r, r < cn → (1 ≤ n r ∧ n r ≤ 512 ∧ I 156 r = n r) ∧ (∀ j, j < n r → I 155 (512 * r + j) = t r j ∧ 0 ≤ t r j ∧ t r j ≤ 255) ∧
  ∀ l k i, (∀ m, m < l → 1 < rW (n r) m) → k < rW (n r) l → i < 32 → I 157 (480 * r + 32 * (rO (n r) l + k) + i) = rD (t r) (n r) l k i
theorem zRA_fr {cn : Nat} {t : Nat → Nat → Int} {n : Nat → Nat} {I I' : ZI} (h : zRA cn t n I) (hf : ∀ c j, (c = 154 ∧ j = 0) ∨ c = 155 ∨ c = 156 ∨ c = 157 → I' c j = I c j) : zRA cn t n I' := by
  obtain ⟨h1, h2, h3⟩ := h
  refine ⟨(hf 154 0 (Or.inl ⟨rfl, rfl⟩)).trans h1, h2, fun r hr => ?_⟩
  obtain ⟨q1, q2, q3⟩ := h3 r hr
  refine ⟨⟨q1.1, q1.2.1, (hf 156 r (Or.inr (Or.inr (Or.inl rfl)))).trans q1.2.2⟩, fun j hj => ?_, fun l k i a1 a2 a3 => ?_⟩
  · obtain ⟨w1, w2⟩ := q2 j hj
    exact ⟨(hf 155 _ (Or.inr (Or.inl rfl))).trans w1, w2⟩
  · exact (hf 157 _ (Or.inr (Or.inr (Or.inr rfl)))).trans (q3 l k i a1 a2 a3)
/-- a proof's bytes behind so many rows -/
def pfK (k : Nat) : Nat → Nat
  | 0 => k
  | l + 1 => pfK k l / 2
def pfO (k : Nat) : Nat := if k % 2 = 0 then k + 1 else k - 1
def pfN (n k : Nat) : Nat → Nat
  | 0 => 0
  | l + 1 => pfN n k l + if pfO (pfK k l) < rW n l then 1 else 0
def pfB (t : Nat → Int) (n k : Nat) : Nat → Nat → Int
  | 0, _ => 0
  | l + 1, j => if j = 0 then (pfN n k (l + 1) : Nat) else if pfO (pfK k l) < rW n l then (if j = 1 + 33 * pfN n k l then (if pfO (pfK k l) < pfK k l then 0 else 1) else if 1 + 33 * pfN n k l < j ∧ j < 34 + 33 * pfN n k l then rD t n l (pfO (pfK k l)) (j - 2 - 33 * pfN n k l) else pfB t n k l j) else pfB t n k l j
theorem pfB_0 (t : Nat → Int) (n k : Nat) : ∀ l, pfB t n k l 0 = (pfN n k l : Nat)
  | 0 => rfl
  | l + 1 => if_pos rfl
theorem pfN_le (n k : Nat) : ∀ l, pfN n k l ≤ l
  | 0 => Nat.le_refl 0
  | l + 1 => by
    have h := pfN_le n k l
    show pfN n k l + (if _ then 1 else 0) ≤ _
    split <;> omega
theorem pfK_lt {n k : Nat} (h : k < rW n 0) : ∀ l, pfK k l < rW n l
  | 0 => h
  | l + 1 => by
    have h := pfK_lt h l
    show pfK k l / 2 < (rW n l + 1) / 2
    omega
/-! a check's bytes -/
def ckM (b : Nat → Int) (j : Nat) : Int := if j = 0 then 0 else if j < 3 then b j else b (j + 1)
def ckD (b : Nat → Int) (L : Nat) : Nat → Nat → Int
  | 0 => shD (ckM b) (3 + L)
  | s + 1 => shD (if b (5 + L + 33 * s) = 0 then rnM (fun i => b (6 + L + 33 * s + i)) (ckD b L s) else rnM (ckD b L s) (fun i => b (6 + L + 33 * s + i))) 65
theorem ckD_b (b : Nat → Int) (L : Nat) : ∀ s i, 0 ≤ ckD b L s i ∧ ckD b L s i ≤ 255
  | 0, i => shD_b _ _ _
  | s + 1, i => shD_b _ _ _
/-- its form -/
def ckF (cn : Nat) (b : Nat → Int) (bc : Nat) : Prop := b 0 < cn ∧ b 3 ≤ 64 ∧ 4 + b 3 < bc ∧ (bc : Int) = 5 + b 3 + 33 * b (4 + (b 3).toNat) ∧ ∀ s : Nat, (s : Int) < b (4 + (b 3).toNat) → b (5 + (b 3).toNat + 33 * s) ≤ 1
theorem shR_ext {W W' : Nat → Int} (s : Nat → Int) (hw : ∀ k, k < 64 → W k = W' k) : ∀ k, k ≤ 64 → shR W s k = shR W' s k := by
  intro k
  induction k with
  | zero => intro _; rfl
  | succ k ih =>
    intro hk
    funext i
    show (if i = 0 then zn (sh1 W k (shR W s k) + sh2 (shR W s k)) else if i = 4 then zn (shR W s k 3 + sh1 W k (shR W s k)) else shR W s k (i - 1)) = (if i = 0 then zn (sh1 W' k (shR W' s k) + sh2 (shR W' s k)) else if i = 4 then zn (shR W' s k 3 + sh1 W' k (shR W' s k)) else shR W' s k (i - 1))
    rw [ih (by omega)]
    have e : ∀ g, sh1 W k g = sh1 W' k g := fun g => by unfold sh1; rw [hw k (by omega)]
    rw [e]
theorem shB_ext {m m' : Nat → Int} {f : Nat} (h : ∀ j, f ≤ j → j < f + 64 → m j = m' j) (s : Nat → Int) (i : Nat) : shB m f s i = shB m' f s i := by
  have h1 := shR_ext s (W := shW m f 48) (W' := shW m' f 48) (fun k hk => shW_ext h 48 k (by omega)) 64 (Nat.le_refl _)
  unfold shB
  rw [h1]
/-- a byte of a word, by either shift -/
theorem zand_sh {x k : Int} (h : r32 x) (hk : k = 0 ∨ k = 8 ∨ k = 16 ∨ k = 24) : zand (zshr x (24 - k)) 255 = zand (zushr x (24 - k)) 255 := by
  rw [zand255, zand255]
  rcases hk with rfl | rfl | rfl | rfl
  · rw [show zshr x (24 - 0) = x / 16777216 from zshr_d x h 24 (by decide), show zushr x (24 - 0) = x % 4294967296 / 16777216 from zushr_d x 24 (by decide) (by decide)]; omega
  · rw [show zshr x (24 - 8) = x / 65536 from zshr_d x h 16 (by decide), show zushr x (24 - 8) = x % 4294967296 / 65536 from zushr_d x 16 (by decide) (by decide)]; omega
  · rw [show zshr x (24 - 16) = x / 256 from zshr_d x h 8 (by decide), show zushr x (24 - 16) = x % 4294967296 / 256 from zushr_d x 8 (by decide) (by decide)]; omega
  · rw [show zshr x (24 - 24) = x / 1 from zshr_d x h 0 (by decide), show zushr x (24 - 24) = zushr x 0 from rfl, zushr0, zn_id h]; omega
/-- two persons approved in unlike roles -/
def apr (ro : Nat → Int) : Prop := ∃ p q, p < 16 ∧ q < 16 ∧ ro p ≠ -1 ∧ ro q ≠ -1 ∧ ro p ≠ ro q
def roU (ro : Nat → Nat → Int) (a p role : Int) (x y : Nat) : Int := if x = a.toNat ∧ y = p.toNat then role else ro x y
/-- 'there is', hidden from omega -/
def zex (P : Nat → Prop) : Prop := ∃ q, P q
/-- what is checked: the bytes put together; one of them changed -/
def ckL (N k : Nat) : Nat := min 64 (N - 64 * k)
def ckC (N k : Nat) : Nat := 5 + ckL N k + 33 * pfN N k (rT N)
def ckB (t : Nat → Int) (N a k j : Nat) : Int := if j = 0 then (a : Nat) else if j = 1 then (k / 256 : Nat) else if j = 2 then (k % 256 : Nat) else if j = 3 then (ckL N k : Nat) else if j < 4 + ckL N k then t (64 * k + (j - 4)) else pfB t N k (rT N) (j - 4 - ckL N k)
def ckP (b : Nat → Int) (q m : Int) (j : Nat) : Int := if (j : Int) = q then zxor (b j) (zand m 255) else b j
def ckH (cn : Nat) (t : Nat → Nat → Int) (n : Nat → Nat) (b : Nat → Int) (bc : Nat) : Prop := ckF cn b bc ∧ ∀ i : Nat, i < 32 → ckD b (b 3).toNat (b (4 + (b 3).toNat)).toNat i = rD (t (b 0).toNat) (n (b 0).toNat) (rT (n (b 0).toNat)) 0 i
theorem zxor_byte {x y : Int} (hx : 0 ≤ x ∧ x ≤ 255) (hy : 0 ≤ y ∧ y ≤ 255) : 0 ≤ zxor x y ∧ zxor x y ≤ 255 := by
  have e : zxor x y = ((BitVec.ofInt 32 x) ^^^ (BitVec.ofInt 32 y)).toInt := rfl
  have h1 : (BitVec.ofInt 32 x).toNat < 2 ^ 8 := by rw [BitVec.toNat_ofInt]; omega
  have h2 : (BitVec.ofInt 32 y).toNat < 2 ^ 8 := by rw [BitVec.toNat_ofInt]; omega
  have h3 := Nat.xor_lt_two_pow h1 h2
  rw [e, BitVec.toInt_eq_toNat_of_lt (by rw [BitVec.toNat_xor]; omega), BitVec.toNat_xor]
  omega
theorem pfB_b (t : Nat → Int) (n k : Nat) : ∀ l j, l ≤ 3 → 0 ≤ pfB t n k l j ∧ pfB t n k l j ≤ 255
  | 0, j, _ => by show (0 : Int) ≤ 0 ∧ (0 : Int) ≤ 255; decide
  | l + 1, j, h => by
    have h1 := pfN_le n k (l + 1)
    unfold pfB
    split
    · omega
    · split
      · split
        · split <;> decide
        · split
          · exact rD_b _ _ _ _ _
          · exact pfB_b t n k l j (by omega)
      · exact pfB_b t n k l j (by omega)
theorem ckB_b {t : Nat → Int} {N a k : Nat} (ha : a ≤ 255) (hk : k ≤ 7) (ht : ∀ j, j < N → 0 ≤ t j ∧ t j ≤ 255) (j : Nat) : 0 ≤ ckB t N a k j ∧ ckB t N a k j ≤ 255 := by
  have h1 : ckL N k ≤ 64 ∧ ckL N k ≤ N - 64 * k := by unfold ckL; omega
  unfold ckB
  split
  · omega
  · split
    · omega
    · split
      · omega
      · split
        · omega
        · split
          · exact ht _ (by omega)
          · exact pfB_b t N k (rT N) _ (rT_le N)
/-- the bits of the roles, as the reference puts them together -/
theorem bit_or (x : Nat) (hx : x < 32) (h2 : x % 2 = 0) (k : Nat) (hk : k < 5) (h1 : 1 ≤ k) : 0 ≤ zor (x : Int) (zshl 1 (k : Int)) ∧ (zor (x : Int) (zshl 1 (k : Int))).toNat < 32 ∧ (zor (x : Int) (zshl 1 (k : Int))).toNat % 2 = 0 ∧ ∀ i : Nat, i < 5 → ((zor (x : Int) (zshl 1 (k : Int))).toNat / 2 ^ i % 2 = 1 ↔ x / 2 ^ i % 2 = 1 ∨ i = k) := by
  have h : ((List.range 32).all fun x => (List.range 5).all fun k => !(decide (x % 2 = 0)) || (!(decide (1 ≤ k)) || (decide (0 ≤ zor (x : Int) (zshl 1 (k : Int))) && (decide ((zor (x : Int) (zshl 1 (k : Int))).toNat < 32) && (decide ((zor (x : Int) (zshl 1 (k : Int))).toNat % 2 = 0) && (List.range 5).all fun i => decide ((zor (x : Int) (zshl 1 (k : Int))).toNat / 2 ^ i % 2 = 1 ↔ x / 2 ^ i % 2 = 1 ∨ i = k)))))) = true := by decide +kernel
  have q := List.all_eq_true.mp (List.all_eq_true.mp h x (List.mem_range.mpr hx)) k (List.mem_range.mpr hk)
  rw [decide_eq_true h2, decide_eq_true h1] at q
  simp only [Bool.not_true, Bool.false_or, Bool.and_eq_true, decide_eq_true_eq] at q
  exact ⟨q.1, q.2.1, q.2.2.1, fun i hi => of_decide_eq_true (List.all_eq_true.mp q.2.2.2 i (List.mem_range.mpr hi))⟩
theorem bit_two : ∀ x : Nat, x < 32 → x % 2 = 0 → (zand (x : Int) ((x : Int) - 1) ≠ 0 ↔ ∃ i : Nat, i < 5 ∧ ∃ j : Nat, j < 5 ∧ i ≠ j ∧ x / 2 ^ i % 2 = 1 ∧ x / 2 ^ j % 2 = 1) := by
  have h : ∀ x : Nat, x < 32 → x % 2 = 0 → ((decide (zand (x : Int) ((x : Int) - 1) ≠ 0)) = ((List.range 5).any fun i => (List.range 5).any fun j => decide (i ≠ j) && (decide (x / 2 ^ i % 2 = 1) && decide (x / 2 ^ j % 2 = 1)))) := by decide +kernel
  intro x h1 h2
  have h3 := h x h1 h2
  constructor
  · intro q
    rw [decide_eq_true q] at h3
    obtain ⟨i, hi, q1⟩ := List.any_eq_true.mp h3.symm
    obtain ⟨j, hj, q2⟩ := List.any_eq_true.mp q1
    simp only [Bool.and_eq_true, decide_eq_true_eq] at q2
    exact ⟨i, List.mem_range.mp hi, j, List.mem_range.mp hj, q2.1, q2.2.1, q2.2.2⟩
  · rintro ⟨i, hi, j, hj, q1, q2, q3⟩
    refine of_decide_eq_true (h3.trans ?_)
    refine List.any_eq_true.mpr ⟨i, List.mem_range.mpr hi, List.any_eq_true.mpr ⟨j, List.mem_range.mpr hj, ?_⟩⟩
    simp only [Bool.and_eq_true, decide_eq_true_eq]
    exact ⟨q1, q2, q3⟩
theorem bit_twoI {b : Int} (h0 : 0 ≤ b ∧ b < 32) (h2 : b.toNat % 2 = 0) : zand b (b - 1) ≠ 0 ↔ ∃ i : Nat, i < 5 ∧ ∃ j : Nat, j < 5 ∧ i ≠ j ∧ b.toNat / 2 ^ i % 2 = 1 ∧ b.toNat / 2 ^ j % 2 = 1 := by
  have e : ((b.toNat : Nat) : Int) = b := by omega
  have hb : b.toNat < 32 := by omega
  have w := bit_two b.toNat hb h2
  rw [e] at w
  exact w
