/-! xr -/
def T_W_add : ZT := fun args I L R S Q => ∃ (k : Nat) (n : Nat) (lo : Int) (hi : Int) (x : Int) (y : Int) (a : Int) (b : Int) (r : Int) (pin : Int), args = [zvr k, zvi lo, zvi hi, zvl x, zvl y, zvl a, zvl b, zvl r, zvi pin] ∧ (zSh S) ∧ (zRs R) ∧ (zDy zT15 zF15 k R S) ∧ (I k 2 = n) ∧ (n ≤ 59) ∧ (r32 lo ∧ r32 hi ∧ r32 pin ∧ r64 x ∧ r64 y ∧ r64 a ∧ r64 b ∧ r64 r) ∧ ∀ (v : Int) (I' : ZI) (L' : ZI), (v = n) → (I' k 2 = n + 1) → (zPw k n lo hi pin x y a b r I' L') → (∀ c j : Nat, ¬ (c = k ∧ j = 2) → ¬ (c = k + 1 ∧ j = n) → ¬ (c = k + 2 ∧ j = n) → ¬ (c = k + 3 ∧ j = n) → ¬ (c = k + 9 ∧ j = n) → I' c j = I c j) → (∀ c j : Nat, ¬ (c = k + 4 ∧ j = n) → ¬ (c = k + 5 ∧ j = n) → ¬ (c = k + 6 ∧ j = n) → ¬ (c = k + 7 ∧ j = n) → ¬ (c = k + 8 ∧ j = n) → L' c j = L c j) → Q (some (zvi (v))) I' L' R S
theorem sn_W_add : ZSnd 1 15 0 T_W_add := ZSnd.of (zT15_0 0) (by
  rintro args I L R S Q hz ⟨k, n, lo, hi, x, y, a, b, r, pin, rfl, hS, hR, hd, hn, hn2, hr, hQ⟩
  have hk5 := hd.1
  refine And.intro rfl ?_
  refine And.intro (zDX hd 0 rfl) (zrd (v := n) hn ?_)
  refine And.intro ⟨(by omega), (zRb rfl)⟩ ⟨fun h6 => ?_, (fun h6 => False.elim (by omega))⟩
  refine And.intro (zDX hd 0 rfl) (zrdR (v := some (k + 1)) (zDR hd 0 rfl) ?_)
  refine And.intro (zDX hd 0 rfl) (zrd (v := n) hn ?_)
  refine And.intro ⟨(by show 40 ≤ _; omega), Or.inr ⟨(zDP hd 1 rfl rfl (by omega) (by omega)), (Or.inr rfl)⟩⟩ ?_
  refine And.intro (zDX hd 0 rfl) (zrdR (v := some (k + 2)) (zDR hd 1 rfl) ?_)
  refine And.intro (zDX hd 0 rfl) (zrd (v := n) (zxu (by omega) hn) ?_)
  refine And.intro ⟨(by show 40 ≤ _; omega), (zDP hd 2 rfl rfl (by omega) (by omega))⟩ ⟨_, (zWi (by omega)), ?_⟩
  refine And.intro (zDX hd 0 rfl) (zrdR (v := some (k + 3)) (zDR hd 2 rfl) ?_)
  refine And.intro (zDX hd 0 rfl) (zrd (v := n) (zxu (by omega) (zxu (by omega) hn)) ?_)
  refine And.intro ⟨(by show 40 ≤ _; omega), (zDP hd 3 rfl rfl (by omega) (by omega))⟩ ⟨_, (zWi (by omega)), ?_⟩
  refine And.intro (zDX hd 0 rfl) (zrdR (v := some (k + 4)) (zDR hd 3 rfl) ?_)
  refine And.intro (zDX hd 0 rfl) (zrd (v := n) (zxu (by omega) (zxu (by omega) (zxu (by omega) hn))) ?_)
  refine And.intro ⟨(by show 40 ≤ _; omega), (zDP hd 4 rfl rfl (by omega) (by omega))⟩ ⟨_, zW6i (by omega), ?_⟩
  refine And.intro (zDX hd 0 rfl) (zrdR (v := some (k + 5)) (zDR hd 4 rfl) ?_)
  refine And.intro (zDX hd 0 rfl) (zrd (v := n) (zxu (by omega) (zxu (by omega) (zxu (by omega) hn))) ?_)
  refine And.intro ⟨(by show 40 ≤ _; omega), (zDP hd 5 rfl rfl (by omega) (by omega))⟩ ⟨_, zW6i (by omega), ?_⟩
  refine And.intro (zDX hd 0 rfl) (zrdR (v := some (k + 6)) (zDR hd 5 rfl) ?_)
  refine And.intro (zDX hd 0 rfl) (zrd (v := n) (zxu (by omega) (zxu (by omega) (zxu (by omega) hn))) ?_)
  refine And.intro ⟨(by show 40 ≤ _; omega), (zDP hd 6 rfl rfl (by omega) (by omega))⟩ ⟨_, zW6i (by omega), ?_⟩
  refine And.intro (zDX hd 0 rfl) (zrdR (v := some (k + 7)) (zDR hd 6 rfl) ?_)
  refine And.intro (zDX hd 0 rfl) (zrd (v := n) (zxu (by omega) (zxu (by omega) (zxu (by omega) hn))) ?_)
  refine And.intro ⟨(by show 40 ≤ _; omega), (zDP hd 7 rfl rfl (by omega) (by omega))⟩ ⟨_, zW6i (by omega), ?_⟩
  refine And.intro (zDX hd 0 rfl) (zrdR (v := some (k + 8)) (zDR hd 7 rfl) ?_)
  refine And.intro (zDX hd 0 rfl) (zrd (v := n) (zxu (by omega) (zxu (by omega) (zxu (by omega) hn))) ?_)
  refine And.intro ⟨(by show 40 ≤ _; omega), (zDP hd 8 rfl rfl (by omega) (by omega))⟩ ⟨_, zW6i (by omega), ?_⟩
  refine And.intro (zDX hd 0 rfl) (zrdR (v := some (k + 9)) (zDR hd 8 rfl) ?_)
  refine And.intro (zDX hd 0 rfl) (zrd (v := n) (zxu (by omega) (zxu (by omega) (zxu (by omega) hn))) ?_)
  refine And.intro ⟨(by show 40 ≤ _; omega), (zDP hd 9 rfl rfl (by omega) (by omega))⟩ ⟨_, (zWi (by omega)), ?_⟩
  refine And.intro (zDX hd 0 rfl) (zrd (v := n) (zxu (by omega) (zxu (by omega) (zxu (by omega) (zxu (by omega) hn)))) ?_)
  refine And.intro (zDX hd 0 rfl) ⟨_, (zWi (by omega)), ?_⟩
  refine And.intro (zDX hd 0 rfl) (zrd (v := (n + 1)) zxe ?_)
  refine hQ _ _ _ (by omega) (by first | exact zxe | exact zxe.trans (by omega)) ⟨⟨(by repeat (first | exact zxe | refine zxu (by omega) ?_ | refine zxs (by omega) ?_)), (by repeat (first | exact zxe | refine zxu (by omega) ?_ | refine zxs (by omega) ?_)), (by repeat (first | exact zxe | refine zxu (by omega) ?_ | refine zxs (by omega) ?_)), (by repeat (first | exact zxe | refine zxu (by omega) ?_ | refine zxs (by omega) ?_))⟩, ⟨(by repeat (first | exact zxe | refine zxu (by omega) ?_ | refine zxs (by omega) ?_)), (by repeat (first | exact zxe | refine zxu (by omega) ?_ | refine zxs (by omega) ?_))⟩, ⟨(by repeat (first | exact zxe | refine zxu (by omega) ?_ | refine zxs (by omega) ?_)), (by repeat (first | exact zxe | refine zxu (by omega) ?_ | refine zxs (by omega) ?_))⟩, (by repeat (first | exact zxe | refine zxu (by omega) ?_ | refine zxs (by omega) ?_))⟩ (fun c j h0 h1 h2 h3 h4 => (zxcj h0 (zxcj (by omega) (zxcj (by omega) (zxcj (by omega) (zxcj (by omega) rfl)))))) (fun c j h0 h1 h2 h3 h4 => (zxcj (by omega) (zxcj (by omega) (zxcj (by omega) (zxcj (by omega) (zxcj (by omega) rfl)))))))
def T_W_shp : ZT := fun args I L R S Q => ∃ (k : Nat) (n : Nat) (D : Int) (lo : Int) (x : Int) (y : Int) (a : Int) (b : Int), args = [zvr k, zvi lo, zvl x, zvl y, zvl a, zvl b] ∧ (zSh S) ∧ (zRs R) ∧ (zDy zT15 zF15 k R S) ∧ (I k 2 = n) ∧ (n ≤ 59) ∧ (I k 1 = D) ∧ (((0 ≤ lo ∧ lo < D) ∧ D ≤ 8) ∧ (-100000 ≤ x ∧ x ≤ 100000) ∧ (-100000 ≤ y ∧ y ≤ 100000) ∧ (1 ≤ a ∧ a ≤ 100000) ∧ 1 ≤ b ∧ b ≤ 100000) ∧ ∀ (v : Int) (I' : ZI) (L' : ZI), (v = n) → (I' k 2 = n + 1) → (zPw k n lo lo (-1) x y a b 0 I' L') → (∀ c j : Nat, ¬ (c = k ∧ j = 0) → ¬ (c = k ∧ j = 2) → ¬ (c = k + 1 ∧ j = n) → ¬ (c = k + 2 ∧ j = n) → ¬ (c = k + 3 ∧ j = n) → ¬ (c = k + 9 ∧ j = n) → I' c j = I c j) → (∀ c j : Nat, ¬ (c = k + 4 ∧ j = n) → ¬ (c = k + 5 ∧ j = n) → ¬ (c = k + 6 ∧ j = n) → ¬ (c = k + 7 ∧ j = n) → ¬ (c = k + 8 ∧ j = n) → L' c j = L c j) → Q (some (zvi (v))) I' L' R S
theorem sn_W_shp : ZSnd 2 15 23 T_W_shp := ZSnd.of (zT15_23 1) (by
  rintro args I L R S Q hz ⟨k, n, D, lo, x, y, a, b, rfl, hS, hR, hd, hn, hn2, hD_, hb, hQ⟩
  have hk5 := hd.1
  refine And.intro rfl ?_
  refine Exists.intro _ (And.intro (zinl_ok (zT15_12 0)) (And.intro rfl ?_))
  refine ⟨_, _, ⟨zW6i (by omega), zW6i (zRL rfl)⟩, fun z4_3 c4_3 => ?_⟩
  refine And.intro c4_3.2.2 ⟨(fun h5_3 => False.elim (by omega)), fun h5_3 => ?_⟩
  refine ⟨_, _, ⟨zW6i (by omega), zW6i (zRL rfl)⟩, fun z12_3 c12_3 => ?_⟩
  refine And.intro c12_3.2.2 ⟨(fun h13_3 => False.elim (by omega)), fun h13_3 => ?_⟩
  refine ⟨_, _, ⟨zW6i (by omega), zW6i (zRL rfl)⟩, fun z20_3 c20_3 => ?_⟩
  refine And.intro c20_3.2.2 ⟨(fun h21_3 => False.elim (by omega)), fun h21_3 => ?_⟩
  refine ⟨_, _, ⟨zW6i (by omega), zW6i (zRL rfl)⟩, fun z28_3 c28_3 => ?_⟩
  refine And.intro c28_3.2.2 ⟨(fun h29_3 => False.elim (by omega)), fun h29_3 => ?_⟩
  refine And.intro (Or.inr rfl) ?_
  refine And.intro (zRb rfl) (zbf rfl ?_)
  refine Exists.intro _ (And.intro (zinl_ok (zT15_14 0)) (And.intro rfl ?_))
  refine ⟨_, _, ⟨zW6i (by omega), zW6i (zRL rfl)⟩, fun z2_11 c2_11 => ?_⟩
  refine And.intro c2_11.2.2 ⟨(fun h3_11 => False.elim (by omega)), fun h3_11 => ?_⟩
  refine ⟨_, _, ⟨zW6i (by omega), zW6i (zRL rfl)⟩, fun z10_11 c10_11 => ?_⟩
  refine And.intro c10_11.2.2 ⟨(fun h11_11 => False.elim (by omega)), fun h11_11 => ?_⟩
  refine And.intro (Or.inr rfl) ?_
  refine And.intro (zRb rfl) (zbf rfl ?_)
  refine Exists.intro _ (And.intro (zinl_ok (zT15_14 0)) (And.intro rfl ?_))
  refine ⟨_, _, ⟨zW6i (by omega), zW6i (zRL rfl)⟩, fun z2_19 c2_19 => ?_⟩
  refine And.intro c2_19.2.2 ⟨(fun h3_19 => False.elim (by omega)), fun h3_19 => ?_⟩
  refine ⟨_, _, ⟨zW6i (by omega), zW6i (zRL rfl)⟩, fun z10_19 c10_19 => ?_⟩
  refine And.intro c10_19.2.2 ⟨(fun h11_19 => False.elim (by omega)), fun h11_19 => ?_⟩
  refine And.intro (Or.inr rfl) ?_
  refine And.intro (zRb rfl) (zbf rfl ?_)
  refine And.intro (zDX hd 0 rfl) (Exists.intro _ (And.intro (zinl_ok (zT15_8 0)) (And.intro rfl ?_)))
  refine And.intro (by omega) ⟨(fun h1_35 => False.elim (by omega)), fun h1_35 => ?_⟩
  refine And.intro (zDX hd 0 rfl) (zrd (v := D) hD_ ?_)
  refine And.intro ⟨(by omega), (by omega)⟩ ⟨(fun h9_35 => False.elim (by omega)), fun h9_35 => ?_⟩
  refine And.intro (Or.inr rfl) ?_
  refine And.intro (zRb rfl) (zbt rfl ?_)
  refine And.intro (zRb rfl) (zbf rfl ?_)
  refine And.intro (zDX hd 0 rfl) ⟨_, (zWi (zRb rfl)), ?_⟩
  refine And.intro (zDX hd 0 rfl) (zrd (v := 0) zxe ?_)
  refine And.intro (zRb rfl) (zbf rfl ?_)
  refine And.intro (zDX hd 0 rfl) ⟨_, sn_W_add.up (by decide), ?_⟩
  refine ⟨_, n, (lo : Int), (lo : Int), (x : Int), (y : Int), (a : Int), (b : Int), (0 : Int), ((-1) : Int), rfl, hS, hR, hd, (zxs (by decide) hn), (by omega), (by omega), ?_⟩
  intro v77o I77o L77o p77hv p77bh2 p77bbhw p77bbbfr p77bbbbfrL
  refine hQ _ _ _ (by omega) p77bh2 p77bbhw (fun c j h0 h1 h2 h3 h4 h5 => ((p77bbbfr c j h1 (by omega) (by omega) (by omega) (by omega)).trans (zxcj h0 rfl))) (fun c j h0 h1 h2 h3 h4 => ((p77bbbbfrL c j (by omega) (by omega) (by omega) (by omega) (by omega)).trans rfl)))
def T_W_via : ZT := fun args I L R S Q => ∃ (k : Nat) (n : Nat) (D : Int) (lo : Int) (hi : Int) (x : Int) (y : Int) (r : Int), args = [zvr k, zvi lo, zvi hi, zvl x, zvl y, zvl r] ∧ (zSh S) ∧ (zRs R) ∧ (zDy zT15 zF15 k R S) ∧ (I k 2 = n) ∧ (n ≤ 59) ∧ (I k 1 = D) ∧ (((0 ≤ lo ∧ lo < D) ∧ D ≤ 8) ∧ (lo ≤ hi ∧ hi < D) ∧ (-100000 ≤ x ∧ x ≤ 100000) ∧ (-100000 ≤ y ∧ y ≤ 100000) ∧ 1 ≤ r ∧ r ≤ 1000) ∧ ∀ (v : Int) (I' : ZI) (L' : ZI), (v = n) → (I' k 2 = n + 1) → (zPw k n lo hi (-1) x y 0 0 r I' L') → (∀ c j : Nat, ¬ (c = k ∧ j = 0) → ¬ (c = k ∧ j = 2) → ¬ (c = k + 1 ∧ j = n) → ¬ (c = k + 2 ∧ j = n) → ¬ (c = k + 3 ∧ j = n) → ¬ (c = k + 9 ∧ j = n) → I' c j = I c j) → (∀ c j : Nat, ¬ (c = k + 4 ∧ j = n) → ¬ (c = k + 5 ∧ j = n) → ¬ (c = k + 6 ∧ j = n) → ¬ (c = k + 7 ∧ j = n) → ¬ (c = k + 8 ∧ j = n) → L' c j = L c j) → Q (some (zvi (v))) I' L' R S
theorem sn_W_via : ZSnd 2 15 27 T_W_via := ZSnd.of (zT15_27 1) (by
  rintro args I L R S Q hz ⟨k, n, D, lo, hi, x, y, r, rfl, hS, hR, hd, hn, hn2, hD_, hb, hQ⟩
  have hk5 := hd.1
  refine And.intro rfl ?_
  refine And.intro ⟨(by omega), (by omega)⟩ ⟨(fun h2 => False.elim (by omega)), fun h2 => ?_⟩
  refine Exists.intro _ (And.intro (zinl_ok (zT15_12 0)) (And.intro rfl ?_))
  refine ⟨_, _, ⟨zW6i (by omega), zW6i (zRL rfl)⟩, fun z4_8 c4_8 => ?_⟩
  refine And.intro c4_8.2.2 ⟨(fun h5_8 => False.elim (by omega)), fun h5_8 => ?_⟩
  refine ⟨_, _, ⟨zW6i (by omega), zW6i (zRL rfl)⟩, fun z12_8 c12_8 => ?_⟩
  refine And.intro c12_8.2.2 ⟨(fun h13_8 => False.elim (by omega)), fun h13_8 => ?_⟩
  refine ⟨_, _, ⟨zW6i (by omega), zW6i (zRL rfl)⟩, fun z20_8 c20_8 => ?_⟩
  refine And.intro c20_8.2.2 ⟨(fun h21_8 => False.elim (by omega)), fun h21_8 => ?_⟩
  refine ⟨_, _, ⟨zW6i (by omega), zW6i (zRL rfl)⟩, fun z28_8 c28_8 => ?_⟩
  refine And.intro c28_8.2.2 ⟨(fun h29_8 => False.elim (by omega)), fun h29_8 => ?_⟩
  refine And.intro (Or.inr rfl) ?_
  refine And.intro (zRb rfl) (zbf rfl ?_)
  refine Exists.intro _ (And.intro (zinl_ok (zT15_14 0)) (And.intro rfl ?_))
  refine ⟨_, _, ⟨zW6i (by omega), zW6i (zRL rfl)⟩, fun z2_16 c2_16 => ?_⟩
  refine And.intro c2_16.2.2 ⟨(fun h3_16 => False.elim (by omega)), fun h3_16 => ?_⟩
  refine ⟨_, _, ⟨zW6i (by omega), zW6i (zRL rfl)⟩, fun z10_16 c10_16 => ?_⟩
  refine And.intro c10_16.2.2 ⟨(fun h11_16 => False.elim (by omega)), fun h11_16 => ?_⟩
  refine And.intro (Or.inr rfl) ?_
  refine And.intro (zRb rfl) (zbf rfl ?_)
  refine And.intro (zDX hd 0 rfl) (Exists.intro _ (And.intro (zinl_ok (zT15_8 0)) (And.intro rfl ?_)))
  refine And.intro (by omega) ⟨(fun h1_32 => False.elim (by omega)), fun h1_32 => ?_⟩
  refine And.intro (zDX hd 0 rfl) (zrd (v := D) hD_ ?_)
  refine And.intro ⟨(by omega), (by omega)⟩ ⟨(fun h9_32 => False.elim (by omega)), fun h9_32 => ?_⟩
  refine And.intro (Or.inr rfl) ?_
  refine And.intro (zRb rfl) (zbf rfl ?_)
  refine And.intro (zDX hd 0 rfl) (Exists.intro _ (And.intro (zinl_ok (zT15_8 0)) (And.intro rfl ?_)))
  refine And.intro (by omega) ⟨(fun h1_40 => False.elim (by omega)), fun h1_40 => ?_⟩
  refine And.intro (zDX hd 0 rfl) (zrd (v := D) hD_ ?_)
  refine And.intro ⟨(by omega), (by omega)⟩ ⟨(fun h9_40 => False.elim (by omega)), fun h9_40 => ?_⟩
  refine And.intro (Or.inr rfl) ?_
  refine And.intro (zRb rfl) (zbt rfl ?_)
  refine And.intro (zRb rfl) (zbf rfl ?_)
  refine And.intro (zDX hd 0 rfl) ⟨_, (zWi (zRb rfl)), ?_⟩
  refine And.intro (zDX hd 0 rfl) (zrd (v := 0) zxe ?_)
  refine And.intro (zRb rfl) (zbf rfl ?_)
  refine And.intro (zDX hd 0 rfl) ⟨_, sn_W_add.up (by decide), ?_⟩
  refine ⟨_, n, (lo : Int), (hi : Int), (x : Int), (y : Int), (0 : Int), (0 : Int), (r : Int), ((-1) : Int), rfl, hS, hR, hd, (zxs (by decide) hn), (by omega), (by omega), ?_⟩
  intro v81o I81o L81o p81hv p81bh2 p81bbhw p81bbbfr p81bbbbfrL
  refine hQ _ _ _ (by omega) p81bh2 p81bbhw (fun c j h0 h1 h2 h3 h4 h5 => ((p81bbbfr c j h1 (by omega) (by omega) (by omega) (by omega)).trans (zxcj h0 rfl))) (fun c j h0 h1 h2 h3 h4 => ((p81bbbbfrL c j (by omega) (by omega) (by omega) (by omega) (by omega)).trans rfl)))
def T_W_pad : ZT := fun args I L R S Q => ∃ (k : Nat) (n : Nat) (D : Int) (pin : Int) (lo : Int) (x : Int) (y : Int) (r : Int), args = [zvr k, zvi pin, zvi lo, zvl x, zvl y, zvl r] ∧ (zSh S) ∧ (zRs R) ∧ (zDy zT15 zF15 k R S) ∧ (I k 2 = n) ∧ (n ≤ 59) ∧ (I k 1 = D) ∧ (((0 ≤ lo ∧ lo < D) ∧ D ≤ 8) ∧ (0 ≤ pin ∧ pin < 40) ∧ (-100000 ≤ x ∧ x ≤ 100000) ∧ (-100000 ≤ y ∧ y ≤ 100000) ∧ 1 ≤ r ∧ r ≤ 1000) ∧ ∀ (v : Int) (I' : ZI) (L' : ZI), (v = n) → (I' k 2 = n + 1) → (zPw k n lo lo pin x y 0 0 r I' L') → (∀ c j : Nat, ¬ (c = k ∧ j = 0) → ¬ (c = k ∧ j = 2) → ¬ (c = k + 1 ∧ j = n) → ¬ (c = k + 2 ∧ j = n) → ¬ (c = k + 3 ∧ j = n) → ¬ (c = k + 9 ∧ j = n) → I' c j = I c j) → (∀ c j : Nat, ¬ (c = k + 4 ∧ j = n) → ¬ (c = k + 5 ∧ j = n) → ¬ (c = k + 6 ∧ j = n) → ¬ (c = k + 7 ∧ j = n) → ¬ (c = k + 8 ∧ j = n) → L' c j = L c j) → Q (some (zvi (v))) I' L' R S
theorem sn_W_pad : ZSnd 2 15 20 T_W_pad := ZSnd.of (zT15_20 1) (by
  rintro args I L R S Q hz ⟨k, n, D, pin, lo, x, y, r, rfl, hS, hR, hd, hn, hn2, hD_, hb, hQ⟩
  have hk5 := hd.1
  refine And.intro rfl ?_
  refine Exists.intro _ (And.intro (zinl_ok (zT15_11 0)) (And.intro rfl ?_))
  refine And.intro (by omega) ⟨(fun h1_2 => False.elim (by omega)), fun h1_2 => ?_⟩
  refine And.intro ⟨(by omega), (zRb rfl)⟩ ⟨(fun h7_2 => False.elim (by omega)), fun h7_2 => ?_⟩
  refine And.intro (Or.inr rfl) ?_
  refine And.intro (zRb rfl) (zbf rfl ?_)
  refine And.intro (zDX hd 0 rfl) (Exists.intro _ (And.intro (zinl_ok (zT15_8 0)) (And.intro rfl ?_)))
  refine And.intro (by omega) ⟨(fun h1_10 => False.elim (by omega)), fun h1_10 => ?_⟩
  refine And.intro (zDX hd 0 rfl) (zrd (v := D) hD_ ?_)
  refine And.intro ⟨(by omega), (by omega)⟩ ⟨(fun h9_10 => False.elim (by omega)), fun h9_10 => ?_⟩
  refine And.intro (Or.inr rfl) ?_
  refine And.intro (zRb rfl) (zbt rfl ?_)
  refine Exists.intro _ (And.intro (zinl_ok (zT15_12 0)) (And.intro rfl ?_))
  refine ⟨_, _, ⟨zW6i (by omega), zW6i (zRL rfl)⟩, fun z4_23 c4_23 => ?_⟩
  refine And.intro c4_23.2.2 ⟨(fun h5_23 => False.elim (by omega)), fun h5_23 => ?_⟩
  refine ⟨_, _, ⟨zW6i (by omega), zW6i (zRL rfl)⟩, fun z12_23 c12_23 => ?_⟩
  refine And.intro c12_23.2.2 ⟨(fun h13_23 => False.elim (by omega)), fun h13_23 => ?_⟩
  refine ⟨_, _, ⟨zW6i (by omega), zW6i (zRL rfl)⟩, fun z20_23 c20_23 => ?_⟩
  refine And.intro c20_23.2.2 ⟨(fun h21_23 => False.elim (by omega)), fun h21_23 => ?_⟩
  refine ⟨_, _, ⟨zW6i (by omega), zW6i (zRL rfl)⟩, fun z28_23 c28_23 => ?_⟩
  refine And.intro c28_23.2.2 ⟨(fun h29_23 => False.elim (by omega)), fun h29_23 => ?_⟩
  refine And.intro (Or.inr rfl) ?_
  refine And.intro (zRb rfl) (zbf rfl ?_)
  refine Exists.intro _ (And.intro (zinl_ok (zT15_14 0)) (And.intro rfl ?_))
  refine ⟨_, _, ⟨zW6i (by omega), zW6i (zRL rfl)⟩, fun z2_31 c2_31 => ?_⟩
  refine And.intro c2_31.2.2 ⟨(fun h3_31 => False.elim (by omega)), fun h3_31 => ?_⟩
  refine ⟨_, _, ⟨zW6i (by omega), zW6i (zRL rfl)⟩, fun z10_31 c10_31 => ?_⟩
  refine And.intro c10_31.2.2 ⟨(fun h11_31 => False.elim (by omega)), fun h11_31 => ?_⟩
  refine And.intro (Or.inr rfl) ?_
  refine And.intro (zRb rfl) (zbf rfl ?_)
  refine And.intro (zDX hd 0 rfl) ⟨_, (zWi (zRb rfl)), ?_⟩
  refine And.intro (zDX hd 0 rfl) (zrd (v := 0) zxe ?_)
  refine And.intro (zRb rfl) (zbf rfl ?_)
  refine And.intro (zDX hd 0 rfl) ⟨_, sn_W_add.up (by decide), ?_⟩
  refine ⟨_, n, (lo : Int), (lo : Int), (x : Int), (y : Int), (0 : Int), (0 : Int), (r : Int), (pin : Int), rfl, hS, hR, hd, (zxs (by decide) hn), (by omega), (by omega), ?_⟩
  intro v63o I63o L63o p63hv p63bh2 p63bbhw p63bbbfr p63bbbbfrL
  refine hQ _ _ _ (by omega) p63bh2 p63bbhw (fun c j h0 h1 h2 h3 h4 h5 => ((p63bbbfr c j h1 (by omega) (by omega) (by omega) (by omega)).trans (zxcj h0 rfl))) (fun c j h0 h1 h2 h3 h4 => ((p63bbbbfrL c j (by omega) (by omega) (by omega) (by omega) (by omega)).trans rfl)))
def T_W_plns : ZT := fun args I L R S Q => ∃ (k : Nat) (q : Nat) (c : Int), args = [zvr k, zvi q, zvi c] ∧ (zSh S) ∧ (zRs R) ∧ (zDy zT15 zF15 k R S) ∧ (q ≤ 39 ∧ 0 ≤ c ∧ c ≤ 19) ∧ ∀ (v : Int) (I' : ZI), (I' (k + 10) q = c) → (∀ c j : Nat, ¬ (c = k ∧ j = 0) → ¬ (c = k + 10 ∧ j = q) → I' c j = I c j) → Q (some (zvi (v))) I' L R S
theorem sn_W_plns : ZSnd 2 15 22 T_W_plns := ZSnd.of (zT15_22 1) (by
  rintro args I L R S Q hz ⟨k, q, c, rfl, hS, hR, hd, hq, hQ⟩
  have hk5 := hd.1
  refine And.intro rfl ?_
  refine Exists.intro _ (And.intro (zinl_ok (zT15_11 0)) (And.intro rfl ?_))
  refine And.intro (by omega) ⟨(fun h1_2 => False.elim (by omega)), fun h1_2 => ?_⟩
  refine And.intro ⟨(by omega), (zRb rfl)⟩ ⟨(fun h7_2 => False.elim (by omega)), fun h7_2 => ?_⟩
  refine And.intro (Or.inr rfl) ?_
  refine And.intro (zRb rfl) (zbt rfl ?_)
  refine And.intro ⟨(by omega), (zRb rfl)⟩ ⟨(fun h14 => False.elim (by omega)), fun h14 => ?_⟩
  refine Exists.intro _ (And.intro (zinl_ok (zT15_9 0)) (And.intro rfl ?_))
  refine And.intro (by omega) ⟨(fun h1_18 => False.elim (by omega)), fun h1_18 => ?_⟩
  refine And.intro ⟨(by omega), (zRb rfl)⟩ ⟨(fun h7_18 => False.elim (by omega)), fun h7_18 => ?_⟩
  refine And.intro (Or.inr rfl) ?_
  refine And.intro (zRb rfl) (zbf rfl ?_)
  refine And.intro (zDX hd 0 rfl) ⟨_, (zWi (zRb rfl)), ?_⟩
  refine And.intro (zDX hd 0 rfl) (zrd (v := 0) zxe ?_)
  refine And.intro (zRb rfl) (zbf rfl ?_)
  refine And.intro (zDX hd 0 rfl) (zrdR (v := some (k + 10)) (zDR hd 9 rfl) ?_)
  refine And.intro (zDP hd 10 rfl rfl (by omega) (by omega)) (fun v44 e44 r44 => ?_)
  have f44 : v44 = I (k + 10) q := (by have y : xu I k 0 0 (k + 10) q = I (k + 10) q := zxu (by omega) rfl; exact e44.trans y)
  refine And.intro ⟨r44, (by omega)⟩ ⟨fun h46 => ?_, fun h46 => ?_⟩
  · refine And.intro (zDX hd 0 rfl) (zrdR (v := some (k + 10)) (zDR hd 9 rfl) ?_)
    refine And.intro ⟨(by show 40 ≤ _; omega), (zDP hd 10 rfl rfl (by omega) (by omega))⟩ ⟨_, (zWi (by omega)), ?_⟩
    refine And.intro (Or.inr rfl) ?_
    refine hQ _ _ (by first | exact zxe | exact (zxu (by omega) rfl : _ = I (k + 10) q).trans (by omega) | omega) (fun c j h0 h1 => (zxcj (by omega) (zxcj h0 rfl)))
  · refine And.intro (Or.inl rfl) ?_
    refine hQ _ _ (by first | exact zxe | exact (zxu (by omega) rfl : _ = I (k + 10) q).trans (by omega) | omega) (fun c j h0 h1 => (zxcj h0 rfl)))
