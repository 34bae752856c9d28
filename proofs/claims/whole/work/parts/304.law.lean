/-! THE LAW: out of a contract for each call of both sides -/
theorem pl_cA : Xr xP 1500 (xP 11 23) (xfind (xP 11 23).2.2.2.2.2 0).1 (xfind (xP 11 23).2.2.2.2.2 0).2 (lv_args 0 [.ref 40]) [] (xnew xmh 11 20) (fun v m => v = none ∧ m = xmA) := ⟨4000, none, xmA, by
  have h := xcA_ok
  unfold xcA at h
  rw [xgo_eq] at h
  exact h, rfl, rfl⟩
theorem pl_cB : Xr xP 1500 (xP 21 30) (xfind (xP 21 30).2.2.2.2.2 0).1 (xfind (xP 21 30).2.2.2.2.2 0).2 (lv_args 0 [.ref 165]) [] (xnew xmA 21 51) (fun v m => v = none ∧ m = xmB) := ⟨6000, none, xmB, by
  have h := xcB_ok
  unfold xcB at h
  rw [xgo_eq] at h
  exact h, rfl, rfl⟩
theorem pl_and (M : XM) {n k : Nat} (h : xokN M n k = true) : xn M = n ∧ xw M ≤ k := by
  unfold xokN at h
  rw [Bool.and_eq_true] at h
  exact ⟨Nat.eq_of_beq_eq_true h.1, Nat.le_of_ble_eq_true h.2⟩
theorem pl_nA : xn xmA = 165 := (pl_and xmA xmA_n).1
theorem pl_nB : xn xmB = 302 ∧ xw xmB ≤ 480000 := pl_and xmB xmB_n
theorem pl_ast {lv : List (Nat × Value)} {k : Fin 4} {v nL : Nat} {r : List Value} (h : k.val < nL) : xs5 nL (.astore_n k) lv (.ref v :: r) = some (xst1 lv k.val (.ref v), r) := if_pos h
theorem pl_ist {lv : List (Nat × Value)} {k : Fin 4} {v : Int32} {nL : Nat} {r : List Value} (h : k.val < nL) : xs5 nL (.istore_n k) lv (.int v :: r) = some (xst1 lv k.val (.int v), r) := if_pos h
theorem pl_n9 {L : Nat} {xs : Nat → Int32} (M : XM) {n : Nat} (h : xn M = n) (hn : Nat.ble 40 n = true) (t len : Nat) : xnew (xsc L xs M) t len = xsc L xs (xnew M t len) := xsc_new (by rw [h]; exact Nat.ne_of_gt (Nat.lt_of_lt_of_le (by decide) (Nat.le_of_ble_eq_true hn))) t len
theorem pl_s0 (M : XM) {n : Nat} (h : xn M = n) (hn : Nat.ble 40 n = true) (h0 : xsh M 0 = (0, 0)) (t len : Nat) : xsh (xnew M t len) 0 = (0, 0) ∧ x0 ≤ xn (xnew M t len) := by
  have h1 := Nat.le_of_ble_eq_true hn
  constructor
  · show (if 0 = xn M then (t, len) else xsh M 0) = (0, 0)
    rw [if_neg (by omega), h0]
  · show 40 ≤ xn M + 1
    omega
theorem pl_new (M : XM) {L : Nat} {xs : Nat → Int32} {n i a b : Nat} {st : List Value} (h : xn M = n) (hn : Nat.ble 40 n = true) : xs8 (.new i) a b st (xsc L xs M) = some (.ref n :: st, xsc L xs (xnew M a b)) := by
  show some (Value.ref (xn M) :: st, xnew (xsc L xs M) a b) = _
  rw [pl_n9 M h hn, h]
theorem pl_cI {i a b k : Nat} {rest : List Value} {m : XM} (ha : a < 22) (hb : b % 64 = 0) (hc : Nat.blt 8 (xcats rest) = false) : xcall xP (.invokespecial i) a b (.ref k :: rest) m = some (xP a (b / 64), [.ref k], rest) := by
  unfold xcall
  dsimp only
  rw [hb]
  exact if_pos ⟨ha, hc⟩
theorem pl_pre {MA MB : XM} (cA : Xr xP 1500 (xP 11 23) (xfind (xP 11 23).2.2.2.2.2 0).1 (xfind (xP 11 23).2.2.2.2.2 0).2 (lv_args 0 [.ref 40]) [] (xnew xmh 11 20) (fun v m => v = none ∧ m = MA))
    (cB : Xr xP 1500 (xP 21 30) (xfind (xP 21 30).2.2.2.2.2 0).1 (xfind (xP 21 30).2.2.2.2.2 0).2 (lv_args 0 [.ref 165]) [] (xnew MA 21 51) (fun v m => v = none ∧ m = MB)) (nA : xn MA = 165)
    {L : Nat} {xs : Nat → Int32} {Qm : Option Value → XM → Prop} (k : Xr xP 1501 (xP 22 0) (xfind (xP 22 0).2.2.2.2.2 18).1 (xfind (xP 22 0).2.2.2.2.2 18).2 [(3, .int 0), (2, .ref 165), (1, .ref 40), (0, .ref 0)] [] (xsc L xs MB) Qm) : Xr xP 1501 (xP 22 0) (xfind (xP 22 0).2.2.2.2.2 0).1 (xfind (xP 22 0).2.2.2.2.2 0).2 [(0, .ref 0)] [] (xm0 L xs) Qm := by
  have hs := pl_s0 xmh (n := 40) rfl rfl rfl 11 20
  refine X_s8 (pl_new xmh (n := 40) rfl rfl) ?_
  refine X_s4 (st' := [.ref 40, .ref 40]) rfl ?_
  refine X_call (d := 1500) (row := xP 11 23) (av := [.ref 40]) (rest := [.ref 40]) (pl_cI (by decide) rfl rfl) (by decide +kernel) rfl (X_post (X_sc (L := L) (xs := xs) hs.1 hs.2 cA) ?_)
  rintro v m' ⟨m1, rfl, ⟨rfl, rfl⟩, h0, -⟩
  refine X_s5 (lv' := [(1, .ref 40), (0, .ref 0)]) (st' := []) (pl_ast (by decide +kernel)) ?_
  have hs2 := pl_s0 m1 nA rfl h0 21 51
  refine X_s8 (pl_new m1 nA rfl) ?_
  refine X_s4 (st' := [.ref 165, .ref 165]) rfl ?_
  refine X_call (d := 1500) (row := xP 21 30) (av := [.ref 165]) (rest := [.ref 165]) (pl_cI (by decide) rfl rfl) (by decide +kernel) rfl (X_post (X_sc (L := L) (xs := xs) hs2.1 hs2.2 cB) ?_)
  rintro v m' ⟨m2, rfl, ⟨rfl, rfl⟩, h3, -⟩
  refine X_s5 (lv' := [(2, .ref 165), (1, .ref 40), (0, .ref 0)]) (st' := []) (pl_ast (by decide +kernel)) ?_
  refine X_s1 (st' := [.int 0]) rfl ?_
  refine X_s5 (lv' := [(3, .int 0), (2, .ref 165), (1, .ref 40), (0, .ref 0)]) (st' := []) (pl_ist (by decide +kernel)) ?_
  exact X_go rfl k
theorem zmem_of (m : XM) : zmem (fun k j => (m.1 k j).toInt) (fun k j => (m.2.1 k j).toInt) m.2.2.1 m.2.2.2 = m := by
  unfold zmem
  simp only [Int32.ofInt_toInt, Int64.ofInt_toInt]
theorem zok_of (m : XM) : zok (fun k j => (m.1 k j).toInt) (fun k j => (m.2.1 k j).toInt) := ⟨fun k j => by
  have h1 := Int32.le_toInt (m.1 k j)
  have h2 := Int32.toInt_lt (m.1 k j)
  show -2147483648 ≤ (m.1 k j).toInt ∧ (m.1 k j).toInt ≤ 2147483647
  omega, fun k j => by
  have h1 := Int64.le_toInt (m.2.1 k j)
  have h2 := Int64.toInt_lt (m.2.1 k j)
  show -9223372036854775808 ≤ (m.2.1 k j).toInt ∧ (m.2.1 k j).toInt ≤ 9223372036854775807
  omega⟩
theorem pl_lv : zlr [some (zvr 0), some (zvr 40), some (zvr 165), some (zvi 0)] [(3, .int 0), (2, .ref 165), (1, .ref 40), (0, .ref 0)]
  | 0, _, h => by cases h; rfl
  | 1, _, h => by cases h; rfl
  | 2, _, h => by cases h; rfl
  | 3, _, h => by cases h; rfl
  | n + 4, _, h => by cases h
/-- what the law's loop asks, at its head, gives its run -/
theorem pl_runG {MA MB : XM} (cA : Xr xP 1500 (xP 11 23) (xfind (xP 11 23).2.2.2.2.2 0).1 (xfind (xP 11 23).2.2.2.2.2 0).2 (lv_args 0 [.ref 40]) [] (xnew xmh 11 20) (fun v m => v = none ∧ m = MA))
    (cB : Xr xP 1500 (xP 21 30) (xfind (xP 21 30).2.2.2.2.2 0).1 (xfind (xP 21 30).2.2.2.2.2 0).2 (lv_args 0 [.ref 165]) [] (xnew MA 21 51) (fun v m => v = none ∧ m = MB)) (nA : xn MA = 165)
    {L : Nat} {xs : Nat → Int32} {Q : ZQ} {cuts : List Nat} {K : ZK} (hK : zKok cuts 1500 (xP 22 0) Q K)
    (h : zwp (zt22_0 200) cuts K Q 100000 18 [some (zvr 0), some (zvr 40), some (zvr 165), some (zvi 0)] [] (fun k j => ((xsc L xs MB).1 k j).toInt) (fun k j => ((xsc L xs MB).2.1 k j).toInt) (xsc L xs MB).2.2.1 (xsc L xs MB).2.2.2)
    (hQ : ∀ r I L R S, Q r I L R S → r = some (zvi 1) ∧ S.2.1 ≤ 600000 ∧ S.2.2 ≤ 7302250) : ∃ f mF, xgo (xrun xP f) 1501 (xP 22 0) 0 [(0, .ref 0)] [] (xm0 L xs) = some (some (.int 1), mF) ∧ xn mF ≤ 600000 ∧ xw mF ≤ 7302250 := by
  have ht := (zT22_0 200).2
  rw [← ht] at h
  have h1 := zwp_ok (w := xP 22 0) (Q := Q) (h := 200) (show 200 ≤ 1500 by decide) hK 100000 18 _ _ _ _ _ _ _ h (zok_of (xsc L xs MB)) pl_lv
  rw [zmem_of] at h1
  obtain ⟨f, v, mF, h2, r, I, L', R, S, rfl, rfl, -, hq⟩ := pl_pre cA cB nA h1
  obtain ⟨rfl, h3, h4⟩ := hQ _ _ _ _ _ hq
  exact ⟨f, _, h2, h3, h4⟩

def zIA : List Nat := [20, 15, 47, 26, 31, 58, 30, 29, 28, 37, 5, 35, 3, 8, 41, 55, 9, 4, 42, 11, 54, 53, 7, 0, 48, 17, 13, 39, 33, 18, 43, 32, 16, 12, 44, 14, 50, 10, 38, 45, 27, 36, 2, 56, 46, 40, 34, 6, 52]
def zIB : List Nat := [21, 16, 70, 33, 41, 80, 39, 38, 37, 50, 4, 46, 2, 7, 55, 77, 8, 3, 58, 10, 76, 75, 6, 0, 71, 18, 14, 53, 44, 20, 59, 42, 17, 11, 62, 15, 72, 9, 51, 63, 36, 49, 1, 79, 68, 54, 45, 5, 74]
/-- what a call is given; whether it answers with a long -/
def zpick (m : Nat) (a1 a2 a3 a4 a5 : Int) : List ZV := match m with
  | 0 => [zvi a1, zvi a2, zvi a3, zvi a4, zvi a5]
  | 1 => [zvi a1]
  | 2 => [zvi a1]
  | 3 => [zvi a1]
  | 4 => [zvi a1, zvi a2]
  | 5 => [zvi a1]
  | 6 => []
  | 7 => [zvi a1, zvi a2]
  | 8 => [zvi a1]
  | 9 => [zvi a1]
  | 10 => [zvi a1, zvi a2, zvi a3, zvl (zlor (zlshl a4 32) (zland a5 4294967295))]
  | 11 => [zvi a1, zvi a2, zvi a3, zvi a4, zvi a5]
  | 12 => [zvi a1, zvi a2, zvi a3]
  | 13 => [zvi a1, zvi a2, zvi a3, zvi a4]
  | 14 => [zvi a1]
  | 15 => [zvi a1, zvi a2, zvi a3]
  | 16 => [zvi a1]
  | 17 => [zvi a1, zvi a2]
  | 18 => [zvi a1, zvi a2, zvi a3, zvi a4]
  | 19 => []
  | 20 => []
  | 21 => [zvi a1, zvi a2]
  | 22 => [zvi a1]
  | 23 => [zvi a1, zvi a2, zvi a3]
  | 24 => []
  | 25 => []
  | 26 => [zvi a1, zvi a2]
  | 27 => [zvi a1]
  | 28 => []
  | 29 => []
  | 30 => [zvi a1]
  | 31 => [zvi a1]
  | 32 => [zvi a1]
  | 33 => [zvi a1]
  | 34 => []
  | 35 => [zvi a1]
  | 36 => []
  | 37 => [zvi a1]
  | 38 => []
  | 39 => [zvi a1, zvi a2]
  | 40 => [zvi a1]
  | 41 => []
  | 42 => [zvi a1, zvi a2, zvi a3]
  | 43 => [zvi a1]
  | 44 => [zvi a1]
  | 45 => [zvi a1, zvi a2]
  | 46 => [zvi a1, zvi a2, zvi a3]
  | 47 => [zvi a1, zvi a2, zvi a3, zvi a4]
  | 48 => []
  | _ => []
def zislong (m : Nat) : Bool := match m with
  | 4 => true
  | 16 => true
  | 31 => true
  | _ => false
def zans (m : Nat) (v : Int) : ZV := match zislong m with
  | true => zvl v
  | false => zvi v
def zrng (m : Nat) (v : Int) : Prop := match zislong m with
  | true => r64 v
  | false => r32 v
abbrev ZP (St : Type) : Type := St → ZI → ZI → ZR → ZS → Prop
abbrev ZSp (St : Type) : Type := Nat → St → Int → Int → Int → Int → Int → St × Int
def zfA (I L : ZI) (R : ZR) (S : ZS) (I' L' : ZI) (R' : ZR) (S' : ZS) : Prop := S' = S ∧ ∀ c j, ¬ (40 ≤ c ∧ c < 165) → I' c j = I c j ∧ L' c j = L c j ∧ R' c j = R c j
def zfB (I L : ZI) (R : ZR) (S : ZS) (I' L' : ZI) (R' : ZR) (S' : ZS) : Prop := (S.2.1 ≤ S'.2.1 ∧ ∀ c, c < S.2.1 → S'.1 c = S.1 c) ∧ ∀ c j, c < 165 → I' c j = I c j ∧ L' c j = L c j ∧ R' c j = R c j
/-- one call's contract -/
def zTC {St : Type} (ref m : Nat) (P : ZP St) (fr : ZI → ZI → ZR → ZS → ZI → ZI → ZR → ZS → Prop) (sp : ZSp St) : ZT := fun args I L R S Q => ∃ (σ : St) (a1 a2 a3 a4 a5 : Int), args = zvr ref :: zpick m a1 a2 a3 a4 a5 ∧ (r32 a1 ∧ r32 a2 ∧ r32 a3 ∧ r32 a4 ∧ r32 a5) ∧ zSh S ∧ P σ I L R S ∧
  ∀ I' L' R' S', P (sp m σ a1 a2 a3 a4 a5).1 I' L' R' S' → fr I L R S I' L' R' S' → zrng m (sp m σ a1 a2 a3 a4 a5).2 → Q (some (zans m (sp m σ a1 a2 a3 a4 a5).2)) I' L' R' S'
theorem zSh_A {I L : ZI} {R : ZR} {S : ZS} {I' L' : ZI} {R' : ZR} {S' : ZS} (h : zSh S) (f : zfA I L R S I' L' R' S') : zSh S' := by rw [f.1]; exact h
theorem zSh_B {I L : ZI} {R : ZR} {S : ZS} {I' L' : ZI} {R' : ZR} {S' : ZS} (h : zSh S) (f : zfB I L R S I' L' R' S') : zSh S' := ⟨Nat.le_trans h.1 f.1.1, fun k h1 h2 => (f.1.2 k (Nat.lt_of_lt_of_le (Nat.blt_eq.mp h2) h.1)).trans (h.2 k h1 h2)⟩
theorem z0r {S : ZS} (h : zSh S) : 0 < S.2.1 := Nat.lt_of_lt_of_le (by decide) h.1
theorem z0p {S : ZS} {N : Nat} (h : zSh S) (h0 : S.1 0 = (100, N)) (hN : N ≤ 3072) {j : Int} (h1 : 0 ≤ j) (h2 : j < N) : zpl S 0 100 j := ⟨z0r h, by rw [h0], h1, by rw [h0]; exact h2, by omega⟩

set_option maxHeartbeats 4000000 in
theorem law_gen {St : Type} {PA PB : ZP St} {sp : ZSp St} (hA : ∀ m, m < 49 → ZSnd 200 11 (zIA.getD m 0) (zTC 40 m PA zfA sp)) (hB : ∀ m, m < 49 → ZSnd 200 21 (zIB.getD m 0) (zTC 165 m PB zfB sp))
    (kA : ∀ σ I L R S I' L' R' S', PA σ I L R S → zfB I L R S I' L' R' S' → PA σ I' L' R' S') (kB : ∀ σ I L R S I' L' R' S', PB σ I L R S → zfA I L R S I' L' R' S' → PB σ I' L' R' S')
    (room : ∀ σ I L R S, PB σ I L R S → S.2.1 ≤ 600000 ∧ S.2.2 ≤ 7302250) {N : Nat} (hN : N ≤ 3072) {σ0 : St} {I0 L0 : ZI} {R0 : ZR} {S0 : ZS} (z0 : zok I0 L0) (s0 : S0.1 0 = (100, N)) (sh0 : zSh S0) (pA0 : PA σ0 I0 L0 R0 S0) (pB0 : PB σ0 I0 L0 R0 S0) :
    ∃ (cuts : List Nat) (A : Nat × Nat × Nat → ZK), (∃ n, A n 18 [some (zvr 0), some (zvr 40), some (zvr 165), some (zvi 0)] [] I0 L0 R0 S0) ∧ zhas cuts 18 = true ∧
      zall cuts (fun t => ∀ n ls st I L R S, zok I L → A n t ls st I L R S → zwp (zt22_0 200) cuts (fun t ls st I L R S => ∃ n', zlt3 n' n ∧ A n' t ls st I L R S) (fun r _ _ _ S => r = some (zvi 1) ∧ S.2.1 ≤ 600000 ∧ S.2.2 ≤ 7302250) 100000 t ls st I L R S) := by
  refine ⟨[18], fun n t ls st I L R S => match t with
    | 18 => ∃ (i : Int) (σ : St), n = ((N + 6 - i).toNat, 0, 0) ∧ ls = [some (zvr 0), some (zvr 40), some (zvr 165), some (zvi i)] ∧ st = [] ∧ (0 ≤ i ∧ i ≤ 3078) ∧ S.1 0 = (100, N) ∧ zSh S ∧ PA σ I L R S ∧ PB σ I L R S
    | _ => False, ⟨_, 0, σ0, rfl, rfl, rfl, ⟨by omega, by omega⟩, s0, sh0, pA0, pB0⟩, rfl, ?_, True.intro⟩
  rintro n ls st I L R S hz ⟨i, σ, rfl, rfl, rfl, ⟨hi, hi2⟩, s0, hS, pA, pB⟩
  refine And.intro ⟨z0r hS, by rw [s0]; exact Nat.le_refl 100⟩ (zrdN (v := (N : Int)) (by rw [s0]) ?_)
  refine And.intro ⟨(by omega), (by omega)⟩ ⟨fun h => ?_, fun h => ?_⟩
  · exact And.intro (Or.inr rfl) ⟨rfl, room _ _ _ _ _ pB⟩
  refine And.intro (z0p hS s0 hN (by omega) (by omega)) (fun v0 e0 q0 => ?_)
  refine And.intro zr_and (And.intro (And.intro (fun _ => ?_) (And.intro (fun _ => ?_) (And.intro (fun _ => ?_) (And.intro (fun _ => ?_) (And.intro (fun _ => ?_) (And.intro (fun _ => ?_) (And.intro (fun _ => ?_) (And.intro (fun _ => ?_) (And.intro (fun _ => ?_) (And.intro (fun _ => ?_) (And.intro (fun _ => ?_) (And.intro (fun _ => ?_) (And.intro (fun _ => ?_) (And.intro (fun _ => ?_) (And.intro (fun _ => ?_) (And.intro (fun _ => ?_) (And.intro (fun _ => ?_) (And.intro (fun _ => ?_) (And.intro (fun _ => ?_) (And.intro (fun _ => ?_) (And.intro (fun _ => ?_) (And.intro (fun _ => ?_) (And.intro (fun _ => ?_) (And.intro (fun _ => ?_) (And.intro (fun _ => ?_) (And.intro (fun _ => ?_) (And.intro (fun _ => ?_) (And.intro (fun _ => ?_) (And.intro (fun _ => ?_) (And.intro (fun _ => ?_) (And.intro (fun _ => ?_) (And.intro (fun _ => ?_) (And.intro (fun _ => ?_) (And.intro (fun _ => ?_) (And.intro (fun _ => ?_) (And.intro (fun _ => ?_) (And.intro (fun _ => ?_) (And.intro (fun _ => ?_) (And.intro (fun _ => ?_) (And.intro (fun _ => ?_) (And.intro (fun _ => ?_) (And.intro (fun _ => ?_) (And.intro (fun _ => ?_) (And.intro (fun _ => ?_) (And.intro (fun _ => ?_) (And.intro (fun _ => ?_) (And.intro (fun _ => ?_) (And.intro (fun _ => ?_) (And.intro (fun _ => ?_) True.intro))))))))))))))))))))))))))))))))))))))))))))))))) (fun _ => ?_))
  · refine And.intro (z0p hS s0 hN (by omega) (by omega)) (fun a1 e1 r1 => ?_)
    refine And.intro (z0p hS s0 hN (by omega) (by omega)) (fun a2 e2 r2 => ?_)
    refine And.intro (z0p hS s0 hN (by omega) (by omega)) (fun a3 e3 r3 => ?_)
    refine And.intro (z0p hS s0 hN (by omega) (by omega)) (fun a4 e4 r4 => ?_)
    refine And.intro (z0p hS s0 hN (by omega) (by omega)) (fun a5 e5 r5 => ?_)
    refine And.intro (zA_40 hS) ⟨_, hA 0 (by decide), ?_⟩
    refine ⟨σ, a1, a2, a3, a4, a5, rfl, ⟨r1, r2, r3, r4, r5⟩, hS, pA, ?_⟩
    intro I1 L1 R1 S1 pA1 fA wA
    have hS1 := zSh_A hS fA
    have s1 : S1.1 0 = (100, N) := by rw [fA.1]; exact s0
    have pB1 := kB _ _ _ _ _ _ _ _ _ pB fA
    refine And.intro (z0p hS1 s1 hN (by omega) (by omega)) (zrd (v := a1) ((fA.2 0 _ (by omega)).1.trans e1.symm) ?_)
    refine And.intro (z0p hS1 s1 hN (by omega) (by omega)) (zrd (v := a2) ((fA.2 0 _ (by omega)).1.trans e2.symm) ?_)
    refine And.intro (z0p hS1 s1 hN (by omega) (by omega)) (zrd (v := a3) ((fA.2 0 _ (by omega)).1.trans e3.symm) ?_)
    refine And.intro (z0p hS1 s1 hN (by omega) (by omega)) (zrd (v := a4) ((fA.2 0 _ (by omega)).1.trans e4.symm) ?_)
    refine And.intro (z0p hS1 s1 hN (by omega) (by omega)) (zrd (v := a5) ((fA.2 0 _ (by omega)).1.trans e5.symm) ?_)
    refine And.intro (zA_165 hS1) ⟨_, hB 0 (by decide), ?_⟩
    refine ⟨σ, a1, a2, a3, a4, a5, rfl, ⟨r1, r2, r3, r4, r5⟩, hS1, pB1, ?_⟩
    intro I2 L2 R2 S2 pB2 fB wB
    have pA2 := kA _ _ _ _ _ _ _ _ _ pA1 fB
    refine And.intro ⟨wA, wB⟩ (And.intro (fun _ => ?_) (fun h => absurd rfl h))
    exact ⟨_, zlt1 (by omega), _, _, rfl, rfl, rfl, ⟨by omega, by omega⟩, (fB.1.2 0 (z0r hS1)).trans s1, zSh_B hS1 fB, pA2, pB2⟩
  · refine And.intro (z0p hS s0 hN (by omega) (by omega)) (fun a1 e1 r1 => ?_)
    refine And.intro (zA_40 hS) ⟨_, hA 1 (by decide), ?_⟩
    refine ⟨σ, a1, 0, 0, 0, 0, rfl, ⟨r1, (zRb rfl), (zRb rfl), (zRb rfl), (zRb rfl)⟩, hS, pA, ?_⟩
    intro I1 L1 R1 S1 pA1 fA wA
    have hS1 := zSh_A hS fA
    have s1 : S1.1 0 = (100, N) := by rw [fA.1]; exact s0
    have pB1 := kB _ _ _ _ _ _ _ _ _ pB fA
    refine And.intro (z0p hS1 s1 hN (by omega) (by omega)) (zrd (v := a1) ((fA.2 0 _ (by omega)).1.trans e1.symm) ?_)
    refine And.intro (zA_165 hS1) ⟨_, hB 1 (by decide), ?_⟩
    refine ⟨σ, a1, 0, 0, 0, 0, rfl, ⟨r1, (zRb rfl), (zRb rfl), (zRb rfl), (zRb rfl)⟩, hS1, pB1, ?_⟩
    intro I2 L2 R2 S2 pB2 fB wB
    have pA2 := kA _ _ _ _ _ _ _ _ _ pA1 fB
    refine And.intro ⟨wA, wB⟩ (And.intro (fun _ => ?_) (fun h => absurd rfl h))
    exact ⟨_, zlt1 (by omega), _, _, rfl, rfl, rfl, ⟨by omega, by omega⟩, (fB.1.2 0 (z0r hS1)).trans s1, zSh_B hS1 fB, pA2, pB2⟩
  · refine And.intro (z0p hS s0 hN (by omega) (by omega)) (fun a1 e1 r1 => ?_)
    refine And.intro (zA_40 hS) ⟨_, hA 2 (by decide), ?_⟩
    refine ⟨σ, a1, 0, 0, 0, 0, rfl, ⟨r1, (zRb rfl), (zRb rfl), (zRb rfl), (zRb rfl)⟩, hS, pA, ?_⟩
    intro I1 L1 R1 S1 pA1 fA wA
    have hS1 := zSh_A hS fA
    have s1 : S1.1 0 = (100, N) := by rw [fA.1]; exact s0
    have pB1 := kB _ _ _ _ _ _ _ _ _ pB fA
    refine And.intro (z0p hS1 s1 hN (by omega) (by omega)) (zrd (v := a1) ((fA.2 0 _ (by omega)).1.trans e1.symm) ?_)
    refine And.intro (zA_165 hS1) ⟨_, hB 2 (by decide), ?_⟩
    refine ⟨σ, a1, 0, 0, 0, 0, rfl, ⟨r1, (zRb rfl), (zRb rfl), (zRb rfl), (zRb rfl)⟩, hS1, pB1, ?_⟩
    intro I2 L2 R2 S2 pB2 fB wB
    have pA2 := kA _ _ _ _ _ _ _ _ _ pA1 fB
    refine And.intro ⟨wA, wB⟩ (And.intro (fun _ => ?_) (fun h => absurd rfl h))
    exact ⟨_, zlt1 (by omega), _, _, rfl, rfl, rfl, ⟨by omega, by omega⟩, (fB.1.2 0 (z0r hS1)).trans s1, zSh_B hS1 fB, pA2, pB2⟩
  · refine And.intro (z0p hS s0 hN (by omega) (by omega)) (fun a1 e1 r1 => ?_)
    refine And.intro (zA_40 hS) ⟨_, hA 3 (by decide), ?_⟩
    refine ⟨σ, a1, 0, 0, 0, 0, rfl, ⟨r1, (zRb rfl), (zRb rfl), (zRb rfl), (zRb rfl)⟩, hS, pA, ?_⟩
    intro I1 L1 R1 S1 pA1 fA wA
    have hS1 := zSh_A hS fA
    have s1 : S1.1 0 = (100, N) := by rw [fA.1]; exact s0
    have pB1 := kB _ _ _ _ _ _ _ _ _ pB fA
    refine And.intro (z0p hS1 s1 hN (by omega) (by omega)) (zrd (v := a1) ((fA.2 0 _ (by omega)).1.trans e1.symm) ?_)
    refine And.intro (zA_165 hS1) ⟨_, hB 3 (by decide), ?_⟩
    refine ⟨σ, a1, 0, 0, 0, 0, rfl, ⟨r1, (zRb rfl), (zRb rfl), (zRb rfl), (zRb rfl)⟩, hS1, pB1, ?_⟩
    intro I2 L2 R2 S2 pB2 fB wB
    have pA2 := kA _ _ _ _ _ _ _ _ _ pA1 fB
    refine And.intro ⟨wA, wB⟩ (And.intro (fun _ => ?_) (fun h => absurd rfl h))
    exact ⟨_, zlt1 (by omega), _, _, rfl, rfl, rfl, ⟨by omega, by omega⟩, (fB.1.2 0 (z0r hS1)).trans s1, zSh_B hS1 fB, pA2, pB2⟩
  · refine And.intro (z0p hS s0 hN (by omega) (by omega)) (fun a1 e1 r1 => ?_)
    refine And.intro (z0p hS s0 hN (by omega) (by omega)) (fun a2 e2 r2 => ?_)
    refine And.intro (zA_40 hS) ⟨_, hA 4 (by decide), ?_⟩
    refine ⟨σ, a1, a2, 0, 0, 0, rfl, ⟨r1, r2, (zRb rfl), (zRb rfl), (zRb rfl)⟩, hS, pA, ?_⟩
    intro I1 L1 R1 S1 pA1 fA wA
    have hS1 := zSh_A hS fA
    have s1 : S1.1 0 = (100, N) := by rw [fA.1]; exact s0
    have pB1 := kB _ _ _ _ _ _ _ _ _ pB fA
    refine And.intro (z0p hS1 s1 hN (by omega) (by omega)) (zrd (v := a1) ((fA.2 0 _ (by omega)).1.trans e1.symm) ?_)
    refine And.intro (z0p hS1 s1 hN (by omega) (by omega)) (zrd (v := a2) ((fA.2 0 _ (by omega)).1.trans e2.symm) ?_)
    refine And.intro (zA_165 hS1) ⟨_, hB 4 (by decide), ?_⟩
    refine ⟨σ, a1, a2, 0, 0, 0, rfl, ⟨r1, r2, (zRb rfl), (zRb rfl), (zRb rfl)⟩, hS1, pB1, ?_⟩
    intro I2 L2 R2 S2 pB2 fB wB
    have pA2 := kA _ _ _ _ _ _ _ _ _ pA1 fB
    refine ⟨_, _, ⟨zW6i wA, zW6i wB⟩, fun z cz => ?_⟩
    refine And.intro cz.2.2 (And.intro (fun _ => ?_) (fun h => absurd h (by omega)))
    exact ⟨_, zlt1 (by omega), _, _, rfl, rfl, rfl, ⟨by omega, by omega⟩, (fB.1.2 0 (z0r hS1)).trans s1, zSh_B hS1 fB, pA2, pB2⟩
  · refine And.intro (z0p hS s0 hN (by omega) (by omega)) (fun a1 e1 r1 => ?_)
    refine And.intro (zA_40 hS) ⟨_, hA 5 (by decide), ?_⟩
    refine ⟨σ, a1, 0, 0, 0, 0, rfl, ⟨r1, (zRb rfl), (zRb rfl), (zRb rfl), (zRb rfl)⟩, hS, pA, ?_⟩
    intro I1 L1 R1 S1 pA1 fA wA
    have hS1 := zSh_A hS fA
    have s1 : S1.1 0 = (100, N) := by rw [fA.1]; exact s0
    have pB1 := kB _ _ _ _ _ _ _ _ _ pB fA
    refine And.intro (z0p hS1 s1 hN (by omega) (by omega)) (zrd (v := a1) ((fA.2 0 _ (by omega)).1.trans e1.symm) ?_)
    refine And.intro (zA_165 hS1) ⟨_, hB 5 (by decide), ?_⟩
    refine ⟨σ, a1, 0, 0, 0, 0, rfl, ⟨r1, (zRb rfl), (zRb rfl), (zRb rfl), (zRb rfl)⟩, hS1, pB1, ?_⟩
    intro I2 L2 R2 S2 pB2 fB wB
    have pA2 := kA _ _ _ _ _ _ _ _ _ pA1 fB
    refine And.intro ⟨wA, wB⟩ (And.intro (fun _ => ?_) (fun h => absurd rfl h))
    exact ⟨_, zlt1 (by omega), _, _, rfl, rfl, rfl, ⟨by omega, by omega⟩, (fB.1.2 0 (z0r hS1)).trans s1, zSh_B hS1 fB, pA2, pB2⟩
  · refine And.intro (zA_40 hS) ⟨_, hA 6 (by decide), ?_⟩
    refine ⟨σ, 0, 0, 0, 0, 0, rfl, ⟨(zRb rfl), (zRb rfl), (zRb rfl), (zRb rfl), (zRb rfl)⟩, hS, pA, ?_⟩
    intro I1 L1 R1 S1 pA1 fA wA
    have hS1 := zSh_A hS fA
    have s1 : S1.1 0 = (100, N) := by rw [fA.1]; exact s0
    have pB1 := kB _ _ _ _ _ _ _ _ _ pB fA
    refine And.intro (zA_165 hS1) ⟨_, hB 6 (by decide), ?_⟩
    refine ⟨σ, 0, 0, 0, 0, 0, rfl, ⟨(zRb rfl), (zRb rfl), (zRb rfl), (zRb rfl), (zRb rfl)⟩, hS1, pB1, ?_⟩
    intro I2 L2 R2 S2 pB2 fB wB
    have pA2 := kA _ _ _ _ _ _ _ _ _ pA1 fB
    refine And.intro ⟨wA, wB⟩ (And.intro (fun _ => ?_) (fun h => absurd rfl h))
    exact ⟨_, zlt1 (by omega), _, _, rfl, rfl, rfl, ⟨by omega, by omega⟩, (fB.1.2 0 (z0r hS1)).trans s1, zSh_B hS1 fB, pA2, pB2⟩
  · refine And.intro (z0p hS s0 hN (by omega) (by omega)) (fun a1 e1 r1 => ?_)
    refine And.intro (z0p hS s0 hN (by omega) (by omega)) (fun a2 e2 r2 => ?_)
    refine And.intro (zA_40 hS) ⟨_, hA 7 (by decide), ?_⟩
    refine ⟨σ, a1, a2, 0, 0, 0, rfl, ⟨r1, r2, (zRb rfl), (zRb rfl), (zRb rfl)⟩, hS, pA, ?_⟩
    intro I1 L1 R1 S1 pA1 fA wA
    have hS1 := zSh_A hS fA
    have s1 : S1.1 0 = (100, N) := by rw [fA.1]; exact s0
    have pB1 := kB _ _ _ _ _ _ _ _ _ pB fA
    refine And.intro (z0p hS1 s1 hN (by omega) (by omega)) (zrd (v := a1) ((fA.2 0 _ (by omega)).1.trans e1.symm) ?_)
    refine And.intro (z0p hS1 s1 hN (by omega) (by omega)) (zrd (v := a2) ((fA.2 0 _ (by omega)).1.trans e2.symm) ?_)
    refine And.intro (zA_165 hS1) ⟨_, hB 7 (by decide), ?_⟩
    refine ⟨σ, a1, a2, 0, 0, 0, rfl, ⟨r1, r2, (zRb rfl), (zRb rfl), (zRb rfl)⟩, hS1, pB1, ?_⟩
    intro I2 L2 R2 S2 pB2 fB wB
    have pA2 := kA _ _ _ _ _ _ _ _ _ pA1 fB
    refine And.intro ⟨wA, wB⟩ (And.intro (fun _ => ?_) (fun h => absurd rfl h))
    exact ⟨_, zlt1 (by omega), _, _, rfl, rfl, rfl, ⟨by omega, by omega⟩, (fB.1.2 0 (z0r hS1)).trans s1, zSh_B hS1 fB, pA2, pB2⟩
  · refine And.intro (z0p hS s0 hN (by omega) (by omega)) (fun a1 e1 r1 => ?_)
    refine And.intro (zA_40 hS) ⟨_, hA 8 (by decide), ?_⟩
    refine ⟨σ, a1, 0, 0, 0, 0, rfl, ⟨r1, (zRb rfl), (zRb rfl), (zRb rfl), (zRb rfl)⟩, hS, pA, ?_⟩
    intro I1 L1 R1 S1 pA1 fA wA
    have hS1 := zSh_A hS fA
    have s1 : S1.1 0 = (100, N) := by rw [fA.1]; exact s0
    have pB1 := kB _ _ _ _ _ _ _ _ _ pB fA
    refine And.intro (z0p hS1 s1 hN (by omega) (by omega)) (zrd (v := a1) ((fA.2 0 _ (by omega)).1.trans e1.symm) ?_)
    refine And.intro (zA_165 hS1) ⟨_, hB 8 (by decide), ?_⟩
    refine ⟨σ, a1, 0, 0, 0, 0, rfl, ⟨r1, (zRb rfl), (zRb rfl), (zRb rfl), (zRb rfl)⟩, hS1, pB1, ?_⟩
    intro I2 L2 R2 S2 pB2 fB wB
    have pA2 := kA _ _ _ _ _ _ _ _ _ pA1 fB
    refine And.intro ⟨wA, wB⟩ (And.intro (fun _ => ?_) (fun h => absurd rfl h))
    exact ⟨_, zlt1 (by omega), _, _, rfl, rfl, rfl, ⟨by omega, by omega⟩, (fB.1.2 0 (z0r hS1)).trans s1, zSh_B hS1 fB, pA2, pB2⟩
  · refine And.intro (z0p hS s0 hN (by omega) (by omega)) (fun a1 e1 r1 => ?_)
    refine And.intro (zA_40 hS) ⟨_, hA 9 (by decide), ?_⟩
    refine ⟨σ, a1, 0, 0, 0, 0, rfl, ⟨r1, (zRb rfl), (zRb rfl), (zRb rfl), (zRb rfl)⟩, hS, pA, ?_⟩
    intro I1 L1 R1 S1 pA1 fA wA
    have hS1 := zSh_A hS fA
    have s1 : S1.1 0 = (100, N) := by rw [fA.1]; exact s0
    have pB1 := kB _ _ _ _ _ _ _ _ _ pB fA
    refine And.intro (z0p hS1 s1 hN (by omega) (by omega)) (zrd (v := a1) ((fA.2 0 _ (by omega)).1.trans e1.symm) ?_)
    refine And.intro (zA_165 hS1) ⟨_, hB 9 (by decide), ?_⟩
    refine ⟨σ, a1, 0, 0, 0, 0, rfl, ⟨r1, (zRb rfl), (zRb rfl), (zRb rfl), (zRb rfl)⟩, hS1, pB1, ?_⟩
    intro I2 L2 R2 S2 pB2 fB wB
    have pA2 := kA _ _ _ _ _ _ _ _ _ pA1 fB
    refine And.intro ⟨wA, wB⟩ (And.intro (fun _ => ?_) (fun h => absurd rfl h))
    exact ⟨_, zlt1 (by omega), _, _, rfl, rfl, rfl, ⟨by omega, by omega⟩, (fB.1.2 0 (z0r hS1)).trans s1, zSh_B hS1 fB, pA2, pB2⟩
  · refine And.intro (z0p hS s0 hN (by omega) (by omega)) (fun a1 e1 r1 => ?_)
    refine And.intro (z0p hS s0 hN (by omega) (by omega)) (fun a2 e2 r2 => ?_)
    refine And.intro (z0p hS s0 hN (by omega) (by omega)) (fun a3 e3 r3 => ?_)
    refine And.intro (z0p hS s0 hN (by omega) (by omega)) (fun a4 e4 r4 => ?_)
    refine And.intro r4 ?_
    refine And.intro (z0p hS s0 hN (by omega) (by omega)) (fun a5 e5 r5 => ?_)
    refine And.intro r5 ?_
    refine And.intro (zA_40 hS) ⟨_, hA 10 (by decide), ?_⟩
    refine ⟨σ, a1, a2, a3, a4, a5, rfl, ⟨r1, r2, r3, r4, r5⟩, hS, pA, ?_⟩
    intro I1 L1 R1 S1 pA1 fA wA
    have hS1 := zSh_A hS fA
    have s1 : S1.1 0 = (100, N) := by rw [fA.1]; exact s0
    have pB1 := kB _ _ _ _ _ _ _ _ _ pB fA
    refine And.intro (z0p hS1 s1 hN (by omega) (by omega)) (zrd (v := a1) ((fA.2 0 _ (by omega)).1.trans e1.symm) ?_)
    refine And.intro (z0p hS1 s1 hN (by omega) (by omega)) (zrd (v := a2) ((fA.2 0 _ (by omega)).1.trans e2.symm) ?_)
    refine And.intro (z0p hS1 s1 hN (by omega) (by omega)) (zrd (v := a3) ((fA.2 0 _ (by omega)).1.trans e3.symm) ?_)
    refine And.intro (z0p hS1 s1 hN (by omega) (by omega)) (zrd (v := a4) ((fA.2 0 _ (by omega)).1.trans e4.symm) ?_)
    refine And.intro r4 ?_
    refine And.intro (z0p hS1 s1 hN (by omega) (by omega)) (zrd (v := a5) ((fA.2 0 _ (by omega)).1.trans e5.symm) ?_)
    refine And.intro r5 ?_
    refine And.intro (zA_165 hS1) ⟨_, hB 10 (by decide), ?_⟩
    refine ⟨σ, a1, a2, a3, a4, a5, rfl, ⟨r1, r2, r3, r4, r5⟩, hS1, pB1, ?_⟩
    intro I2 L2 R2 S2 pB2 fB wB
    have pA2 := kA _ _ _ _ _ _ _ _ _ pA1 fB
    refine And.intro ⟨wA, wB⟩ (And.intro (fun _ => ?_) (fun h => absurd rfl h))
    exact ⟨_, zlt1 (by omega), _, _, rfl, rfl, rfl, ⟨by omega, by omega⟩, (fB.1.2 0 (z0r hS1)).trans s1, zSh_B hS1 fB, pA2, pB2⟩
  · refine And.intro (z0p hS s0 hN (by omega) (by omega)) (fun a1 e1 r1 => ?_)
    refine And.intro (z0p hS s0 hN (by omega) (by omega)) (fun a2 e2 r2 => ?_)
    refine And.intro (z0p hS s0 hN (by omega) (by omega)) (fun a3 e3 r3 => ?_)
    refine And.intro (z0p hS s0 hN (by omega) (by omega)) (fun a4 e4 r4 => ?_)
    refine And.intro (z0p hS s0 hN (by omega) (by omega)) (fun a5 e5 r5 => ?_)
    refine And.intro (zA_40 hS) ⟨_, hA 11 (by decide), ?_⟩
    refine ⟨σ, a1, a2, a3, a4, a5, rfl, ⟨r1, r2, r3, r4, r5⟩, hS, pA, ?_⟩
    intro I1 L1 R1 S1 pA1 fA wA
    have hS1 := zSh_A hS fA
    have s1 : S1.1 0 = (100, N) := by rw [fA.1]; exact s0
    have pB1 := kB _ _ _ _ _ _ _ _ _ pB fA
    refine And.intro (z0p hS1 s1 hN (by omega) (by omega)) (zrd (v := a1) ((fA.2 0 _ (by omega)).1.trans e1.symm) ?_)
    refine And.intro (z0p hS1 s1 hN (by omega) (by omega)) (zrd (v := a2) ((fA.2 0 _ (by omega)).1.trans e2.symm) ?_)
    refine And.intro (z0p hS1 s1 hN (by omega) (by omega)) (zrd (v := a3) ((fA.2 0 _ (by omega)).1.trans e3.symm) ?_)
    refine And.intro (z0p hS1 s1 hN (by omega) (by omega)) (zrd (v := a4) ((fA.2 0 _ (by omega)).1.trans e4.symm) ?_)
    refine And.intro (z0p hS1 s1 hN (by omega) (by omega)) (zrd (v := a5) ((fA.2 0 _ (by omega)).1.trans e5.symm) ?_)
    refine And.intro (zA_165 hS1) ⟨_, hB 11 (by decide), ?_⟩
    refine ⟨σ, a1, a2, a3, a4, a5, rfl, ⟨r1, r2, r3, r4, r5⟩, hS1, pB1, ?_⟩
    intro I2 L2 R2 S2 pB2 fB wB
    have pA2 := kA _ _ _ _ _ _ _ _ _ pA1 fB
    refine And.intro ⟨wA, wB⟩ (And.intro (fun _ => ?_) (fun h => absurd rfl h))
    exact ⟨_, zlt1 (by omega), _, _, rfl, rfl, rfl, ⟨by omega, by omega⟩, (fB.1.2 0 (z0r hS1)).trans s1, zSh_B hS1 fB, pA2, pB2⟩
  · refine And.intro (z0p hS s0 hN (by omega) (by omega)) (fun a1 e1 r1 => ?_)
    refine And.intro (z0p hS s0 hN (by omega) (by omega)) (fun a2 e2 r2 => ?_)
    refine And.intro (z0p hS s0 hN (by omega) (by omega)) (fun a3 e3 r3 => ?_)
    refine And.intro (zA_40 hS) ⟨_, hA 12 (by decide), ?_⟩
    refine ⟨σ, a1, a2, a3, 0, 0, rfl, ⟨r1, r2, r3, (zRb rfl), (zRb rfl)⟩, hS, pA, ?_⟩
    intro I1 L1 R1 S1 pA1 fA wA
    have hS1 := zSh_A hS fA
    have s1 : S1.1 0 = (100, N) := by rw [fA.1]; exact s0
    have pB1 := kB _ _ _ _ _ _ _ _ _ pB fA
    refine And.intro (z0p hS1 s1 hN (by omega) (by omega)) (zrd (v := a1) ((fA.2 0 _ (by omega)).1.trans e1.symm) ?_)
    refine And.intro (z0p hS1 s1 hN (by omega) (by omega)) (zrd (v := a2) ((fA.2 0 _ (by omega)).1.trans e2.symm) ?_)
    refine And.intro (z0p hS1 s1 hN (by omega) (by omega)) (zrd (v := a3) ((fA.2 0 _ (by omega)).1.trans e3.symm) ?_)
    refine And.intro (zA_165 hS1) ⟨_, hB 12 (by decide), ?_⟩
    refine ⟨σ, a1, a2, a3, 0, 0, rfl, ⟨r1, r2, r3, (zRb rfl), (zRb rfl)⟩, hS1, pB1, ?_⟩
    intro I2 L2 R2 S2 pB2 fB wB
    have pA2 := kA _ _ _ _ _ _ _ _ _ pA1 fB
    refine And.intro ⟨wA, wB⟩ (And.intro (fun _ => ?_) (fun h => absurd rfl h))
    exact ⟨_, zlt1 (by omega), _, _, rfl, rfl, rfl, ⟨by omega, by omega⟩, (fB.1.2 0 (z0r hS1)).trans s1, zSh_B hS1 fB, pA2, pB2⟩
  · refine And.intro (z0p hS s0 hN (by omega) (by omega)) (fun a1 e1 r1 => ?_)
    refine And.intro (z0p hS s0 hN (by omega) (by omega)) (fun a2 e2 r2 => ?_)
    refine And.intro (z0p hS s0 hN (by omega) (by omega)) (fun a3 e3 r3 => ?_)
    refine And.intro (z0p hS s0 hN (by omega) (by omega)) (fun a4 e4 r4 => ?_)
    refine And.intro (zA_40 hS) ⟨_, hA 13 (by decide), ?_⟩
    refine ⟨σ, a1, a2, a3, a4, 0, rfl, ⟨r1, r2, r3, r4, (zRb rfl)⟩, hS, pA, ?_⟩
    intro I1 L1 R1 S1 pA1 fA wA
    have hS1 := zSh_A hS fA
    have s1 : S1.1 0 = (100, N) := by rw [fA.1]; exact s0
    have pB1 := kB _ _ _ _ _ _ _ _ _ pB fA
    refine And.intro (z0p hS1 s1 hN (by omega) (by omega)) (zrd (v := a1) ((fA.2 0 _ (by omega)).1.trans e1.symm) ?_)
    refine And.intro (z0p hS1 s1 hN (by omega) (by omega)) (zrd (v := a2) ((fA.2 0 _ (by omega)).1.trans e2.symm) ?_)
    refine And.intro (z0p hS1 s1 hN (by omega) (by omega)) (zrd (v := a3) ((fA.2 0 _ (by omega)).1.trans e3.symm) ?_)
    refine And.intro (z0p hS1 s1 hN (by omega) (by omega)) (zrd (v := a4) ((fA.2 0 _ (by omega)).1.trans e4.symm) ?_)
    refine And.intro (zA_165 hS1) ⟨_, hB 13 (by decide), ?_⟩
    refine ⟨σ, a1, a2, a3, a4, 0, rfl, ⟨r1, r2, r3, r4, (zRb rfl)⟩, hS1, pB1, ?_⟩
    intro I2 L2 R2 S2 pB2 fB wB
    have pA2 := kA _ _ _ _ _ _ _ _ _ pA1 fB
    refine And.intro ⟨wA, wB⟩ (And.intro (fun _ => ?_) (fun h => absurd rfl h))
    exact ⟨_, zlt1 (by omega), _, _, rfl, rfl, rfl, ⟨by omega, by omega⟩, (fB.1.2 0 (z0r hS1)).trans s1, zSh_B hS1 fB, pA2, pB2⟩
  · refine And.intro (z0p hS s0 hN (by omega) (by omega)) (fun a1 e1 r1 => ?_)
    refine And.intro (zA_40 hS) ⟨_, hA 14 (by decide), ?_⟩
    refine ⟨σ, a1, 0, 0, 0, 0, rfl, ⟨r1, (zRb rfl), (zRb rfl), (zRb rfl), (zRb rfl)⟩, hS, pA, ?_⟩
    intro I1 L1 R1 S1 pA1 fA wA
    have hS1 := zSh_A hS fA
    have s1 : S1.1 0 = (100, N) := by rw [fA.1]; exact s0
    have pB1 := kB _ _ _ _ _ _ _ _ _ pB fA
    refine And.intro (z0p hS1 s1 hN (by omega) (by omega)) (zrd (v := a1) ((fA.2 0 _ (by omega)).1.trans e1.symm) ?_)
    refine And.intro (zA_165 hS1) ⟨_, hB 14 (by decide), ?_⟩
    refine ⟨σ, a1, 0, 0, 0, 0, rfl, ⟨r1, (zRb rfl), (zRb rfl), (zRb rfl), (zRb rfl)⟩, hS1, pB1, ?_⟩
    intro I2 L2 R2 S2 pB2 fB wB
    have pA2 := kA _ _ _ _ _ _ _ _ _ pA1 fB
    refine And.intro ⟨wA, wB⟩ (And.intro (fun _ => ?_) (fun h => absurd rfl h))
    exact ⟨_, zlt1 (by omega), _, _, rfl, rfl, rfl, ⟨by omega, by omega⟩, (fB.1.2 0 (z0r hS1)).trans s1, zSh_B hS1 fB, pA2, pB2⟩
  · refine And.intro (z0p hS s0 hN (by omega) (by omega)) (fun a1 e1 r1 => ?_)
    refine And.intro (z0p hS s0 hN (by omega) (by omega)) (fun a2 e2 r2 => ?_)
    refine And.intro (z0p hS s0 hN (by omega) (by omega)) (fun a3 e3 r3 => ?_)
    refine And.intro (zA_40 hS) ⟨_, hA 15 (by decide), ?_⟩
    refine ⟨σ, a1, a2, a3, 0, 0, rfl, ⟨r1, r2, r3, (zRb rfl), (zRb rfl)⟩, hS, pA, ?_⟩
    intro I1 L1 R1 S1 pA1 fA wA
    have hS1 := zSh_A hS fA
    have s1 : S1.1 0 = (100, N) := by rw [fA.1]; exact s0
    have pB1 := kB _ _ _ _ _ _ _ _ _ pB fA
    refine And.intro (z0p hS1 s1 hN (by omega) (by omega)) (zrd (v := a1) ((fA.2 0 _ (by omega)).1.trans e1.symm) ?_)
    refine And.intro (z0p hS1 s1 hN (by omega) (by omega)) (zrd (v := a2) ((fA.2 0 _ (by omega)).1.trans e2.symm) ?_)
    refine And.intro (z0p hS1 s1 hN (by omega) (by omega)) (zrd (v := a3) ((fA.2 0 _ (by omega)).1.trans e3.symm) ?_)
    refine And.intro (zA_165 hS1) ⟨_, hB 15 (by decide), ?_⟩
    refine ⟨σ, a1, a2, a3, 0, 0, rfl, ⟨r1, r2, r3, (zRb rfl), (zRb rfl)⟩, hS1, pB1, ?_⟩
    intro I2 L2 R2 S2 pB2 fB wB
    have pA2 := kA _ _ _ _ _ _ _ _ _ pA1 fB
    refine And.intro ⟨wA, wB⟩ (And.intro (fun _ => ?_) (fun h => absurd rfl h))
    exact ⟨_, zlt1 (by omega), _, _, rfl, rfl, rfl, ⟨by omega, by omega⟩, (fB.1.2 0 (z0r hS1)).trans s1, zSh_B hS1 fB, pA2, pB2⟩
  · refine And.intro (z0p hS s0 hN (by omega) (by omega)) (fun a1 e1 r1 => ?_)
    refine And.intro (zA_40 hS) ⟨_, hA 16 (by decide), ?_⟩
    refine ⟨σ, a1, 0, 0, 0, 0, rfl, ⟨r1, (zRb rfl), (zRb rfl), (zRb rfl), (zRb rfl)⟩, hS, pA, ?_⟩
    intro I1 L1 R1 S1 pA1 fA wA
    have hS1 := zSh_A hS fA
    have s1 : S1.1 0 = (100, N) := by rw [fA.1]; exact s0
    have pB1 := kB _ _ _ _ _ _ _ _ _ pB fA
    refine And.intro (z0p hS1 s1 hN (by omega) (by omega)) (zrd (v := a1) ((fA.2 0 _ (by omega)).1.trans e1.symm) ?_)
    refine And.intro (zA_165 hS1) ⟨_, hB 16 (by decide), ?_⟩
    refine ⟨σ, a1, 0, 0, 0, 0, rfl, ⟨r1, (zRb rfl), (zRb rfl), (zRb rfl), (zRb rfl)⟩, hS1, pB1, ?_⟩
    intro I2 L2 R2 S2 pB2 fB wB
    have pA2 := kA _ _ _ _ _ _ _ _ _ pA1 fB
    refine ⟨_, _, ⟨zW6i wA, zW6i wB⟩, fun z cz => ?_⟩
    refine And.intro cz.2.2 (And.intro (fun _ => ?_) (fun h => absurd h (by omega)))
    exact ⟨_, zlt1 (by omega), _, _, rfl, rfl, rfl, ⟨by omega, by omega⟩, (fB.1.2 0 (z0r hS1)).trans s1, zSh_B hS1 fB, pA2, pB2⟩
  · refine And.intro (z0p hS s0 hN (by omega) (by omega)) (fun a1 e1 r1 => ?_)
    refine And.intro (z0p hS s0 hN (by omega) (by omega)) (fun a2 e2 r2 => ?_)
    refine And.intro (zA_40 hS) ⟨_, hA 17 (by decide), ?_⟩
    refine ⟨σ, a1, a2, 0, 0, 0, rfl, ⟨r1, r2, (zRb rfl), (zRb rfl), (zRb rfl)⟩, hS, pA, ?_⟩
    intro I1 L1 R1 S1 pA1 fA wA
    have hS1 := zSh_A hS fA
    have s1 : S1.1 0 = (100, N) := by rw [fA.1]; exact s0
    have pB1 := kB _ _ _ _ _ _ _ _ _ pB fA
    refine And.intro (z0p hS1 s1 hN (by omega) (by omega)) (zrd (v := a1) ((fA.2 0 _ (by omega)).1.trans e1.symm) ?_)
    refine And.intro (z0p hS1 s1 hN (by omega) (by omega)) (zrd (v := a2) ((fA.2 0 _ (by omega)).1.trans e2.symm) ?_)
    refine And.intro (zA_165 hS1) ⟨_, hB 17 (by decide), ?_⟩
    refine ⟨σ, a1, a2, 0, 0, 0, rfl, ⟨r1, r2, (zRb rfl), (zRb rfl), (zRb rfl)⟩, hS1, pB1, ?_⟩
    intro I2 L2 R2 S2 pB2 fB wB
    have pA2 := kA _ _ _ _ _ _ _ _ _ pA1 fB
    refine And.intro ⟨wA, wB⟩ (And.intro (fun _ => ?_) (fun h => absurd rfl h))
    exact ⟨_, zlt1 (by omega), _, _, rfl, rfl, rfl, ⟨by omega, by omega⟩, (fB.1.2 0 (z0r hS1)).trans s1, zSh_B hS1 fB, pA2, pB2⟩
  · refine And.intro (z0p hS s0 hN (by omega) (by omega)) (fun a1 e1 r1 => ?_)
    refine And.intro (z0p hS s0 hN (by omega) (by omega)) (fun a2 e2 r2 => ?_)
    refine And.intro (z0p hS s0 hN (by omega) (by omega)) (fun a3 e3 r3 => ?_)
    refine And.intro (z0p hS s0 hN (by omega) (by omega)) (fun a4 e4 r4 => ?_)
    refine And.intro (zA_40 hS) ⟨_, hA 18 (by decide), ?_⟩
    refine ⟨σ, a1, a2, a3, a4, 0, rfl, ⟨r1, r2, r3, r4, (zRb rfl)⟩, hS, pA, ?_⟩
    intro I1 L1 R1 S1 pA1 fA wA
    have hS1 := zSh_A hS fA
    have s1 : S1.1 0 = (100, N) := by rw [fA.1]; exact s0
    have pB1 := kB _ _ _ _ _ _ _ _ _ pB fA
    refine And.intro (z0p hS1 s1 hN (by omega) (by omega)) (zrd (v := a1) ((fA.2 0 _ (by omega)).1.trans e1.symm) ?_)
    refine And.intro (z0p hS1 s1 hN (by omega) (by omega)) (zrd (v := a2) ((fA.2 0 _ (by omega)).1.trans e2.symm) ?_)
    refine And.intro (z0p hS1 s1 hN (by omega) (by omega)) (zrd (v := a3) ((fA.2 0 _ (by omega)).1.trans e3.symm) ?_)
    refine And.intro (z0p hS1 s1 hN (by omega) (by omega)) (zrd (v := a4) ((fA.2 0 _ (by omega)).1.trans e4.symm) ?_)
    refine And.intro (zA_165 hS1) ⟨_, hB 18 (by decide), ?_⟩
    refine ⟨σ, a1, a2, a3, a4, 0, rfl, ⟨r1, r2, r3, r4, (zRb rfl)⟩, hS1, pB1, ?_⟩
    intro I2 L2 R2 S2 pB2 fB wB
    have pA2 := kA _ _ _ _ _ _ _ _ _ pA1 fB
    refine And.intro ⟨wA, wB⟩ (And.intro (fun _ => ?_) (fun h => absurd rfl h))
    exact ⟨_, zlt1 (by omega), _, _, rfl, rfl, rfl, ⟨by omega, by omega⟩, (fB.1.2 0 (z0r hS1)).trans s1, zSh_B hS1 fB, pA2, pB2⟩
  · refine And.intro (zA_40 hS) ⟨_, hA 19 (by decide), ?_⟩
    refine ⟨σ, 0, 0, 0, 0, 0, rfl, ⟨(zRb rfl), (zRb rfl), (zRb rfl), (zRb rfl), (zRb rfl)⟩, hS, pA, ?_⟩
    intro I1 L1 R1 S1 pA1 fA wA
    have hS1 := zSh_A hS fA
    have s1 : S1.1 0 = (100, N) := by rw [fA.1]; exact s0
    have pB1 := kB _ _ _ _ _ _ _ _ _ pB fA
    refine And.intro (zA_165 hS1) ⟨_, hB 19 (by decide), ?_⟩
    refine ⟨σ, 0, 0, 0, 0, 0, rfl, ⟨(zRb rfl), (zRb rfl), (zRb rfl), (zRb rfl), (zRb rfl)⟩, hS1, pB1, ?_⟩
    intro I2 L2 R2 S2 pB2 fB wB
    have pA2 := kA _ _ _ _ _ _ _ _ _ pA1 fB
    refine And.intro ⟨wA, wB⟩ (And.intro (fun _ => ?_) (fun h => absurd rfl h))
    exact ⟨_, zlt1 (by omega), _, _, rfl, rfl, rfl, ⟨by omega, by omega⟩, (fB.1.2 0 (z0r hS1)).trans s1, zSh_B hS1 fB, pA2, pB2⟩
  · refine And.intro (zA_40 hS) ⟨_, hA 20 (by decide), ?_⟩
    refine ⟨σ, 0, 0, 0, 0, 0, rfl, ⟨(zRb rfl), (zRb rfl), (zRb rfl), (zRb rfl), (zRb rfl)⟩, hS, pA, ?_⟩
    intro I1 L1 R1 S1 pA1 fA wA
    have hS1 := zSh_A hS fA
    have s1 : S1.1 0 = (100, N) := by rw [fA.1]; exact s0
    have pB1 := kB _ _ _ _ _ _ _ _ _ pB fA
    refine And.intro (zA_165 hS1) ⟨_, hB 20 (by decide), ?_⟩
    refine ⟨σ, 0, 0, 0, 0, 0, rfl, ⟨(zRb rfl), (zRb rfl), (zRb rfl), (zRb rfl), (zRb rfl)⟩, hS1, pB1, ?_⟩
    intro I2 L2 R2 S2 pB2 fB wB
    have pA2 := kA _ _ _ _ _ _ _ _ _ pA1 fB
    refine And.intro ⟨wA, wB⟩ (And.intro (fun _ => ?_) (fun h => absurd rfl h))
    exact ⟨_, zlt1 (by omega), _, _, rfl, rfl, rfl, ⟨by omega, by omega⟩, (fB.1.2 0 (z0r hS1)).trans s1, zSh_B hS1 fB, pA2, pB2⟩
  · refine And.intro (z0p hS s0 hN (by omega) (by omega)) (fun a1 e1 r1 => ?_)
    refine And.intro (z0p hS s0 hN (by omega) (by omega)) (fun a2 e2 r2 => ?_)
    refine And.intro (zA_40 hS) ⟨_, hA 21 (by decide), ?_⟩
    refine ⟨σ, a1, a2, 0, 0, 0, rfl, ⟨r1, r2, (zRb rfl), (zRb rfl), (zRb rfl)⟩, hS, pA, ?_⟩
    intro I1 L1 R1 S1 pA1 fA wA
    have hS1 := zSh_A hS fA
    have s1 : S1.1 0 = (100, N) := by rw [fA.1]; exact s0
    have pB1 := kB _ _ _ _ _ _ _ _ _ pB fA
    refine And.intro (z0p hS1 s1 hN (by omega) (by omega)) (zrd (v := a1) ((fA.2 0 _ (by omega)).1.trans e1.symm) ?_)
    refine And.intro (z0p hS1 s1 hN (by omega) (by omega)) (zrd (v := a2) ((fA.2 0 _ (by omega)).1.trans e2.symm) ?_)
    refine And.intro (zA_165 hS1) ⟨_, hB 21 (by decide), ?_⟩
    refine ⟨σ, a1, a2, 0, 0, 0, rfl, ⟨r1, r2, (zRb rfl), (zRb rfl), (zRb rfl)⟩, hS1, pB1, ?_⟩
    intro I2 L2 R2 S2 pB2 fB wB
    have pA2 := kA _ _ _ _ _ _ _ _ _ pA1 fB
    refine And.intro ⟨wA, wB⟩ (And.intro (fun _ => ?_) (fun h => absurd rfl h))
    exact ⟨_, zlt1 (by omega), _, _, rfl, rfl, rfl, ⟨by omega, by omega⟩, (fB.1.2 0 (z0r hS1)).trans s1, zSh_B hS1 fB, pA2, pB2⟩
  · refine And.intro (z0p hS s0 hN (by omega) (by omega)) (fun a1 e1 r1 => ?_)
    refine And.intro (zA_40 hS) ⟨_, hA 22 (by decide), ?_⟩
    refine ⟨σ, a1, 0, 0, 0, 0, rfl, ⟨r1, (zRb rfl), (zRb rfl), (zRb rfl), (zRb rfl)⟩, hS, pA, ?_⟩
    intro I1 L1 R1 S1 pA1 fA wA
    have hS1 := zSh_A hS fA
    have s1 : S1.1 0 = (100, N) := by rw [fA.1]; exact s0
    have pB1 := kB _ _ _ _ _ _ _ _ _ pB fA
    refine And.intro (z0p hS1 s1 hN (by omega) (by omega)) (zrd (v := a1) ((fA.2 0 _ (by omega)).1.trans e1.symm) ?_)
    refine And.intro (zA_165 hS1) ⟨_, hB 22 (by decide), ?_⟩
    refine ⟨σ, a1, 0, 0, 0, 0, rfl, ⟨r1, (zRb rfl), (zRb rfl), (zRb rfl), (zRb rfl)⟩, hS1, pB1, ?_⟩
    intro I2 L2 R2 S2 pB2 fB wB
    have pA2 := kA _ _ _ _ _ _ _ _ _ pA1 fB
    refine And.intro ⟨wA, wB⟩ (And.intro (fun _ => ?_) (fun h => absurd rfl h))
    exact ⟨_, zlt1 (by omega), _, _, rfl, rfl, rfl, ⟨by omega, by omega⟩, (fB.1.2 0 (z0r hS1)).trans s1, zSh_B hS1 fB, pA2, pB2⟩
  · refine And.intro (z0p hS s0 hN (by omega) (by omega)) (fun a1 e1 r1 => ?_)
    refine And.intro (z0p hS s0 hN (by omega) (by omega)) (fun a2 e2 r2 => ?_)
    refine And.intro (z0p hS s0 hN (by omega) (by omega)) (fun a3 e3 r3 => ?_)
    refine And.intro (zA_40 hS) ⟨_, hA 23 (by decide), ?_⟩
    refine ⟨σ, a1, a2, a3, 0, 0, rfl, ⟨r1, r2, r3, (zRb rfl), (zRb rfl)⟩, hS, pA, ?_⟩
    intro I1 L1 R1 S1 pA1 fA wA
    have hS1 := zSh_A hS fA
    have s1 : S1.1 0 = (100, N) := by rw [fA.1]; exact s0
    have pB1 := kB _ _ _ _ _ _ _ _ _ pB fA
    refine And.intro (z0p hS1 s1 hN (by omega) (by omega)) (zrd (v := a1) ((fA.2 0 _ (by omega)).1.trans e1.symm) ?_)
    refine And.intro (z0p hS1 s1 hN (by omega) (by omega)) (zrd (v := a2) ((fA.2 0 _ (by omega)).1.trans e2.symm) ?_)
    refine And.intro (z0p hS1 s1 hN (by omega) (by omega)) (zrd (v := a3) ((fA.2 0 _ (by omega)).1.trans e3.symm) ?_)
    refine And.intro (zA_165 hS1) ⟨_, hB 23 (by decide), ?_⟩
    refine ⟨σ, a1, a2, a3, 0, 0, rfl, ⟨r1, r2, r3, (zRb rfl), (zRb rfl)⟩, hS1, pB1, ?_⟩
    intro I2 L2 R2 S2 pB2 fB wB
    have pA2 := kA _ _ _ _ _ _ _ _ _ pA1 fB
    refine And.intro ⟨wA, wB⟩ (And.intro (fun _ => ?_) (fun h => absurd rfl h))
    exact ⟨_, zlt1 (by omega), _, _, rfl, rfl, rfl, ⟨by omega, by omega⟩, (fB.1.2 0 (z0r hS1)).trans s1, zSh_B hS1 fB, pA2, pB2⟩
  · refine And.intro (zA_40 hS) ⟨_, hA 24 (by decide), ?_⟩
    refine ⟨σ, 0, 0, 0, 0, 0, rfl, ⟨(zRb rfl), (zRb rfl), (zRb rfl), (zRb rfl), (zRb rfl)⟩, hS, pA, ?_⟩
    intro I1 L1 R1 S1 pA1 fA wA
    have hS1 := zSh_A hS fA
    have s1 : S1.1 0 = (100, N) := by rw [fA.1]; exact s0
    have pB1 := kB _ _ _ _ _ _ _ _ _ pB fA
    refine And.intro (zA_165 hS1) ⟨_, hB 24 (by decide), ?_⟩
    refine ⟨σ, 0, 0, 0, 0, 0, rfl, ⟨(zRb rfl), (zRb rfl), (zRb rfl), (zRb rfl), (zRb rfl)⟩, hS1, pB1, ?_⟩
    intro I2 L2 R2 S2 pB2 fB wB
    have pA2 := kA _ _ _ _ _ _ _ _ _ pA1 fB
    refine And.intro ⟨wA, wB⟩ (And.intro (fun _ => ?_) (fun h => absurd rfl h))
    exact ⟨_, zlt1 (by omega), _, _, rfl, rfl, rfl, ⟨by omega, by omega⟩, (fB.1.2 0 (z0r hS1)).trans s1, zSh_B hS1 fB, pA2, pB2⟩
  · refine And.intro (zA_40 hS) ⟨_, hA 25 (by decide), ?_⟩
    refine ⟨σ, 0, 0, 0, 0, 0, rfl, ⟨(zRb rfl), (zRb rfl), (zRb rfl), (zRb rfl), (zRb rfl)⟩, hS, pA, ?_⟩
    intro I1 L1 R1 S1 pA1 fA wA
    have hS1 := zSh_A hS fA
    have s1 : S1.1 0 = (100, N) := by rw [fA.1]; exact s0
    have pB1 := kB _ _ _ _ _ _ _ _ _ pB fA
    refine And.intro (zA_165 hS1) ⟨_, hB 25 (by decide), ?_⟩
    refine ⟨σ, 0, 0, 0, 0, 0, rfl, ⟨(zRb rfl), (zRb rfl), (zRb rfl), (zRb rfl), (zRb rfl)⟩, hS1, pB1, ?_⟩
    intro I2 L2 R2 S2 pB2 fB wB
    have pA2 := kA _ _ _ _ _ _ _ _ _ pA1 fB
    refine And.intro ⟨wA, wB⟩ (And.intro (fun _ => ?_) (fun h => absurd rfl h))
    exact ⟨_, zlt1 (by omega), _, _, rfl, rfl, rfl, ⟨by omega, by omega⟩, (fB.1.2 0 (z0r hS1)).trans s1, zSh_B hS1 fB, pA2, pB2⟩
  · refine And.intro (z0p hS s0 hN (by omega) (by omega)) (fun a1 e1 r1 => ?_)
    refine And.intro (z0p hS s0 hN (by omega) (by omega)) (fun a2 e2 r2 => ?_)
    refine And.intro (zA_40 hS) ⟨_, hA 26 (by decide), ?_⟩
    refine ⟨σ, a1, a2, 0, 0, 0, rfl, ⟨r1, r2, (zRb rfl), (zRb rfl), (zRb rfl)⟩, hS, pA, ?_⟩
    intro I1 L1 R1 S1 pA1 fA wA
    have hS1 := zSh_A hS fA
    have s1 : S1.1 0 = (100, N) := by rw [fA.1]; exact s0
    have pB1 := kB _ _ _ _ _ _ _ _ _ pB fA
    refine And.intro (z0p hS1 s1 hN (by omega) (by omega)) (zrd (v := a1) ((fA.2 0 _ (by omega)).1.trans e1.symm) ?_)
    refine And.intro (z0p hS1 s1 hN (by omega) (by omega)) (zrd (v := a2) ((fA.2 0 _ (by omega)).1.trans e2.symm) ?_)
    refine And.intro (zA_165 hS1) ⟨_, hB 26 (by decide), ?_⟩
    refine ⟨σ, a1, a2, 0, 0, 0, rfl, ⟨r1, r2, (zRb rfl), (zRb rfl), (zRb rfl)⟩, hS1, pB1, ?_⟩
    intro I2 L2 R2 S2 pB2 fB wB
    have pA2 := kA _ _ _ _ _ _ _ _ _ pA1 fB
    refine And.intro ⟨wA, wB⟩ (And.intro (fun _ => ?_) (fun h => absurd rfl h))
    exact ⟨_, zlt1 (by omega), _, _, rfl, rfl, rfl, ⟨by omega, by omega⟩, (fB.1.2 0 (z0r hS1)).trans s1, zSh_B hS1 fB, pA2, pB2⟩
  · refine And.intro (z0p hS s0 hN (by omega) (by omega)) (fun a1 e1 r1 => ?_)
    refine And.intro (zA_40 hS) ⟨_, hA 27 (by decide), ?_⟩
    refine ⟨σ, a1, 0, 0, 0, 0, rfl, ⟨r1, (zRb rfl), (zRb rfl), (zRb rfl), (zRb rfl)⟩, hS, pA, ?_⟩
    intro I1 L1 R1 S1 pA1 fA wA
    have hS1 := zSh_A hS fA
    have s1 : S1.1 0 = (100, N) := by rw [fA.1]; exact s0
    have pB1 := kB _ _ _ _ _ _ _ _ _ pB fA
    refine And.intro (z0p hS1 s1 hN (by omega) (by omega)) (zrd (v := a1) ((fA.2 0 _ (by omega)).1.trans e1.symm) ?_)
    refine And.intro (zA_165 hS1) ⟨_, hB 27 (by decide), ?_⟩
    refine ⟨σ, a1, 0, 0, 0, 0, rfl, ⟨r1, (zRb rfl), (zRb rfl), (zRb rfl), (zRb rfl)⟩, hS1, pB1, ?_⟩
    intro I2 L2 R2 S2 pB2 fB wB
    have pA2 := kA _ _ _ _ _ _ _ _ _ pA1 fB
    refine And.intro ⟨wA, wB⟩ (And.intro (fun _ => ?_) (fun h => absurd rfl h))
    exact ⟨_, zlt1 (by omega), _, _, rfl, rfl, rfl, ⟨by omega, by omega⟩, (fB.1.2 0 (z0r hS1)).trans s1, zSh_B hS1 fB, pA2, pB2⟩
  · refine And.intro (zA_40 hS) ⟨_, hA 28 (by decide), ?_⟩
    refine ⟨σ, 0, 0, 0, 0, 0, rfl, ⟨(zRb rfl), (zRb rfl), (zRb rfl), (zRb rfl), (zRb rfl)⟩, hS, pA, ?_⟩
    intro I1 L1 R1 S1 pA1 fA wA
    have hS1 := zSh_A hS fA
    have s1 : S1.1 0 = (100, N) := by rw [fA.1]; exact s0
    have pB1 := kB _ _ _ _ _ _ _ _ _ pB fA
    refine And.intro (zA_165 hS1) ⟨_, hB 28 (by decide), ?_⟩
    refine ⟨σ, 0, 0, 0, 0, 0, rfl, ⟨(zRb rfl), (zRb rfl), (zRb rfl), (zRb rfl), (zRb rfl)⟩, hS1, pB1, ?_⟩
    intro I2 L2 R2 S2 pB2 fB wB
    have pA2 := kA _ _ _ _ _ _ _ _ _ pA1 fB
    refine And.intro ⟨wA, wB⟩ (And.intro (fun _ => ?_) (fun h => absurd rfl h))
    exact ⟨_, zlt1 (by omega), _, _, rfl, rfl, rfl, ⟨by omega, by omega⟩, (fB.1.2 0 (z0r hS1)).trans s1, zSh_B hS1 fB, pA2, pB2⟩
  · refine And.intro (zA_40 hS) ⟨_, hA 29 (by decide), ?_⟩
    refine ⟨σ, 0, 0, 0, 0, 0, rfl, ⟨(zRb rfl), (zRb rfl), (zRb rfl), (zRb rfl), (zRb rfl)⟩, hS, pA, ?_⟩
    intro I1 L1 R1 S1 pA1 fA wA
    have hS1 := zSh_A hS fA
    have s1 : S1.1 0 = (100, N) := by rw [fA.1]; exact s0
    have pB1 := kB _ _ _ _ _ _ _ _ _ pB fA
    refine And.intro (zA_165 hS1) ⟨_, hB 29 (by decide), ?_⟩
    refine ⟨σ, 0, 0, 0, 0, 0, rfl, ⟨(zRb rfl), (zRb rfl), (zRb rfl), (zRb rfl), (zRb rfl)⟩, hS1, pB1, ?_⟩
    intro I2 L2 R2 S2 pB2 fB wB
    have pA2 := kA _ _ _ _ _ _ _ _ _ pA1 fB
    refine And.intro ⟨wA, wB⟩ (And.intro (fun _ => ?_) (fun h => absurd rfl h))
    exact ⟨_, zlt1 (by omega), _, _, rfl, rfl, rfl, ⟨by omega, by omega⟩, (fB.1.2 0 (z0r hS1)).trans s1, zSh_B hS1 fB, pA2, pB2⟩
  · refine And.intro (z0p hS s0 hN (by omega) (by omega)) (fun a1 e1 r1 => ?_)
    refine And.intro (zA_40 hS) ⟨_, hA 30 (by decide), ?_⟩
    refine ⟨σ, a1, 0, 0, 0, 0, rfl, ⟨r1, (zRb rfl), (zRb rfl), (zRb rfl), (zRb rfl)⟩, hS, pA, ?_⟩
    intro I1 L1 R1 S1 pA1 fA wA
    have hS1 := zSh_A hS fA
    have s1 : S1.1 0 = (100, N) := by rw [fA.1]; exact s0
    have pB1 := kB _ _ _ _ _ _ _ _ _ pB fA
    refine And.intro (z0p hS1 s1 hN (by omega) (by omega)) (zrd (v := a1) ((fA.2 0 _ (by omega)).1.trans e1.symm) ?_)
    refine And.intro (zA_165 hS1) ⟨_, hB 30 (by decide), ?_⟩
    refine ⟨σ, a1, 0, 0, 0, 0, rfl, ⟨r1, (zRb rfl), (zRb rfl), (zRb rfl), (zRb rfl)⟩, hS1, pB1, ?_⟩
    intro I2 L2 R2 S2 pB2 fB wB
    have pA2 := kA _ _ _ _ _ _ _ _ _ pA1 fB
    refine And.intro ⟨wA, wB⟩ (And.intro (fun _ => ?_) (fun h => absurd rfl h))
    exact ⟨_, zlt1 (by omega), _, _, rfl, rfl, rfl, ⟨by omega, by omega⟩, (fB.1.2 0 (z0r hS1)).trans s1, zSh_B hS1 fB, pA2, pB2⟩
  · refine And.intro (z0p hS s0 hN (by omega) (by omega)) (fun a1 e1 r1 => ?_)
    refine And.intro (zA_40 hS) ⟨_, hA 31 (by decide), ?_⟩
    refine ⟨σ, a1, 0, 0, 0, 0, rfl, ⟨r1, (zRb rfl), (zRb rfl), (zRb rfl), (zRb rfl)⟩, hS, pA, ?_⟩
    intro I1 L1 R1 S1 pA1 fA wA
    have hS1 := zSh_A hS fA
    have s1 : S1.1 0 = (100, N) := by rw [fA.1]; exact s0
    have pB1 := kB _ _ _ _ _ _ _ _ _ pB fA
    refine And.intro (z0p hS1 s1 hN (by omega) (by omega)) (zrd (v := a1) ((fA.2 0 _ (by omega)).1.trans e1.symm) ?_)
    refine And.intro (zA_165 hS1) ⟨_, hB 31 (by decide), ?_⟩
    refine ⟨σ, a1, 0, 0, 0, 0, rfl, ⟨r1, (zRb rfl), (zRb rfl), (zRb rfl), (zRb rfl)⟩, hS1, pB1, ?_⟩
    intro I2 L2 R2 S2 pB2 fB wB
    have pA2 := kA _ _ _ _ _ _ _ _ _ pA1 fB
    refine ⟨_, _, ⟨zW6i wA, zW6i wB⟩, fun z cz => ?_⟩
    refine And.intro cz.2.2 (And.intro (fun _ => ?_) (fun h => absurd h (by omega)))
    exact ⟨_, zlt1 (by omega), _, _, rfl, rfl, rfl, ⟨by omega, by omega⟩, (fB.1.2 0 (z0r hS1)).trans s1, zSh_B hS1 fB, pA2, pB2⟩
  · refine And.intro (z0p hS s0 hN (by omega) (by omega)) (fun a1 e1 r1 => ?_)
    refine And.intro (zA_40 hS) ⟨_, hA 32 (by decide), ?_⟩
    refine ⟨σ, a1, 0, 0, 0, 0, rfl, ⟨r1, (zRb rfl), (zRb rfl), (zRb rfl), (zRb rfl)⟩, hS, pA, ?_⟩
    intro I1 L1 R1 S1 pA1 fA wA
    have hS1 := zSh_A hS fA
    have s1 : S1.1 0 = (100, N) := by rw [fA.1]; exact s0
    have pB1 := kB _ _ _ _ _ _ _ _ _ pB fA
    refine And.intro (z0p hS1 s1 hN (by omega) (by omega)) (zrd (v := a1) ((fA.2 0 _ (by omega)).1.trans e1.symm) ?_)
    refine And.intro (zA_165 hS1) ⟨_, hB 32 (by decide), ?_⟩
    refine ⟨σ, a1, 0, 0, 0, 0, rfl, ⟨r1, (zRb rfl), (zRb rfl), (zRb rfl), (zRb rfl)⟩, hS1, pB1, ?_⟩
    intro I2 L2 R2 S2 pB2 fB wB
    have pA2 := kA _ _ _ _ _ _ _ _ _ pA1 fB
    refine And.intro ⟨wA, wB⟩ (And.intro (fun _ => ?_) (fun h => absurd rfl h))
    exact ⟨_, zlt1 (by omega), _, _, rfl, rfl, rfl, ⟨by omega, by omega⟩, (fB.1.2 0 (z0r hS1)).trans s1, zSh_B hS1 fB, pA2, pB2⟩
  · refine And.intro (z0p hS s0 hN (by omega) (by omega)) (fun a1 e1 r1 => ?_)
    refine And.intro (zA_40 hS) ⟨_, hA 33 (by decide), ?_⟩
    refine ⟨σ, a1, 0, 0, 0, 0, rfl, ⟨r1, (zRb rfl), (zRb rfl), (zRb rfl), (zRb rfl)⟩, hS, pA, ?_⟩
    intro I1 L1 R1 S1 pA1 fA wA
    have hS1 := zSh_A hS fA
    have s1 : S1.1 0 = (100, N) := by rw [fA.1]; exact s0
    have pB1 := kB _ _ _ _ _ _ _ _ _ pB fA
    refine And.intro (z0p hS1 s1 hN (by omega) (by omega)) (zrd (v := a1) ((fA.2 0 _ (by omega)).1.trans e1.symm) ?_)
    refine And.intro (zA_165 hS1) ⟨_, hB 33 (by decide), ?_⟩
    refine ⟨σ, a1, 0, 0, 0, 0, rfl, ⟨r1, (zRb rfl), (zRb rfl), (zRb rfl), (zRb rfl)⟩, hS1, pB1, ?_⟩
    intro I2 L2 R2 S2 pB2 fB wB
    have pA2 := kA _ _ _ _ _ _ _ _ _ pA1 fB
    refine And.intro ⟨wA, wB⟩ (And.intro (fun _ => ?_) (fun h => absurd rfl h))
    exact ⟨_, zlt1 (by omega), _, _, rfl, rfl, rfl, ⟨by omega, by omega⟩, (fB.1.2 0 (z0r hS1)).trans s1, zSh_B hS1 fB, pA2, pB2⟩
  · refine And.intro (zA_40 hS) ⟨_, hA 34 (by decide), ?_⟩
    refine ⟨σ, 0, 0, 0, 0, 0, rfl, ⟨(zRb rfl), (zRb rfl), (zRb rfl), (zRb rfl), (zRb rfl)⟩, hS, pA, ?_⟩
    intro I1 L1 R1 S1 pA1 fA wA
    have hS1 := zSh_A hS fA
    have s1 : S1.1 0 = (100, N) := by rw [fA.1]; exact s0
    have pB1 := kB _ _ _ _ _ _ _ _ _ pB fA
    refine And.intro (zA_165 hS1) ⟨_, hB 34 (by decide), ?_⟩
    refine ⟨σ, 0, 0, 0, 0, 0, rfl, ⟨(zRb rfl), (zRb rfl), (zRb rfl), (zRb rfl), (zRb rfl)⟩, hS1, pB1, ?_⟩
    intro I2 L2 R2 S2 pB2 fB wB
    have pA2 := kA _ _ _ _ _ _ _ _ _ pA1 fB
    refine And.intro ⟨wA, wB⟩ (And.intro (fun _ => ?_) (fun h => absurd rfl h))
    exact ⟨_, zlt1 (by omega), _, _, rfl, rfl, rfl, ⟨by omega, by omega⟩, (fB.1.2 0 (z0r hS1)).trans s1, zSh_B hS1 fB, pA2, pB2⟩
  · refine And.intro (z0p hS s0 hN (by omega) (by omega)) (fun a1 e1 r1 => ?_)
    refine And.intro (zA_40 hS) ⟨_, hA 35 (by decide), ?_⟩
    refine ⟨σ, a1, 0, 0, 0, 0, rfl, ⟨r1, (zRb rfl), (zRb rfl), (zRb rfl), (zRb rfl)⟩, hS, pA, ?_⟩
    intro I1 L1 R1 S1 pA1 fA wA
    have hS1 := zSh_A hS fA
    have s1 : S1.1 0 = (100, N) := by rw [fA.1]; exact s0
    have pB1 := kB _ _ _ _ _ _ _ _ _ pB fA
    refine And.intro (z0p hS1 s1 hN (by omega) (by omega)) (zrd (v := a1) ((fA.2 0 _ (by omega)).1.trans e1.symm) ?_)
    refine And.intro (zA_165 hS1) ⟨_, hB 35 (by decide), ?_⟩
    refine ⟨σ, a1, 0, 0, 0, 0, rfl, ⟨r1, (zRb rfl), (zRb rfl), (zRb rfl), (zRb rfl)⟩, hS1, pB1, ?_⟩
    intro I2 L2 R2 S2 pB2 fB wB
    have pA2 := kA _ _ _ _ _ _ _ _ _ pA1 fB
    refine And.intro ⟨wA, wB⟩ (And.intro (fun _ => ?_) (fun h => absurd rfl h))
    exact ⟨_, zlt1 (by omega), _, _, rfl, rfl, rfl, ⟨by omega, by omega⟩, (fB.1.2 0 (z0r hS1)).trans s1, zSh_B hS1 fB, pA2, pB2⟩
  · refine And.intro (zA_40 hS) ⟨_, hA 36 (by decide), ?_⟩
    refine ⟨σ, 0, 0, 0, 0, 0, rfl, ⟨(zRb rfl), (zRb rfl), (zRb rfl), (zRb rfl), (zRb rfl)⟩, hS, pA, ?_⟩
    intro I1 L1 R1 S1 pA1 fA wA
    have hS1 := zSh_A hS fA
    have s1 : S1.1 0 = (100, N) := by rw [fA.1]; exact s0
    have pB1 := kB _ _ _ _ _ _ _ _ _ pB fA
    refine And.intro (zA_165 hS1) ⟨_, hB 36 (by decide), ?_⟩
    refine ⟨σ, 0, 0, 0, 0, 0, rfl, ⟨(zRb rfl), (zRb rfl), (zRb rfl), (zRb rfl), (zRb rfl)⟩, hS1, pB1, ?_⟩
    intro I2 L2 R2 S2 pB2 fB wB
    have pA2 := kA _ _ _ _ _ _ _ _ _ pA1 fB
    refine And.intro ⟨wA, wB⟩ (And.intro (fun _ => ?_) (fun h => absurd rfl h))
    exact ⟨_, zlt1 (by omega), _, _, rfl, rfl, rfl, ⟨by omega, by omega⟩, (fB.1.2 0 (z0r hS1)).trans s1, zSh_B hS1 fB, pA2, pB2⟩
  · refine And.intro (z0p hS s0 hN (by omega) (by omega)) (fun a1 e1 r1 => ?_)
    refine And.intro (zA_40 hS) ⟨_, hA 37 (by decide), ?_⟩
    refine ⟨σ, a1, 0, 0, 0, 0, rfl, ⟨r1, (zRb rfl), (zRb rfl), (zRb rfl), (zRb rfl)⟩, hS, pA, ?_⟩
    intro I1 L1 R1 S1 pA1 fA wA
    have hS1 := zSh_A hS fA
    have s1 : S1.1 0 = (100, N) := by rw [fA.1]; exact s0
    have pB1 := kB _ _ _ _ _ _ _ _ _ pB fA
    refine And.intro (z0p hS1 s1 hN (by omega) (by omega)) (zrd (v := a1) ((fA.2 0 _ (by omega)).1.trans e1.symm) ?_)
    refine And.intro (zA_165 hS1) ⟨_, hB 37 (by decide), ?_⟩
    refine ⟨σ, a1, 0, 0, 0, 0, rfl, ⟨r1, (zRb rfl), (zRb rfl), (zRb rfl), (zRb rfl)⟩, hS1, pB1, ?_⟩
    intro I2 L2 R2 S2 pB2 fB wB
    have pA2 := kA _ _ _ _ _ _ _ _ _ pA1 fB
    refine And.intro ⟨wA, wB⟩ (And.intro (fun _ => ?_) (fun h => absurd rfl h))
    exact ⟨_, zlt1 (by omega), _, _, rfl, rfl, rfl, ⟨by omega, by omega⟩, (fB.1.2 0 (z0r hS1)).trans s1, zSh_B hS1 fB, pA2, pB2⟩
  · refine And.intro (zA_40 hS) ⟨_, hA 38 (by decide), ?_⟩
    refine ⟨σ, 0, 0, 0, 0, 0, rfl, ⟨(zRb rfl), (zRb rfl), (zRb rfl), (zRb rfl), (zRb rfl)⟩, hS, pA, ?_⟩
    intro I1 L1 R1 S1 pA1 fA wA
    have hS1 := zSh_A hS fA
    have s1 : S1.1 0 = (100, N) := by rw [fA.1]; exact s0
    have pB1 := kB _ _ _ _ _ _ _ _ _ pB fA
    refine And.intro (zA_165 hS1) ⟨_, hB 38 (by decide), ?_⟩
    refine ⟨σ, 0, 0, 0, 0, 0, rfl, ⟨(zRb rfl), (zRb rfl), (zRb rfl), (zRb rfl), (zRb rfl)⟩, hS1, pB1, ?_⟩
    intro I2 L2 R2 S2 pB2 fB wB
    have pA2 := kA _ _ _ _ _ _ _ _ _ pA1 fB
    refine And.intro ⟨wA, wB⟩ (And.intro (fun _ => ?_) (fun h => absurd rfl h))
    exact ⟨_, zlt1 (by omega), _, _, rfl, rfl, rfl, ⟨by omega, by omega⟩, (fB.1.2 0 (z0r hS1)).trans s1, zSh_B hS1 fB, pA2, pB2⟩
  · refine And.intro (z0p hS s0 hN (by omega) (by omega)) (fun a1 e1 r1 => ?_)
    refine And.intro (z0p hS s0 hN (by omega) (by omega)) (fun a2 e2 r2 => ?_)
    refine And.intro (zA_40 hS) ⟨_, hA 39 (by decide), ?_⟩
    refine ⟨σ, a1, a2, 0, 0, 0, rfl, ⟨r1, r2, (zRb rfl), (zRb rfl), (zRb rfl)⟩, hS, pA, ?_⟩
    intro I1 L1 R1 S1 pA1 fA wA
    have hS1 := zSh_A hS fA
    have s1 : S1.1 0 = (100, N) := by rw [fA.1]; exact s0
    have pB1 := kB _ _ _ _ _ _ _ _ _ pB fA
    refine And.intro (z0p hS1 s1 hN (by omega) (by omega)) (zrd (v := a1) ((fA.2 0 _ (by omega)).1.trans e1.symm) ?_)
    refine And.intro (z0p hS1 s1 hN (by omega) (by omega)) (zrd (v := a2) ((fA.2 0 _ (by omega)).1.trans e2.symm) ?_)
    refine And.intro (zA_165 hS1) ⟨_, hB 39 (by decide), ?_⟩
    refine ⟨σ, a1, a2, 0, 0, 0, rfl, ⟨r1, r2, (zRb rfl), (zRb rfl), (zRb rfl)⟩, hS1, pB1, ?_⟩
    intro I2 L2 R2 S2 pB2 fB wB
    have pA2 := kA _ _ _ _ _ _ _ _ _ pA1 fB
    refine And.intro ⟨wA, wB⟩ (And.intro (fun _ => ?_) (fun h => absurd rfl h))
    exact ⟨_, zlt1 (by omega), _, _, rfl, rfl, rfl, ⟨by omega, by omega⟩, (fB.1.2 0 (z0r hS1)).trans s1, zSh_B hS1 fB, pA2, pB2⟩
  · refine And.intro (z0p hS s0 hN (by omega) (by omega)) (fun a1 e1 r1 => ?_)
    refine And.intro (zA_40 hS) ⟨_, hA 40 (by decide), ?_⟩
    refine ⟨σ, a1, 0, 0, 0, 0, rfl, ⟨r1, (zRb rfl), (zRb rfl), (zRb rfl), (zRb rfl)⟩, hS, pA, ?_⟩
    intro I1 L1 R1 S1 pA1 fA wA
    have hS1 := zSh_A hS fA
    have s1 : S1.1 0 = (100, N) := by rw [fA.1]; exact s0
    have pB1 := kB _ _ _ _ _ _ _ _ _ pB fA
    refine And.intro (z0p hS1 s1 hN (by omega) (by omega)) (zrd (v := a1) ((fA.2 0 _ (by omega)).1.trans e1.symm) ?_)
    refine And.intro (zA_165 hS1) ⟨_, hB 40 (by decide), ?_⟩
    refine ⟨σ, a1, 0, 0, 0, 0, rfl, ⟨r1, (zRb rfl), (zRb rfl), (zRb rfl), (zRb rfl)⟩, hS1, pB1, ?_⟩
    intro I2 L2 R2 S2 pB2 fB wB
    have pA2 := kA _ _ _ _ _ _ _ _ _ pA1 fB
    refine And.intro ⟨wA, wB⟩ (And.intro (fun _ => ?_) (fun h => absurd rfl h))
    exact ⟨_, zlt1 (by omega), _, _, rfl, rfl, rfl, ⟨by omega, by omega⟩, (fB.1.2 0 (z0r hS1)).trans s1, zSh_B hS1 fB, pA2, pB2⟩
  · refine And.intro (zA_40 hS) ⟨_, hA 41 (by decide), ?_⟩
    refine ⟨σ, 0, 0, 0, 0, 0, rfl, ⟨(zRb rfl), (zRb rfl), (zRb rfl), (zRb rfl), (zRb rfl)⟩, hS, pA, ?_⟩
    intro I1 L1 R1 S1 pA1 fA wA
    have hS1 := zSh_A hS fA
    have s1 : S1.1 0 = (100, N) := by rw [fA.1]; exact s0
    have pB1 := kB _ _ _ _ _ _ _ _ _ pB fA
    refine And.intro (zA_165 hS1) ⟨_, hB 41 (by decide), ?_⟩
    refine ⟨σ, 0, 0, 0, 0, 0, rfl, ⟨(zRb rfl), (zRb rfl), (zRb rfl), (zRb rfl), (zRb rfl)⟩, hS1, pB1, ?_⟩
    intro I2 L2 R2 S2 pB2 fB wB
    have pA2 := kA _ _ _ _ _ _ _ _ _ pA1 fB
    refine And.intro ⟨wA, wB⟩ (And.intro (fun _ => ?_) (fun h => absurd rfl h))
    exact ⟨_, zlt1 (by omega), _, _, rfl, rfl, rfl, ⟨by omega, by omega⟩, (fB.1.2 0 (z0r hS1)).trans s1, zSh_B hS1 fB, pA2, pB2⟩
  · refine And.intro (z0p hS s0 hN (by omega) (by omega)) (fun a1 e1 r1 => ?_)
    refine And.intro (z0p hS s0 hN (by omega) (by omega)) (fun a2 e2 r2 => ?_)
    refine And.intro (z0p hS s0 hN (by omega) (by omega)) (fun a3 e3 r3 => ?_)
    refine And.intro (zA_40 hS) ⟨_, hA 42 (by decide), ?_⟩
    refine ⟨σ, a1, a2, a3, 0, 0, rfl, ⟨r1, r2, r3, (zRb rfl), (zRb rfl)⟩, hS, pA, ?_⟩
    intro I1 L1 R1 S1 pA1 fA wA
    have hS1 := zSh_A hS fA
    have s1 : S1.1 0 = (100, N) := by rw [fA.1]; exact s0
    have pB1 := kB _ _ _ _ _ _ _ _ _ pB fA
    refine And.intro (z0p hS1 s1 hN (by omega) (by omega)) (zrd (v := a1) ((fA.2 0 _ (by omega)).1.trans e1.symm) ?_)
    refine And.intro (z0p hS1 s1 hN (by omega) (by omega)) (zrd (v := a2) ((fA.2 0 _ (by omega)).1.trans e2.symm) ?_)
    refine And.intro (z0p hS1 s1 hN (by omega) (by omega)) (zrd (v := a3) ((fA.2 0 _ (by omega)).1.trans e3.symm) ?_)
    refine And.intro (zA_165 hS1) ⟨_, hB 42 (by decide), ?_⟩
    refine ⟨σ, a1, a2, a3, 0, 0, rfl, ⟨r1, r2, r3, (zRb rfl), (zRb rfl)⟩, hS1, pB1, ?_⟩
    intro I2 L2 R2 S2 pB2 fB wB
    have pA2 := kA _ _ _ _ _ _ _ _ _ pA1 fB
    refine And.intro ⟨wA, wB⟩ (And.intro (fun _ => ?_) (fun h => absurd rfl h))
    exact ⟨_, zlt1 (by omega), _, _, rfl, rfl, rfl, ⟨by omega, by omega⟩, (fB.1.2 0 (z0r hS1)).trans s1, zSh_B hS1 fB, pA2, pB2⟩
  · refine And.intro (z0p hS s0 hN (by omega) (by omega)) (fun a1 e1 r1 => ?_)
    refine And.intro (zA_40 hS) ⟨_, hA 43 (by decide), ?_⟩
    refine ⟨σ, a1, 0, 0, 0, 0, rfl, ⟨r1, (zRb rfl), (zRb rfl), (zRb rfl), (zRb rfl)⟩, hS, pA, ?_⟩
    intro I1 L1 R1 S1 pA1 fA wA
    have hS1 := zSh_A hS fA
    have s1 : S1.1 0 = (100, N) := by rw [fA.1]; exact s0
    have pB1 := kB _ _ _ _ _ _ _ _ _ pB fA
    refine And.intro (z0p hS1 s1 hN (by omega) (by omega)) (zrd (v := a1) ((fA.2 0 _ (by omega)).1.trans e1.symm) ?_)
    refine And.intro (zA_165 hS1) ⟨_, hB 43 (by decide), ?_⟩
    refine ⟨σ, a1, 0, 0, 0, 0, rfl, ⟨r1, (zRb rfl), (zRb rfl), (zRb rfl), (zRb rfl)⟩, hS1, pB1, ?_⟩
    intro I2 L2 R2 S2 pB2 fB wB
    have pA2 := kA _ _ _ _ _ _ _ _ _ pA1 fB
    refine And.intro ⟨wA, wB⟩ (And.intro (fun _ => ?_) (fun h => absurd rfl h))
    exact ⟨_, zlt1 (by omega), _, _, rfl, rfl, rfl, ⟨by omega, by omega⟩, (fB.1.2 0 (z0r hS1)).trans s1, zSh_B hS1 fB, pA2, pB2⟩
  · refine And.intro (z0p hS s0 hN (by omega) (by omega)) (fun a1 e1 r1 => ?_)
    refine And.intro (zA_40 hS) ⟨_, hA 44 (by decide), ?_⟩
    refine ⟨σ, a1, 0, 0, 0, 0, rfl, ⟨r1, (zRb rfl), (zRb rfl), (zRb rfl), (zRb rfl)⟩, hS, pA, ?_⟩
    intro I1 L1 R1 S1 pA1 fA wA
    have hS1 := zSh_A hS fA
    have s1 : S1.1 0 = (100, N) := by rw [fA.1]; exact s0
    have pB1 := kB _ _ _ _ _ _ _ _ _ pB fA
    refine And.intro (z0p hS1 s1 hN (by omega) (by omega)) (zrd (v := a1) ((fA.2 0 _ (by omega)).1.trans e1.symm) ?_)
    refine And.intro (zA_165 hS1) ⟨_, hB 44 (by decide), ?_⟩
    refine ⟨σ, a1, 0, 0, 0, 0, rfl, ⟨r1, (zRb rfl), (zRb rfl), (zRb rfl), (zRb rfl)⟩, hS1, pB1, ?_⟩
    intro I2 L2 R2 S2 pB2 fB wB
    have pA2 := kA _ _ _ _ _ _ _ _ _ pA1 fB
    refine And.intro ⟨wA, wB⟩ (And.intro (fun _ => ?_) (fun h => absurd rfl h))
    exact ⟨_, zlt1 (by omega), _, _, rfl, rfl, rfl, ⟨by omega, by omega⟩, (fB.1.2 0 (z0r hS1)).trans s1, zSh_B hS1 fB, pA2, pB2⟩
  · refine And.intro (z0p hS s0 hN (by omega) (by omega)) (fun a1 e1 r1 => ?_)
    refine And.intro (z0p hS s0 hN (by omega) (by omega)) (fun a2 e2 r2 => ?_)
    refine And.intro (zA_40 hS) ⟨_, hA 45 (by decide), ?_⟩
    refine ⟨σ, a1, a2, 0, 0, 0, rfl, ⟨r1, r2, (zRb rfl), (zRb rfl), (zRb rfl)⟩, hS, pA, ?_⟩
    intro I1 L1 R1 S1 pA1 fA wA
    have hS1 := zSh_A hS fA
    have s1 : S1.1 0 = (100, N) := by rw [fA.1]; exact s0
    have pB1 := kB _ _ _ _ _ _ _ _ _ pB fA
    refine And.intro (z0p hS1 s1 hN (by omega) (by omega)) (zrd (v := a1) ((fA.2 0 _ (by omega)).1.trans e1.symm) ?_)
    refine And.intro (z0p hS1 s1 hN (by omega) (by omega)) (zrd (v := a2) ((fA.2 0 _ (by omega)).1.trans e2.symm) ?_)
    refine And.intro (zA_165 hS1) ⟨_, hB 45 (by decide), ?_⟩
    refine ⟨σ, a1, a2, 0, 0, 0, rfl, ⟨r1, r2, (zRb rfl), (zRb rfl), (zRb rfl)⟩, hS1, pB1, ?_⟩
    intro I2 L2 R2 S2 pB2 fB wB
    have pA2 := kA _ _ _ _ _ _ _ _ _ pA1 fB
    refine And.intro ⟨wA, wB⟩ (And.intro (fun _ => ?_) (fun h => absurd rfl h))
    exact ⟨_, zlt1 (by omega), _, _, rfl, rfl, rfl, ⟨by omega, by omega⟩, (fB.1.2 0 (z0r hS1)).trans s1, zSh_B hS1 fB, pA2, pB2⟩
  · refine And.intro (z0p hS s0 hN (by omega) (by omega)) (fun a1 e1 r1 => ?_)
    refine And.intro (z0p hS s0 hN (by omega) (by omega)) (fun a2 e2 r2 => ?_)
    refine And.intro (z0p hS s0 hN (by omega) (by omega)) (fun a3 e3 r3 => ?_)
    refine And.intro (zA_40 hS) ⟨_, hA 46 (by decide), ?_⟩
    refine ⟨σ, a1, a2, a3, 0, 0, rfl, ⟨r1, r2, r3, (zRb rfl), (zRb rfl)⟩, hS, pA, ?_⟩
    intro I1 L1 R1 S1 pA1 fA wA
    have hS1 := zSh_A hS fA
    have s1 : S1.1 0 = (100, N) := by rw [fA.1]; exact s0
    have pB1 := kB _ _ _ _ _ _ _ _ _ pB fA
    refine And.intro (z0p hS1 s1 hN (by omega) (by omega)) (zrd (v := a1) ((fA.2 0 _ (by omega)).1.trans e1.symm) ?_)
    refine And.intro (z0p hS1 s1 hN (by omega) (by omega)) (zrd (v := a2) ((fA.2 0 _ (by omega)).1.trans e2.symm) ?_)
    refine And.intro (z0p hS1 s1 hN (by omega) (by omega)) (zrd (v := a3) ((fA.2 0 _ (by omega)).1.trans e3.symm) ?_)
    refine And.intro (zA_165 hS1) ⟨_, hB 46 (by decide), ?_⟩
    refine ⟨σ, a1, a2, a3, 0, 0, rfl, ⟨r1, r2, r3, (zRb rfl), (zRb rfl)⟩, hS1, pB1, ?_⟩
    intro I2 L2 R2 S2 pB2 fB wB
    have pA2 := kA _ _ _ _ _ _ _ _ _ pA1 fB
    refine And.intro ⟨wA, wB⟩ (And.intro (fun _ => ?_) (fun h => absurd rfl h))
    exact ⟨_, zlt1 (by omega), _, _, rfl, rfl, rfl, ⟨by omega, by omega⟩, (fB.1.2 0 (z0r hS1)).trans s1, zSh_B hS1 fB, pA2, pB2⟩
  · refine And.intro (z0p hS s0 hN (by omega) (by omega)) (fun a1 e1 r1 => ?_)
    refine And.intro (z0p hS s0 hN (by omega) (by omega)) (fun a2 e2 r2 => ?_)
    refine And.intro (z0p hS s0 hN (by omega) (by omega)) (fun a3 e3 r3 => ?_)
    refine And.intro (z0p hS s0 hN (by omega) (by omega)) (fun a4 e4 r4 => ?_)
    refine And.intro (zA_40 hS) ⟨_, hA 47 (by decide), ?_⟩
    refine ⟨σ, a1, a2, a3, a4, 0, rfl, ⟨r1, r2, r3, r4, (zRb rfl)⟩, hS, pA, ?_⟩
    intro I1 L1 R1 S1 pA1 fA wA
    have hS1 := zSh_A hS fA
    have s1 : S1.1 0 = (100, N) := by rw [fA.1]; exact s0
    have pB1 := kB _ _ _ _ _ _ _ _ _ pB fA
    refine And.intro (z0p hS1 s1 hN (by omega) (by omega)) (zrd (v := a1) ((fA.2 0 _ (by omega)).1.trans e1.symm) ?_)
    refine And.intro (z0p hS1 s1 hN (by omega) (by omega)) (zrd (v := a2) ((fA.2 0 _ (by omega)).1.trans e2.symm) ?_)
    refine And.intro (z0p hS1 s1 hN (by omega) (by omega)) (zrd (v := a3) ((fA.2 0 _ (by omega)).1.trans e3.symm) ?_)
    refine And.intro (z0p hS1 s1 hN (by omega) (by omega)) (zrd (v := a4) ((fA.2 0 _ (by omega)).1.trans e4.symm) ?_)
    refine And.intro (zA_165 hS1) ⟨_, hB 47 (by decide), ?_⟩
    refine ⟨σ, a1, a2, a3, a4, 0, rfl, ⟨r1, r2, r3, r4, (zRb rfl)⟩, hS1, pB1, ?_⟩
    intro I2 L2 R2 S2 pB2 fB wB
    have pA2 := kA _ _ _ _ _ _ _ _ _ pA1 fB
    refine And.intro ⟨wA, wB⟩ (And.intro (fun _ => ?_) (fun h => absurd rfl h))
    exact ⟨_, zlt1 (by omega), _, _, rfl, rfl, rfl, ⟨by omega, by omega⟩, (fB.1.2 0 (z0r hS1)).trans s1, zSh_B hS1 fB, pA2, pB2⟩
  · refine And.intro (zA_40 hS) ⟨_, hA 48 (by decide), ?_⟩
    refine ⟨σ, 0, 0, 0, 0, 0, rfl, ⟨(zRb rfl), (zRb rfl), (zRb rfl), (zRb rfl), (zRb rfl)⟩, hS, pA, ?_⟩
    intro I1 L1 R1 S1 pA1 fA wA
    have hS1 := zSh_A hS fA
    have s1 : S1.1 0 = (100, N) := by rw [fA.1]; exact s0
    have pB1 := kB _ _ _ _ _ _ _ _ _ pB fA
    refine And.intro (zA_165 hS1) ⟨_, hB 48 (by decide), ?_⟩
    refine ⟨σ, 0, 0, 0, 0, 0, rfl, ⟨(zRb rfl), (zRb rfl), (zRb rfl), (zRb rfl), (zRb rfl)⟩, hS1, pB1, ?_⟩
    intro I2 L2 R2 S2 pB2 fB wB
    have pA2 := kA _ _ _ _ _ _ _ _ _ pA1 fB
    refine And.intro ⟨wA, wB⟩ (And.intro (fun _ => ?_) (fun h => absurd rfl h))
    exact ⟨_, zlt1 (by omega), _, _, rfl, rfl, rfl, ⟨by omega, by omega⟩, (fB.1.2 0 (z0r hS1)).trans s1, zSh_B hS1 fB, pA2, pB2⟩
  · exact ⟨_, zlt1 (by omega), _, _, rfl, rfl, rfl, ⟨by omega, by omega⟩, s0, hS, pA, pB⟩
