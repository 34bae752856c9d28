/-! reli -/
def upF {α : Type} (f : Nat → α) (k : Nat) (x : α) (r : Nat) : α := if r = k then x else f r
theorem upF_at {α : Type} {f : Nat → α} {k : Nat} {x : α} : upF f k x k = x := if_pos rfl
theorem upF_ne {α : Type} {f : Nat → α} {k r : Nat} {x : α} (h : r ≠ k) : upF f k x r = f r := if_neg h
/-- m bytes lie in c open files -/
def zRF (t : Nat → Int) (m c : Nat) (I : ZI) : Prop := I 287 10 = c ∧ (∀ f : Nat, f < c → I 288 (80 + f) = f ∧ I 289 (80 + f) = ckL m f) ∧ ∀ j : Nat, j < m → I 290 (5120 + j) = t j
theorem zRF_fr {t : Nat → Int} {m c : Nat} {I I' : ZI} (h : zRF t m c I) (hm : m ≤ 512 ∧ c ≤ 8) (hf : ∀ c j, (c = 287 ∧ j = 10) ∨ ((c = 288 ∨ c = 289) ∧ 80 ≤ j ∧ j < 88) ∨ (c = 290 ∧ 5120 ≤ j ∧ j < 5632) → I' c j = I c j) : zRF t m c I' :=
  ⟨(hf 287 10 (by omega)).trans h.1, fun f q => ⟨(hf 288 _ (by omega)).trans (h.2.1 f q).1, (hf 289 _ (by omega)).trans (h.2.1 f q).2⟩, fun j q => (hf 290 _ (by omega)).trans (h.2.2 j q)⟩
/-- names, lengths and bytes of the first q leaves of a release -/
def zcA (t : Nat → Int) (m r q : Nat) (I : ZI) : Prop := ∀ k : Nat, k < q → I 288 (8 * r + k) = k ∧ I 289 (8 * r + k) = ckL m k ∧ ∀ j : Nat, j < ckL m k → I 290 (512 * r + 64 * k + j) = t (64 * k + j)
theorem zcA_fr {t : Nat → Int} {m r q : Nat} {I I' : ZI} (h : zcA t m r q I) (hf : ∀ c j, ((c = 288 ∨ c = 289) ∧ 8 * r ≤ j ∧ j < 8 * r + q) ∨ (c = 290 ∧ 512 * r ≤ j ∧ j < 512 * r + 64 * q) → I' c j = I c j) : zcA t m r q I' := by
  intro k hk
  obtain ⟨h1, h2, h3⟩ := h k hk
  have hl : ckL m k ≤ 64 := by unfold ckL; omega
  exact ⟨(hf 288 _ (by omega)).trans h1, (hf 289 _ (by omega)).trans h2, fun j hj => (hf 290 _ (by omega)).trans (h3 j hj)⟩
def zcD (t : Nat → Int) (m r q : Nat) (I : ZI) : Prop := ∀ k i : Nat, k < q → i < 32 → I 291 (256 * r + 32 * k + i) = rD t m 0 k i
theorem zcD_fr {t : Nat → Int} {m r q : Nat} {I I' : ZI} (h : zcD t m r q I) (hf : ∀ c j, (c = 291 ∧ 256 * r ≤ j ∧ j < 256 * r + 32 * q) → I' c j = I c j) : zcD t m r q I' := fun k i h1 h2 => (hf 291 _ (by omega)).trans (h k i h1 h2)
def zRC (cn : Nat) (t : Nat → Nat → Int) (n : Nat → Nat) (I : ZI) : Prop := ∀ r, r < cn → zcA (t r) (n r) r (rW (n r) 0) I
theorem zRC_fr {cn : Nat} {t : Nat → Nat → Int} {n : Nat → Nat} {I I' : ZI} (h : zRC cn t n I) (hn : ∀ r, r < cn → n r ≤ 512) (hf : ∀ c j, ((c = 288 ∨ c = 289) ∧ j < 8 * cn) ∨ (c = 290 ∧ j < 512 * cn) → I' c j = I c j) : zRC cn t n I' := by
  intro r hr
  have h1 : rW (n r) 0 = (n r + 63) / 64 := rfl
  have h2 := hn r hr
  exact zcA_fr (h r hr) (fun c j q => hf c j (by omega))
def T_B_fwith : ZT := fun args I L R S Q => ∃ (c : Nat) (x : Int), args = [zvr 280, zvi 10, zvi x] ∧ (zSh S) ∧ (zRs R) ∧ (I 287 10 = c) ∧ (c ≤ 8 ∧ c ≤ x ∧ x ≤ 100) ∧ (∀ f : Nat, f < c → I 288 (80 + f) = f) ∧ Q (some (zvi (-1))) I L R S
theorem sn_B_fwith : ZSnd 1 19 11 T_B_fwith := ZSnd.loops (zT19_11 0) (by
  rintro args I L R S Q hz ⟨c, x, rfl, hS, hR, hc, h0, hn, hQ⟩
  refine ⟨[2], fun nM tM lsM stM I1 L1 R1 S1 => match tM with
      | 2 => ∃ (f : Nat), nM = ((9 - f), 0, 0) ∧ lsM = [some (zvr (280)), some (zvi (10)), some (zvi (x)), some (zvi (f))] ∧ stM = [] ∧ I1 = I ∧ L1 = L ∧ R1 = R ∧ S1 = S ∧ (f ≤ c)
      | _ => False, rfl, ?_, ⟨?_, True.intro⟩⟩
  · refine ⟨((9 - (0 : Nat)), 0, 0), [some (zvr (280)), some (zvi (10)), some (zvi (x)), some (zvi ((0 : Nat)))], ⟨rfl, rfl, rfl, rfl, rfl⟩, 0, rfl, rfl, rfl, rfl, rfl, rfl, rfl, (by omega)⟩
  · rintro nM lsM stM I1 L1 R1 S1 hz1 ⟨f, rfl, rfl, rfl, rfl, rfl, rfl, rfl, hf⟩
    refine And.intro (zA_280 hS) (zrdR (v := some 287) (zR_280_9 hR) ?_)
    refine And.intro (zP_287 hS (by omega) (by omega)) (zrd (v := c) hc ?_)
    refine And.intro ⟨(by omega), (by omega)⟩ ⟨fun h9 => ?_, fun h9 => ?_⟩
    · refine hQ 
    · refine And.intro (zA_280 hS) (zrdR (v := some 288) (zR_280_10 hR) ?_)
      refine And.intro (zP_288 hS (by omega) (by omega)) (fun v22 e22 r22 => ?_)
      have f22 : v22 = f := (e22.trans ((congrArg (I1 288) (by omega)).trans (hn f (by omega))))
      refine And.intro ⟨r22, (by omega)⟩ ⟨fun h24 => ?_, (fun h24 => False.elim (by omega))⟩
      refine ⟨((9 - (f + 1)), 0, 0), zlt6 (by omega), [some (zvr (280)), some (zvi (10)), some (zvi (x)), some (zvi ((f + 1)))], ⟨rfl, rfl, rfl, rfl, rfl⟩, (f + 1), rfl, rfl, rfl, rfl, rfl, rfl, rfl, (by omega)⟩)
def T_B_file : ZT := fun args I L R S Q => ∃ (x : Int) (t : Nat → Int) (m : Nat) (c : Nat), args = [zvr 280, zvi x] ∧ (zSh S) ∧ (zRs R) ∧ (x = c) ∧ (c < 8 ∧ m = 64 * c) ∧ (zRF t m c I) ∧ ∀ (v : Int) (I' : ZI), (v = x) → (I' 280 0 = 0) → (zRF t m (c + 1) I') → (∀ c j : Nat, ¬ (c = 287 ∧ j = 10) → ¬ (c = 288 ∧ 80 ≤ j) → ¬ (c = 289 ∧ 80 ≤ j) → ¬ (c = 280 ∧ j = 0) → I' c j = I c j) → Q (some (zvi (v))) I' L R S
theorem sn_B_file : ZSnd 2 19 10 T_B_file := ZSnd.of (zT19_10 1) (by
  rintro args I L R S Q hz ⟨x, t, m, c, rfl, hS, hR, hx, h0, hF, hQ⟩
  obtain ⟨hc, hn, hb⟩ := id hF
  refine And.intro rfl ?_
  refine And.intro (by omega) ⟨(fun h2 => False.elim (by omega)), fun h2 => ?_⟩
  refine And.intro ⟨(by omega), (zRb rfl)⟩ ⟨(fun h8 => False.elim (by omega)), fun h8 => ?_⟩
  refine And.intro (zA_280 hS) ⟨_, (zWi (zRb rfl)), ?_⟩
  refine And.intro (zA_280 hS) (zrd (v := 0) rfl ?_)
  refine And.intro (zRb rfl) (zbt rfl ?_)
  refine And.intro (zA_280 hS) (zrdR (v := some 287) (zR_280_9 hR) ?_)
  refine And.intro (zP_287 hS (by omega) (by omega)) (zrd (v := c) hc ?_)
  refine And.intro ⟨(by omega), (zRb rfl)⟩ ⟨(fun h37 => False.elim (by omega)), fun h37 => ?_⟩
  refine And.intro (zA_280 hS) ⟨_, sn_B_fwith.up (by decide), ?_⟩
  refine ⟨_, (x : Int), rfl, hS, hR, hc, (by omega), (fun f h => (hn f h).1), ?_⟩
  refine And.intro ⟨(zRb rfl), (zRb rfl)⟩ (zbt rfl ?_)
  refine And.intro (zA_280 hS) (zrdR (v := some 288) (zR_280_10 hR) ?_)
  refine And.intro (zA_280 hS) (zrdR (v := some 287) (zR_280_9 hR) ?_)
  refine And.intro (zP_287 hS (by omega) (by omega)) (zrd (v := c) hc ?_)
  refine And.intro ⟨(zx0 rfl), (zP_288 hS (by omega) (by omega))⟩ ⟨_, (zWi (by omega)), ?_⟩
  refine And.intro (zA_280 hS) (zrdR (v := some 289) (zR_280_11 hR) ?_)
  refine And.intro (zA_280 hS) (zrdR (v := some 287) (zR_280_9 hR) ?_)
  refine And.intro (zP_287 hS (by omega) (by omega)) (zrd (v := c) hc ?_)
  refine And.intro ⟨(zx0 rfl), (zP_289 hS (by omega) (by omega))⟩ ⟨_, (zWi (zRb rfl)), ?_⟩
  refine And.intro (zA_280 hS) (zrdR (v := some 287) (zR_280_9 hR) ?_)
  refine And.intro (zP_287 hS (by omega) (by omega)) (zrd (v := c) hc ?_)
  refine And.intro ⟨(zx0 rfl), (zP_287 hS (by omega) (by omega))⟩ ⟨_, (zWi (by omega)), ?_⟩
  refine And.intro (zA_280 hS) (zrdR (v := some 287) (zR_280_9 hR) ?_)
  refine And.intro (zP_287 hS (by omega) (by omega)) (zrd (v := (c + 1)) rfl ?_)
  refine hQ _ _ (by omega) rfl ?_ (fun c j h0 h1 h2 h3 => (zxcj h0 (zxcj (by omega) (zxcj (by omega) (zxcj h3 rfl)))))
  · refine ⟨rfl, fun f hf => ?_, fun j hj => hb j hj⟩
    by_cases h : f = c
    · subst h
      refine ⟨?_, ?_⟩
      · rw [show 80 + f = (80 + (f : Int)).toNat by omega]
        refine zxu (by decide) (zxu (by decide) (zxe.trans (by omega)))
      · rw [show 80 + f = (80 + (f : Int)).toNat by omega]
        refine zxu (by decide) (zxe.trans ?_)
        show (0 : Int) = ((min 64 (m - 64 * f) : Nat) : Int)
        omega
    · have w := hn f (by omega)
      exact ⟨zxu (by decide) (zxu (by decide) (zxs (by omega) w.1)), zxu (by decide) (zxs (by omega) w.2)⟩)
def T_B_byteOf : ZT := fun args I L R S Q => ∃ (x : Int) (b : Int) (t : Nat → Int) (m : Nat) (c : Nat), args = [zvr 280, zvi x, zvi b] ∧ (zSh S) ∧ (zRs R) ∧ (x = c) ∧ (c < 8 ∧ 64 * c ≤ m ∧ m < 64 * c + 64) ∧ (0 ≤ b ∧ b ≤ 255) ∧ (b = t m) ∧ (zRF t m (c + 1) I) ∧ ∀ (I' : ZI), (I' 280 0 = 0) → (zRF t (m + 1) (c + 1) I') → (∀ c j : Nat, ¬ (c = 289 ∧ 80 ≤ j) → ¬ (c = 290 ∧ 5120 ≤ j) → ¬ (c = 280 ∧ j = 0) → I' c j = I c j) → Q (some (zvi (1))) I' L R S
theorem sn_B_byteOf : ZSnd 2 19 3 T_B_byteOf := ZSnd.of (zT19_3 1) (by
  rintro args I L R S Q hz ⟨x, b, t, m, c, rfl, hS, hR, hx, h0, hb0, hbt, hF, hQ⟩
  obtain ⟨hc, hn, hb⟩ := id hF
  have hc9 : I 287 10 = (c : Int) + 1 := hc
  have hL : ckL m c = m - 64 * c := by unfold ckL; omega
  refine And.intro rfl ?_
  refine And.intro (by omega) ⟨(fun h2 => False.elim (by omega)), fun h2 => ?_⟩
  refine And.intro (zA_280 hS) (zrdR (v := some 287) (zR_280_9 hR) ?_)
  refine And.intro (zP_287 hS (by omega) (by omega)) (zrd (v := (c + 1)) hc9 ?_)
  refine And.intro ⟨(by omega), (by omega)⟩ ⟨fun h13 => ?_, (fun h13 => False.elim (by omega))⟩
  refine Exists.intro _ (And.intro (zinl_ok (zT19_16 0)) (And.intro rfl ?_))
  refine And.intro (by omega) ⟨(fun h1_21 => False.elim (by omega)), fun h1_21 => ?_⟩
  refine And.intro ⟨(by omega), (zRb rfl)⟩ ⟨(fun h8_21 => False.elim (by omega)), fun h8_21 => ?_⟩
  refine And.intro (Or.inr rfl) ?_
  refine And.intro (zRb rfl) (zbf rfl ?_)
  refine And.intro (zA_280 hS) ⟨_, (zWi (zRb rfl)), ?_⟩
  refine And.intro (zA_280 hS) (zrd (v := 0) rfl ?_)
  refine And.intro (zRb rfl) (zbf rfl ?_)
  refine And.intro (zA_280 hS) (zrdR (v := some 289) (zR_280_11 hR) ?_)
  refine And.intro (zP_289 hS (by omega) (by omega)) (fun v52 e52 r52 => ?_)
  have f52 : v52 = ckL m c := (e52.trans ((congrArg (I 289) (by omega)).trans (hn c (by omega)).2))
  refine And.intro ⟨r52, (zRb rfl)⟩ ⟨fun h55 => ?_, (fun h55 => False.elim (by omega))⟩
  refine And.intro (zA_280 hS) (zrdR (v := some 290) (zR_280_12 hR) ?_)
  refine And.intro (zA_280 hS) (zrdR (v := some 289) (zR_280_11 hR) ?_)
  refine And.intro (zP_289 hS (by omega) (by omega)) (fun v73 e73 r73 => ?_)
  have f73 : v73 = ckL m c := (e73.trans ((congrArg (I 289) (by omega)).trans (hn c (by omega)).2))
  refine And.intro ⟨(zx0 rfl), (zP_290 hS (by omega) (by omega))⟩ ⟨_, (zWi (by omega)), ?_⟩
  refine And.intro (zA_280 hS) (zrdR (v := some 289) (zR_280_11 hR) ?_)
  refine And.intro (zP_289 hS (by omega) (by omega)) (fun v83 e83 r83 => ?_)
  have f83 : v83 = ckL m c := (e83.trans ((congrArg (I 289) (by omega)).trans (hn c (by omega)).2))
  refine And.intro ⟨(zx0 rfl), (zP_289 hS (by omega) (by omega))⟩ ⟨_, (zWi (by omega)), ?_⟩
  refine And.intro (Or.inr rfl) ?_
  refine hQ _ rfl ?_ (fun c j h0 h1 h2 => (zxcj (by omega) (zxcj (by omega) (zxcj h2 rfl))))
  · refine ⟨hc, fun f hf => ?_, fun j hj => ?_⟩
    · have w := hn f hf
      refine ⟨w.1, ?_⟩
      by_cases h : f = c
      · subst h
        rw [show 80 + f = (80 + x).toNat by omega]
        refine zxe.trans ?_
        show v83 + 1 = ((min 64 (m + 1 - 64 * f) : Nat) : Int)
        omega
      · refine (zxs (by omega) w.2).trans ?_
        unfold ckL
        omega
    · refine zxu (by decide) ?_
      by_cases h : j = m
      · subst h
        rw [show 5120 + j = (64 * (80 + x) + v73).toNat by omega]
        exact zxe.trans hbt
      · exact zxs (by omega) (hb j (by omega)))
def T_B_next : ZT := fun args I L R S Q => ∃ (x : Int) (c : Nat) (q : Nat), args = [zvr 280, zvi x] ∧ (zSh S) ∧ (zRs R) ∧ (x = q - 1) ∧ (I 287 10 = c) ∧ (q < c ∧ c ≤ 8) ∧ (∀ f : Nat, f < c → I 288 (80 + f) = f) ∧ ∀ (v : Int), (v = q) → Q (some (zvi (v))) I L R S
theorem sn_B_next : ZSnd 1 19 21 T_B_next := ZSnd.loops (zT19_21 0) (by
  rintro args I L R S Q hz ⟨x, c, q, rfl, hS, hR, hx, hc, h0, hn, hQ⟩
  refine ⟨[4], fun nM tM lsM stM I1 L1 R1 S1 => match tM with
      | 4 => ∃ (f : Nat) (b : Int), nM = ((9 - f), 0, 0) ∧ lsM = [some (zvr (280)), some (zvi (x)), some (zvi (b)), some (zvi (f)), none] ∧ stM = [] ∧ I1 = I ∧ L1 = L ∧ R1 = R ∧ S1 = S ∧ (f ≤ c) ∧ ((f ≤ q ∧ b = -1) ∨ (q < f ∧ b = q))
      | _ => False, rfl, ?_, ⟨?_, True.intro⟩⟩
  · refine ⟨((9 - (0 : Nat)), 0, 0), [some (zvr (280)), some (zvi (x)), some (zvi (((-1) : Int))), some (zvi ((0 : Nat))), none], ⟨rfl, rfl, (congrArg (fun z => some (zvi z)) (by omega)), rfl, rfl⟩, 0, (-1), rfl, rfl, rfl, rfl, rfl, rfl, rfl, (by omega), (by clear hQ; grind [xu])⟩
  · rintro nM lsM stM I1 L1 R1 S1 hz1 ⟨f, b, rfl, rfl, rfl, rfl, rfl, rfl, rfl, hf, hb⟩
    refine And.intro (zA_280 hS) (zrdR (v := some 287) (zR_280_9 hR) ?_)
    refine And.intro (zP_287 hS (by omega) (by omega)) (zrd (v := c) hc ?_)
    refine And.intro ⟨(by omega), (by omega)⟩ ⟨fun h12 => ?_, fun h12 => ?_⟩
    · refine hQ _ (by omega)
    · refine And.intro (zA_280 hS) (zrdR (v := some 288) (zR_280_10 hR) ?_)
      refine And.intro (zP_288 hS (by omega) (by omega)) (fun v23 e23 r23 => ?_)
      have f23 : v23 = f := (e23.trans ((congrArg (I1 288) (by omega)).trans (hn f (by omega))))
      refine And.intro ⟨r23, (by omega)⟩ ⟨fun h29 => ?_, fun h29 => ?_⟩
      · refine ⟨((9 - (f + 1)), 0, 0), zlt6 (by omega), [some (zvr (280)), some (zvi (x)), some (zvi (b)), some (zvi ((f + 1))), none], ⟨rfl, rfl, rfl, rfl, rfl⟩, (f + 1), b, rfl, rfl, rfl, rfl, rfl, rfl, rfl, (by omega), (by first | exact hb | (clear hQ; grind [xu]))⟩
      · refine And.intro ⟨(by omega), (zRb rfl)⟩ ⟨fun h34 => ?_, fun h34 => ?_⟩
        · refine ⟨((9 - (f + 1)), 0, 0), zlt6 (by omega), [some (zvr (280)), some (zvi (x)), some (zvi (f)), some (zvi ((f + 1))), none], ⟨rfl, rfl, rfl, rfl, rfl⟩, (f + 1), f, rfl, rfl, rfl, rfl, rfl, rfl, rfl, (by omega), (by first | exact hb | (clear hQ; grind [xu]))⟩
        · refine And.intro (zA_280 hS) (zrdR (v := some 288) (zR_280_10 hR) ?_)
          refine And.intro (zP_288 hS (by omega) (by omega)) (fun v47 e47 r47 => ?_)
          have f47 : v47 = q := (e47.trans ((congrArg (I1 288) (by omega)).trans (hn q (by omega))))
          refine And.intro ⟨r23, r47⟩ ⟨fun h48 => ?_, (fun h48 => False.elim (by omega))⟩
          refine ⟨((9 - (f + 1)), 0, 0), zlt6 (by omega), [some (zvr (280)), some (zvi (x)), some (zvi (b)), some (zvi ((f + 1))), none], ⟨rfl, rfl, rfl, rfl, rfl⟩, (f + 1), b, rfl, rfl, rfl, rfl, rfl, rfl, rfl, (by omega), (by first | exact hb | (clear hQ; grind [xu]))⟩)
