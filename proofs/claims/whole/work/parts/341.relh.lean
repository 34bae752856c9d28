/-! relh -/
theorem pfB_st (t : Nat → Int) (n k l j : Nat) (hj : j ≠ 0) (h : j < 1 + 33 * pfN n k l) : ∀ T, l ≤ T → pfB t n k T j = pfB t n k l j := by
  intro T
  induction T with
  | zero => intro q; rw [show l = 0 by omega]
  | succ T ih =>
    intro q
    by_cases e : l = T + 1
    · rw [e]
    · have w := ih (by omega)
      have m : ∀ d, pfN n k l ≤ pfN n k (l + d) := by
        intro d
        induction d with
        | zero => exact Nat.le_refl _
        | succ d ih => exact Nat.le_trans ih (Nat.le_add_right _ _)
      have m2 := m (T - l)
      rw [show l + (T - l) = T by omega] at m2
      refine Eq.trans ?_ w
      show (if j = 0 then _ else if _ then _ else _) = _
      rw [if_neg hj]
      split
      · rw [if_neg (by omega), if_neg (by omega)]
      · rfl
theorem pfN_s {n k l : Nat} (h : pfO (pfK k l) < rW n l) : pfN n k (l + 1) = pfN n k l + 1 := congrArg _ (if_pos h)
theorem pfB_fl {t : Nat → Int} {n k l T : Nat} (hT : l < T) (h : pfO (pfK k l) < rW n l) : pfB t n k T (1 + 33 * pfN n k l) = if pfO (pfK k l) < pfK k l then 0 else 1 := by
  refine (pfB_st t n k (l + 1) _ (by omega) (by rw [pfN_s h]; omega) T hT).trans ?_
  show (if 1 + 33 * pfN n k l = 0 then _ else if _ then _ else _) = _
  rw [if_neg (by omega), if_pos h, if_pos rfl]
theorem pfB_by {t : Nat → Int} {n k l T x : Nat} (hT : l < T) (h : pfO (pfK k l) < rW n l) (hx : x < 32) : pfB t n k T (2 + 33 * pfN n k l + x) = rD t n l (pfO (pfK k l)) x := by
  refine (pfB_st t n k (l + 1) _ (by omega) (by rw [pfN_s h]; omega) T hT).trans ?_
  show (if 2 + 33 * pfN n k l + x = 0 then _ else if _ then _ else _) = _
  rw [if_neg (by omega), if_pos h, if_neg (by omega), if_pos (by omega), show 2 + 33 * pfN n k l + x - 2 - 33 * pfN n k l = x by omega]
theorem pfO_i (k : Nat) : ((pfO k : Nat) : Int) = if (k : Int) % 2 = 0 then (k : Int) + 1 else (k : Int) - 1 := by
  unfold pfO
  split <;> split <;> omega
theorem rT_lt {n l : Nat} (h : 1 ≤ n ∧ n ≤ 512) (hl : l ≤ 3) (hu : ∀ m, m < l → 1 < rW n m) (h1 : 1 < rW n l) : l < rT n := by
  have w := rT_w h
  rcases Nat.lt_or_ge l (rT n) with q | q
  · exact q
  · exfalso
    have e : rT n = l ∨ rT n < l := by omega
    rcases e with e | e
    · rw [e] at w; omega
    · have := hu _ e; omega

def T_B_say : ZT := fun args I L R S Q => ∃ (b : Int) (w : Int) (i : Int) (f : Int), args = [zvr 280, zvi b] ∧ (zSh S) ∧ (zRs R) ∧ (I 280 30 = w) ∧ (I 280 29 = i) ∧ (I 280 31 = f) ∧ (0 ≤ w ∧ w ≤ 1000) ∧ (r32 i ∧ r32 b) ∧ ∀ (I' : ZI), (I' 280 30 = w + 1) → (I' 280 31 = if w = i then b else f) → (∀ c j : Nat, ¬ (c = 280 ∧ j = 30) → ¬ (c = 280 ∧ j = 31) → I' c j = I c j) → Q none I' L R S
theorem sn_B_say : ZSnd 1 19 28 T_B_say := ZSnd.of (zT19_28 0) (by
  rintro args I L R S Q hz ⟨b, w, i, f, rfl, hS, hR, hw, hi, hf, hwb, ri, hQ⟩
  refine And.intro rfl ?_
  refine And.intro (zA_280 hS) (zrd (v := w) hw ?_)
  refine And.intro (zA_280 hS) (zrd (v := i) hi ?_)
  refine And.intro ⟨(by omega), (by omega)⟩ ⟨fun h8 => ?_, fun h8 => ?_⟩
  · refine And.intro (zA_280 hS) (zrd (v := w) hw ?_)
    refine And.intro (zA_280 hS) ⟨_, (zWi (by omega)), ?_⟩
    refine hQ _ (Eq.trans (b := ((w + 1) : Int)) rfl (by omega)) ?_ (fun c j h0 h1 => (zxcj h0 rfl))
    · first
      | (rw [if_pos (by omega)]
         rfl)
      | (rw [if_neg (by omega)]
         exact hf)
  · refine And.intro (zA_280 hS) ⟨_, (zWi (by omega)), ?_⟩
    refine And.intro (zA_280 hS) (zrd (v := w) hw ?_)
    refine And.intro (zA_280 hS) ⟨_, (zWi (by omega)), ?_⟩
    refine hQ _ (Eq.trans (b := ((w + 1) : Int)) rfl (by omega)) ?_ (fun c j h0 h1 => (zxcj h0 (zxcj h1 rfl)))
    · first
      | (rw [if_pos (by omega)]
         rfl)
      | (rw [if_neg (by omega)]
         exact hf))
def T_B_proof : ZT := fun args I L R S Q => ∃ (a : Int) (k : Int) (i : Int) (cn : Nat) (t : Nat → Nat → Int) (n : Nat → Nat), args = [zvr 280, zvi a, zvi k, zvi i] ∧ (zSh S) ∧ (zRs R) ∧ (r32 a ∧ r32 k ∧ r32 i) ∧ (zRB cn t n I) ∧ ∀ (v : Int) (I' : ZI), ((¬ (0 ≤ a ∧ a < cn ∧ 0 ≤ k ∧ k < rW (n a.toNat) 0 ∧ 0 ≤ i) ∧ I' 280 0 = 1) ∨ ((0 ≤ a ∧ a < cn ∧ 0 ≤ k ∧ k < rW (n a.toNat) 0 ∧ 0 ≤ i) ∧ I' 280 0 = 0 ∧ v = if i < 1 + 33 * pfN (n a.toNat) k.toNat (rT (n a.toNat)) then pfB (t a.toNat) (n a.toNat) k.toNat (rT (n a.toNat)) i.toNat else -1)) → (I' 280 2 = 0) → (∀ c j : Nat, ¬ c = 282 → ¬ c = 283 → ¬ c = 284 → ¬ c = 285 → ¬ c = 286 → ¬ c = 293 → ¬ (c = 280 ∧ j = 2) → ¬ (c = 280 ∧ j = 15) → ¬ (c = 280 ∧ j = 0) → ¬ (c = 280 ∧ j = 29) → ¬ (c = 280 ∧ j = 30) → ¬ (c = 280 ∧ j = 31) → I' c j = I c j) → Q (some (zvi (v))) I' L R S
theorem sn_B_proof : ZSnd 5 19 24 T_B_proof := ZSnd.loops (zT19_24 4) (by
  rintro args I L R S Q hz ⟨a, k, i, cn, t, n, rfl, hS, hR, ra, hRB, hQ⟩
  obtain ⟨hc, hcn, hz0, hK, hr⟩ := id hRB
  have h5 : pfN (n a.toNat) k.toNat 0 = 0 := rfl
  have hpn := pfN_le (n a.toNat) k.toNat (rT (n a.toNat))
  have hrt := rT_le (n a.toNat)
  refine ⟨[58, 100], fun nM tM lsM stM I1 L1 R1 S1 => match tM with
      | 58 => ∃ (l : Nat) (N : Nat) (tt : Nat → Int), nM = ((rW N l), 0, 0) ∧ lsM = [some (zvr (280)), some (zvi (a)), some (zvi (k)), some (zvi (i)), some (zvi (pfK k.toNat l)), none, none] ∧ stM = [] ∧ L1 = L ∧ R1 = R ∧ S1 = S ∧ (N = n a.toNat ∧ 1 ≤ N ∧ N ≤ 512) ∧ (tt = t a.toNat) ∧ (0 ≤ a ∧ a < cn ∧ 0 ≤ k ∧ k < rW N 0 ∧ 0 ≤ i) ∧ ((l = 0 ∧ rW N l ≤ 8 ∧ rO N l = 0) ∨ (l = 1 ∧ rW N l ≤ 4 ∧ rO N l ≤ 8) ∨ (l = 2 ∧ rW N l ≤ 2 ∧ rO N l ≤ 12) ∨ (l = 3 ∧ rW N l ≤ 1 ∧ rO N l ≤ 14)) ∧ (∀ m, m < l → 1 < rW N m) ∧ (I1 280 0 = 0) ∧ (I1 280 15 = rW N l) ∧ (I1 280 2 = 0) ∧ (I1 280 29 = i) ∧ (I1 280 30 = 1 + 33 * pfN N k.toNat l) ∧ (∀ q x : Nat, q < rW N l → x < 32 → I1 293 (32 * q + x) = rD tt N l q x) ∧ (I1 280 31 = if i < 1 + 33 * pfN N k.toNat l then pfB tt N k.toNat (rT N) i.toNat else -1) ∧ (∀ c j : Nat, ¬ c = 282 → ¬ c = 283 → ¬ c = 284 → ¬ c = 285 → ¬ c = 286 → ¬ c = 293 → ¬ (c = 280 ∧ j = 2) → ¬ (c = 280 ∧ j = 15) → ¬ (c = 280 ∧ j = 0) → ¬ (c = 280 ∧ j = 29) → ¬ (c = 280 ∧ j = 30) → ¬ (c = 280 ∧ j = 31) → I1 c j = I c j)
      | 100 => ∃ (l : Nat) (x : Int) (N : Nat) (tt : Nat → Int), nM = ((rW N l - 1), (33 - x).toNat, 0) ∧ lsM = [some (zvr (280)), some (zvi (a)), some (zvi (k)), some (zvi (i)), some (zvi (pfK k.toNat l)), some (zvi (pfO (pfK k.toNat l))), some (zvi (x))] ∧ stM = [] ∧ L1 = L ∧ R1 = R ∧ S1 = S ∧ (N = n a.toNat ∧ 1 ≤ N ∧ N ≤ 512) ∧ (tt = t a.toNat) ∧ (0 ≤ a ∧ a < cn ∧ 0 ≤ k ∧ k < rW N 0 ∧ 0 ≤ i) ∧ ((l = 0 ∧ rW N l ≤ 8 ∧ rO N l = 0) ∨ (l = 1 ∧ rW N l ≤ 4 ∧ rO N l ≤ 8) ∨ (l = 2 ∧ rW N l ≤ 2 ∧ rO N l ≤ 12) ∨ (l = 3 ∧ rW N l ≤ 1 ∧ rO N l ≤ 14)) ∧ (∀ m, m < l → 1 < rW N m) ∧ (1 < rW N l) ∧ (pfO (pfK k.toNat l) < rW N l) ∧ (0 ≤ x ∧ x ≤ 32) ∧ (I1 280 0 = 0) ∧ (I1 280 15 = rW N l) ∧ (I1 280 2 = 0) ∧ (I1 280 29 = i) ∧ (I1 280 30 = 2 + 33 * pfN N k.toNat l + x) ∧ (∀ q x : Nat, q < rW N l → x < 32 → I1 293 (32 * q + x) = rD tt N l q x) ∧ (I1 280 31 = if i < 2 + 33 * pfN N k.toNat l + x then pfB tt N k.toNat (rT N) i.toNat else -1) ∧ (∀ c j : Nat, ¬ c = 282 → ¬ c = 283 → ¬ c = 284 → ¬ c = 285 → ¬ c = 286 → ¬ c = 293 → ¬ (c = 280 ∧ j = 2) → ¬ (c = 280 ∧ j = 15) → ¬ (c = 280 ∧ j = 0) → ¬ (c = 280 ∧ j = 29) → ¬ (c = 280 ∧ j = 30) → ¬ (c = 280 ∧ j = 31) → I1 c j = I c j)
      | _ => False, rfl, ?_, ⟨?_, ?_, True.intro⟩⟩
  · refine And.intro (zA_280 hS) (Exists.intro _ (And.intro (zinl_ok (zT19_17 3)) (And.intro rfl ?_)))
    refine And.intro (zA_280 hS) (Exists.intro _ (And.intro (zinl_ok (zT19_18 2)) (And.intro rfl ?_)))
    refine And.intro (by omega) ⟨fun h1_4_2 => ?_, fun h1_4_2 => ?_⟩
    · refine And.intro (Or.inl rfl) ?_
      refine And.intro (zRb rfl) (zbt rfl ?_)
      refine And.intro (Or.inl rfl) ?_
      refine And.intro (zRb rfl) (zbt rfl ?_)
      refine And.intro (zA_280 hS) ⟨_, (zWi (zRb rfl)), ?_⟩
      refine And.intro (zA_280 hS) (zrd (v := 1) rfl ?_)
      refine And.intro (zRb rfl) (zbf rfl ?_)
      refine hQ _ _ ?_ ?_ (fun c j h0 h1 h2 h3 h4 h5 h6 h7 h8 h9 h10 h11 => (zxcj h8 rfl))
      · first
        | exact Or.inl ⟨by omega, rfl⟩
        | (obtain ⟨rfl, hq1, hq2⟩ := hN
           subst ht
           refine Or.inr ⟨by omega, hth, ?_⟩
           have e := rT_of ⟨hq1, hq2⟩ (l := l) (by omega) hu (by omega)
           rw [e])
      · first
        | exact hz1
        | exact hz0
    · refine And.intro (zA_280 hS) (zrd (v := cn) hc ?_)
      refine And.intro ⟨(by omega), (by omega)⟩ ⟨fun h9_4_2 => ?_, fun h9_4_2 => ?_⟩
      · refine And.intro (Or.inl rfl) ?_
        refine And.intro (zRb rfl) (zbt rfl ?_)
        refine And.intro (Or.inl rfl) ?_
        refine And.intro (zRb rfl) (zbt rfl ?_)
        refine And.intro (zA_280 hS) ⟨_, (zWi (zRb rfl)), ?_⟩
        refine And.intro (zA_280 hS) (zrd (v := 1) rfl ?_)
        refine And.intro (zRb rfl) (zbf rfl ?_)
        refine hQ _ _ ?_ ?_ (fun c j h0 h1 h2 h3 h4 h5 h6 h7 h8 h9 h10 h11 => (zxcj h8 rfl))
        · first
          | exact Or.inl ⟨by omega, rfl⟩
          | (obtain ⟨rfl, hq1, hq2⟩ := hN
             subst ht
             refine Or.inr ⟨by omega, hth, ?_⟩
             have e := rT_of ⟨hq1, hq2⟩ (l := l) (by omega) hu (by omega)
             rw [e])
        · first
          | exact hz1
          | exact hz0
      · refine And.intro (Or.inr rfl) ?_
        refine And.intro (zRb rfl) (zbf rfl ?_)
        refine And.intro (by omega) ⟨fun h9_4 => ?_, fun h9_4 => ?_⟩
        · refine And.intro (Or.inl rfl) ?_
          refine And.intro (zRb rfl) (zbt rfl ?_)
          refine And.intro (zA_280 hS) ⟨_, (zWi (zRb rfl)), ?_⟩
          refine And.intro (zA_280 hS) (zrd (v := 1) rfl ?_)
          refine And.intro (zRb rfl) (zbf rfl ?_)
          refine hQ _ _ ?_ ?_ (fun c j h0 h1 h2 h3 h4 h5 h6 h7 h8 h9 h10 h11 => (zxcj h8 rfl))
          · first
            | exact Or.inl ⟨by omega, rfl⟩
            | (obtain ⟨rfl, hq1, hq2⟩ := hN
               subst ht
               refine Or.inr ⟨by omega, hth, ?_⟩
               have e := rT_of ⟨hq1, hq2⟩ (l := l) (by omega) hu (by omega)
               rw [e])
          · first
            | exact hz1
            | exact hz0
        · refine And.intro (zA_280 hS) (zrdR (v := some 287) (zR_280_9 hR) ?_)
          refine And.intro (zP_287 hS (by omega) (by omega)) (fun v18_4 e18_4 r18_4 => ?_)
          have f18_4 : v18_4 = rW (n a.toNat) 0 := (e18_4.trans (hr a.toNat (by omega)).1.2.2)
          refine And.intro ⟨(by omega), r18_4⟩ ⟨fun h19_4 => ?_, fun h19_4 => ?_⟩
          · refine And.intro (Or.inl rfl) ?_
            refine And.intro (zRb rfl) (zbt rfl ?_)
            refine And.intro (zA_280 hS) ⟨_, (zWi (zRb rfl)), ?_⟩
            refine And.intro (zA_280 hS) (zrd (v := 1) rfl ?_)
            refine And.intro (zRb rfl) (zbf rfl ?_)
            refine hQ _ _ ?_ ?_ (fun c j h0 h1 h2 h3 h4 h5 h6 h7 h8 h9 h10 h11 => (zxcj h8 rfl))
            · first
              | exact Or.inl ⟨by omega, rfl⟩
              | (obtain ⟨rfl, hq1, hq2⟩ := hN
                 subst ht
                 refine Or.inr ⟨by omega, hth, ?_⟩
                 have e := rT_of ⟨hq1, hq2⟩ (l := l) (by omega) hu (by omega)
                 rw [e])
            · first
              | exact hz1
              | exact hz0
          · have t19_4 : 1 ≤ n a.toNat ∧ n a.toNat ≤ 512 ∧ rW (n a.toNat) 0 = (n a.toNat + 63) / 64 := ⟨(hr a.toNat (by omega)).1.1, (hr a.toNat (by omega)).1.2.1, rfl⟩
            have t19_4b : 1 ≤ rW (n a.toNat) 0 ∧ rW (n a.toNat) 0 ≤ 8 := (by omega)
            refine And.intro (Or.inr rfl) ?_
            refine And.intro (zRb rfl) (zbf rfl ?_)
            refine And.intro (by omega) ⟨fun h11 => ?_, fun h11 => ?_⟩
            · refine And.intro (zA_280 hS) ⟨_, (zWi (zRb rfl)), ?_⟩
              refine And.intro (zA_280 hS) (zrd (v := 1) rfl ?_)
              refine And.intro (zRb rfl) (zbf rfl ?_)
              refine hQ _ _ ?_ ?_ (fun c j h0 h1 h2 h3 h4 h5 h6 h7 h8 h9 h10 h11 => (zxcj h8 rfl))
              · first
                | exact Or.inl ⟨by omega, rfl⟩
                | (obtain ⟨rfl, hq1, hq2⟩ := hN
                   subst ht
                   refine Or.inr ⟨by omega, hth, ?_⟩
                   have e := rT_of ⟨hq1, hq2⟩ (l := l) (by omega) hu (by omega)
                   rw [e])
              · first
                | exact hz1
                | exact hz0
            · refine And.intro (zA_280 hS) ⟨_, (zWi (zRb rfl)), ?_⟩
              refine And.intro (zA_280 hS) (zrd (v := 0) rfl ?_)
              refine And.intro (zRb rfl) (zbt rfl ?_)
              refine And.intro (zA_280 hS) (Exists.intro _ (And.intro (zinl_ok (zT19_1 3)) (And.intro rfl ?_)))
              refine And.intro (zA_280 hS) ⟨_, (zWi (by omega)), ?_⟩
              refine And.intro (zA_280 hS) ⟨_, (zWi (zRb rfl)), ?_⟩
              refine And.intro (zA_280 hS) ⟨_, (zWi (zRb rfl)), ?_⟩
              refine And.intro (zA_280 hS) (zrdR (v := some 287) (zR_280_9 hR) ?_)
              refine And.intro (zP_287 hS (by omega) (by omega)) (fun v43 e43 r43 => ?_)
              have f43 : v43 = rW (n a.toNat) 0 := (e43.trans (hr a.toNat (by omega)).1.2.2)
              refine ⟨_, sn_B_steps.up (by decide), ?_⟩
              refine ⟨(k : Int), (v43 : Int), (n a.toNat), rfl, (by omega), (by omega), (by omega), ?_⟩
              intro v44o p44hv
              refine And.intro (zA_280 hS) ⟨_, sn_B_say.up (by decide), ?_⟩
              refine ⟨(v44o : Int), (0 : Int), (i : Int), ((-1) : Int), rfl, hS, hR, rfl, rfl, rfl, (by omega), (by clear hQ; grind [xu]), ?_⟩
              intro I47o p47hw2 p47bhf2 p47bbfr
              refine And.intro (zA_280 hS) ⟨_, sn_B_lay.up (by decide), ?_⟩
              refine ⟨(a : Int), (rW (n a.toNat) 0), (rD (t a.toNat) (n a.toNat) 0), rfl, hS, hR, (by omega), (rfl.trans ((p47bbfr 287 _ (by omega) (by omega)).trans (hr a.toNat (by omega)).1.2.2)), (by omega), (fun q x h1 h2 => (p47bbfr 291 _ (by omega) (by omega)).trans ((hr a.toNat (by omega)).2.2.1 q x h1 h2)), ?_⟩
              intro I52o p52hw2 p52bhd2 p52bbfr
              refine ⟨((rW (n a.toNat) (0 : Nat)), 0, 0), [some (zvr (280)), some (zvi (a)), some (zvi (k)), some (zvi (i)), some (zvi (pfK k.toNat (0 : Nat))), none, none], ⟨rfl, rfl, rfl, rfl, (congrArg (fun z => some (zvi z)) (by show k = ((k.toNat : Nat) : Int); omega)), rfl⟩, 0, (n a.toNat), (t a.toNat), rfl, rfl, rfl, rfl, rfl, rfl, ⟨rfl, by omega, by omega⟩, rfl, (by omega), (Or.inl ⟨rfl, by omega, rfl⟩), (fun m h => absurd h (Nat.not_lt_zero m)), ((p52bbfr 280 0 (by omega) (by omega)).trans ((p47bbfr 280 0 (by omega) (by omega)).trans rfl)), p52hw2, ((p52bbfr 280 2 (by omega) (by omega)).trans ((p47bbfr 280 2 (by omega) (by omega)).trans hz0)), ((p52bbfr 280 29 (by omega) (by omega)).trans ((p47bbfr 280 29 (by omega) (by omega)).trans rfl)), (Eq.trans (b := ((0 + 1) : Int)) ((p52bbfr 280 30 (by omega) (by omega)).trans p47hw2) (by omega)), p52bhd2, ?_, (fun c j h0 h1 h2 h3 h4 h5 h6 h7 h8 h9 h10 h11 => ((p52bbfr c j (by omega) (by omega)).trans ((p47bbfr c j (by omega) (by omega)).trans (zxcj h11 (zxcj h10 (zxcj h9 (zxcj h8 rfl)))))))⟩
              · refine (p52bbfr 280 31 (by omega) (by omega)).trans (p47bhf2.trans ?_)
                by_cases e : 0 = i
                · rw [if_pos e, if_pos (by omega), show i.toNat = 0 by omega, pfB_0]
                  exact p44hv
                · rw [if_neg e, if_neg (by omega)]
  · rintro nM lsM stM I1 L1 R1 S1 hz1 ⟨l, N, tt, rfl, rfl, rfl, rfl, rfl, rfl, hN, ht, hok, hl, hu, hth, hw1, hz1, hwa, hwr, hd, hf, fr⟩
    have hw0 : rW N 0 = (N + 63) / 64 := rfl
    have hwu : ∀ l, rW N (l + 1) = (rW N l + 1) / 2 := fun _ => rfl
    have hou : ∀ l, rO N (l + 1) = rO N l + rW N l := fun _ => rfl
    have hk0 : k.toNat < rW N 0 := by omega
    have hwl := hwu l
    have hol := hou l
    have hn1 := pfN_le N k.toNat l
    have hkl := pfK_lt hk0 l
    have hpoI := pfO_i (pfK k.toNat l)
    have hn2 : pfN N k.toNat (l + 1) = pfN N k.toNat l + (if pfO (pfK k.toNat l) < rW N l then 1 else 0) := rfl
    have hk2 : pfK k.toNat (l + 1) = pfK k.toNat l / 2 := rfl
    refine And.intro (zA_280 hS) (zrd (v := (rW N l)) hw1 ?_)
    refine And.intro ⟨(by omega), (zRb rfl)⟩ ⟨fun h63 => ?_, fun h63 => ?_⟩
    · refine And.intro (zA_280 hS) (zrd (v := (if i < 1 + 33 * pfN N k.toNat l then pfB tt N k.toNat (rT N) i.toNat else -1)) hf ?_)
      refine hQ _ _ ?_ ?_ (fun c j h0 h1 h2 h3 h4 h5 h6 h7 h8 h9 h10 h11 => ((fr c j (by omega) (by omega) (by omega) (by omega) (by omega) (by omega) (by omega) (by omega) (by omega) (by omega) (by omega) (by omega)).trans rfl))
      · first
        | exact Or.inl ⟨by omega, rfl⟩
        | (obtain ⟨rfl, hq1, hq2⟩ := hN
           subst ht
           refine Or.inr ⟨by omega, hth, ?_⟩
           have e := rT_of ⟨hq1, hq2⟩ (l := l) (by omega) hu (by omega)
           rw [e])
      · first
        | exact hz1
        | exact hz0
    · have b69 : (zxor (pfK k.toNat l) 1) = if ((pfK k.toNat l) : Int) % 2 = 0 then ((pfK k.toNat l) : Int) + 1 else ((pfK k.toNat l) : Int) - 1 := zxor1 (by omega)
      refine And.intro (zA_280 hS) (zrd (v := (rW N l)) hw1 ?_)
      refine And.intro ⟨zr_xor, (by omega)⟩ ⟨fun h78 => ?_, fun h78 => ?_⟩
      · refine And.intro (zA_280 hS) ⟨_, sn_B_goUp.up (by decide), ?_⟩
        refine ⟨l, N, tt, rfl, hS, hR, (by first | exact hK | exact (fun j h1 => ((fr 281 _ (by omega) (by omega) (by omega) (by omega) (by omega) (by omega) (by omega) (by omega) (by omega) (by omega) (by omega) (by omega)).trans rfl).trans (hK j h1)) | (clear hQ; grind [xu])), hz1, (Eq.trans (b := ((rW N l) : Int)) hw1 (by omega)), (by omega), (by omega), (fun q x h1 h2 => rfl.trans (hd q x h1 h2)), ?_⟩
        intro I131o p131hz2 p131bhw2 p131bbhd2 p131bbbfr
        refine And.intro ⟨(by omega), (zRb rfl), (by decide)⟩ (zdv (by omega) (fun q137 e137 => ?_))
        refine ⟨((rW N (l + 1)), 0, 0), zlt6 (by omega), [some (zvr (280)), some (zvi (a)), some (zvi (k)), some (zvi (i)), some (zvi (pfK k.toNat (l + 1))), none, none], ⟨rfl, rfl, rfl, rfl, (congrArg (fun z => some (zvi z)) (by omega)), rfl⟩, (l + 1), N, tt, rfl, rfl, rfl, rfl, rfl, rfl, hN, ht, (by omega), (by omega), ?_, ((p131bbbfr 280 0 (by omega) (by omega) (by omega) (by omega) (by omega) (by omega) (by omega) (by omega)).trans hth), p131bhw2, p131hz2, ((p131bbbfr 280 29 (by omega) (by omega) (by omega) (by omega) (by omega) (by omega) (by omega) (by omega)).trans hwa), (by have ho : ¬ pfO (pfK k.toNat l) < rW N l := (by omega); rw [if_neg ho] at hn2; exact (p131bbbfr 280 30 (by omega) (by omega) (by omega) (by omega) (by omega) (by omega) (by omega) (by omega)).trans (hwr.trans (by omega))), p131bbhd2, ?_, (fun c j h0 h1 h2 h3 h4 h5 h6 h7 h8 h9 h10 h11 => ((p131bbbfr c j (by omega) (by omega) (by omega) (by omega) (by omega) (by omega) (by omega) (by omega)).trans ((fr c j (by omega) (by omega) (by omega) (by omega) (by omega) (by omega) (by omega) (by omega) (by omega) (by omega) (by omega) (by omega)).trans rfl)))⟩
        · intro m hm
          by_cases h : m = l
          · rw [h]; omega
          · exact hu m (by omega)
        · have ho : ¬ pfO (pfK k.toNat l) < rW N l := by omega
          rw [if_neg ho] at hn2
          refine (p131bbbfr 280 31 (by omega) (by omega) (by omega) (by omega) (by omega) (by omega) (by omega) (by omega)).trans (hf.trans ?_)
          rw [hn2, Nat.add_zero]
      · refine And.intro ⟨zr_xor, (by omega)⟩ ⟨fun h86 => ?_, fun h86 => ?_⟩
        · refine And.intro (zA_280 hS) ⟨_, sn_B_say.up (by decide), ?_⟩
          refine ⟨(1 : Int), ((1 + 33 * pfN N k.toNat l) : Int), (i : Int), ((if i < 1 + 33 * pfN N k.toNat l then pfB tt N k.toNat (rT N) i.toNat else -1) : Int), rfl, hS, hR, hwr, hwa, hf, (by omega), (by clear hQ; grind [xu]), ?_⟩
          intro I94o p94hw2 p94bhf2 p94bbfr
          refine ⟨((rW N l - 1), (33 - (0 : Int)).toNat, 0), zlt6 (by omega), [some (zvr (280)), some (zvi (a)), some (zvi (k)), some (zvi (i)), some (zvi (pfK k.toNat l)), some (zvi (pfO (pfK k.toNat l))), some (zvi ((0 : Int)))], ⟨rfl, rfl, rfl, rfl, rfl, (congrArg (fun z => some (zvi z)) (by omega)), rfl, rfl⟩, l, 0, N, tt, rfl, rfl, rfl, rfl, rfl, rfl, hN, ht, (by omega), hl, hu, (by omega), (by omega), (by omega), ((p94bbfr 280 0 (by omega) (by omega)).trans hth), (Eq.trans (b := ((rW N l) : Int)) ((p94bbfr 280 15 (by omega) (by omega)).trans hw1) (by omega)), ((p94bbfr 280 2 (by omega) (by omega)).trans hz1), ((p94bbfr 280 29 (by omega) (by omega)).trans hwa), (p94hw2.trans (by omega)), (by first | exact hd | exact (fun q x h2 h3 => ((p94bbfr 293 _ (by omega) (by omega)).trans rfl).trans (hd q x h2 h3)) | (clear hQ; grind [xu])), ?_, (fun c j h0 h1 h2 h3 h4 h5 h6 h7 h8 h9 h10 h11 => ((p94bbfr c j (by omega) (by omega)).trans ((fr c j (by omega) (by omega) (by omega) (by omega) (by omega) (by omega) (by omega) (by omega) (by omega) (by omega) (by omega) (by omega)).trans rfl)))⟩
          · refine p94bhf2.trans ?_
            by_cases e : (1 + 33 * (pfN N k.toNat l : Int)) = i
            · rw [if_pos e, if_pos (by omega), show i.toNat = 1 + 33 * pfN N k.toNat l by omega]
              rw [pfB_fl (rT_lt ⟨hN.2.1, hN.2.2⟩ (by omega) hu (by omega)) (by omega)]
              first
              | rw [if_pos (by omega)]
              | rw [if_neg (by omega)]
            · rw [if_neg e]
              by_cases e2 : i < 1 + 33 * pfN N k.toNat l
              · rw [if_pos e2, if_pos (by omega)]
              · rw [if_neg e2, if_neg (by omega)]
        · refine And.intro (zA_280 hS) ⟨_, sn_B_say.up (by decide), ?_⟩
          refine ⟨(0 : Int), ((1 + 33 * pfN N k.toNat l) : Int), (i : Int), ((if i < 1 + 33 * pfN N k.toNat l then pfB tt N k.toNat (rT N) i.toNat else -1) : Int), rfl, hS, hR, hwr, hwa, hf, (by omega), (by clear hQ; grind [xu]), ?_⟩
          intro I94o p94hw2 p94bhf2 p94bbfr
          refine ⟨((rW N l - 1), (33 - (0 : Int)).toNat, 0), zlt6 (by omega), [some (zvr (280)), some (zvi (a)), some (zvi (k)), some (zvi (i)), some (zvi (pfK k.toNat l)), some (zvi (pfO (pfK k.toNat l))), some (zvi ((0 : Int)))], ⟨rfl, rfl, rfl, rfl, rfl, (congrArg (fun z => some (zvi z)) (by omega)), rfl, rfl⟩, l, 0, N, tt, rfl, rfl, rfl, rfl, rfl, rfl, hN, ht, (by omega), hl, hu, (by omega), (by omega), (by omega), ((p94bbfr 280 0 (by omega) (by omega)).trans hth), (Eq.trans (b := ((rW N l) : Int)) ((p94bbfr 280 15 (by omega) (by omega)).trans hw1) (by omega)), ((p94bbfr 280 2 (by omega) (by omega)).trans hz1), ((p94bbfr 280 29 (by omega) (by omega)).trans hwa), (p94hw2.trans (by omega)), (by first | exact hd | exact (fun q x h2 h3 => ((p94bbfr 293 _ (by omega) (by omega)).trans rfl).trans (hd q x h2 h3)) | (clear hQ; grind [xu])), ?_, (fun c j h0 h1 h2 h3 h4 h5 h6 h7 h8 h9 h10 h11 => ((p94bbfr c j (by omega) (by omega)).trans ((fr c j (by omega) (by omega) (by omega) (by omega) (by omega) (by omega) (by omega) (by omega) (by omega) (by omega) (by omega) (by omega)).trans rfl)))⟩
          · refine p94bhf2.trans ?_
            by_cases e : (1 + 33 * (pfN N k.toNat l : Int)) = i
            · rw [if_pos e, if_pos (by omega), show i.toNat = 1 + 33 * pfN N k.toNat l by omega]
              rw [pfB_fl (rT_lt ⟨hN.2.1, hN.2.2⟩ (by omega) hu (by omega)) (by omega)]
              first
              | rw [if_pos (by omega)]
              | rw [if_neg (by omega)]
            · rw [if_neg e]
              by_cases e2 : i < 1 + 33 * pfN N k.toNat l
              · rw [if_pos e2, if_pos (by omega)]
              · rw [if_neg e2, if_neg (by omega)]
  · rintro nM lsM stM I1 L1 R1 S1 hz1 ⟨l, x, N, tt, rfl, rfl, rfl, rfl, rfl, rfl, hN, ht, hok, hl, hu, hlw, hot, hx, hth, hw1, hz1, hwa, hwr, hd, hf, fr⟩
    have hw0 : rW N 0 = (N + 63) / 64 := rfl
    have hwu : ∀ l, rW N (l + 1) = (rW N l + 1) / 2 := fun _ => rfl
    have hou : ∀ l, rO N (l + 1) = rO N l + rW N l := fun _ => rfl
    have hk0 : k.toNat < rW N 0 := by omega
    have hwl := hwu l
    have hol := hou l
    have hn1 := pfN_le N k.toNat l
    have hkl := pfK_lt hk0 l
    have hpoI := pfO_i (pfK k.toNat l)
    have hn2 : pfN N k.toNat (l + 1) = pfN N k.toNat l + 1 := pfN_s hot
    have hk2 : pfK k.toNat (l + 1) = pfK k.toNat l / 2 := rfl
    refine And.intro ⟨(by omega), (zRb rfl)⟩ ⟨fun h104 => ?_, fun h104 => ?_⟩
    · refine And.intro (zA_280 hS) ⟨_, sn_B_goUp.up (by decide), ?_⟩
      refine ⟨l, N, tt, rfl, hS, hR, (by first | exact hK | exact (fun j h1 => ((fr 281 _ (by omega) (by omega) (by omega) (by omega) (by omega) (by omega) (by omega) (by omega) (by omega) (by omega) (by omega) (by omega)).trans rfl).trans (hK j h1)) | (clear hQ; grind [xu])), hz1, (Eq.trans (b := ((rW N l) : Int)) hw1 (by omega)), (by omega), (by omega), (fun q x h1 h2 => rfl.trans (hd q x h1 h2)), ?_⟩
      intro I131o p131hz2 p131bhw2 p131bbhd2 p131bbbfr
      refine And.intro ⟨(by omega), (zRb rfl), (by decide)⟩ (zdv (by omega) (fun q137 e137 => ?_))
      refine ⟨((rW N (l + 1)), 0, 0), zlt6 (by omega), [some (zvr (280)), some (zvi (a)), some (zvi (k)), some (zvi (i)), some (zvi (pfK k.toNat (l + 1))), none, none], ⟨rfl, rfl, rfl, rfl, (congrArg (fun z => some (zvi z)) (by omega)), rfl⟩, (l + 1), N, tt, rfl, rfl, rfl, rfl, rfl, rfl, hN, ht, (by omega), (by omega), ?_, ((p131bbbfr 280 0 (by omega) (by omega) (by omega) (by omega) (by omega) (by omega) (by omega) (by omega)).trans hth), p131bhw2, p131hz2, ((p131bbbfr 280 29 (by omega) (by omega) (by omega) (by omega) (by omega) (by omega) (by omega) (by omega)).trans hwa), ((p131bbbfr 280 30 (by omega) (by omega) (by omega) (by omega) (by omega) (by omega) (by omega) (by omega)).trans (hwr.trans (by omega))), p131bbhd2, ?_, (fun c j h0 h1 h2 h3 h4 h5 h6 h7 h8 h9 h10 h11 => ((p131bbbfr c j (by omega) (by omega) (by omega) (by omega) (by omega) (by omega) (by omega) (by omega)).trans ((fr c j (by omega) (by omega) (by omega) (by omega) (by omega) (by omega) (by omega) (by omega) (by omega) (by omega) (by omega) (by omega)).trans rfl)))⟩
      · intro m hm
        by_cases h : m = l
        · rw [h]; omega
        · exact hu m (by omega)
      · refine (p131bbbfr 280 31 (by omega) (by omega) (by omega) (by omega) (by omega) (by omega) (by omega) (by omega)).trans (hf.trans ?_)
        rw [hn2, show (1 + 33 * ((pfN N k.toNat l + 1 : Nat) : Int)) = 2 + 33 * pfN N k.toNat l + x by omega]
    · refine And.intro (zA_280 hS) (zrdR (v := some 293) (zR_280_16 hR) ?_)
      refine And.intro (zP_293 hS (by omega) (by omega)) (fun v120 e120 r120 => ?_)
      refine And.intro (zA_280 hS) ⟨_, sn_B_say.up (by decide), ?_⟩
      refine ⟨(v120 : Int), ((2 + 33 * pfN N k.toNat l + x) : Int), (i : Int), ((if i < 2 + 33 * pfN N k.toNat l + x then pfB tt N k.toNat (rT N) i.toNat else -1) : Int), rfl, hS, hR, hwr, hwa, hf, (by omega), (by clear hQ; grind [xu]), ?_⟩
      intro I121o p121hw2 p121bhf2 p121bbfr
      refine ⟨((rW N l - 1), (33 - (x + 1)).toNat, 0), zlt6 (by omega), [some (zvr (280)), some (zvi (a)), some (zvi (k)), some (zvi (i)), some (zvi (pfK k.toNat l)), some (zvi (pfO (pfK k.toNat l))), some (zvi ((x + 1)))], ⟨rfl, rfl, rfl, rfl, rfl, rfl, rfl, rfl⟩, l, (x + 1), N, tt, rfl, rfl, rfl, rfl, rfl, rfl, hN, ht, (by omega), hl, hu, hlw, hot, (by omega), ((p121bbfr 280 0 (by omega) (by omega)).trans hth), (Eq.trans (b := ((rW N l) : Int)) ((p121bbfr 280 15 (by omega) (by omega)).trans hw1) (by omega)), ((p121bbfr 280 2 (by omega) (by omega)).trans hz1), ((p121bbfr 280 29 (by omega) (by omega)).trans hwa), (p121hw2.trans (by omega)), (by first | exact hd | exact (fun q x h2 h3 => ((p121bbfr 293 _ (by omega) (by omega)).trans rfl).trans (hd q x h2 h3)) | (clear hQ; grind [xu])), ?_, (fun c j h0 h1 h2 h3 h4 h5 h6 h7 h8 h9 h10 h11 => ((p121bbfr c j (by omega) (by omega)).trans ((fr c j (by omega) (by omega) (by omega) (by omega) (by omega) (by omega) (by omega) (by omega) (by omega) (by omega) (by omega) (by omega)).trans rfl)))⟩
      · refine p121bhf2.trans ?_
        by_cases e : (2 + 33 * (pfN N k.toNat l : Int) + x) = i
        · rw [if_pos e, if_pos (by omega), show i.toNat = 2 + 33 * pfN N k.toNat l + x.toNat by omega]
          rw [pfB_by (rT_lt ⟨hN.2.1, hN.2.2⟩ (by omega) hu hlw) hot (by omega)]
          exact e120.trans ((congrArg (I1 293) (by omega)).trans (hd (pfO (pfK k.toNat l)) x.toNat hot (by omega)))
        · rw [if_neg e]
          by_cases e2 : i < 2 + 33 * pfN N k.toNat l + x
          · rw [if_pos e2, if_pos (by omega)]
          · rw [if_neg e2, if_neg (by omega)])
