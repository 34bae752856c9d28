/-! uxx -/
def T_Y_drh : ZT := fun args I L R S Q => ∃ (q : Nat) (w : List CuR) (a : Int) (b : Int), args = [zvr 165, zvi a, zvi b] ∧ (zSh S) ∧ (zRs R) ∧ (R 165 31 = some q) ∧ (zDy zT15 zF15 q R S) ∧ (zMh w I) ∧ (∀ p : Nat, p < cuHc w → I 211 p = cuOr w p) ∧ (cuHc w ≤ 20) ∧ (cuG w) ∧ (r32 a ∧ r32 b) ∧ (0 ≤ I 165 44) ∧ ∀ (v : Int) (I' : ZI), (v = (if (0 ≤ a ∧ a ≤ 6) ∧ 0 ≤ b ∧ b < (dTx w a).length then wAt (dTx w a) b.toNat else -1)) → (0 ≤ I' 165 44) → (∀ c j : Nat, ¬ (c = 165 ∧ j = 44) → ¬ (c = 165 ∧ j = 45) → ¬ (c = 165 ∧ j = 46) → I' c j = I c j) → Q (some (zvi (v))) I' L R S
theorem sn_Y_drh : ZSnd 4 21 14 T_Y_drh := ZSnd.of (zT21_14 3) (by
  rintro args I L R S Q hz ⟨q, w, a, b, rfl, hS, hR, hrc, hdq, hMh, hord, hc20, hG, hr, h44p, hQ⟩
  refine And.intro rfl ?_
  refine And.intro (zA_165 hS) (zrdR (v := some q) hrc ?_)
  refine And.intro (by omega) ⟨fun h8 => ?_, fun h8 => ?_⟩
  · refine hQ _ _ ?_ (by first | exact h44p | (rw [p35hsy2.1]; omega)) (fun c j h0 h1 h2 => rfl)
    · first
      | (rw [if_neg (fun h => by omega)])
      | (have z := p35hsy2.2.2
         by_cases q9 : 0 ≤ b ∧ b < (dTx w a).length
         · rw [if_pos q9] at z
           rw [if_pos ⟨by omega, q9⟩]
           omega
         · rw [if_neg q9] at z
           rw [if_neg (fun h => q9 h.2)]
           omega)
  · refine And.intro ⟨(by omega), (zRb rfl)⟩ ⟨fun h14 => ?_, fun h14 => ?_⟩
    · refine hQ _ _ ?_ (by first | exact h44p | (rw [p35hsy2.1]; omega)) (fun c j h0 h1 h2 => rfl)
      · first
        | (rw [if_neg (fun h => by omega)])
        | (have z := p35hsy2.2.2
           by_cases q9 : 0 ≤ b ∧ b < (dTx w a).length
           · rw [if_pos q9] at z
             rw [if_pos ⟨by omega, q9⟩]
             omega
           · rw [if_neg q9] at z
             rw [if_neg (fun h => q9 h.2)]
             omega)
    · refine And.intro (by omega) ⟨fun h18 => ?_, fun h18 => ?_⟩
      · refine And.intro (zA_165 hS) ⟨_, (zWi (by omega)), ?_⟩
        refine And.intro (zA_165 hS) ⟨_, (zWi (zRb rfl)), ?_⟩
        refine And.intro (zA_165 hS) ⟨_, sn_Y_sdr.up (by decide), ?_⟩
        refine ⟨b, w, a, rfl, hS, hR, (zxs (by decide) zxe), zxe, (by omega), (by omega), (zMh_fr hMh (fun c j h => zxcj (by omega) (zxcj (by omega) rfl))), (fun p hp => zxu (by decide) (zxu (by decide) (hord p hp))), (by omega), (by first | exact hG | (clear hQ; grind [xu])), ?_⟩
        intro I35o p35hsy2 p35bfr
        refine And.intro (zA_165 hS) (fun v39 e39 r39 => ?_)
        refine hQ _ _ ?_ (by first | exact h44p | (rw [p35hsy2.1]; omega)) (fun c j h0 h1 h2 => ((p35bfr c j h1 h2).trans (zxcj h2 (zxcj h0 rfl))))
        · first
          | (rw [if_neg (fun h => by omega)])
          | (have z := p35hsy2.2.2
             by_cases q9 : 0 ≤ b ∧ b < (dTx w a).length
             · rw [if_pos q9] at z
               rw [if_pos ⟨by omega, q9⟩]
               omega
             · rw [if_neg q9] at z
               rw [if_neg (fun h => q9 h.2)]
               omega)
      · refine hQ _ _ ?_ (by first | exact h44p | (rw [p35hsy2.1]; omega)) (fun c j h0 h1 h2 => rfl)
        · first
          | (rw [if_neg (fun h => by omega)])
          | (have z := p35hsy2.2.2
             by_cases q9 : 0 ≤ b ∧ b < (dTx w a).length
             · rw [if_pos q9] at z
               rw [if_pos ⟨by omega, q9⟩]
               omega
             · rw [if_neg q9] at z
               rw [if_neg (fun h => q9 h.2)]
               omega))
def T_Y_rel0 : ZT := fun args I L R S Q => args = [zvr 165] ∧ (zSh S) ∧ (zRs R) ∧ (R 165 31 = none) ∧ ∀ (I' : ZI), (I' 165 0 = 3) → (∀ c j : Nat, ¬ (c = 165 ∧ j = 0) → I' c j = I c j) → Q (some (zvi (-1))) I' L R S
theorem sn_Y_rel0 : ZSnd 6 21 49 T_Y_rel0 := ZSnd.of (zT21_49 5) (by
  rintro args I L R S Q hz ⟨rfl, hS, hR, hrc, hQ⟩
  refine And.intro rfl ?_
  refine And.intro (zA_165 hS) (zrdR (v := none) hrc ?_)
  refine And.intro (zA_165 hS) (Exists.intro _ (And.intro (zinl_ok (zT21_47 4)) (And.intro rfl ?_)))
  refine And.intro (zA_165 hS) ⟨_, (zWi (zRb rfl)), ?_⟩
  refine hQ _ zxe (fun c j h0 => (zxcj h0 rfl)))
def T_Y_rel : ZT := fun args I L R S Q => ∃ (w : List Int) (D : DtT) (er : Int × Int × Int) (q : Nat) (wc : List CuR) (e : Int) (a : Int) (m : Int) (cn : Nat) (t : Nat → Nat → Int) (n : Nat → Nat) (N : Nat), args = [zvr 165] ∧ (zSh S) ∧ (zRs R) ∧ (R 165 31 = some q) ∧ (zDy zT15 zF15 q R S) ∧ (I 165 34 = e) ∧ (e = 0 ∨ e = 1) ∧ (scV w) ∧ (scB w D er I L) ∧ (scDb w D) ∧ (I 165 44 = m) ∧ (0 ≤ m ∧ m ≤ 2147483647) ∧ (I 165 46 = a) ∧ (zMh wc I) ∧ (∀ p : Nat, p < cuHc wc → I 211 p = cuOr wc p) ∧ (cuHc wc ≤ 20) ∧ (cuG wc) ∧ (zRB cn t n I) ∧ (zRC cn t n I) ∧ (I 287 10 = 0) ∧ ((dTx wc 0).length = N) ∧ ∀ (v : Int) (I' : ZI) (L' : ZI), (v = if 0 ≤ (rlV cn N (scDu w D e)) then (rlV cn N (scDu w D e)) else -1) → (I' 165 0 = if 0 ≤ (rlV cn N (scDu w D e)) then 0 else -(rlV cn N (scDu w D e))) → ((if 0 ≤ (rlV cn N (scDu w D e)) then zRB (cn + 1) (upF t cn (wAt (dTx wc 0))) (upF n cn N) I' ∧ zRC (cn + 1) (upF t cn (wAt (dTx wc 0))) (upF n cn N) I' else zRB cn t n I' ∧ zRC cn t n I') ∧ I' 287 10 = 0) → (0 ≤ I' 165 44) → (∀ c j : Nat, ¬ (c = 165 ∧ j = 44) → ¬ (c = 165 ∧ j = 45) → ¬ (c = 165 ∧ j = 46) → ¬ (c = 165 ∧ j = 0) → ¬ (c = 234 ∧ j = 0) → ¬ (c = 234 ∧ j = 66) → ¬ (c = 280 ∧ j = 0) → ¬ (c = 280 ∧ j = 2) → ¬ (c = 280 ∧ j = 8) → ¬ (c = 280 ∧ j = 15) → ¬ c = 282 → ¬ c = 283 → ¬ c = 284 → ¬ c = 285 → ¬ c = 286 → ¬ c = 287 → ¬ c = 288 → ¬ c = 289 → ¬ c = 290 → ¬ c = 291 → ¬ c = 292 → ¬ c = 293 → I' c j = I c j) → (∀ c j : Nat, ¬ c = 267 → ¬ (c = 234 ∧ j = 65) → L' c j = L c j) → Q (some (zvi (v))) I' L' R S
theorem sn_Y_rel : ZSnd 6 21 49 T_Y_rel := ZSnd.loops (zT21_49 5) (by
  rintro args I L R S Q hz ⟨w, D, er, q, wc, e, a, m, cn, t, n, N, rfl, hS, hR, hrc, hdq, hf, he, hV, hB, hDb, h44, hmb, h46, hMh, hord, hc20, hG, hRB, hRC, h287, hN, hQ⟩
  have hcn := hRB.2.1
  have hc8 := hRB.1
  have h800 := dTx_8 (w := wc) (l := 0) hc20
  have h1d := dTx_1 (w := wc) (l := 0)
  rw [hN] at h800 h1d
  have hn512 : ∀ r, r < cn → n r ≤ 512 := fun r hr => (hRB.2.2.2.2 r hr).1.2.1
  refine ⟨[65], fun nM tM lsM stM I1 L1 R1 S1 => match tM with
      | 65 => ∃ (i : Nat), nM = ((900 - i), 0, 0) ∧ lsM = [some (zvr (165)), some (zvi (N)), some (zvi (1)), some (zvi (i))] ∧ stM = [] ∧ R1 = R ∧ S1 = S ∧ (i ≤ N) ∧ (¬ (cn = 10 ∨ 512 < N) ∧ ¬ scDu w D e = 0) ∧ (zRF (wAt (dTx wc 0)) i ((i + 63) / 64) I1) ∧ (0 ≤ I1 165 44) ∧ (∀ c j : Nat, ¬ (c = 165 ∧ j = 44) → ¬ (c = 165 ∧ j = 45) → ¬ (c = 165 ∧ j = 46) → ¬ (c = 280 ∧ j = 0) → ¬ (c = 234 ∧ j = 0) → ¬ (c = 234 ∧ j = 66) → ¬ (c = 287 ∧ j = 10) → ¬ (c = 288 ∧ 80 ≤ j) → ¬ (c = 289 ∧ 80 ≤ j) → ¬ (c = 290 ∧ 5120 ≤ j) → I1 c j = I c j) ∧ (∀ c j : Nat, ¬ c = 267 → ¬ (c = 234 ∧ j = 65) → L1 c j = L c j)
      | _ => False, rfl, ?_, ⟨?_, True.intro⟩⟩
  · refine And.intro (zA_165 hS) (zrdR (v := some q) hrc ?_)
    refine And.intro (zA_165 hS) ⟨_, sn_Y_sdx.up (by decide), ?_⟩
    refine ⟨a, m, wc, 0, rfl, hS, hR, h44, h46, hmb, (by omega), hMh, hord, hc20, hG, ?_⟩
    intro I15o p15hsy2 p15bfr
    have g15 : I15o 165 45 = N := (by rw [p15hsy2.2.1, hN])
    refine And.intro (zA_165 hS) (fun v19 e19 r19 => ?_)
    refine And.intro (zA_165 hS) (zrdR (v := some 280) (zR_165_50 hR) ?_)
    refine And.intro (zA_280 hS) (Exists.intro _ (And.intro (zinl_ok (zT19_20 4)) (And.intro rfl ?_)))
    refine And.intro (zA_280 hS) ⟨_, (zWi (zRb rfl)), ?_⟩
    refine And.intro (zA_280 hS) (zrd (v := cn) ((p15bfr 280 8 (by omega) (by omega)).trans hc8) ?_)
    refine And.intro ⟨(by omega), (zRb rfl)⟩ ⟨fun h32 => ?_, fun h32 => ?_⟩
    · refine And.intro (zA_165 hS) (Exists.intro _ (And.intro (zinl_ok (zT21_47 4)) (And.intro rfl ?_)))
      refine And.intro (zA_165 hS) ⟨_, (zWi (zRb rfl)), ?_⟩
      refine hQ _ _ _ (by rw [rlV_1 (by omega), if_neg (by decide)]) (by rw [rlV_1 (by omega), if_neg (by decide)]; exact zxe) ⟨(by rw [rlV_1 (by omega), if_neg (by decide)]; exact ⟨zRB_fr hRB ((zxcj (by omega) (zxcj (by omega) ((p15bfr 280 2 (by omega) (by omega)).trans rfl))).trans hRB.2.2.1) (fun c j h => (zxcj (by omega) (zxcj (by omega) ((p15bfr c j (by omega) (by omega)).trans rfl)))), zRC_fr hRC hn512 (fun c j h => (zxcj (by omega) (zxcj (by omega) ((p15bfr c j (by omega) (by omega)).trans rfl))))⟩), ((zxcj (by omega) (zxcj (by omega) ((p15bfr 287 10 (by omega) (by omega)).trans rfl))).trans h287)⟩ (by have z9 := hmb.1; rw [← h44] at z9; first | (rw [show _ = I 165 44 from (zxcj (by omega) (zxcj (by omega) ((p15bfr 165 44 (by omega) (by omega)).trans rfl)))]; exact z9) | (rw [show _ = I 165 44 from (zxcj (by omega) ((p49bfr 165 44 (by omega) (by omega)).trans (zxcj (by omega) ((p15bfr 165 44 (by omega) (by omega)).trans rfl))))]; exact z9) | (have z8 : 0 ≤ I146o 165 44 := (by rw [p146bbbbfr 165 44 (by omega) (by omega) (by omega) (by omega) (by omega) (by omega) (by omega) (by omega) (by omega) (by omega) (by omega) (by omega) (by omega) (by omega) (by omega) (by omega)]; exact h44e); rw [show _ = I146o 165 44 from zxcj (by omega) rfl]; exact z8)) (fun c j h0 h1 h2 h3 h4 h5 h6 h7 h8 h9 h10 h11 h12 h13 h14 h15 h16 h17 h18 h19 h20 h21 => (zxcj h3 (zxcj h6 ((p15bfr c j h1 h2).trans rfl)))) (fun c j h0 h1 => rfl)
    · refine And.intro ⟨r19, (zRb rfl)⟩ ⟨fun h39 => ?_, fun h39 => ?_⟩
      · refine And.intro (zA_165 hS) ⟨_, sn_Y_due.up (by decide), ?_⟩
        refine ⟨w, D, er, q, e, rfl, hS, hR, hrc, hdq, ((p15bfr 165 34 (by omega) (by omega)).trans hf), he, hV, (scB_fr hB (fun c j h => (zxcj (by omega) ((p15bfr c j (by omega) (by omega)).trans rfl))) (fun c j h => rfl)), hDb, ?_⟩
        intro v49o I49o L49o p49hv p49bfr p49bbfrL
        have g49 : v49o = 0 ∨ v49o = 1 := (by rw [p49hv]; exact adN_b he _)
        refine And.intro (by omega) ⟨fun h52 => ?_, fun h52 => ?_⟩
        · refine ⟨((900 - (0 : Nat)), 0, 0), [some (zvr (165)), some (zvi (N)), some (zvi (1)), some (zvi ((0 : Nat)))], ⟨rfl, (congrArg (fun z => some (zvi z)) (by omega)), rfl, rfl, rfl⟩, 0, rfl, rfl, rfl, rfl, rfl, (by omega), ⟨by omega, by omega⟩, (show zRF _ 0 0 _ from ⟨(p49bfr 287 10 (by omega) (by omega)).trans (zxu (by decide) ((p15bfr 287 10 (by omega) (by omega)).trans h287)), fun f hf => absurd hf (Nat.not_lt_zero f), fun j hj => absurd hj (Nat.not_lt_zero j)⟩), (by clear hQ; grind [xu]), (fun c j h0 h1 h2 h3 h4 h5 h6 h7 h8 h9 => ((p49bfr c j h4 h5).trans (zxcj h3 ((p15bfr c j h1 h2).trans rfl)))), (fun c j h0 h1 => ((p49bbfrL c j h0 h1).trans rfl))⟩
        · refine And.intro (zA_165 hS) (Exists.intro _ (And.intro (zinl_ok (zT21_47 4)) (And.intro rfl ?_)))
          refine And.intro (zA_165 hS) ⟨_, (zWi (zRb rfl)), ?_⟩
          refine hQ _ _ _ (by rw [rlV_5 (by omega) (by omega), if_neg (by decide)]) (by rw [rlV_5 (by omega) (by omega), if_neg (by decide)]; exact zxe) ⟨(by rw [rlV_5 (by omega) (by omega), if_neg (by decide)]; exact ⟨zRB_fr hRB ((zxcj (by omega) ((p49bfr 280 2 (by omega) (by omega)).trans (zxcj (by omega) ((p15bfr 280 2 (by omega) (by omega)).trans rfl)))).trans hRB.2.2.1) (fun c j h => (zxcj (by omega) ((p49bfr c j (by omega) (by omega)).trans (zxcj (by omega) ((p15bfr c j (by omega) (by omega)).trans rfl))))), zRC_fr hRC hn512 (fun c j h => (zxcj (by omega) ((p49bfr c j (by omega) (by omega)).trans (zxcj (by omega) ((p15bfr c j (by omega) (by omega)).trans rfl)))))⟩), ((zxcj (by omega) ((p49bfr 287 10 (by omega) (by omega)).trans (zxcj (by omega) ((p15bfr 287 10 (by omega) (by omega)).trans rfl)))).trans h287)⟩ (by have z9 := hmb.1; rw [← h44] at z9; first | (rw [show _ = I 165 44 from (zxcj (by omega) (zxcj (by omega) ((p15bfr 165 44 (by omega) (by omega)).trans rfl)))]; exact z9) | (rw [show _ = I 165 44 from (zxcj (by omega) ((p49bfr 165 44 (by omega) (by omega)).trans (zxcj (by omega) ((p15bfr 165 44 (by omega) (by omega)).trans rfl))))]; exact z9) | (have z8 : 0 ≤ I146o 165 44 := (by rw [p146bbbbfr 165 44 (by omega) (by omega) (by omega) (by omega) (by omega) (by omega) (by omega) (by omega) (by omega) (by omega) (by omega) (by omega) (by omega) (by omega) (by omega) (by omega)]; exact h44e); rw [show _ = I146o 165 44 from zxcj (by omega) rfl]; exact z8)) (fun c j h0 h1 h2 h3 h4 h5 h6 h7 h8 h9 h10 h11 h12 h13 h14 h15 h16 h17 h18 h19 h20 h21 => (zxcj h3 ((p49bfr c j h4 h5).trans (zxcj h6 ((p15bfr c j h1 h2).trans rfl))))) (fun c j h0 h1 => ((p49bbfrL c j h0 h1).trans rfl))
      · refine And.intro (zA_165 hS) (Exists.intro _ (And.intro (zinl_ok (zT21_47 4)) (And.intro rfl ?_)))
        refine And.intro (zA_165 hS) ⟨_, (zWi (zRb rfl)), ?_⟩
        refine hQ _ _ _ (by rw [rlV_1 (by omega), if_neg (by decide)]) (by rw [rlV_1 (by omega), if_neg (by decide)]; exact zxe) ⟨(by rw [rlV_1 (by omega), if_neg (by decide)]; exact ⟨zRB_fr hRB ((zxcj (by omega) (zxcj (by omega) ((p15bfr 280 2 (by omega) (by omega)).trans rfl))).trans hRB.2.2.1) (fun c j h => (zxcj (by omega) (zxcj (by omega) ((p15bfr c j (by omega) (by omega)).trans rfl)))), zRC_fr hRC hn512 (fun c j h => (zxcj (by omega) (zxcj (by omega) ((p15bfr c j (by omega) (by omega)).trans rfl))))⟩), ((zxcj (by omega) (zxcj (by omega) ((p15bfr 287 10 (by omega) (by omega)).trans rfl))).trans h287)⟩ (by have z9 := hmb.1; rw [← h44] at z9; first | (rw [show _ = I 165 44 from (zxcj (by omega) (zxcj (by omega) ((p15bfr 165 44 (by omega) (by omega)).trans rfl)))]; exact z9) | (rw [show _ = I 165 44 from (zxcj (by omega) ((p49bfr 165 44 (by omega) (by omega)).trans (zxcj (by omega) ((p15bfr 165 44 (by omega) (by omega)).trans rfl))))]; exact z9) | (have z8 : 0 ≤ I146o 165 44 := (by rw [p146bbbbfr 165 44 (by omega) (by omega) (by omega) (by omega) (by omega) (by omega) (by omega) (by omega) (by omega) (by omega) (by omega) (by omega) (by omega) (by omega) (by omega) (by omega)]; exact h44e); rw [show _ = I146o 165 44 from zxcj (by omega) rfl]; exact z8)) (fun c j h0 h1 h2 h3 h4 h5 h6 h7 h8 h9 h10 h11 h12 h13 h14 h15 h16 h17 h18 h19 h20 h21 => (zxcj h3 (zxcj h6 ((p15bfr c j h1 h2).trans rfl)))) (fun c j h0 h1 => rfl)
  · rintro nM lsM stM I1 L1 R1 S1 hz1 ⟨i, rfl, rfl, rfl, rfl, rfl, hi, hok, hF, h44e, fr, frL⟩
    have hMh1 : zMh wc I1 := zMh_fr hMh (fun c j h => fr c j (by omega) (by omega) (by omega) (by omega) (by omega) (by omega) (by omega) (by omega) (by omega) (by omega))
    have hord1 : ∀ p : Nat, p < cuHc wc → I1 211 p = cuOr wc p := fun p hp => (fr 211 p (by omega) (by omega) (by omega) (by omega) (by omega) (by omega) (by omega) (by omega) (by omega) (by omega)).trans (hord p hp)
    have hRC1 : zRC cn t n I1 := zRC_fr hRC hn512 (fun c j h => fr c j (by omega) (by omega) (by omega) (by omega) (by omega) (by omega) (by omega) (by omega) (by omega) (by omega))
    have hRB1 : zRB cn t n I1 := zRB_fr hRB ((fr 280 2 (by omega) (by omega) (by omega) (by omega) (by omega) (by omega) (by omega) (by omega) (by omega) (by omega)).trans hRB.2.2.1) (fun c j h => fr c j (by omega) (by omega) (by omega) (by omega) (by omega) (by omega) (by omega) (by omega) (by omega) (by omega))
    have hc81 := hRB1.1
    refine And.intro ⟨(by omega), (by omega)⟩ ⟨fun h67 => ?_, fun h67 => ?_⟩
    · refine And.intro (zA_165 hS) (zrdR (v := some 280) (zR_165_50 hR) ?_)
      refine And.intro (zA_280 hS) ⟨_, sn_B_close.up (by decide), ?_⟩
      refine ⟨N, cn, (rW N 0), t, n, (wAt (dTx wc 0)), rfl, hS, hR, hRB1, hRC1, (by have e9 : i = N := (by omega); subst e9; exact hF), ⟨by omega, by omega, by omega, rfl⟩, (fun j hj => dTx_by (by omega)), ?_⟩
      intro I146o p146hz2 p146bhRB2 p146bbhRC2 p146bbbhF2 p146bbbbfr
      refine And.intro (zA_165 hS) (Exists.intro _ (And.intro (zinl_ok (zT21_12 4)) (And.intro rfl ?_)))
      refine And.intro (zA_165 hS) ⟨_, (zWi (zRb rfl)), ?_⟩
      refine hQ _ _ _ (by rw [rlV_y hok.1 hok.2, if_pos (by omega)]) (by rw [rlV_y hok.1 hok.2, if_pos (by omega)]; exact zxe) ⟨(by rw [rlV_y hok.1 hok.2, if_pos (by omega)]; exact ⟨zRB_fr p146bhRB2 (zxcj (by omega) p146bhRB2.2.2.1) (fun c j h => zxcj (by omega) rfl), zRC_fr p146bbhRC2 (fun r hr => (p146bhRB2.2.2.2.2 r hr).1.2.1) (fun c j h => zxcj (by omega) rfl)⟩), zxcj (by omega) p146bbbhF2⟩ (by have z9 := hmb.1; rw [← h44] at z9; first | (rw [show _ = I 165 44 from (zxcj (by omega) (zxcj (by omega) ((p15bfr 165 44 (by omega) (by omega)).trans rfl)))]; exact z9) | (rw [show _ = I 165 44 from (zxcj (by omega) ((p49bfr 165 44 (by omega) (by omega)).trans (zxcj (by omega) ((p15bfr 165 44 (by omega) (by omega)).trans rfl))))]; exact z9) | (have z8 : 0 ≤ I146o 165 44 := (by rw [p146bbbbfr 165 44 (by omega) (by omega) (by omega) (by omega) (by omega) (by omega) (by omega) (by omega) (by omega) (by omega) (by omega) (by omega) (by omega) (by omega) (by omega) (by omega)]; exact h44e); rw [show _ = I146o 165 44 from zxcj (by omega) rfl]; exact z8)) (fun c j h0 h1 h2 h3 h4 h5 h6 h7 h8 h9 h10 h11 h12 h13 h14 h15 h16 h17 h18 h19 h20 h21 => (zxcj h3 ((p146bbbbfr c j h10 h11 h12 h13 h14 (fun w => h16 w.1) (fun w => h17 w.1) (fun w => h18 w.1) (fun w => h19 w.1) h6 h7 h15 h8 h9 h21 (fun w => h20 w.1)).trans ((fr c j h0 h1 h2 h6 h4 h5 (fun w => h15 w.1) (fun w => h16 w.1) (fun w => h17 w.1) (fun w => h18 w.1)).trans rfl)))) (fun c j h0 h1 => ((frL c j h0 h1).trans rfl))
    · refine And.intro ⟨(by omega), (zRb rfl), (by decide)⟩ (zdv (by omega) (fun q73 e73 => ?_))
      refine And.intro (by omega) ⟨fun h74 => ?_, fun h74 => ?_⟩
      · refine And.intro (zRb rfl) (zbf rfl ?_)
        refine And.intro (zA_165 hS) (zrdR (v := some 280) (zR_165_50 hR) ?_)
        refine And.intro ⟨(by omega), (zRb rfl), (by decide)⟩ (zdv (by omega) (fun q116 e116 => ?_))
        refine And.intro (zA_165 hS) ⟨_, sn_Y_drh.up (by decide), ?_⟩
        refine ⟨q, wc, (0 : Int), (i : Int), rfl, hS, hR, hrc, hdq, (by first | exact hMh1 | exact zMh_fr hMh1 (fun c j h => p89bbbfr c j (by omega) (by omega) (by omega) (by omega))), (fun p hp => (by first | exact hord1 p hp | exact (p89bbbfr 211 p (by omega) (by omega) (by omega) (by omega)).trans (hord1 p hp))), hc20, hG, (by omega), (by first | exact h44e | (rw [p89bbbfr 165 44 (by omega) (by omega) (by omega) (by omega)]; exact h44e)), ?_⟩
        intro v120o I120o p120hv p120bh44e p120bbfr
        have g120 : v120o = wAt (dTx wc 0) i := (p120hv.trans (if_pos ⟨⟨by decide, by decide⟩, by omega, by omega⟩))
        have g120b : 0 ≤ v120o ∧ v120o ≤ 255 := (by rw [g120]; exact dTx_by (by omega))
        refine And.intro (zA_280 hS) ⟨_, sn_B_byteOf.up (by decide), ?_⟩
        refine ⟨(q116 : Int), (v120o : Int), (wAt (dTx wc 0)), i, (i / 64), rfl, hS, hR, (by omega), (by omega), (by omega), g120, (by first | exact zRF_fr p89bbhF2 (by omega) (fun c j h => p120bbfr c j (by omega) (by omega) (by omega)) | (rw [show i / 64 + 1 = (i + 63) / 64 by omega]; exact zRF_fr hF (by omega) (fun c j h => p120bbfr c j (by omega) (by omega) (by omega)))), ?_⟩
        intro I123o p123hz2 p123bhF2 p123bbfr
        refine And.intro (zRb rfl) (zbf rfl ?_)
        refine ⟨((900 - (i + 1)), 0, 0), zlt6 (by omega), [some (zvr (165)), some (zvi (N)), some (zvi (1)), some (zvi ((i + 1)))], ⟨rfl, rfl, rfl, rfl, rfl⟩, (i + 1), rfl, rfl, rfl, rfl, rfl, (by omega), (by first | exact hok | (clear hQ; grind [xu])), (by rw [show (i + 1 + 63) / 64 = i / 64 + 1 by omega]; exact p123bhF2), (by rw [p123bbfr 165 44 (by omega) (by omega) (by omega)]; exact p120bh44e), (fun c j h0 h1 h2 h3 h4 h5 h6 h7 h8 h9 => ((p123bbfr c j h8 h9 h3).trans ((p120bbfr c j h0 h1 h2).trans ((fr c j h0 h1 h2 h3 h4 h5 h6 h7 h8 h9).trans rfl)))), (fun c j h0 h1 => ((frL c j h0 h1).trans rfl))⟩
      · refine And.intro (zRb rfl) (zbf rfl ?_)
        refine And.intro (zA_165 hS) (zrdR (v := some 280) (zR_165_50 hR) ?_)
        refine And.intro ⟨(by omega), (zRb rfl), (by decide)⟩ (zdv (by omega) (fun q88 e88 => ?_))
        refine And.intro (zA_280 hS) ⟨_, sn_B_file.up (by decide), ?_⟩
        refine ⟨(q88 : Int), (wAt (dTx wc 0)), i, (i / 64), rfl, hS, hR, (by omega), (by omega), (by rw [show i / 64 = (i + 63) / 64 by omega]; exact hF), ?_⟩
        intro v89o I89o p89hv p89bhz2 p89bbhF2 p89bbbfr
        refine And.intro ⟨(by omega), (zRb rfl), (by decide)⟩ (zdv (by omega) (fun q95 e95 => ?_))
        refine And.intro ⟨(by omega), (by omega)⟩ ⟨(fun h96 => False.elim (by omega)), fun h96 => ?_⟩
        refine And.intro (zRb rfl) (zbf rfl ?_)
        refine And.intro (zA_165 hS) (zrdR (v := some 280) (zR_165_50 hR) ?_)
        refine And.intro ⟨(by omega), (zRb rfl), (by decide)⟩ (zdv (by omega) (fun q116 e116 => ?_))
        refine And.intro (zA_165 hS) ⟨_, sn_Y_drh.up (by decide), ?_⟩
        refine ⟨q, wc, (0 : Int), (i : Int), rfl, hS, hR, hrc, hdq, (by first | exact hMh1 | exact zMh_fr hMh1 (fun c j h => p89bbbfr c j (by omega) (by omega) (by omega) (by omega))), (fun p hp => (by first | exact hord1 p hp | exact (p89bbbfr 211 p (by omega) (by omega) (by omega) (by omega)).trans (hord1 p hp))), hc20, hG, (by omega), (by first | exact h44e | (rw [p89bbbfr 165 44 (by omega) (by omega) (by omega) (by omega)]; exact h44e)), ?_⟩
        intro v120o I120o p120hv p120bh44e p120bbfr
        have g120 : v120o = wAt (dTx wc 0) i := (p120hv.trans (if_pos ⟨⟨by decide, by decide⟩, by omega, by omega⟩))
        have g120b : 0 ≤ v120o ∧ v120o ≤ 255 := (by rw [g120]; exact dTx_by (by omega))
        refine And.intro (zA_280 hS) ⟨_, sn_B_byteOf.up (by decide), ?_⟩
        refine ⟨(q116 : Int), (v120o : Int), (wAt (dTx wc 0)), i, (i / 64), rfl, hS, hR, (by omega), (by omega), (by omega), g120, (by first | exact zRF_fr p89bbhF2 (by omega) (fun c j h => p120bbfr c j (by omega) (by omega) (by omega)) | (rw [show i / 64 + 1 = (i + 63) / 64 by omega]; exact zRF_fr hF (by omega) (fun c j h => p120bbfr c j (by omega) (by omega) (by omega)))), ?_⟩
        intro I123o p123hz2 p123bhF2 p123bbfr
        refine And.intro (zRb rfl) (zbf rfl ?_)
        refine ⟨((900 - (i + 1)), 0, 0), zlt6 (by omega), [some (zvr (165)), some (zvi (N)), some (zvi (1)), some (zvi ((i + 1)))], ⟨rfl, rfl, rfl, rfl, rfl⟩, (i + 1), rfl, rfl, rfl, rfl, rfl, (by omega), (by first | exact hok | (clear hQ; grind [xu])), (by rw [show (i + 1 + 63) / 64 = i / 64 + 1 by omega]; exact p123bhF2), (by rw [p123bbfr 165 44 (by omega) (by omega) (by omega)]; exact p120bh44e), (fun c j h0 h1 h2 h3 h4 h5 h6 h7 h8 h9 => ((p123bbfr c j h8 h9 h3).trans ((p120bbfr c j h0 h1 h2).trans ((p89bbbfr c j h6 h7 h8 h3).trans ((fr c j h0 h1 h2 h3 h4 h5 h6 h7 h8 h9).trans rfl))))), (fun c j h0 h1 => ((frL c j h0 h1).trans rfl))⟩)
