/-! tzh -/
def T_E_qry : ZT := fun args I L R S Q => ∃ (k : Nat) (n : Nat) (e : Nat → Int) (p : Nat) (E : EvE), args = [zvr 138, zvi p] ∧ (zSh S) ∧ (zRs R) ∧ (zDy zT8 zF8 k R S) ∧ (k = 130 ∨ k = 134) ∧ (zEt k n e I) ∧ (R 138 0 = some k) ∧ (zEv E I L) ∧ (p < n) ∧ ((exEx e 3 (p + 1)).1 = 1) ∧ (I 138 12 = 0) ∧ (I 138 13 = 0) ∧ ∀ (v : Int) (I' : ZI) (L' : ZI), (v = (smF e (n - p) p : Nat) + 1) → (((qrL (exEx e 3 (p + 1)).2.2 E.2.1 0 E).1 = 0 ∧ zEv (evSv (qrL (exEx e 3 (p + 1)).2.2 E.2.1 0 E).2 25 (E.1 25)) I' L' ∧ ∀ j : Nat, 13 ≤ j → j ≤ 15 → I' 138 j = I 138 j) ∨ (¬ (qrL (exEx e 3 (p + 1)).2.2 E.2.1 0 E).1 = 0 ∧ zEv (qrL (exEx e 3 (p + 1)).2.2 E.2.1 0 E).2 I' L' ∧ I' 138 13 = ((qrL (exEx e 3 (p + 1)).2.2 E.2.1 0 E).1 : Nat) ∧ I' 138 14 = p ∧ I' 138 15 = 0)) → (∀ c j : Nat, ¬ (c = 138 ∧ j = 13) → ¬ (c = 138 ∧ j = 14) → ¬ (c = 138 ∧ j = 15) → ¬ (c = 138 ∧ j = 16) → ¬ (c = 138 ∧ j = 17) → I' c j = I c j) → (∀ c j : Nat, ¬ c = 139 → L' c j = L c j) → Q (some (zvi (v))) I' L' R S
theorem sn_E_qry : ZSnd 28 4 20 T_E_qry := ZSnd.loops (zT4_20 27) (by
  rintro args I L R S Q hz ⟨k, n, e, p, E, rfl, hS, hR, hD, hk, hE, hsc, hV, hp, hg, h12, h13, hQ⟩
  have hk130 : 130 ≤ k := by omega
  have hk134 : k ≤ 134 := by omega
  obtain ⟨hE1, hE2, hE3⟩ := id hE
  have hn4 := hE2.1
  obtain ⟨hV1, ⟨hV2, hV2b⟩, hV3, ⟨hV4, hV4b⟩, hV5⟩ := id hV
  refine ⟨[11], fun nM tM lsM stM I1 L1 R1 S1 => match tM with
      | 11 => ∃ (m : Nat) (E1 : EvE) (f : Nat), nM = ((13 - m), 0, 0) ∧ lsM = [some (zvr (138)), some (zvi (p)), some (zvl (E.1 25)), none, some (zvi (m))] ∧ stM = [] ∧ R1 = R ∧ S1 = S ∧ (m ≤ E.2.1) ∧ (f ≤ 9) ∧ (E1.2.1 = E.2.1) ∧ (zEv E1 I1 L1) ∧ (I1 138 12 = 0) ∧ (I1 138 13 = f) ∧ ((f = 0 ∧ (qrL (exEx e 3 (p + 1)).2.2 (E.2.1 - m) m E1 = (qrL (exEx e 3 (p + 1)).2.2 E.2.1 0 E) ∧ ∀ j : Nat, 13 ≤ j → j ≤ 15 → I1 138 j = I 138 j)) ∨ (¬ f = 0 ∧ ((qrL (exEx e 3 (p + 1)).2.2 E.2.1 0 E) = (f, E1) ∧ I1 138 14 = p ∧ I1 138 15 = 0))) ∧ (∀ c j : Nat, ¬ (c = 138 ∧ j = 13) → ¬ (c = 138 ∧ j = 14) → ¬ (c = 138 ∧ j = 15) → ¬ (c = 138 ∧ j = 16) → ¬ (c = 138 ∧ j = 17) → I1 c j = I c j) ∧ (∀ c j : Nat, ¬ c = 139 → L1 c j = L c j)
      | _ => False, rfl, ?_, ⟨?_, True.intro⟩⟩
  · refine And.intro (zA_138 hS) (zrdR (v := some 139) (zR_138_1 hR) ?_)
    refine And.intro (zP_139 hS (by omega) (by omega)) (fun v6 e6 r6 => ?_)
    have f6 : v6 = E.1 25 := (e6.trans (hV1 25 (by decide)))
    refine ⟨((13 - (0 : Nat)), 0, 0), [some (zvr (138)), some (zvi (p)), some (zvl (E.1 25)), none, some (zvi ((0 : Nat)))], ⟨rfl, rfl, (congrArg (fun z => some (zvl z)) (by omega)), rfl, rfl⟩, 0, E, 0, rfl, rfl, rfl, rfl, rfl, (by omega), (by omega), rfl, hV, h12, h13, (Or.inl ⟨rfl, rfl, fun _ _ _ => rfl⟩), (fun c j h0 h1 h2 h3 h4 => rfl), (fun c j h0 => rfl)⟩
  · rintro nM lsM stM I1 L1 R1 S1 hz1 ⟨m, E1, f, rfl, rfl, rfl, rfl, rfl, hm, hf9, hE2_, hV_1, i12, i13, hd, fr, frL⟩
    have hv25 : r64 (E.1 25) := by rw [← hV1 25 (by decide)]; exact hz.2 139 25
    have j28 : I1 138 3 = E.2.1 := hV_1.2.1.1.trans (by rw [hE2_])
    have hE_1 : zEt k n e I1 := zEt_fr hE (fun c j h => fr c j (by omega) (by omega) (by omega) (by omega) (by omega))
    rcases hd with hd | hd
    · refine And.intro (zA_138 hS) (zrd (v := (E.2.1)) j28 ?_)
      refine And.intro ⟨(by omega), (by omega)⟩ ⟨fun h17 => ?_, fun h17 => ?_⟩
      · refine And.intro (zA_138 hS) (Exists.intro _ (And.intro (zinl_ok (zT4_15 26)) (And.intro rfl ?_)))
        refine And.intro (zA_138 hS) (zrd (v := 0) i12 ?_)
        refine And.intro (zRb rfl) (zbf rfl ?_)
        refine And.intro (zA_138 hS) (zrd (v := f) i13 ?_)
        refine And.intro (by omega) ⟨(fun h11_53 => False.elim (by omega)), fun h11_53 => ?_⟩
        refine And.intro (Or.inr rfl) ?_
        refine And.intro (zRb rfl) (zbf rfl ?_)
        refine And.intro (zA_138 hS) (zrdR (v := some 139) (zR_138_1 hR) ?_)
        refine And.intro ⟨(zx0 rfl), (zP_139 hS (by omega) (by omega))⟩ ⟨_, zW6i (by omega), ?_⟩
        refine And.intro (zA_138 hS) (zrdR (v := some k) hsc ?_)
        refine And.intro (zDX hD 0 rfl) ⟨_, sn_S_bsm.up (by decide), ?_⟩
        refine ⟨k, n, e, p, rfl, hS, hR, hD, (by first | exact hk | (clear hQ; grind [xu])), (by first | exact (zEt_fr hE (fun c j h => ((fr c j (by omega) (by omega) (by omega) (by omega) (by omega)).trans rfl))) | (clear hQ; grind [xu])), (by omega), ?_⟩
        intro v72o p72hv
        refine hQ _ _ _ p72hv ?_ (fun c j h0 h1 h2 h3 h4 => ((fr c j h0 h1 h2 h3 h4).trans rfl)) (fun c j h0 => (zxu h0 ((frL c j h0).trans rfl)))
        · first
          | (have w := qr_en (by omega) hd.2.1
             rw [w]
             exact Or.inl ⟨rfl, (zEv_v hV_1 (fun c j h => rfl) (fun c j h => zxcj (by omega) rfl) zxe), fun j h1 h2 => hd.2.2 j h1 h2⟩)
          | (rw [hd.2.1]
             exact Or.inr ⟨hd.1, hV_1, i13, hd.2.2.1, hd.2.2.2⟩)
      · refine And.intro (zA_138 hS) (Exists.intro _ (And.intro (zinl_ok (zT4_15 26)) (And.intro rfl ?_)))
        refine And.intro (zA_138 hS) (zrd (v := 0) i12 ?_)
        refine And.intro (zRb rfl) (zbf rfl ?_)
        refine And.intro (zA_138 hS) (zrd (v := f) i13 ?_)
        refine And.intro (by omega) ⟨(fun h11_21 => False.elim (by omega)), fun h11_21 => ?_⟩
        refine And.intro (Or.inr rfl) ?_
        refine And.intro (zRb rfl) (zbf rfl ?_)
        refine And.intro (zA_138 hS) (zrdR (v := some 139) (zR_138_1 hR) ?_)
        refine And.intro (by omega) ?_
        refine And.intro ⟨(zx0 rfl), (zP_139 hS (by omega) (by omega))⟩ ⟨_, zW6i (by omega), ?_⟩
        refine And.intro (zA_138 hS) ⟨_, sn_E_rki.up (by decide), ?_⟩
        refine ⟨k, n, e, (p + 1), p, (evSv E1 25 (m : Int)), rfl, hS, hR, hD, (by first | exact hk | (clear hQ; grind [xu])), (by first | exact (zEt_fr hE (fun c j h => ((fr c j (by omega) (by omega) (by omega) (by omega) (by omega)).trans rfl))) | (clear hQ; grind [xu])), hsc, (zEv_v hV_1 (fun c j h => rfl) (fun c j h => zxcj (by omega) rfl) zxe), (by omega), hg, (show r32 (p : Int) from ⟨by omega, by omega⟩), ?_⟩
        intro v42o I42o p42hr p42bhv64 p42bbh16 p42bbbfr
        refine ⟨((13 - (m + 1)), 0, 0), zlt6 (by omega), [some (zvr (138)), some (zvi (p)), some (zvl (E.1 25)), none, some (zvi ((m + 1)))], ⟨rfl, rfl, rfl, rfl, rfl⟩, (m + 1), (evSv E1 25 (m : Int)), (evF (evSv E1 25 (m : Int)) (exEx e 3 (p + 1)).2.2), rfl, rfl, rfl, rfl, rfl, (by omega), evF_9, hE2_, (zEv_fr (zEv_v hV_1 (fun c j h => rfl) (fun c j h => zxcj (by omega) rfl) zxe) (fun c j h => p42bbbfr c j (by omega) (by omega) (by omega) (by omega) (by omega)) (fun c j h => rfl)), ((p42bbbfr 138 12 (by omega) (by omega) (by omega) (by omega) (by omega)).trans i12), (by rcases p42hr with w | w; exact (w.2.2 13 (by decide) (by decide)).trans (i13.trans (by omega)); exact w.2.1), (by rcases p42hr with w | w; exact Or.inl ⟨w.1, qr_go' (by omega) hd.2.1 w.1, fun j h1 h2 => (w.2.2 j h1 h2).trans (hd.2.2 j h1 h2)⟩; exact Or.inr ⟨w.1, qr_no' (by omega) hd.2.1 w.1, w.2.2.1, w.2.2.2⟩), (fun c j h0 h1 h2 h3 h4 => ((p42bbbfr c j h0 h1 h2 h3 h4).trans ((fr c j h0 h1 h2 h3 h4).trans rfl))), (fun c j h0 => (zxu h0 ((frL c j h0).trans rfl)))⟩
    · refine And.intro (zA_138 hS) (zrd (v := (E.2.1)) j28 ?_)
      refine And.intro ⟨(by omega), (by omega)⟩ ⟨fun h17 => ?_, fun h17 => ?_⟩
      · refine And.intro (zA_138 hS) (Exists.intro _ (And.intro (zinl_ok (zT4_15 26)) (And.intro rfl ?_)))
        refine And.intro (zA_138 hS) (zrd (v := 0) i12 ?_)
        refine And.intro (zRb rfl) (zbf rfl ?_)
        refine And.intro (zA_138 hS) (zrd (v := f) i13 ?_)
        refine And.intro (by omega) ⟨fun h11_53 => ?_, (fun h11_53 => False.elim (by omega))⟩
        refine And.intro (Or.inl rfl) ?_
        refine And.intro (zRb rfl) (zbt rfl ?_)
        refine And.intro (zA_138 hS) (zrdR (v := some k) hsc ?_)
        refine And.intro (zDX hD 0 rfl) ⟨_, sn_S_bsm.up (by decide), ?_⟩
        refine ⟨k, n, e, p, rfl, hS, hR, hD, (by first | exact hk | (clear hQ; grind [xu])), (by first | exact (zEt_fr hE (fun c j h => ((fr c j (by omega) (by omega) (by omega) (by omega) (by omega)).trans rfl))) | (clear hQ; grind [xu])), (by omega), ?_⟩
        intro v72o p72hv
        refine hQ _ _ _ p72hv ?_ (fun c j h0 h1 h2 h3 h4 => ((fr c j h0 h1 h2 h3 h4).trans rfl)) (fun c j h0 => ((frL c j h0).trans rfl))
        · first
          | (have w := qr_en (by omega) hd.2.1
             rw [w]
             exact Or.inl ⟨rfl, (zEv_v hV_1 (fun c j h => rfl) (fun c j h => zxcj (by omega) rfl) zxe), fun j h1 h2 => hd.2.2 j h1 h2⟩)
          | (rw [hd.2.1]
             exact Or.inr ⟨hd.1, hV_1, i13, hd.2.2.1, hd.2.2.2⟩)
      · refine And.intro (zA_138 hS) (Exists.intro _ (And.intro (zinl_ok (zT4_15 26)) (And.intro rfl ?_)))
        refine And.intro (zA_138 hS) (zrd (v := 0) i12 ?_)
        refine And.intro (zRb rfl) (zbf rfl ?_)
        refine And.intro (zA_138 hS) (zrd (v := f) i13 ?_)
        refine And.intro (by omega) ⟨fun h11_21 => ?_, (fun h11_21 => False.elim (by omega))⟩
        refine And.intro (Or.inl rfl) ?_
        refine And.intro (zRb rfl) (zbt rfl ?_)
        refine And.intro (zA_138 hS) (Exists.intro _ (And.intro (zinl_ok (zT4_15 26)) (And.intro rfl ?_)))
        refine And.intro (zA_138 hS) (zrd (v := 0) i12 ?_)
        refine And.intro (zRb rfl) (zbf rfl ?_)
        refine And.intro (zA_138 hS) (zrd (v := f) i13 ?_)
        refine And.intro (by omega) ⟨fun h11_53 => ?_, (fun h11_53 => False.elim (by omega))⟩
        refine And.intro (Or.inl rfl) ?_
        refine And.intro (zRb rfl) (zbt rfl ?_)
        refine And.intro (zA_138 hS) (zrdR (v := some k) hsc ?_)
        refine And.intro (zDX hD 0 rfl) ⟨_, sn_S_bsm.up (by decide), ?_⟩
        refine ⟨k, n, e, p, rfl, hS, hR, hD, (by first | exact hk | (clear hQ; grind [xu])), (by first | exact (zEt_fr hE (fun c j h => ((fr c j (by omega) (by omega) (by omega) (by omega) (by omega)).trans rfl))) | (clear hQ; grind [xu])), (by omega), ?_⟩
        intro v72o p72hv
        refine hQ _ _ _ p72hv ?_ (fun c j h0 h1 h2 h3 h4 => ((fr c j h0 h1 h2 h3 h4).trans rfl)) (fun c j h0 => ((frL c j h0).trans rfl))
        · first
          | (have w := qr_en (by omega) hd.2.1
             rw [w]
             exact Or.inl ⟨rfl, (zEv_v hV_1 (fun c j h => rfl) (fun c j h => zxcj (by omega) rfl) zxe), fun j h1 h2 => hd.2.2 j h1 h2⟩)
          | (rw [hd.2.1]
             exact Or.inr ⟨hd.1, hV_1, i13, hd.2.2.1, hd.2.2.2⟩))
