/-! cd6 -/
def T_C_take : ZT := fun args I L R S Q => ∃ (d : JdS) (x : Int) (n : Nat), args = [zvr 63, zvi x] ∧ (zSh S) ∧ (zRs R) ∧ (x = n ∧ n ≤ 1020) ∧ (cSo d n (I 81)) ∧ (cTn d 0 (I 80) (I 81) 0) ∧ (I 63 13 = 0) ∧ ∀ (I' : ZI), (cTx d n I') → (∀ c j : Nat, ¬ (c = 63 ∧ j = 13) → ¬ c = 80 → ¬ c = 81 → I' c j = I c j) → Q none I' L R S
theorem sn_C_take : ZSnd 1 3 38 T_C_take := ZSnd.loops (zT3_38 0) (by
  rintro args I L R S Q hz ⟨d, x, n, rfl, hS, hR, hx, hSo, hT0, hrc, hQ⟩
  have hzc := zct_le (jFst d) 960
  refine ⟨[4], fun nM tM lsM stM I1 L1 R1 S1 => match tM with
      | 4 => ∃ (i : Nat) (la : Int), nM = ((1021 - i), 0, 0) ∧ lsM = [some (zvr (63)), some (zvi (n)), some (zvi (la)), some (zvi (i)), none, none] ∧ stM = [] ∧ L1 = L ∧ R1 = R ∧ S1 = S ∧ (i ≤ n) ∧ (-1 ≤ la ∧ la ≤ 1000000) ∧ (cTk d (I 81) i la (I1 80) (I1 81) (I1 63 13).toNat) ∧ (0 ≤ I1 63 13 ∧ I1 63 13 ≤ i) ∧ (∀ j : Nat, i ≤ j → j < n → I1 81 j = I 81 j) ∧ (∀ c j : Nat, ¬ (c = 63 ∧ j = 13) → ¬ c = 80 → ¬ c = 81 → I1 c j = I c j)
      | _ => False, rfl, ?_, ⟨?_, True.intro⟩⟩
  · refine ⟨((1021 - (0 : Nat)), 0, 0), [some (zvr (63)), some (zvi (n)), some (zvi (((-1) : Int))), some (zvi ((0 : Nat))), none, none], ⟨rfl, (congrArg (fun z => some (zvi z)) (by omega)), (congrArg (fun z => some (zvi z)) (by omega)), rfl, rfl⟩, 0, (-1), rfl, rfl, rfl, rfl, rfl, rfl, (by omega), (by omega), (by rw [hrc]; exact cTk_0 hT0), (by omega), (fun j h1 h2 => rfl), (fun c j h0 h1 h2 => rfl)⟩
  · rintro nM lsM stM I1 L1 R1 S1 hz1 ⟨i, la, rfl, rfl, rfl, rfl, rfl, rfl, hi, hla, hTk, hrc1, hsrc, fr⟩
    refine And.intro ⟨(by omega), (by omega)⟩ ⟨fun h6 => ?_, fun h6 => ?_⟩
    · refine hQ _ (by obtain rfl : i = n := (by omega); exact Exists.intro (I1 63 13).toNat ⟨by omega, by omega, cTk_end hSo hTk⟩) (fun c j h0 h1 h2 => ((fr c j (by omega) (by omega) (by omega)).trans rfl))
    · refine And.intro (zA_63 hS) (zrdR (v := some 81) (zR_63_12 hR) ?_)
      refine And.intro (zP_81 hS (by omega) (by omega)) (fun v14 e14 r14 => ?_)
      have f14 : v14 = I 81 i := (e14.trans ((congrArg (I1 81) (by omega)).trans (hsrc i (by omega) (by omega))))
      have f14b : 0 ≤ v14 ∧ v14 ≤ 959999 := (by obtain ⟨q, q1, -, q3⟩ := hSo.2.1 i (by omega); omega)
      refine And.intro ⟨r14, (zRb rfl), (by decide)⟩ (zdv (by omega) (fun q22 e22 => ?_))
      refine And.intro (zA_63 hS) (zrdR (v := some 80) (zR_63_11 hR) ?_)
      refine And.intro (zP_80 hS (by omega) (by omega)) (fun v31 e31 r31 => ?_)
      have f31 : v31 = I1 80 ((I 81 i).toNat / 1000) := (e31.trans (congrArg (I1 80) (by omega)))
      refine And.intro r31 ⟨fun h32 => ?_, fun h32 => ?_⟩
      · refine And.intro ⟨r14, (by omega)⟩ ⟨fun h54 => ?_, fun h54 => ?_⟩
        · refine ⟨((1021 - (i + 1)), 0, 0), zlt6 (by omega), [some (zvr (63)), some (zvi (n)), some (zvi (v14)), some (zvi ((i + 1))), none, none], ⟨rfl, rfl, rfl, rfl, rfl⟩, (i + 1), v14, rfl, rfl, rfl, rfl, rfl, rfl, (by omega), (by omega), ?_, ?_, (fun j h1 h2 => by first | exact zxu (by omega) (zxs (by omega) (hsrc j (by omega) h2)) | exact zxu (by omega) (hsrc j (by omega) h2) | exact hsrc j (by omega) h2), (fun c j h0 h1 h2 => ((fr c j (by omega) (by omega) (by omega)).trans rfl))⟩
          · rw [f14]
            first
            | exact cTk_3 hSo hTk (by omega) (by omega)
            | (refine cTk_eq (cTk_2 (nm := I1 80) (rm := I1 81) hSo hTk (by omega) (by omega) (by omega)) (fun j => zxu (by omega) (zxu (by omega) rfl)) (fun j => zxu (by omega) ?_) ((congrArg Int.toNat zxe).trans (by omega))
               by_cases z : j = (I1 63 13).toNat
               · rw [z, upF_at]; exact (zxe' (by omega))
               · rw [upF_ne z]; exact zxs (by omega) rfl)
            | (refine cTk_eq (cTk_1 (nm := I1 80) (rm := I1 81) hSo hTk (by omega) (by omega)) (fun j => ?_) (fun j => zxu (by omega) rfl) (congrArg Int.toNat (zxu (by omega) rfl))
               by_cases z : j = (I 81 i).toNat / 1000
               · rw [z, upF_at]; exact (zxe' (by omega)).trans (by omega)
               · rw [upF_ne z]; exact zxs (by omega) rfl)
          · first
            | (have w := (zxe : xu (xu I1 81 v62.toNat v14) 63 13 (v70 + 1) 63 13 = v70 + 1)
               exact ⟨by omega, by omega⟩)
            | exact ⟨by omega, by omega⟩
            | (rw [zxu (show ¬ (63 = 80) by omega) rfl]; exact ⟨by omega, by omega⟩)
        · refine And.intro (zA_63 hS) (zrdR (v := some 81) (zR_63_12 hR) ?_)
          refine And.intro (zA_63 hS) (fun v62 e62 r62 => ?_)
          have f62 : v62 = I1 63 13 := e62
          have f62b : 0 ≤ v62 ∧ v62 ≤ i := (by omega)
          refine And.intro ⟨(zx0 rfl), (zP_81 hS (by omega) (by omega))⟩ ⟨_, (zWi r14), ?_⟩
          refine And.intro (zA_63 hS) (fun v70 e70 r70 => ?_)
          have f70 : v70 = I1 63 13 := (e70.trans (zxu (by omega) rfl))
          have f70b : 0 ≤ v70 ∧ v70 ≤ i := (by omega)
          refine And.intro (zA_63 hS) ⟨_, (zWi (by omega)), ?_⟩
          refine ⟨((1021 - (i + 1)), 0, 0), zlt6 (by omega), [some (zvr (63)), some (zvi (n)), some (zvi (v14)), some (zvi ((i + 1))), none, none], ⟨rfl, rfl, rfl, rfl, rfl⟩, (i + 1), v14, rfl, rfl, rfl, rfl, rfl, rfl, (by omega), (by omega), ?_, ?_, (fun j h1 h2 => by first | exact zxu (by omega) (zxs (by omega) (hsrc j (by omega) h2)) | exact zxu (by omega) (hsrc j (by omega) h2) | exact hsrc j (by omega) h2), (fun c j h0 h1 h2 => (zxcj h0 (zxu h2 ((fr c j (by omega) (by omega) (by omega)).trans rfl))))⟩
          · rw [f14]
            first
            | exact cTk_3 hSo hTk (by omega) (by omega)
            | (refine cTk_eq (cTk_2 (nm := I1 80) (rm := I1 81) hSo hTk (by omega) (by omega) (by omega)) (fun j => zxu (by omega) (zxu (by omega) rfl)) (fun j => zxu (by omega) ?_) ((congrArg Int.toNat zxe).trans (by omega))
               by_cases z : j = (I1 63 13).toNat
               · rw [z, upF_at]; exact (zxe' (by omega))
               · rw [upF_ne z]; exact zxs (by omega) rfl)
            | (refine cTk_eq (cTk_1 (nm := I1 80) (rm := I1 81) hSo hTk (by omega) (by omega)) (fun j => ?_) (fun j => zxu (by omega) rfl) (congrArg Int.toNat (zxu (by omega) rfl))
               by_cases z : j = (I 81 i).toNat / 1000
               · rw [z, upF_at]; exact (zxe' (by omega)).trans (by omega)
               · rw [upF_ne z]; exact zxs (by omega) rfl)
          · first
            | (have w := (zxe : xu (xu I1 81 v62.toNat v14) 63 13 (v70 + 1) 63 13 = v70 + 1)
               exact ⟨by omega, by omega⟩)
            | exact ⟨by omega, by omega⟩
            | (rw [zxu (show ¬ (63 = 80) by omega) rfl]; exact ⟨by omega, by omega⟩)
      · refine And.intro (zA_63 hS) (zrdR (v := some 80) (zR_63_11 hR) ?_)
        refine And.intro ⟨r14, (zRb rfl), (by decide)⟩ (zdv (by omega) (fun q46 e46 => ?_))
        refine And.intro ⟨(zx0 rfl), (zP_80 hS (by omega) (by omega))⟩ ⟨_, (zWi (by omega)), ?_⟩
        refine ⟨((1021 - (i + 1)), 0, 0), zlt6 (by omega), [some (zvr (63)), some (zvi (n)), some (zvi (v14)), some (zvi ((i + 1))), none, none], ⟨rfl, rfl, rfl, rfl, rfl⟩, (i + 1), v14, rfl, rfl, rfl, rfl, rfl, rfl, (by omega), (by omega), ?_, ?_, (fun j h1 h2 => by first | exact zxu (by omega) (zxs (by omega) (hsrc j (by omega) h2)) | exact zxu (by omega) (hsrc j (by omega) h2) | exact hsrc j (by omega) h2), (fun c j h0 h1 h2 => (zxu h1 ((fr c j (by omega) (by omega) (by omega)).trans rfl)))⟩
        · rw [f14]
          first
          | exact cTk_3 hSo hTk (by omega) (by omega)
          | (refine cTk_eq (cTk_2 (nm := I1 80) (rm := I1 81) hSo hTk (by omega) (by omega) (by omega)) (fun j => zxu (by omega) (zxu (by omega) rfl)) (fun j => zxu (by omega) ?_) ((congrArg Int.toNat zxe).trans (by omega))
             by_cases z : j = (I1 63 13).toNat
             · rw [z, upF_at]; exact (zxe' (by omega))
             · rw [upF_ne z]; exact zxs (by omega) rfl)
          | (refine cTk_eq (cTk_1 (nm := I1 80) (rm := I1 81) hSo hTk (by omega) (by omega)) (fun j => ?_) (fun j => zxu (by omega) rfl) (congrArg Int.toNat (zxu (by omega) rfl))
             by_cases z : j = (I 81 i).toNat / 1000
             · rw [z, upF_at]; exact (zxe' (by omega)).trans (by omega)
             · rw [upF_ne z]; exact zxs (by omega) rfl)
        · first
          | (have w := (zxe : xu (xu I1 81 v62.toNat v14) 63 13 (v70 + 1) 63 13 = v70 + 1)
             exact ⟨by omega, by omega⟩)
          | exact ⟨by omega, by omega⟩
          | (rw [zxu (show ¬ (63 = 80) by omega) rfl]; exact ⟨by omega, by omega⟩))
