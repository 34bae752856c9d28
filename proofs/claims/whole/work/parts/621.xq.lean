/-! xq -/
def T_W_opn : ZT := fun args I L R S Q => ∃ (k : Nat) (w : List CuR) (pc : Nat) (N : Int), args = [zvr k, zvi N] ∧ (zSh S) ∧ (zRs R) ∧ (zDy zT15 zF15 k R S) ∧ (zPc k w pc I L) ∧ (cuG w) ∧ (w.length ≤ 60) ∧ (cuPq w pc) ∧ (0 ≤ N ∧ N < 20) ∧ ∀ (v : Int) (I' : ZI) (L' : ZI), (v = cuAc w pc N) → (0 ≤ v ∧ v ≤ pc) → (∀ c j : Nat, ¬ (c = k ∧ j = 0) → ¬ (c = k ∧ j = 17) → ¬ (c = k ∧ j = 18) → ¬ c = k + 11 → ¬ c = k + 12 → ¬ c = k + 13 → I' c j = I c j) → (∀ c j : Nat, ¬ (c = k ∧ j = 16) → L' c j = L c j) → Q (some (zvi (v))) I' L' R S
theorem sn_W_opn : ZSnd 6 15 19 T_W_opn := ZSnd.of (zT15_19 5) (by
  rintro args I L R S Q hz ⟨k, w, pc, N, rfl, hS, hR, hd, hPc, hG, hcl, hpq, hN, hQ⟩
  have hk5 := hd.1
  obtain ⟨hp0, hpi, hpn⟩ := id hPc
  obtain ⟨n, hn⟩ : ∃ n, n = cuNp w := ⟨_, rfl⟩
  have hn60 : n ≤ 60 := by have z := cuNp_l (w := w); omega
  rw [← hn] at hp0 hpi
  have hpcn : pc ≤ n ∧ pc ≤ 40 := ⟨by have z := (cuPq_p hpq).1; omega, hpq.1⟩
  refine And.intro rfl ?_
  refine Exists.intro _ (And.intro (zinl_ok (zT15_9 4)) (And.intro rfl ?_))
  refine And.intro (by omega) ⟨(fun h1_2 => False.elim (by omega)), fun h1_2 => ?_⟩
  refine And.intro ⟨(by omega), (zRb rfl)⟩ ⟨(fun h7_2 => False.elim (by omega)), fun h7_2 => ?_⟩
  refine And.intro (Or.inr rfl) ?_
  refine And.intro (zRb rfl) (zbf rfl ?_)
  refine And.intro (zDX hd 0 rfl) ⟨_, (zWi (zRb rfl)), ?_⟩
  refine And.intro (zDX hd 0 rfl) (zrd (v := 0) zxe ?_)
  refine And.intro (zRb rfl) (zbf rfl ?_)
  refine And.intro (zDX hd 0 rfl) ⟨_, sn_W_cop.up (by decide), ?_⟩
  refine ⟨_, w, pc, N, rfl, hS, hR, hd, (by first | exact (zPc_fr hPc (fun c j h => (zxcj (by omega) rfl)) (fun c j h => rfl)) | (clear hQ; grind [xu])), (by first | exact hG | (clear hQ; grind [xu])), (by omega), (by first | exact hpq | (clear hQ; grind [xu])), (by omega), ?_⟩
  intro v25o I25o L25o p25hv p25bhv2 p25bbfr p25bbbfrL
  refine hQ _ _ _ (by rw [cuAc_n hG hpq.2.1 (by omega)]; omega) (by omega) (fun c j h0 h1 h2 h3 h4 h5 => ((p25bbfr c j h1 h2 h3 h4 h5).trans (zxcj h0 rfl))) (fun c j h0 => ((p25bbbfrL c j h0).trans rfl)))
def T_W_lin : ZT := fun args I L R S Q => ∃ (k : Nat) (w : List CuR) (pc : Nat) (a : Int) (kk : Int) (wh : Int), args = [zvr k, zvi a, zvi kk, zvi wh] ∧ (zSh S) ∧ (zRs R) ∧ (zDy zT15 zF15 k R S) ∧ (zPc k w pc I L) ∧ (cuG w) ∧ (w.length ≤ 60) ∧ (cuPq w pc) ∧ (r32 a ∧ r32 kk ∧ r32 wh) ∧ ∀ (v : Int) (I' : ZI) (L' : ZI), ((I' k 0 = 0 ∧ v = cuAe w pc a kk wh) ∨ (I' k 0 = 1 ∧ cuAe w pc a kk wh = -1)) → (-1 ≤ v ∧ v ≤ 3600) → (∀ c j : Nat, ¬ (c = k ∧ j = 0) → ¬ (c = k ∧ j = 17) → ¬ (c = k ∧ j = 18) → ¬ c = k + 11 → ¬ c = k + 12 → ¬ c = k + 13 → I' c j = I c j) → (∀ c j : Nat, ¬ (c = k ∧ j = 16) → L' c j = L c j) → Q (some (zvi (v))) I' L' R S
theorem sn_W_lin : ZSnd 6 15 15 T_W_lin := ZSnd.of (zT15_15 5) (by
  rintro args I L R S Q hz ⟨k, w, pc, a, kk, wh, rfl, hS, hR, hd, hPc, hG, hcl, hpq, hr, hQ⟩
  have hk5 := hd.1
  obtain ⟨hp0, hpi, hpn⟩ := id hPc
  obtain ⟨n, hn⟩ : ∃ n, n = cuNp w := ⟨_, rfl⟩
  have hn60 : n ≤ 60 := by have z := cuNp_l (w := w); omega
  rw [← hn] at hp0 hpi
  have hpcn : pc ≤ n ∧ pc ≤ 40 := ⟨by have z := (cuPq_p hpq).1; omega, hpq.1⟩
  refine And.intro rfl ?_
  refine Exists.intro _ (And.intro (zinl_ok (zT15_9 4)) (And.intro rfl ?_))
  refine And.intro (by omega) ⟨fun h1_2 => ?_, fun h1_2 => ?_⟩
  · refine And.intro (Or.inl rfl) ?_
    refine And.intro (zRb rfl) (zbt rfl ?_)
    refine And.intro (zDX hd 0 rfl) ⟨_, (zWi (zRb rfl)), ?_⟩
    refine And.intro (zDX hd 0 rfl) (zrd (v := 1) zxe ?_)
    refine And.intro (zRb rfl) (zbf rfl ?_)
    refine hQ _ _ _ ?_ ?_ (fun c j h0 h1 h2 h3 h4 h5 => (zxcj h0 rfl)) (fun c j h0 => rfl)
    · first
      | (refine Or.inr ⟨?_, ?_⟩
         · exact zxe
         · refine cuAe_f (fun q => ?_)
           by_cases z : 0 ≤ a ∧ a < 12
           · omega
           · rw [cuAc_z z] at q
             omega)
      | (refine Or.inl ⟨?_, ?_⟩
         · exact (p37bfr k 0 (by omega) (by omega) (by omega) (by omega) (by omega)).trans zxe
         · refine (cuAe_f (fun q => ?_)).symm
           rw [g37] at q
           omega)
      | (refine Or.inl ⟨?_, ?_⟩
         · exact (p37bfr k 0 (by omega) (by omega) (by omega) (by omega) (by omega)).trans zxe
         · rw [show wh = 0 by omega, cuAe_0 (by rw [g37]; omega)]
           omega)
      | (refine Or.inl ⟨?_, ?_⟩
         · exact (p37bfr k 0 (by omega) (by omega) (by omega) (by omega) (by omega)).trans zxe
         · rw [show wh = 1 by omega, cuAe_1 (by rw [g37]; omega)]
           omega)
    · first
      | omega
      | (have z := cuAt_e (w := w) (pc := pc) (net := a) (t := kk.toNat) (show pc ≤ 60 by omega)
         have z2 := cuAr_b (w := w) (pc := pc) (t := kk.toNat) (net := a) (show pc ≤ 60 by omega) (fun q => by
           have y : cuAn w pc a ≤ kk.toNat := by
             unfold cuAn
             rcases zlow_sp (fun t => cuAr w pc a t = -1) (pc + 1) with ⟨h1, h2⟩ | ⟨r, h1, h2, h3, h4⟩
             · rw [h1]; exact Nat.zero_le _
             · rw [h2]
               show r ≤ _
               rcases Nat.lt_or_ge kk.toNat r with x | x
               · exact absurd q (h4 _ x)
               · exact x
           omega)
         omega)
  · refine And.intro ⟨(by omega), (zRb rfl)⟩ ⟨fun h7_2 => ?_, fun h7_2 => ?_⟩
    · refine And.intro (Or.inl rfl) ?_
      refine And.intro (zRb rfl) (zbt rfl ?_)
      refine And.intro (zDX hd 0 rfl) ⟨_, (zWi (zRb rfl)), ?_⟩
      refine And.intro (zDX hd 0 rfl) (zrd (v := 1) zxe ?_)
      refine And.intro (zRb rfl) (zbf rfl ?_)
      refine hQ _ _ _ ?_ ?_ (fun c j h0 h1 h2 h3 h4 h5 => (zxcj h0 rfl)) (fun c j h0 => rfl)
      · first
        | (refine Or.inr ⟨?_, ?_⟩
           · exact zxe
           · refine cuAe_f (fun q => ?_)
             by_cases z : 0 ≤ a ∧ a < 12
             · omega
             · rw [cuAc_z z] at q
               omega)
        | (refine Or.inl ⟨?_, ?_⟩
           · exact (p37bfr k 0 (by omega) (by omega) (by omega) (by omega) (by omega)).trans zxe
           · refine (cuAe_f (fun q => ?_)).symm
             rw [g37] at q
             omega)
        | (refine Or.inl ⟨?_, ?_⟩
           · exact (p37bfr k 0 (by omega) (by omega) (by omega) (by omega) (by omega)).trans zxe
           · rw [show wh = 0 by omega, cuAe_0 (by rw [g37]; omega)]
             omega)
        | (refine Or.inl ⟨?_, ?_⟩
           · exact (p37bfr k 0 (by omega) (by omega) (by omega) (by omega) (by omega)).trans zxe
           · rw [show wh = 1 by omega, cuAe_1 (by rw [g37]; omega)]
             omega)
      · first
        | omega
        | (have z := cuAt_e (w := w) (pc := pc) (net := a) (t := kk.toNat) (show pc ≤ 60 by omega)
           have z2 := cuAr_b (w := w) (pc := pc) (t := kk.toNat) (net := a) (show pc ≤ 60 by omega) (fun q => by
             have y : cuAn w pc a ≤ kk.toNat := by
               unfold cuAn
               rcases zlow_sp (fun t => cuAr w pc a t = -1) (pc + 1) with ⟨h1, h2⟩ | ⟨r, h1, h2, h3, h4⟩
               · rw [h1]; exact Nat.zero_le _
               · rw [h2]
                 show r ≤ _
                 rcases Nat.lt_or_ge kk.toNat r with x | x
                 · exact absurd q (h4 _ x)
                 · exact x
             omega)
           omega)
    · refine And.intro (Or.inr rfl) ?_
      refine And.intro (zRb rfl) (zbf rfl ?_)
      refine And.intro (by omega) ⟨fun h9 => ?_, fun h9 => ?_⟩
      · refine And.intro (zDX hd 0 rfl) ⟨_, (zWi (zRb rfl)), ?_⟩
        refine And.intro (zDX hd 0 rfl) (zrd (v := 0) zxe ?_)
        refine And.intro (zRb rfl) (zbt rfl ?_)
        refine And.intro (zDX hd 0 rfl) ⟨_, sn_W_fal.up (by decide), ?_⟩
        refine ⟨_, w, pc, a, (kk : Int), rfl, hS, hR, hd, (by first | exact (zPc_fr hPc (fun c j h => (zxcj (by omega) rfl)) (fun c j h => rfl)) | (clear hQ; grind [xu])), (by first | exact hG | (clear hQ; grind [xu])), (by omega), (by first | exact hpq | (clear hQ; grind [xu])), (by omega), (by omega), ?_⟩
        intro v37o I37o L37o p37hv p37bfr p37bbfrL
        have g37 : cuAc w pc a = cuAn w pc a := (cuAc_n hG hpq.2.1 (by omega))
        refine And.intro (by omega) ⟨fun h40 => ?_, fun h40 => ?_⟩
        · refine And.intro (by omega) ⟨(fun h46 => False.elim (by omega)), fun h46 => ?_⟩
          refine And.intro (zDX hd 0 rfl) (fun v50 e50 r50 => ?_)
          refine hQ _ _ _ ?_ ?_ (fun c j h0 h1 h2 h3 h4 h5 => ((p37bfr c j h1 h2 h3 h4 h5).trans (zxcj h0 rfl))) (fun c j h0 => ((p37bbfrL c j h0).trans rfl))
          · first
            | (refine Or.inr ⟨?_, ?_⟩
               · exact zxe
               · refine cuAe_f (fun q => ?_)
                 by_cases z : 0 ≤ a ∧ a < 12
                 · omega
                 · rw [cuAc_z z] at q
                   omega)
            | (refine Or.inl ⟨?_, ?_⟩
               · exact (p37bfr k 0 (by omega) (by omega) (by omega) (by omega) (by omega)).trans zxe
               · refine (cuAe_f (fun q => ?_)).symm
                 rw [g37] at q
                 omega)
            | (refine Or.inl ⟨?_, ?_⟩
               · exact (p37bfr k 0 (by omega) (by omega) (by omega) (by omega) (by omega)).trans zxe
               · rw [show wh = 0 by omega, cuAe_0 (by rw [g37]; omega)]
                 omega)
            | (refine Or.inl ⟨?_, ?_⟩
               · exact (p37bfr k 0 (by omega) (by omega) (by omega) (by omega) (by omega)).trans zxe
               · rw [show wh = 1 by omega, cuAe_1 (by rw [g37]; omega)]
                 omega)
          · first
            | omega
            | (have z := cuAt_e (w := w) (pc := pc) (net := a) (t := kk.toNat) (show pc ≤ 60 by omega)
               have z2 := cuAr_b (w := w) (pc := pc) (t := kk.toNat) (net := a) (show pc ≤ 60 by omega) (fun q => by
                 have y : cuAn w pc a ≤ kk.toNat := by
                   unfold cuAn
                   rcases zlow_sp (fun t => cuAr w pc a t = -1) (pc + 1) with ⟨h1, h2⟩ | ⟨r, h1, h2, h3, h4⟩
                   · rw [h1]; exact Nat.zero_le _
                   · rw [h2]
                     show r ≤ _
                     rcases Nat.lt_or_ge kk.toNat r with x | x
                     · exact absurd q (h4 _ x)
                     · exact x
                 omega)
               omega)
        · refine hQ _ _ _ ?_ ?_ (fun c j h0 h1 h2 h3 h4 h5 => ((p37bfr c j h1 h2 h3 h4 h5).trans (zxcj h0 rfl))) (fun c j h0 => ((p37bbfrL c j h0).trans rfl))
          · first
            | (refine Or.inr ⟨?_, ?_⟩
               · exact zxe
               · refine cuAe_f (fun q => ?_)
                 by_cases z : 0 ≤ a ∧ a < 12
                 · omega
                 · rw [cuAc_z z] at q
                   omega)
            | (refine Or.inl ⟨?_, ?_⟩
               · exact (p37bfr k 0 (by omega) (by omega) (by omega) (by omega) (by omega)).trans zxe
               · refine (cuAe_f (fun q => ?_)).symm
                 rw [g37] at q
                 omega)
            | (refine Or.inl ⟨?_, ?_⟩
               · exact (p37bfr k 0 (by omega) (by omega) (by omega) (by omega) (by omega)).trans zxe
               · rw [show wh = 0 by omega, cuAe_0 (by rw [g37]; omega)]
                 omega)
            | (refine Or.inl ⟨?_, ?_⟩
               · exact (p37bfr k 0 (by omega) (by omega) (by omega) (by omega) (by omega)).trans zxe
               · rw [show wh = 1 by omega, cuAe_1 (by rw [g37]; omega)]
                 omega)
          · first
            | omega
            | (have z := cuAt_e (w := w) (pc := pc) (net := a) (t := kk.toNat) (show pc ≤ 60 by omega)
               have z2 := cuAr_b (w := w) (pc := pc) (t := kk.toNat) (net := a) (show pc ≤ 60 by omega) (fun q => by
                 have y : cuAn w pc a ≤ kk.toNat := by
                   unfold cuAn
                   rcases zlow_sp (fun t => cuAr w pc a t = -1) (pc + 1) with ⟨h1, h2⟩ | ⟨r, h1, h2, h3, h4⟩
                   · rw [h1]; exact Nat.zero_le _
                   · rw [h2]
                     show r ≤ _
                     rcases Nat.lt_or_ge kk.toNat r with x | x
                     · exact absurd q (h4 _ x)
                     · exact x
                 omega)
               omega)
      · refine And.intro ⟨(by omega), (zRb rfl)⟩ ⟨fun h14 => ?_, fun h14 => ?_⟩
        · refine And.intro (zDX hd 0 rfl) ⟨_, (zWi (zRb rfl)), ?_⟩
          refine And.intro (zDX hd 0 rfl) (zrd (v := 1) zxe ?_)
          refine And.intro (zRb rfl) (zbf rfl ?_)
          refine hQ _ _ _ ?_ ?_ (fun c j h0 h1 h2 h3 h4 h5 => (zxcj h0 rfl)) (fun c j h0 => rfl)
          · first
            | (refine Or.inr ⟨?_, ?_⟩
               · exact zxe
               · refine cuAe_f (fun q => ?_)
                 by_cases z : 0 ≤ a ∧ a < 12
                 · omega
                 · rw [cuAc_z z] at q
                   omega)
            | (refine Or.inl ⟨?_, ?_⟩
               · exact (p37bfr k 0 (by omega) (by omega) (by omega) (by omega) (by omega)).trans zxe
               · refine (cuAe_f (fun q => ?_)).symm
                 rw [g37] at q
                 omega)
            | (refine Or.inl ⟨?_, ?_⟩
               · exact (p37bfr k 0 (by omega) (by omega) (by omega) (by omega) (by omega)).trans zxe
               · rw [show wh = 0 by omega, cuAe_0 (by rw [g37]; omega)]
                 omega)
            | (refine Or.inl ⟨?_, ?_⟩
               · exact (p37bfr k 0 (by omega) (by omega) (by omega) (by omega) (by omega)).trans zxe
               · rw [show wh = 1 by omega, cuAe_1 (by rw [g37]; omega)]
                 omega)
          · first
            | omega
            | (have z := cuAt_e (w := w) (pc := pc) (net := a) (t := kk.toNat) (show pc ≤ 60 by omega)
               have z2 := cuAr_b (w := w) (pc := pc) (t := kk.toNat) (net := a) (show pc ≤ 60 by omega) (fun q => by
                 have y : cuAn w pc a ≤ kk.toNat := by
                   unfold cuAn
                   rcases zlow_sp (fun t => cuAr w pc a t = -1) (pc + 1) with ⟨h1, h2⟩ | ⟨r, h1, h2, h3, h4⟩
                   · rw [h1]; exact Nat.zero_le _
                   · rw [h2]
                     show r ≤ _
                     rcases Nat.lt_or_ge kk.toNat r with x | x
                     · exact absurd q (h4 _ x)
                     · exact x
                 omega)
               omega)
        · refine And.intro (zDX hd 0 rfl) ⟨_, (zWi (zRb rfl)), ?_⟩
          refine And.intro (zDX hd 0 rfl) (zrd (v := 0) zxe ?_)
          refine And.intro (zRb rfl) (zbt rfl ?_)
          refine And.intro (zDX hd 0 rfl) ⟨_, sn_W_fal.up (by decide), ?_⟩
          refine ⟨_, w, pc, a, (kk : Int), rfl, hS, hR, hd, (by first | exact (zPc_fr hPc (fun c j h => (zxcj (by omega) rfl)) (fun c j h => rfl)) | (clear hQ; grind [xu])), (by first | exact hG | (clear hQ; grind [xu])), (by omega), (by first | exact hpq | (clear hQ; grind [xu])), (by omega), (by omega), ?_⟩
          intro v37o I37o L37o p37hv p37bfr p37bbfrL
          have g37 : cuAc w pc a = cuAn w pc a := (cuAc_n hG hpq.2.1 (by omega))
          refine And.intro (by omega) ⟨fun h40 => ?_, fun h40 => ?_⟩
          · refine And.intro (by omega) ⟨fun h46 => ?_, (fun h46 => False.elim (by omega))⟩
            refine And.intro (zDX hd 0 rfl) (fun v57 e57 r57 => ?_)
            refine hQ _ _ _ ?_ ?_ (fun c j h0 h1 h2 h3 h4 h5 => ((p37bfr c j h1 h2 h3 h4 h5).trans (zxcj h0 rfl))) (fun c j h0 => ((p37bbfrL c j h0).trans rfl))
            · first
              | (refine Or.inr ⟨?_, ?_⟩
                 · exact zxe
                 · refine cuAe_f (fun q => ?_)
                   by_cases z : 0 ≤ a ∧ a < 12
                   · omega
                   · rw [cuAc_z z] at q
                     omega)
              | (refine Or.inl ⟨?_, ?_⟩
                 · exact (p37bfr k 0 (by omega) (by omega) (by omega) (by omega) (by omega)).trans zxe
                 · refine (cuAe_f (fun q => ?_)).symm
                   rw [g37] at q
                   omega)
              | (refine Or.inl ⟨?_, ?_⟩
                 · exact (p37bfr k 0 (by omega) (by omega) (by omega) (by omega) (by omega)).trans zxe
                 · rw [show wh = 0 by omega, cuAe_0 (by rw [g37]; omega)]
                   omega)
              | (refine Or.inl ⟨?_, ?_⟩
                 · exact (p37bfr k 0 (by omega) (by omega) (by omega) (by omega) (by omega)).trans zxe
                 · rw [show wh = 1 by omega, cuAe_1 (by rw [g37]; omega)]
                   omega)
            · first
              | omega
              | (have z := cuAt_e (w := w) (pc := pc) (net := a) (t := kk.toNat) (show pc ≤ 60 by omega)
                 have z2 := cuAr_b (w := w) (pc := pc) (t := kk.toNat) (net := a) (show pc ≤ 60 by omega) (fun q => by
                   have y : cuAn w pc a ≤ kk.toNat := by
                     unfold cuAn
                     rcases zlow_sp (fun t => cuAr w pc a t = -1) (pc + 1) with ⟨h1, h2⟩ | ⟨r, h1, h2, h3, h4⟩
                     · rw [h1]; exact Nat.zero_le _
                     · rw [h2]
                       show r ≤ _
                       rcases Nat.lt_or_ge kk.toNat r with x | x
                       · exact absurd q (h4 _ x)
                       · exact x
                   omega)
                 omega)
          · refine hQ _ _ _ ?_ ?_ (fun c j h0 h1 h2 h3 h4 h5 => ((p37bfr c j h1 h2 h3 h4 h5).trans (zxcj h0 rfl))) (fun c j h0 => ((p37bbfrL c j h0).trans rfl))
            · first
              | (refine Or.inr ⟨?_, ?_⟩
                 · exact zxe
                 · refine cuAe_f (fun q => ?_)
                   by_cases z : 0 ≤ a ∧ a < 12
                   · omega
                   · rw [cuAc_z z] at q
                     omega)
              | (refine Or.inl ⟨?_, ?_⟩
                 · exact (p37bfr k 0 (by omega) (by omega) (by omega) (by omega) (by omega)).trans zxe
                 · refine (cuAe_f (fun q => ?_)).symm
                   rw [g37] at q
                   omega)
              | (refine Or.inl ⟨?_, ?_⟩
                 · exact (p37bfr k 0 (by omega) (by omega) (by omega) (by omega) (by omega)).trans zxe
                 · rw [show wh = 0 by omega, cuAe_0 (by rw [g37]; omega)]
                   omega)
              | (refine Or.inl ⟨?_, ?_⟩
                 · exact (p37bfr k 0 (by omega) (by omega) (by omega) (by omega) (by omega)).trans zxe
                 · rw [show wh = 1 by omega, cuAe_1 (by rw [g37]; omega)]
                   omega)
            · first
              | omega
              | (have z := cuAt_e (w := w) (pc := pc) (net := a) (t := kk.toNat) (show pc ≤ 60 by omega)
                 have z2 := cuAr_b (w := w) (pc := pc) (t := kk.toNat) (net := a) (show pc ≤ 60 by omega) (fun q => by
                   have y : cuAn w pc a ≤ kk.toNat := by
                     unfold cuAn
                     rcases zlow_sp (fun t => cuAr w pc a t = -1) (pc + 1) with ⟨h1, h2⟩ | ⟨r, h1, h2, h3, h4⟩
                     · rw [h1]; exact Nat.zero_le _
                     · rw [h2]
                       show r ≤ _
                       rcases Nat.lt_or_ge kk.toNat r with x | x
                       · exact absurd q (h4 _ x)
                       · exact x
                   omega)
                 omega))
def T_W_nof : ZT := fun args I L R S Q => ∃ (k : Nat) (w : List CuR) (pc : Nat) (a : Int), args = [zvr k, zvi a] ∧ (zSh S) ∧ (zRs R) ∧ (zDy zT15 zF15 k R S) ∧ (zPc k w pc I L) ∧ (cuG w) ∧ (w.length ≤ 60) ∧ (cuPq w pc) ∧ (r32 a) ∧ ∀ (v : Int) (I' : ZI), ((I' k 0 = 0 ∧ (0 ≤ a ∧ a < cuNp w) ∧ v = cuNm w a.toNat) ∨ (I' k 0 = 1 ∧ ¬ (0 ≤ a ∧ a < cuNp w))) → (∀ c j : Nat, ¬ (c = k ∧ j = 0) → ¬ c = k + 11 → ¬ c = k + 12 → I' c j = I c j) → Q (some (zvi (v))) I' L R S
theorem sn_W_nof : ZSnd 5 15 16 T_W_nof := ZSnd.of (zT15_16 4) (by
  rintro args I L R S Q hz ⟨k, w, pc, a, rfl, hS, hR, hd, hPc, hG, hcl, hpq, hr, hQ⟩
  have hk5 := hd.1
  obtain ⟨hp0, hpi, hpn⟩ := id hPc
  obtain ⟨n, hn⟩ : ∃ n, n = cuNp w := ⟨_, rfl⟩
  have hn60 : n ≤ 60 := by have z := cuNp_l (w := w); omega
  rw [← hn] at hp0 hpi
  have hpcn : pc ≤ n ∧ pc ≤ 40 := ⟨by have z := (cuPq_p hpq).1; omega, hpq.1⟩
  refine And.intro rfl ?_
  refine And.intro (zDX hd 0 rfl) (Exists.intro _ (And.intro (zinl_ok (zT15_10 3)) (And.intro rfl ?_)))
  refine And.intro (by omega) ⟨fun h1_3 => ?_, fun h1_3 => ?_⟩
  · refine And.intro (Or.inl rfl) ?_
    refine And.intro (zRb rfl) (zbt rfl ?_)
    refine And.intro (zDX hd 0 rfl) ⟨_, (zWi (zRb rfl)), ?_⟩
    refine And.intro (zDX hd 0 rfl) (zrd (v := 1) zxe ?_)
    refine And.intro (zRb rfl) (zbf rfl ?_)
    refine hQ _ _ ?_ (fun c j h0 h1 h2 => (zxcj h0 rfl))
    · first
      | exact Or.inr ⟨zxe, by omega⟩
      | exact Or.inl ⟨(p27bbbfr k 0 (by omega) (by omega)).trans zxe, by omega, by omega⟩
  · refine And.intro (zDX hd 0 rfl) (zrd (v := n) hp0 ?_)
    refine And.intro ⟨(by omega), (by omega)⟩ ⟨fun h9_3 => ?_, fun h9_3 => ?_⟩
    · refine And.intro (Or.inl rfl) ?_
      refine And.intro (zRb rfl) (zbt rfl ?_)
      refine And.intro (zDX hd 0 rfl) ⟨_, (zWi (zRb rfl)), ?_⟩
      refine And.intro (zDX hd 0 rfl) (zrd (v := 1) zxe ?_)
      refine And.intro (zRb rfl) (zbf rfl ?_)
      refine hQ _ _ ?_ (fun c j h0 h1 h2 => (zxcj h0 rfl))
      · first
        | exact Or.inr ⟨zxe, by omega⟩
        | exact Or.inl ⟨(p27bbbfr k 0 (by omega) (by omega)).trans zxe, by omega, by omega⟩
    · refine And.intro (Or.inr rfl) ?_
      refine And.intro (zRb rfl) (zbf rfl ?_)
      refine And.intro (zDX hd 0 rfl) ⟨_, (zWi (zRb rfl)), ?_⟩
      refine And.intro (zDX hd 0 rfl) (zrd (v := 0) zxe ?_)
      refine And.intro (zRb rfl) (zbt rfl ?_)
      refine And.intro (zDX hd 0 rfl) ⟨_, sn_W_fnn.up (by decide), ?_⟩
      refine ⟨_, w, pc, rfl, hS, hR, hd, (by first | exact (zPc_fr hPc (fun c j h => (zxcj (by omega) rfl)) (fun c j h => rfl)) | (clear hQ; grind [xu])), (by first | exact hG | (clear hQ; grind [xu])), (by omega), (by first | exact hpq | (clear hQ; grind [xu])), ?_⟩
      intro v27o I27o p27hv p27bhv2 p27bbhNm p27bbbfr
      refine And.intro (zDX hd 0 rfl) (zrdR (v := some (k + 12)) (zDR hd 11 rfl) ?_)
      refine And.intro (zDP hd 12 rfl rfl (by omega) (by omega)) (fun v36 e36 r36 => ?_)
      have f36 : v36 = cuNm w a.toNat := (e36.trans ((congrArg (I27o (k + 12)) (show _ = a.toNat by omega)).trans (p27bbhNm a.toNat (by omega))))
      refine hQ _ _ ?_ (fun c j h0 h1 h2 => ((p27bbbfr c j h1 h2).trans (zxcj h0 rfl)))
      · first
        | exact Or.inr ⟨zxe, by omega⟩
        | exact Or.inl ⟨(p27bbbfr k 0 (by omega) (by omega)).trans zxe, by omega, by omega⟩)
def T_W_iss : ZT := fun args I L R S Q => ∃ (b : Int), args = [zvi b] ∧ (0 ≤ b ∧ b < 4096) ∧ ∀ (v : Int), ((v = 1 ∧ zand b (b - 1) ≠ 0) ∨ (v = 0 ∧ zand b (b - 1) = 0)) → Q (some (zvi (v))) I L R S
theorem sn_W_iss : ZSnd 1 15 13 T_W_iss := ZSnd.of (zT15_13 0) (by
  rintro args I L R S Q hz ⟨b, rfl, hb, hQ⟩
  refine And.intro rfl ?_
  refine And.intro zr_and ⟨fun h5 => ?_, fun h5 => ?_⟩
  · refine And.intro (Or.inl rfl) ?_
    refine hQ _ (by omega)
  · refine And.intro (Or.inr rfl) ?_
    refine hQ _ (by omega))
def T_W_nts : ZT := fun args I L R S Q => ∃ (k : Nat) (w : List CuR) (pc : Nat) (c : Nat), args = [zvr k, zvi c] ∧ (zSh S) ∧ (zRs R) ∧ (zDy zT15 zF15 k R S) ∧ (zPc k w pc I L) ∧ (cuG w) ∧ (w.length ≤ 60) ∧ (cuPq w pc) ∧ (∀ p : Nat, p < cuNp w → I (k + 12) p = cuNm w p) ∧ (c ≤ 60) ∧ ∀ (v : Int), (zNbt v (cuNs w pc c (cuNp w))) → (0 ≤ v ∧ v < 4096) → Q (some (zvi (v))) I L R S
theorem sn_W_nts : ZSnd 2 15 17 T_W_nts := ZSnd.loops (zT15_17 1) (by
  rintro args I L R S Q hz ⟨k, w, pc, c, rfl, hS, hR, hd, hPc, hG, hcl, hpq, hNm, hc, hQ⟩
  have hk5 := hd.1
  obtain ⟨hp0, hpi, hpn⟩ := id hPc
  obtain ⟨n, hn⟩ : ∃ n, n = cuNp w := ⟨_, rfl⟩
  have hn60 : n ≤ 60 := by have z := cuNp_l (w := w); omega
  rw [← hn] at hp0 hpi
  have hpcn : pc ≤ n ∧ pc ≤ 40 := ⟨by have z := (cuPq_p hpq).1; omega, hpq.1⟩
  refine ⟨[4], fun nM tM lsM stM I1 L1 R1 S1 => match tM with
      | 4 => ∃ (u : Int) (m : Nat), nM = ((61 - m), 0, 0) ∧ lsM = [some (zvr (k)), some (zvi (c)), some (zvi (u)), some (zvi (m))] ∧ stM = [] ∧ I1 = I ∧ L1 = L ∧ R1 = R ∧ S1 = S ∧ (m ≤ n ∧ 0 ≤ u ∧ u < 4096) ∧ (zNbt u (cuNs w pc c m))
      | _ => False, rfl, ?_, ⟨?_, True.intro⟩⟩
  · refine ⟨((61 - (0 : Nat)), 0, 0), [some (zvr (k)), some (zvi (c)), some (zvi ((0 : Int))), some (zvi ((0 : Nat)))], ⟨rfl, rfl, rfl, rfl, rfl⟩, 0, 0, rfl, rfl, rfl, rfl, rfl, rfl, rfl, (by omega), (zNbt_0 (fun t => cuNs_0))⟩
  · rintro nM lsM stM I1 L1 R1 S1 hz1 ⟨u, m, rfl, rfl, rfl, rfl, rfl, rfl, rfl, hm, hb⟩
    refine And.intro (zDX hd 0 rfl) (zrd (v := n) hp0 ?_)
    refine And.intro ⟨(by omega), (by omega)⟩ ⟨fun h9 => ?_, fun h9 => ?_⟩
    · refine hQ _ (by have e : m = cuNp w := (by omega); rw [← e]; exact hb) (by omega)
    · refine And.intro (zDX hd 0 rfl) (zrdR (v := some (k + 12)) (zDR hd 11 rfl) ?_)
      refine And.intro (zDP hd 12 rfl rfl (by omega) (by omega)) (fun v17 e17 r17 => ?_)
      have f17 : v17 = cuNm w m := (e17.trans ((congrArg (I1 (k + 12)) (show _ = m by omega)).trans (hNm m (by omega))))
      refine And.intro ⟨r17, (by omega)⟩ ⟨fun h19 => ?_, fun h19 => ?_⟩
      · refine ⟨((61 - (m + 1)), 0, 0), zlt6 (by omega), [some (zvr (k)), some (zvi (c)), some (zvi (u)), some (zvi ((m + 1)))], ⟨rfl, rfl, rfl, rfl, rfl⟩, u, (m + 1), rfl, rfl, rfl, rfl, rfl, rfl, rfl, (by omega), ?_⟩
        · first
          | exact g44b
          | exact zNbt_e hb (cuNs_n (fun q => by have z := cuPla_c w pc m; have z2 := (hG m (by have := hpq.2.1; omega)).2.1; omega))
      · refine And.intro (zDX hd 0 rfl) (zrdR (v := some (k + 1)) (zDR hd 0 rfl) ?_)
        refine And.intro (Or.inr (zDP hd 1 rfl rfl (by omega) (by omega))) (fun v27 e27 r27 => ?_)
        have f27 : v27 = 1 := (by refine Eq.trans e27 ?_; repeat (first | exact ((congrArg (I1 (k + 1)) (show _ = m by omega)).trans (hpi m (by omega)).1.1) | exact (fr _ _ (by omega)).trans ((congrArg (I1 (k + 1)) (show _ = m by omega)).trans (hpi m (by omega)).1.1) | refine zxu (by omega) ?_))
        refine And.intro r27 ⟨(fun h28 => False.elim (by omega)), fun h28 => ?_⟩
        refine And.intro (zDX hd 0 rfl) ⟨_, sn_W_pln.up (by decide), ?_⟩
        refine ⟨_, w, pc, (m : Int), m, rfl, hS, hR, hd, (by first | exact (zPc_fr hPc (fun c j h => rfl) (fun c j h => rfl)) | (clear hQ; grind [xu])), (by first | exact hG | (clear hQ; grind [xu])), (by omega), (by first | exact hpq | (clear hQ; grind [xu])), (by omega), ?_⟩
        intro v33o p33hv p33bhv2
        refine And.intro ⟨(by omega), (zRb rfl)⟩ ⟨fun h37 => ?_, fun h37 => ?_⟩
        · refine ⟨((61 - (m + 1)), 0, 0), zlt6 (by omega), [some (zvr (k)), some (zvi (c)), some (zvi (u)), some (zvi ((m + 1)))], ⟨rfl, rfl, rfl, rfl, rfl⟩, u, (m + 1), rfl, rfl, rfl, rfl, rfl, rfl, rfl, (by omega), ?_⟩
          · first
            | exact g44b
            | exact zNbt_e hb (cuNs_n (fun q => by have z := cuPla_c w pc m; have z2 := (hG m (by have := hpq.2.1; omega)).2.1; omega))
        · refine And.intro (zDX hd 0 rfl) ⟨_, sn_W_pln.up (by decide), ?_⟩
          refine ⟨_, w, pc, (m : Int), m, rfl, hS, hR, hd, (by first | exact (zPc_fr hPc (fun c j h => rfl) (fun c j h => rfl)) | (clear hQ; grind [xu])), (by first | exact hG | (clear hQ; grind [xu])), (by omega), (by first | exact hpq | (clear hQ; grind [xu])), (by omega), ?_⟩
          intro v44o p44hv p44bhv2
          have g44 : m < pc ∧ v44o = cg w m 1 ∧ 0 ≤ v44o ∧ v44o ≤ 11 := (by have z := cuPla_c w pc m; omega)
          have g44b : zNbt (zor u (zshl 1 v44o)) (cuNs w pc c (m + 1)) := (zNbt_o hb (by omega) (cuNs_y ⟨by omega, by omega⟩ (by omega)))
          have g44bb : 0 ≤ zor u (zshl 1 v44o) ∧ zor u (zshl 1 v44o) < 4096 := ⟨g44b.1, g44b.2.1⟩
          refine ⟨((61 - (m + 1)), 0, 0), zlt6 (by omega), [some (zvr (k)), some (zvi (c)), some (zvi ((zor u (zshl 1 v44o)))), some (zvi ((m + 1)))], ⟨rfl, rfl, rfl, rfl, rfl⟩, (zor u (zshl 1 v44o)), (m + 1), rfl, rfl, rfl, rfl, rfl, rfl, rfl, (by omega), ?_⟩
          · first
            | exact g44b
            | exact zNbt_e hb (cuNs_n (fun q => by have z := cuPla_c w pc m; have z2 := (hG m (by have := hpq.2.1; omega)).2.1; omega)))
def T_W_cst : ZT := fun args I L R S Q => ∃ (k : Nat) (w : List CuR) (pc : Nat), args = [zvr k] ∧ (zSh S) ∧ (zRs R) ∧ (zDy zT15 zF15 k R S) ∧ (zPc k w pc I L) ∧ (cuG w) ∧ (w.length ≤ 60) ∧ (cuPq w pc) ∧ ∀ (v : Int) (I' : ZI), (v = cuSc w pc) → (0 ≤ v ∧ v ≤ 60) → (∀ c j : Nat, ¬ c = k + 11 → ¬ c = k + 12 → I' c j = I c j) → Q (some (zvi (v))) I' L R S
theorem sn_W_cst : ZSnd 5 15 2 T_W_cst := ZSnd.loops (zT15_2 4) (by
  rintro args I L R S Q hz ⟨k, w, pc, rfl, hS, hR, hd, hPc, hG, hcl, hpq, hQ⟩
  have hk5 := hd.1
  obtain ⟨hp0, hpi, hpn⟩ := id hPc
  obtain ⟨n, hn⟩ : ∃ n, n = cuNp w := ⟨_, rfl⟩
  have hn60 : n ≤ 60 := by have z := cuNp_l (w := w); omega
  rw [← hn] at hp0 hpi
  have hpcn : pc ≤ n ∧ pc ≤ 40 := ⟨by have z := (cuPq_p hpq).1; omega, hpq.1⟩
  refine ⟨[9], fun nM tM lsM stM I1 L1 R1 S1 => match tM with
      | 9 => ∃ (c : Nat), nM = ((61 - c), 0, 0) ∧ lsM = [some (zvr (k)), some (zvi (cuNc w)), some (zvi (zct (cuSx w pc) c)), some (zvi (c))] ∧ stM = [] ∧ L1 = L ∧ R1 = R ∧ S1 = S ∧ (c ≤ cuNc w ∧ c ≤ 60) ∧ (∀ p : Nat, p < cuNp w → I1 (k + 12) p = cuNm w p) ∧ (∀ c j : Nat, ¬ c = k + 11 → ¬ c = k + 12 → I1 c j = I c j)
      | _ => False, rfl, ?_, ⟨?_, True.intro⟩⟩
  · refine And.intro (zDX hd 0 rfl) ⟨_, sn_W_fnn.up (by decide), ?_⟩
    refine ⟨_, w, pc, rfl, hS, hR, hd, (by first | exact (zPc_fr hPc (fun c j h => rfl) (fun c j h => rfl)) | (clear hQ; grind [xu])), (by first | exact hG | (clear hQ; grind [xu])), (by omega), (by first | exact hpq | (clear hQ; grind [xu])), ?_⟩
    intro v1o I1o p1hv p1bhv2 p1bbhNm p1bbbfr
    refine ⟨((61 - (0 : Nat)), 0, 0), [some (zvr (k)), some (zvi (cuNc w)), some (zvi (zct (cuSx w pc) (0 : Nat))), some (zvi ((0 : Nat)))], ⟨rfl, (congrArg (fun z => some (zvi z)) (by omega)), (congrArg (fun z => some (zvi z)) rfl), rfl, rfl⟩, 0, rfl, rfl, rfl, rfl, rfl, rfl, (by omega), p1bbhNm, (fun c j h0 h1 => ((p1bbbfr c j h0 h1).trans rfl))⟩
  · rintro nM lsM stM I1 L1 R1 S1 hz1 ⟨c, rfl, rfl, rfl, rfl, rfl, rfl, hc, hNm1, fr⟩
    have hzc := zct_le (cuSx w pc) c
    have hcb := cuNc_b (w := w)
    refine And.intro ⟨(by omega), (by omega)⟩ ⟨fun h11 => ?_, fun h11 => ?_⟩
    · refine hQ _ _ (by have e : c = cuNc w := (by omega); rw [e, cuSc_c (show pc ≤ cuNp w by omega)]) (by omega) (fun c j h0 h1 => ((fr c j h0 h1).trans rfl))
    · refine And.intro (zDX hd 0 rfl) ⟨_, sn_W_nts.up (by decide), ?_⟩
      refine ⟨_, w, pc, _, rfl, hS, hR, hd, (by first | exact (zPc_fr hPc (fun c j h => ((fr c j (by omega) (by omega)).trans rfl)) (fun c j h => rfl)) | (clear hQ; grind [xu])), (by first | exact hG | (clear hQ; grind [xu])), (by omega), (by first | exact hpq | (clear hQ; grind [xu])), (by first | exact hNm1 | exact (fun p h1 => rfl.trans (hNm1 p h1)) | (clear hQ; grind [xu])), (by omega), ?_⟩
      intro v17o p17hv p17bhv2
      refine ⟨_, sn_W_iss.up (by decide), ?_⟩
      refine ⟨(v17o : Int), rfl, (by omega), ?_⟩
      intro v20o p20hv
      have g20 : (v20o = 1 ∧ cuSx w pc c) ∨ (v20o = 0 ∧ ¬ cuSx w pc c) := (cuNs_s hG hpq (show pc ≤ cuNp w by omega) p17hv p20hv)
      refine And.intro (by omega) ⟨fun h23 => ?_, fun h23 => ?_⟩
      · refine ⟨((61 - (c + 1)), 0, 0), zlt6 (by omega), [some (zvr (k)), some (zvi (cuNc w)), some (zvi (zct (cuSx w pc) (c + 1))), some (zvi ((c + 1)))], ⟨rfl, rfl, (congrArg (fun z => some (zvi z)) (by first | (rw [zct_t (show cuSx w pc c by rcases g20 with z | z; exact z.2; (exfalso; omega))]; omega) | (rw [zct_f (show ¬ cuSx w pc c by rcases g20 with z | z; (exfalso; omega); exact z.2)]; omega))), rfl, rfl⟩, (c + 1), rfl, rfl, rfl, rfl, rfl, rfl, (by omega), hNm1, (fun c j h0 h1 => ((fr c j h0 h1).trans rfl))⟩
      · refine ⟨((61 - (c + 1)), 0, 0), zlt6 (by omega), [some (zvr (k)), some (zvi (cuNc w)), some (zvi (zct (cuSx w pc) (c + 1))), some (zvi ((c + 1)))], ⟨rfl, rfl, (congrArg (fun z => some (zvi z)) (by first | (rw [zct_t (show cuSx w pc c by rcases g20 with z | z; exact z.2; (exfalso; omega))]; omega) | (rw [zct_f (show ¬ cuSx w pc c by rcases g20 with z | z; (exfalso; omega); exact z.2)]; omega))), rfl, rfl⟩, (c + 1), rfl, rfl, rfl, rfl, rfl, rfl, (by omega), hNm1, (fun c j h0 h1 => ((fr c j h0 h1).trans rfl))⟩)
def T_W_sho : ZT := fun args I L R S Q => ∃ (k : Nat) (w : List CuR) (pc : Nat), args = [zvr k] ∧ (zSh S) ∧ (zRs R) ∧ (zDy zT15 zF15 k R S) ∧ (zPc k w pc I L) ∧ (cuG w) ∧ (w.length ≤ 60) ∧ (cuPq w pc) ∧ ∀ (v : Int) (I' : ZI), (v = cuSc w pc) → (0 ≤ v ∧ v ≤ 60) → (∀ c j : Nat, ¬ (c = k ∧ j = 0) → ¬ c = k + 11 → ¬ c = k + 12 → I' c j = I c j) → Q (some (zvi (v))) I' L R S
theorem sn_W_sho : ZSnd 6 15 24 T_W_sho := ZSnd.of (zT15_24 5) (by
  rintro args I L R S Q hz ⟨k, w, pc, rfl, hS, hR, hd, hPc, hG, hcl, hpq, hQ⟩
  have hk5 := hd.1
  obtain ⟨hp0, hpi, hpn⟩ := id hPc
  obtain ⟨n, hn⟩ : ∃ n, n = cuNp w := ⟨_, rfl⟩
  have hn60 : n ≤ 60 := by have z := cuNp_l (w := w); omega
  rw [← hn] at hp0 hpi
  have hpcn : pc ≤ n ∧ pc ≤ 40 := ⟨by have z := (cuPq_p hpq).1; omega, hpq.1⟩
  refine And.intro rfl ?_
  refine And.intro (zDX hd 0 rfl) ⟨_, (zWi (zRb rfl)), ?_⟩
  refine And.intro (zDX hd 0 rfl) ⟨_, sn_W_cst.up (by decide), ?_⟩
  refine ⟨_, w, pc, rfl, hS, hR, hd, (by first | exact (zPc_fr hPc (fun c j h => (zxcj (by omega) rfl)) (fun c j h => rfl)) | (clear hQ; grind [xu])), (by first | exact hG | (clear hQ; grind [xu])), (by omega), (by first | exact hpq | (clear hQ; grind [xu])), ?_⟩
  intro v6o I6o p6hv p6bhv2 p6bbfr
  refine hQ _ _ (by omega) (by omega) (fun c j h0 h1 h2 => ((p6bbfr c j h1 h2).trans (zxcj h0 rfl))))
