/-! yk -/
def T_Y_vs0 : ZT := fun args I L R S Q => args = [zvr 165] ∧ (zSh S) ∧ (zRs R) ∧ (R 165 31 = none) ∧ Q (some (zvi (-1))) I L R S
theorem sn_Y_vs0 : ZSnd 1 21 76 T_Y_vs0 := ZSnd.of (zT21_76 0) (by
  rintro args I L R S Q hz ⟨rfl, hS, hR, hrc, hQ⟩
  refine And.intro rfl ?_
  refine And.intro (zA_165 hS) (zrdR (v := none) hrc ?_)
  refine hQ )
def T_Y_vi0 : ZT := fun args I L R S Q => ∃ (a : Int) (b : Int), args = [zvr 165, zvi a, zvi b] ∧ (zSh S) ∧ (zRs R) ∧ (R 165 31 = none) ∧ Q (some (zvi (-1))) I L R S
theorem sn_Y_vi0 : ZSnd 3 21 75 T_Y_vi0 := ZSnd.of (zT21_75 2) (by
  rintro args I L R S Q hz ⟨a, b, rfl, hS, hR, hrc, hQ⟩
  refine And.intro rfl ?_
  refine And.intro (zA_165 hS) (zrdR (v := none) hrc ?_)
  refine hQ )
def T_Y_co0 : ZT := fun args I L R S Q => ∃ (a : Int), args = [zvr 165, zvi a] ∧ (zSh S) ∧ (zRs R) ∧ (R 165 31 = none) ∧ Q (some (zvi (-1))) I L R S
theorem sn_Y_co0 : ZSnd 6 21 6 T_Y_co0 := ZSnd.of (zT21_6 5) (by
  rintro args I L R S Q hz ⟨a, rfl, hS, hR, hrc, hQ⟩
  refine And.intro rfl ?_
  refine And.intro (zA_165 hS) (zrdR (v := none) hrc ?_)
  refine hQ )
def T_Y_ai0 : ZT := fun args I L R S Q => ∃ (a : Int) (kk : Int) (wh : Int), args = [zvr 165, zvi a, zvi kk, zvi wh] ∧ (zSh S) ∧ (zRs R) ∧ (R 165 31 = none) ∧ Q (some (zvi (-1))) I L R S
theorem sn_Y_ai0 : ZSnd 7 21 0 T_Y_ai0 := ZSnd.of (zT21_0 6) (by
  rintro args I L R S Q hz ⟨a, kk, wh, rfl, hS, hR, hrc, hQ⟩
  refine And.intro rfl ?_
  refine And.intro (zA_165 hS) (zrdR (v := none) hrc ?_)
  refine hQ )
def T_Y_ss0 : ZT := fun args I L R S Q => args = [zvr 165] ∧ (zSh S) ∧ (zRs R) ∧ (R 165 31 = none) ∧ Q (some (zvi (-1))) I L R S
theorem sn_Y_ss0 : ZSnd 7 21 71 T_Y_ss0 := ZSnd.of (zT21_71 6) (by
  rintro args I L R S Q hz ⟨rfl, hS, hR, hrc, hQ⟩
  refine And.intro rfl ?_
  refine And.intro (zA_165 hS) (zrdR (v := none) hrc ?_)
  refine hQ )
def T_Y_ex0 : ZT := fun args I L R S Q => args = [zvr 165] ∧ (zSh S) ∧ (zRs R) ∧ (R 165 31 = none) ∧ Q (some (zvi (0))) I L R S
theorem sn_Y_ex0 : ZSnd 1 21 18 T_Y_ex0 := ZSnd.of (zT21_18 0) (by
  rintro args I L R S Q hz ⟨rfl, hS, hR, hrc, hQ⟩
  refine And.intro rfl ?_
  refine And.intro (zA_165 hS) (zrdR (v := none) hrc ?_)
  refine And.intro (Or.inl rfl) ?_
  refine hQ )
def T_Y_vs : ZT := fun args I L R S Q => ∃ (q : Nat) (m : Int), args = [zvr 165] ∧ (zSh S) ∧ (zRs R) ∧ (R 165 31 = some q) ∧ (zDy zT15 zF15 q R S) ∧ (I 165 33 = m) ∧ ∀ (v : Int), (v = m) → Q (some (zvi (v))) I L R S
theorem sn_Y_vs : ZSnd 1 21 76 T_Y_vs := ZSnd.of (zT21_76 0) (by
  rintro args I L R S Q hz ⟨q, m, rfl, hS, hR, hrc, hdq, hf, hQ⟩
  refine And.intro rfl ?_
  refine And.intro (zA_165 hS) (zrdR (v := some q) hrc ?_)
  refine And.intro (zA_165 hS) (zrd (v := m) hf ?_)
  refine hQ _ (by omega))
def T_Y_ex : ZT := fun args I L R S Q => ∃ (q : Nat) (m : Int), args = [zvr 165] ∧ (zSh S) ∧ (zRs R) ∧ (R 165 31 = some q) ∧ (zDy zT15 zF15 q R S) ∧ (I 165 34 = m) ∧ (m = 0 ∨ m = 1) ∧ ∀ (v : Int), (v = m) → Q (some (zvi (v))) I L R S
theorem sn_Y_ex : ZSnd 1 21 18 T_Y_ex := ZSnd.of (zT21_18 0) (by
  rintro args I L R S Q hz ⟨q, m, rfl, hS, hR, hrc, hdq, hf, hm, hQ⟩
  refine And.intro rfl ?_
  refine And.intro (zA_165 hS) (zrdR (v := some q) hrc ?_)
  refine And.intro (zA_165 hS) (zrd (v := m) hf ?_)
  refine And.intro (by omega) ⟨fun h11 => ?_, fun h11 => ?_⟩
  · refine And.intro (Or.inl rfl) ?_
    refine hQ _ (by omega)
  · refine And.intro (Or.inr rfl) ?_
    refine hQ _ (by omega))
def T_Y_ss : ZT := fun args I L R S Q => ∃ (q : Nat) (w : List CuR) (pc : Nat), args = [zvr 165] ∧ (zSh S) ∧ (zRs R) ∧ (R 165 31 = some q) ∧ (zDy zT15 zF15 q R S) ∧ (zPc q w pc I L) ∧ (cuG w) ∧ (w.length ≤ 60) ∧ (cuPq w pc) ∧ (302 ≤ q) ∧ ∀ (v : Int) (I' : ZI), (v = cuSc w pc) → (∀ c j : Nat, ¬ (q ≤ c ∧ c ≤ q + 13) → I' c j = I c j) → Q (some (zvi (v))) I' L R S
theorem sn_Y_ss : ZSnd 7 21 71 T_Y_ss := ZSnd.of (zT21_71 6) (by
  rintro args I L R S Q hz ⟨q, w, pc, rfl, hS, hR, hrc, hdq, hPc, hG, hcl, hpq, hq3, hQ⟩
  refine And.intro rfl ?_
  refine And.intro (zA_165 hS) (zrdR (v := some q) hrc ?_)
  refine And.intro (zA_165 hS) (zrdR (v := some q) hrc ?_)
  refine And.intro (zDX hdq 0 rfl) ⟨_, sn_W_sho.up (by decide), ?_⟩
  refine ⟨q, w, pc, rfl, hS, hR, hdq, (by first | exact (zPc_fr hPc (fun c j h => rfl) (fun c j h => rfl)) | (clear hQ; grind [xu])), (by first | exact hG | (clear hQ; grind [xu])), (by omega), (by first | exact hpq | (clear hQ; grind [xu])), ?_⟩
  intro v15o I15o p15hv p15bhv2 p15bbfr
  refine hQ _ _ (by omega) (fun c j h0 => ((p15bbfr c j (by omega) (by omega) (by omega)).trans rfl)))
def T_Y_ai : ZT := fun args I L R S Q => ∃ (q : Nat) (w : List CuR) (pc : Nat) (a : Int) (kk : Int) (wh : Int), args = [zvr 165, zvi a, zvi kk, zvi wh] ∧ (zSh S) ∧ (zRs R) ∧ (R 165 31 = some q) ∧ (zDy zT15 zF15 q R S) ∧ (zPc q w pc I L) ∧ (cuG w) ∧ (w.length ≤ 60) ∧ (cuPq w pc) ∧ (302 ≤ q) ∧ (r32 a ∧ r32 kk ∧ r32 wh) ∧ ∀ (v : Int) (I' : ZI) (L' : ZI), (v = cuAe w pc a kk wh) → (∀ c j : Nat, ¬ (q ≤ c ∧ c ≤ q + 13) → I' c j = I c j) → (∀ c j : Nat, ¬ (q ≤ c ∧ c ≤ q + 13) → L' c j = L c j) → Q (some (zvi (v))) I' L' R S
theorem sn_Y_ai : ZSnd 7 21 0 T_Y_ai := ZSnd.of (zT21_0 6) (by
  rintro args I L R S Q hz ⟨q, w, pc, a, kk, wh, rfl, hS, hR, hrc, hdq, hPc, hG, hcl, hpq, hq3, hr, hQ⟩
  refine And.intro rfl ?_
  refine And.intro (zA_165 hS) (zrdR (v := some q) hrc ?_)
  refine And.intro (zA_165 hS) (zrdR (v := some q) hrc ?_)
  refine And.intro (zDX hdq 0 rfl) ⟨_, sn_W_lin.up (by decide), ?_⟩
  refine ⟨q, w, pc, (a : Int), (kk : Int), (wh : Int), rfl, hS, hR, hdq, (by first | exact (zPc_fr hPc (fun c j h => rfl) (fun c j h => rfl)) | (clear hQ; grind [xu])), (by first | exact hG | (clear hQ; grind [xu])), (by omega), (by first | exact hpq | (clear hQ; grind [xu])), (by omega), ?_⟩
  intro v16o I16o L16o p16hv p16bhv2 p16bbfr p16bbbfrL
  refine And.intro (zA_165 hS) (zrdR (v := some q) hrc ?_)
  refine And.intro (zDX hdq 0 rfl) (Exists.intro _ (And.intro (zinl_ok (zT15_25 5)) (And.intro rfl ?_)))
  refine And.intro (zDX hdq 0 rfl) (fun v1_25 e1_25 r1_25 => ?_)
  refine And.intro r1_25 ⟨fun h28 => ?_, fun h28 => ?_⟩
  · refine hQ _ _ _ (by omega) (fun c j h0 => ((p16bbfr c j (by omega) (by omega) (by omega) (by omega) (by omega) (by omega)).trans rfl)) (fun c j h0 => ((p16bbbfrL c j (by omega)).trans rfl))
  · refine hQ _ _ _ (by omega) (fun c j h0 => ((p16bbfr c j (by omega) (by omega) (by omega) (by omega) (by omega) (by omega)).trans rfl)) (fun c j h0 => ((p16bbbfrL c j (by omega)).trans rfl)))
def T_Y_co : ZT := fun args I L R S Q => ∃ (q : Nat) (w : List CuR) (pc : Nat) (a : Int), args = [zvr 165, zvi a] ∧ (zSh S) ∧ (zRs R) ∧ (R 165 31 = some q) ∧ (zDy zT15 zF15 q R S) ∧ (zPc q w pc I L) ∧ (cuG w) ∧ (w.length ≤ 60) ∧ (cuPq w pc) ∧ (302 ≤ q) ∧ (r32 a) ∧ ∀ (v : Int) (I' : ZI), (((0 ≤ a ∧ a < cuNp w) ∧ v = cuNm w a.toNat) ∨ (¬ (0 ≤ a ∧ a < cuNp w) ∧ v = -1)) → (∀ c j : Nat, ¬ (q ≤ c ∧ c ≤ q + 13) → I' c j = I c j) → Q (some (zvi (v))) I' L R S
theorem sn_Y_co : ZSnd 6 21 6 T_Y_co := ZSnd.of (zT21_6 5) (by
  rintro args I L R S Q hz ⟨q, w, pc, a, rfl, hS, hR, hrc, hdq, hPc, hG, hcl, hpq, hq3, hr, hQ⟩
  refine And.intro rfl ?_
  refine And.intro (zA_165 hS) (zrdR (v := some q) hrc ?_)
  refine And.intro (zA_165 hS) (zrdR (v := some q) hrc ?_)
  refine And.intro (zDX hdq 0 rfl) ⟨_, sn_W_nof.up (by decide), ?_⟩
  refine ⟨q, w, pc, (a : Int), rfl, hS, hR, hdq, (by first | exact (zPc_fr hPc (fun c j h => rfl) (fun c j h => rfl)) | (clear hQ; grind [xu])), (by first | exact hG | (clear hQ; grind [xu])), (by omega), (by first | exact hpq | (clear hQ; grind [xu])), (by omega), ?_⟩
  intro v14o I14o p14hv p14bfr
  refine And.intro (zA_165 hS) (zrdR (v := some q) hrc ?_)
  refine And.intro (zDX hdq 0 rfl) (Exists.intro _ (And.intro (zinl_ok (zT15_25 4)) (And.intro rfl ?_)))
  refine And.intro (zDX hdq 0 rfl) (fun v1_22 e1_22 r1_22 => ?_)
  refine And.intro r1_22 ⟨fun h25 => ?_, fun h25 => ?_⟩
  · refine hQ _ _ (by omega) (fun c j h0 => ((p14bfr c j (by omega) (by omega) (by omega)).trans rfl))
  · refine hQ _ _ (by omega) (fun c j h0 => ((p14bfr c j (by omega) (by omega) (by omega)).trans rfl)))
def T_Y_vi : ZT := fun args I L R S Q => ∃ (q : Nat) (k : Nat) (w : List CuR) (P : Nat → Prop) (a : Int) (b : Int) (m : Int), args = [zvr 165, zvi a, zvi b] ∧ (zSh S) ∧ (zRs R) ∧ (R 165 32 = some k) ∧ (zDy zT14 zF14 k R S) ∧ (R 165 31 = some q) ∧ (zDy zT15 zF15 q R S) ∧ (zFY k w P I) ∧ (I 165 33 = m) ∧ (m = I k 19) ∧ (302 ≤ k) ∧ (r32 a ∧ r32 b) ∧ ∀ (v : Int) (I' : ZI), (((0 ≤ a ∧ a < m ∧ 0 ≤ b ∧ b ≤ 2) ∧ v = cuDc (cuVx P a.toNat) b) ∨ (¬ (0 ≤ a ∧ a < m ∧ 0 ≤ b ∧ b ≤ 2) ∧ v = -1)) → (∀ c j : Nat, ¬ (c = k ∧ j = 0) → I' c j = I c j) → Q (some (zvi (v))) I' L R S
theorem sn_Y_vi : ZSnd 3 21 75 T_Y_vi := ZSnd.of (zT21_75 2) (by
  rintro args I L R S Q hz ⟨q, k, w, P, a, b, m, rfl, hS, hR, hrf, hd, hrc, hdq, hFY, hf, hm, hk, hr, hQ⟩
  have hy0 := hFY.1
  have hy1 := hFY.2.1
  rw [← hm] at hy0 hy1
  refine And.intro rfl ?_
  refine And.intro (zA_165 hS) (zrdR (v := some q) hrc ?_)
  refine And.intro (by omega) ⟨fun h8 => ?_, fun h8 => ?_⟩
  · refine hQ _ _ ?_ (fun c j h0 => rfl)
    · first
      | exact Or.inr ⟨by omega, rfl⟩
      | (refine Or.inl ⟨by omega, ?_⟩
         have z := cuFv_d (x := cuVx P a.toNat) (y := b.toNat) (zFY_w hFY (by omega)) (by omega)
         rw [show ((b.toNat : Nat) : Int) = b by omega] at z
         rw [← z, ← p36hv]
         first
         | (rw [if_pos ⟨by omega, by omega⟩])
         | (rw [if_neg (by omega)]))
  · refine And.intro (zA_165 hS) (zrd (v := m) hf ?_)
    refine And.intro ⟨(by omega), (by omega)⟩ ⟨fun h16 => ?_, fun h16 => ?_⟩
    · refine hQ _ _ ?_ (fun c j h0 => rfl)
      · first
        | exact Or.inr ⟨by omega, rfl⟩
        | (refine Or.inl ⟨by omega, ?_⟩
           have z := cuFv_d (x := cuVx P a.toNat) (y := b.toNat) (zFY_w hFY (by omega)) (by omega)
           rw [show ((b.toNat : Nat) : Int) = b by omega] at z
           rw [← z, ← p36hv]
           first
           | (rw [if_pos ⟨by omega, by omega⟩])
           | (rw [if_neg (by omega)]))
    · refine And.intro (by omega) ⟨fun h20 => ?_, fun h20 => ?_⟩
      · refine hQ _ _ ?_ (fun c j h0 => rfl)
        · first
          | exact Or.inr ⟨by omega, rfl⟩
          | (refine Or.inl ⟨by omega, ?_⟩
             have z := cuFv_d (x := cuVx P a.toNat) (y := b.toNat) (zFY_w hFY (by omega)) (by omega)
             rw [show ((b.toNat : Nat) : Int) = b by omega] at z
             rw [← z, ← p36hv]
             first
             | (rw [if_pos ⟨by omega, by omega⟩])
             | (rw [if_neg (by omega)]))
      · refine And.intro ⟨(by omega), (zRb rfl)⟩ ⟨fun h25 => ?_, fun h25 => ?_⟩
        · refine And.intro (zA_165 hS) (zrdR (v := some k) hrf ?_)
          refine And.intro (zDX hd 0 rfl) ⟨_, sn_V_vio.up (by decide), ?_⟩
          refine ⟨_, w, P, (a : Int), a.toNat, (b : Int), b.toNat, rfl, hS, hR, hd, (by first | exact (zFY_fr hFY (fun c j h => rfl)) | (clear hQ; grind [xu])), (by omega), (by omega), ?_⟩
          intro v36o I36o p36hv p36bhv2 p36bbfr
          refine And.intro (by omega) ⟨fun h41 => ?_, fun h41 => ?_⟩
          · refine hQ _ _ ?_ (fun c j h0 => ((p36bbfr c j h0).trans rfl))
            · first
              | exact Or.inr ⟨by omega, rfl⟩
              | (refine Or.inl ⟨by omega, ?_⟩
                 have z := cuFv_d (x := cuVx P a.toNat) (y := b.toNat) (zFY_w hFY (by omega)) (by omega)
                 rw [show ((b.toNat : Nat) : Int) = b by omega] at z
                 rw [← z, ← p36hv]
                 first
                 | (rw [if_pos ⟨by omega, by omega⟩])
                 | (rw [if_neg (by omega)]))
          · refine And.intro ⟨(by omega), (zRb rfl)⟩ ⟨fun h46 => ?_, fun h46 => ?_⟩
            · refine hQ _ _ ?_ (fun c j h0 => ((p36bbfr c j h0).trans rfl))
              · first
                | exact Or.inr ⟨by omega, rfl⟩
                | (refine Or.inl ⟨by omega, ?_⟩
                   have z := cuFv_d (x := cuVx P a.toNat) (y := b.toNat) (zFY_w hFY (by omega)) (by omega)
                   rw [show ((b.toNat : Nat) : Int) = b by omega] at z
                   rw [← z, ← p36hv]
                   first
                   | (rw [if_pos ⟨by omega, by omega⟩])
                   | (rw [if_neg (by omega)]))
            · refine hQ _ _ ?_ (fun c j h0 => ((p36bbfr c j h0).trans rfl))
              · first
                | exact Or.inr ⟨by omega, rfl⟩
                | (refine Or.inl ⟨by omega, ?_⟩
                   have z := cuFv_d (x := cuVx P a.toNat) (y := b.toNat) (zFY_w hFY (by omega)) (by omega)
                   rw [show ((b.toNat : Nat) : Int) = b by omega] at z
                   rw [← z, ← p36hv]
                   first
                   | (rw [if_pos ⟨by omega, by omega⟩])
                   | (rw [if_neg (by omega)]))
        · refine hQ _ _ ?_ (fun c j h0 => rfl)
          · first
            | exact Or.inr ⟨by omega, rfl⟩
            | (refine Or.inl ⟨by omega, ?_⟩
               have z := cuFv_d (x := cuVx P a.toNat) (y := b.toNat) (zFY_w hFY (by omega)) (by omega)
               rw [show ((b.toNat : Nat) : Int) = b by omega] at z
               rw [← z, ← p36hv]
               first
               | (rw [if_pos ⟨by omega, by omega⟩])
               | (rw [if_neg (by omega)])))
