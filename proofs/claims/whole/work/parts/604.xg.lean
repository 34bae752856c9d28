/-! xg -/
def T_V_rnk : ZT := fun args I L R S Q => ∃ (a : Int) (b : Int), args = [zvl a, zvl b] ∧ (r64 a ∧ r64 b) ∧ ∀ (v : Int), ((v = -1 ∧ a < b) ∨ (v = 1 ∧ b < a) ∨ (v = 0 ∧ a = b)) → Q (some (zvl (v))) I L R S
theorem sn_V_rnk : ZSnd 1 14 28 T_V_rnk := ZSnd.of (zT14_28 0) (by
  rintro args I L R S Q hz ⟨a, b, rfl, hr, hQ⟩
  refine And.intro rfl ?_
  refine ⟨_, _, ⟨zW6i (by omega), zW6i (by omega)⟩, fun z2 c2 => ?_⟩
  refine And.intro c2.2.2 ⟨fun h3 => ?_, fun h3 => ?_⟩
  · refine ⟨_, _, ⟨zW6i (by omega), zW6i (by omega)⟩, fun z14 c14 => ?_⟩
    refine And.intro c14.2.2 ⟨fun h15 => ?_, fun h15 => ?_⟩
    · refine hQ _ (by omega)
    · refine hQ _ (by omega)
  · refine hQ _ (by omega))
def T_V_bhd : ZT := fun args I L R S Q => ∃ (k : Nat) (w : List CuR) (c : Int) (j : Nat) (x : Int) (b : Int) (kd : Int) (a : Int) (i : Nat) (d : Int), args = [zvr k, zvi c, zvi b, zvi a, zvi d] ∧ (zSh S) ∧ (zRs R) ∧ (zDy zT14 zF14 k R S) ∧ (zCk k w I L) ∧ (cuG w) ∧ (c = j ∧ j < 2100) ∧ (cuWf w x) ∧ (zFe (k + 13) j x I) ∧ ((0 ≤ kd ∧ kd ≤ 4) ∧ b = cuRk kd) ∧ (a = i ∧ i < w.length) ∧ (-1 ≤ d ∧ d < 60) ∧ ∀ (v : Int), ((v = 1 ∧ cuCd w kd i d < x) ∨ (v = 0 ∧ x ≤ cuCd w kd i d)) → Q (some (zvi (v))) I L R S
theorem sn_V_bhd : ZSnd 2 14 12 T_V_bhd := ZSnd.of (zT14_12 1) (by
  rintro args I L R S Q hz ⟨k, w, c, j, x, b, kd, a, i, d, rfl, hS, hR, hd, hCk, hG, hcj, hwf, hfe0, hkd, hi, hdd, hQ⟩
  have hk5 := hd.1
  obtain ⟨hc0, hcl, hck⟩ := id hCk
  have hEi := cuE_v w i 0
  have hEx := cuE_v w (x / 61 % 60).toNat 0
  rw [if_neg (show ¬ (0 : Nat) = 1 by decide)] at hEi hEx
  obtain ⟨ii, hii⟩ : ∃ ii : Nat, ii = (x / 61 % 60).toNat := ⟨_, rfl⟩
  have hri : (0 ≤ cg w i 2 ∧ cg w i 2 ≤ 3) ∧ 0 ≤ cg w i 3 ∧ cg w i 3 ≤ 255 := (by have z := hG i hi.2; exact ⟨z.2.2.1, z.2.2.2.1⟩)
  have hrx : (0 ≤ cg w (x / 61 % 60).toNat 2 ∧ cg w (x / 61 % 60).toNat 2 ≤ 3) ∧ 0 ≤ cg w (x / 61 % 60).toNat 3 ∧ cg w (x / 61 % 60).toNat 3 ≤ 255 := (by have z := hG (x / 61 % 60).toNat hwf.2.1; exact ⟨z.2.2.1, z.2.2.2.1⟩)
  have hkr := cuRk_r kd
  have hkr2 := cuRk_r (x / 3660 % 5)
  have hkm := cuRk_m kd (x / 3660 % 5)
  obtain ⟨hx0, hx1, hx2⟩ := id hwf
  have hfe := id hfe0
  refine And.intro rfl ?_
  refine And.intro (zDX hd 0 rfl) (zrdR (v := some (k + 13)) (zDR hd 12 rfl) ?_)
  refine And.intro (zDP hd 13 rfl rfl (by omega) (by omega)) (fun v9 e9 r9 => ?_)
  have f9 : v9 = x / 61 % 60 := (e9.trans ((congrArg (I (k + 13)) (show _ = 3 * j + 1 by omega)).trans hfe.2.1))
  have f9b : 0 ≤ v9 ∧ v9 ≤ 59 := (by omega)
  have f9bb : v9 + 1 ≤ w.length := (by omega)
  refine And.intro (zDX hd 0 rfl) (zrdR (v := some (k + 2)) (zDR hd 1 rfl) ?_)
  refine And.intro (zDP hd 2 rfl rfl (by omega) (by omega)) (fun v18 e18 r18 => ?_)
  have f18 : v18 = cg w (x / 61 % 60).toNat 2 := (e18.trans ((congrArg (I (k + 2)) (show _ = (x / 61 % 60).toNat by omega)).trans (hck (x / 61 % 60).toNat (by omega)).1.2.1))
  have f18b : 0 ≤ v18 ∧ v18 ≤ 3 := (by have z := (hG (x / 61 % 60).toNat (by omega)).2.2.1; omega)
  refine And.intro (zDX hd 0 rfl) (zrdR (v := some (k + 2)) (zDR hd 1 rfl) ?_)
  refine And.intro (zDP hd 2 rfl rfl (by omega) (by omega)) (fun v24 e24 r24 => ?_)
  have f24 : v24 = cg w i 2 := (e24.trans ((congrArg (I (k + 2)) (show _ = i by omega)).trans (hck i (by omega)).1.2.1))
  have f24b : 0 ≤ v24 ∧ v24 ≤ 3 := (by have z := (hG i (by omega)).2.2.1; omega)
  refine And.intro (by omega) ?_
  refine ⟨_, _, ⟨zW6i (by omega), zW6i (zRL rfl)⟩, fun z32 c32 => ?_⟩
  refine And.intro c32.2.2 ⟨fun h33 => ?_, fun h33 => ?_⟩
  · have k33 : (v18 - v24) = 0 := by omega
    clear h33 c32
    refine And.intro (zDX hd 0 rfl) (zrdR (v := some (k + 6)) (zDR hd 5 rfl) ?_)
    refine And.intro (zDP hd 6 rfl rfl (by omega) (by omega)) (fun v50 e50 r50 => ?_)
    have f50 : v50 = cuE w (x / 61 % 60).toNat 1 0 := (e50.trans ((congrArg (L (k + 6)) (show _ = 8 * (x / 61 % 60).toNat by omega)).trans (hck (x / 61 % 60).toNat (by omega)).2.1))
    have f50b : 0 ≤ v50 ∧ v50 ≤ 15000 := (by have z := cuE_b (ax := 1) (e := 0) hG (show (x / 61 % 60).toNat < w.length by omega); omega)
    refine And.intro (zDX hd 0 rfl) (zrdR (v := some (k + 6)) (zDR hd 5 rfl) ?_)
    refine And.intro (zDP hd 6 rfl rfl (by omega) (by omega)) (fun v59 e59 r59 => ?_)
    have f59 : v59 = cuE w i 1 0 := (e59.trans ((congrArg (L (k + 6)) (show _ = 8 * i by omega)).trans (hck i (by omega)).2.1))
    have f59b : 0 ≤ v59 ∧ v59 ≤ 15000 := (by have z := cuE_b (ax := 1) (e := 0) hG (show i < w.length by omega); omega)
    refine ⟨_, sn_V_rnk.up (by decide), ?_⟩
    refine ⟨(v50 : Int), (v59 : Int), rfl, (by clear hQ; grind [xu]), ?_⟩
    intro v60o p60hv
    refine ⟨_, _, ⟨zW6i (by omega), zW6i (zRL rfl)⟩, fun z68 c68 => ?_⟩
    refine And.intro c68.2.2 ⟨fun h69 => ?_, fun h69 => ?_⟩
    · have k69 : v60o = 0 := by omega
      clear h69 c68
      refine And.intro (zDX hd 0 rfl) (zrdR (v := some (k + 7)) (zDR hd 6 rfl) ?_)
      refine And.intro (zDP hd 7 rfl rfl (by omega) (by omega)) (fun v86 e86 r86 => ?_)
      have f86 : v86 = cuE w (x / 61 % 60).toNat 0 0 := (e86.trans ((congrArg (L (k + 7)) (show _ = 8 * (x / 61 % 60).toNat by omega)).trans (hck (x / 61 % 60).toNat (by omega)).2.2.1))
      have f86b : 0 ≤ v86 ∧ v86 ≤ 15000 := (by have z := cuE_b (ax := 0) (e := 0) hG (show (x / 61 % 60).toNat < w.length by omega); omega)
      refine And.intro (zDX hd 0 rfl) (zrdR (v := some (k + 7)) (zDR hd 6 rfl) ?_)
      refine And.intro (zDP hd 7 rfl rfl (by omega) (by omega)) (fun v95 e95 r95 => ?_)
      have f95 : v95 = cuE w i 0 0 := (e95.trans ((congrArg (L (k + 7)) (show _ = 8 * i by omega)).trans (hck i (by omega)).2.2.1))
      have f95b : 0 ≤ v95 ∧ v95 ≤ 15000 := (by have z := cuE_b (ax := 0) (e := 0) hG (show i < w.length by omega); omega)
      refine ⟨_, sn_V_rnk.up (by decide), ?_⟩
      refine ⟨(v86 : Int), (v95 : Int), rfl, (by clear hQ; grind [xu]), ?_⟩
      intro v96o p96hv
      refine ⟨_, _, ⟨zW6i (by omega), zW6i (zRL rfl)⟩, fun z104 c104 => ?_⟩
      refine And.intro c104.2.2 ⟨fun h105 => ?_, fun h105 => ?_⟩
      · have k105 : v96o = 0 := by omega
        clear h105 c104
        refine And.intro (zDX hd 0 rfl) (zrdR (v := some (k + 13)) (zDR hd 12 rfl) ?_)
        refine And.intro (zDP hd 13 rfl rfl (by omega) (by omega)) (fun v120 e120 r120 => ?_)
        have f120 : v120 = cuRk (x / 3660 % 5) := (e120.trans ((congrArg (I (k + 13)) (show _ = 3 * j + 0 by omega)).trans hfe.1))
        have f120b : 0 ≤ v120 ∧ v120 ≤ 5 := (by omega)
        refine And.intro (by omega) ?_
        refine ⟨_, _, ⟨zW6i (by omega), zW6i (zRL rfl)⟩, fun z129 c129 => ?_⟩
        refine And.intro c129.2.2 ⟨fun h130 => ?_, fun h130 => ?_⟩
        · have k130 : (v120 - b) = 0 := by omega
          clear h130 c129
          refine And.intro (by omega) ?_
          refine ⟨_, _, ⟨zW6i (by omega), zW6i (zRL rfl)⟩, fun z148 c148 => ?_⟩
          refine And.intro c148.2.2 ⟨fun h149 => ?_, fun h149 => ?_⟩
          · have k149 : (v9 - a) = 0 := by omega
            clear h149 c148
            refine And.intro (zDX hd 0 rfl) (zrdR (v := some (k + 13)) (zDR hd 12 rfl) ?_)
            refine And.intro (zDP hd 13 rfl rfl (by omega) (by omega)) (fun v166 e166 r166 => ?_)
            have f166 : v166 = x % 61 - 1 := (e166.trans ((congrArg (I (k + 13)) (show _ = 3 * j + 2 by omega)).trans hfe.2.2))
            have f166b : -1 ≤ v166 ∧ v166 ≤ 59 := (by omega)
            refine And.intro (by omega) ?_
            refine ⟨_, _, ⟨zW6i (by omega), zW6i (zRL rfl)⟩, fun z176 c176 => ?_⟩
            refine And.intro c176.2.2 ⟨fun h177 => ?_, fun h177 => ?_⟩
            · have k177 : (v166 - d) ≤ 0 := by omega
              clear h177 c176
              refine And.intro (Or.inl rfl) ?_
              refine hQ _ ?_
              · have T := cuCd_x (w := w) (kd := kd) (b := d) (i := i) (kd' := x / 3660 % 5) (b' := x % 61 - 1) (i' := (x / 61 % 60).toNat) hri.2 hrx.2 (by omega) (by omega) hkd.1 hdd (by omega) (by omega)
                rw [← hx2] at T
                first
                | (refine Or.inl ⟨rfl, T.1 ?_⟩
                   clear T
                   unfold cuLx
                   omega)
                | (refine Or.inr ⟨rfl, T.2 ?_⟩
                   clear T
                   unfold cuLx
                   omega)
            · have k177b : (v166 - d) > 0 := by omega
              clear h177 c176
              refine And.intro (Or.inr rfl) ?_
              refine hQ _ ?_
              · have T := cuCd_x (w := w) (kd := kd) (b := d) (i := i) (kd' := x / 3660 % 5) (b' := x % 61 - 1) (i' := (x / 61 % 60).toNat) hri.2 hrx.2 (by omega) (by omega) hkd.1 hdd (by omega) (by omega)
                rw [← hx2] at T
                first
                | (refine Or.inl ⟨rfl, T.1 ?_⟩
                   clear T
                   unfold cuLx
                   omega)
                | (refine Or.inr ⟨rfl, T.2 ?_⟩
                   clear T
                   unfold cuLx
                   omega)
          · have k149b : (v9 - a) ≠ 0 := by omega
            clear h149 c148
            refine ⟨_, _, ⟨zW6i (by omega), zW6i (zRL rfl)⟩, fun z176 c176 => ?_⟩
            refine And.intro c176.2.2 ⟨fun h177 => ?_, fun h177 => ?_⟩
            · have k177 : (v9 - a) ≤ 0 := by omega
              clear h177 c176
              refine And.intro (Or.inl rfl) ?_
              refine hQ _ ?_
              · have T := cuCd_x (w := w) (kd := kd) (b := d) (i := i) (kd' := x / 3660 % 5) (b' := x % 61 - 1) (i' := (x / 61 % 60).toNat) hri.2 hrx.2 (by omega) (by omega) hkd.1 hdd (by omega) (by omega)
                rw [← hx2] at T
                first
                | (refine Or.inl ⟨rfl, T.1 ?_⟩
                   clear T
                   unfold cuLx
                   omega)
                | (refine Or.inr ⟨rfl, T.2 ?_⟩
                   clear T
                   unfold cuLx
                   omega)
            · have k177b : (v9 - a) > 0 := by omega
              clear h177 c176
              refine And.intro (Or.inr rfl) ?_
              refine hQ _ ?_
              · have T := cuCd_x (w := w) (kd := kd) (b := d) (i := i) (kd' := x / 3660 % 5) (b' := x % 61 - 1) (i' := (x / 61 % 60).toNat) hri.2 hrx.2 (by omega) (by omega) hkd.1 hdd (by omega) (by omega)
                rw [← hx2] at T
                first
                | (refine Or.inl ⟨rfl, T.1 ?_⟩
                   clear T
                   unfold cuLx
                   omega)
                | (refine Or.inr ⟨rfl, T.2 ?_⟩
                   clear T
                   unfold cuLx
                   omega)
        · have k130b : (v120 - b) ≠ 0 := by omega
          clear h130 c129
          refine ⟨_, _, ⟨zW6i (by omega), zW6i (zRL rfl)⟩, fun z148 c148 => ?_⟩
          refine And.intro c148.2.2 ⟨(fun h149 => False.elim (by omega)), fun h149 => ?_⟩
          have k149 : (v120 - b) ≠ 0 := by omega
          clear h149 c148
          refine ⟨_, _, ⟨zW6i (by omega), zW6i (zRL rfl)⟩, fun z176 c176 => ?_⟩
          refine And.intro c176.2.2 ⟨fun h177 => ?_, fun h177 => ?_⟩
          · have k177 : (v120 - b) ≤ 0 := by omega
            clear h177 c176
            refine And.intro (Or.inl rfl) ?_
            refine hQ _ ?_
            · have T := cuCd_x (w := w) (kd := kd) (b := d) (i := i) (kd' := x / 3660 % 5) (b' := x % 61 - 1) (i' := (x / 61 % 60).toNat) hri.2 hrx.2 (by omega) (by omega) hkd.1 hdd (by omega) (by omega)
              rw [← hx2] at T
              first
              | (refine Or.inl ⟨rfl, T.1 ?_⟩
                 clear T
                 unfold cuLx
                 omega)
              | (refine Or.inr ⟨rfl, T.2 ?_⟩
                 clear T
                 unfold cuLx
                 omega)
          · have k177b : (v120 - b) > 0 := by omega
            clear h177 c176
            refine And.intro (Or.inr rfl) ?_
            refine hQ _ ?_
            · have T := cuCd_x (w := w) (kd := kd) (b := d) (i := i) (kd' := x / 3660 % 5) (b' := x % 61 - 1) (i' := (x / 61 % 60).toNat) hri.2 hrx.2 (by omega) (by omega) hkd.1 hdd (by omega) (by omega)
              rw [← hx2] at T
              first
              | (refine Or.inl ⟨rfl, T.1 ?_⟩
                 clear T
                 unfold cuLx
                 omega)
              | (refine Or.inr ⟨rfl, T.2 ?_⟩
                 clear T
                 unfold cuLx
                 omega)
      · have k105b : v96o ≠ 0 := by omega
        clear h105 c104
        refine ⟨_, _, ⟨zW6i (by omega), zW6i (zRL rfl)⟩, fun z129 c129 => ?_⟩
        refine And.intro c129.2.2 ⟨(fun h130 => False.elim (by omega)), fun h130 => ?_⟩
        have k130 : v96o ≠ 0 := by omega
        clear h130 c129
        refine ⟨_, _, ⟨zW6i (by omega), zW6i (zRL rfl)⟩, fun z148 c148 => ?_⟩
        refine And.intro c148.2.2 ⟨(fun h149 => False.elim (by omega)), fun h149 => ?_⟩
        have k149 : v96o ≠ 0 := by omega
        clear h149 c148
        refine ⟨_, _, ⟨zW6i (by omega), zW6i (zRL rfl)⟩, fun z176 c176 => ?_⟩
        refine And.intro c176.2.2 ⟨fun h177 => ?_, fun h177 => ?_⟩
        · have k177 : v96o ≤ 0 := by omega
          clear h177 c176
          refine And.intro (Or.inl rfl) ?_
          refine hQ _ ?_
          · have T := cuCd_x (w := w) (kd := kd) (b := d) (i := i) (kd' := x / 3660 % 5) (b' := x % 61 - 1) (i' := (x / 61 % 60).toNat) hri.2 hrx.2 (by omega) (by omega) hkd.1 hdd (by omega) (by omega)
            rw [← hx2] at T
            first
            | (refine Or.inl ⟨rfl, T.1 ?_⟩
               clear T
               unfold cuLx
               omega)
            | (refine Or.inr ⟨rfl, T.2 ?_⟩
               clear T
               unfold cuLx
               omega)
        · have k177b : v96o > 0 := by omega
          clear h177 c176
          refine And.intro (Or.inr rfl) ?_
          refine hQ _ ?_
          · have T := cuCd_x (w := w) (kd := kd) (b := d) (i := i) (kd' := x / 3660 % 5) (b' := x % 61 - 1) (i' := (x / 61 % 60).toNat) hri.2 hrx.2 (by omega) (by omega) hkd.1 hdd (by omega) (by omega)
            rw [← hx2] at T
            first
            | (refine Or.inl ⟨rfl, T.1 ?_⟩
               clear T
               unfold cuLx
               omega)
            | (refine Or.inr ⟨rfl, T.2 ?_⟩
               clear T
               unfold cuLx
               omega)
    · have k69b : v60o ≠ 0 := by omega
      clear h69 c68
      refine ⟨_, _, ⟨zW6i (by omega), zW6i (zRL rfl)⟩, fun z104 c104 => ?_⟩
      refine And.intro c104.2.2 ⟨(fun h105 => False.elim (by omega)), fun h105 => ?_⟩
      have k105 : v60o ≠ 0 := by omega
      clear h105 c104
      refine ⟨_, _, ⟨zW6i (by omega), zW6i (zRL rfl)⟩, fun z129 c129 => ?_⟩
      refine And.intro c129.2.2 ⟨(fun h130 => False.elim (by omega)), fun h130 => ?_⟩
      have k130 : v60o ≠ 0 := by omega
      clear h130 c129
      refine ⟨_, _, ⟨zW6i (by omega), zW6i (zRL rfl)⟩, fun z148 c148 => ?_⟩
      refine And.intro c148.2.2 ⟨(fun h149 => False.elim (by omega)), fun h149 => ?_⟩
      have k149 : v60o ≠ 0 := by omega
      clear h149 c148
      refine ⟨_, _, ⟨zW6i (by omega), zW6i (zRL rfl)⟩, fun z176 c176 => ?_⟩
      refine And.intro c176.2.2 ⟨fun h177 => ?_, fun h177 => ?_⟩
      · have k177 : v60o ≤ 0 := by omega
        clear h177 c176
        refine And.intro (Or.inl rfl) ?_
        refine hQ _ ?_
        · have T := cuCd_x (w := w) (kd := kd) (b := d) (i := i) (kd' := x / 3660 % 5) (b' := x % 61 - 1) (i' := (x / 61 % 60).toNat) hri.2 hrx.2 (by omega) (by omega) hkd.1 hdd (by omega) (by omega)
          rw [← hx2] at T
          first
          | (refine Or.inl ⟨rfl, T.1 ?_⟩
             clear T
             unfold cuLx
             omega)
          | (refine Or.inr ⟨rfl, T.2 ?_⟩
             clear T
             unfold cuLx
             omega)
      · have k177b : v60o > 0 := by omega
        clear h177 c176
        refine And.intro (Or.inr rfl) ?_
        refine hQ _ ?_
        · have T := cuCd_x (w := w) (kd := kd) (b := d) (i := i) (kd' := x / 3660 % 5) (b' := x % 61 - 1) (i' := (x / 61 % 60).toNat) hri.2 hrx.2 (by omega) (by omega) hkd.1 hdd (by omega) (by omega)
          rw [← hx2] at T
          first
          | (refine Or.inl ⟨rfl, T.1 ?_⟩
             clear T
             unfold cuLx
             omega)
          | (refine Or.inr ⟨rfl, T.2 ?_⟩
             clear T
             unfold cuLx
             omega)
  · have k33b : (v18 - v24) ≠ 0 := by omega
    clear h33 c32
    refine ⟨_, _, ⟨zW6i (by omega), zW6i (zRL rfl)⟩, fun z68 c68 => ?_⟩
    refine And.intro c68.2.2 ⟨(fun h69 => False.elim (by omega)), fun h69 => ?_⟩
    have k69 : (v18 - v24) ≠ 0 := by omega
    clear h69 c68
    refine ⟨_, _, ⟨zW6i (by omega), zW6i (zRL rfl)⟩, fun z104 c104 => ?_⟩
    refine And.intro c104.2.2 ⟨(fun h105 => False.elim (by omega)), fun h105 => ?_⟩
    have k105 : (v18 - v24) ≠ 0 := by omega
    clear h105 c104
    refine ⟨_, _, ⟨zW6i (by omega), zW6i (zRL rfl)⟩, fun z129 c129 => ?_⟩
    refine And.intro c129.2.2 ⟨(fun h130 => False.elim (by omega)), fun h130 => ?_⟩
    have k130 : (v18 - v24) ≠ 0 := by omega
    clear h130 c129
    refine ⟨_, _, ⟨zW6i (by omega), zW6i (zRL rfl)⟩, fun z148 c148 => ?_⟩
    refine And.intro c148.2.2 ⟨(fun h149 => False.elim (by omega)), fun h149 => ?_⟩
    have k149 : (v18 - v24) ≠ 0 := by omega
    clear h149 c148
    refine ⟨_, _, ⟨zW6i (by omega), zW6i (zRL rfl)⟩, fun z176 c176 => ?_⟩
    refine And.intro c176.2.2 ⟨fun h177 => ?_, fun h177 => ?_⟩
    · have k177 : (v18 - v24) ≤ 0 := by omega
      clear h177 c176
      refine And.intro (Or.inl rfl) ?_
      refine hQ _ ?_
      · have T := cuCd_x (w := w) (kd := kd) (b := d) (i := i) (kd' := x / 3660 % 5) (b' := x % 61 - 1) (i' := (x / 61 % 60).toNat) hri.2 hrx.2 (by omega) (by omega) hkd.1 hdd (by omega) (by omega)
        rw [← hx2] at T
        first
        | (refine Or.inl ⟨rfl, T.1 ?_⟩
           clear T
           unfold cuLx
           omega)
        | (refine Or.inr ⟨rfl, T.2 ?_⟩
           clear T
           unfold cuLx
           omega)
    · have k177b : (v18 - v24) > 0 := by omega
      clear h177 c176
      refine And.intro (Or.inr rfl) ?_
      refine hQ _ ?_
      · have T := cuCd_x (w := w) (kd := kd) (b := d) (i := i) (kd' := x / 3660 % 5) (b' := x % 61 - 1) (i' := (x / 61 % 60).toNat) hri.2 hrx.2 (by omega) (by omega) hkd.1 hdd (by omega) (by omega)
        rw [← hx2] at T
        first
        | (refine Or.inl ⟨rfl, T.1 ?_⟩
           clear T
           unfold cuLx
           omega)
        | (refine Or.inr ⟨rfl, T.2 ?_⟩
           clear T
           unfold cuLx
           omega))
