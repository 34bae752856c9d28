/-! bd -/
def T_A_cell : ZT := fun args I L R S Q => ∃ (W : Nat) (H : Nat) (D : Nat) (l : Int) (i : Int) (j : Int), args = [zvr 82, zvi l, zvi i, zvi j] ∧ (zSh S) ∧ (zRs R) ∧ (I 82 1 = W) ∧ (I 82 2 = H) ∧ (I 82 3 = D) ∧ (1 ≤ W ∧ W ≤ 16 ∧ 1 ≤ H ∧ H ≤ 16 ∧ 1 ≤ D ∧ D ≤ 4) ∧ (W * H * D ≤ 1024) ∧ (r32 l ∧ r32 i ∧ r32 j) ∧ ∀ (v : Int), (v = cxI W H D l i j) → (-1 ≤ v ∧ v ≤ 1023 ∧ v < (W * H * D : Nat)) → Q (some (zvi (v))) I L R S
theorem sn_A_cell : ZSnd 1 0 5 T_A_cell := ZSnd.of (zT0_5 0) (by
  rintro args I L R S Q hz ⟨W, H, D, l, i, j, rfl, hS, hR, hw, hh, hd, hsz, hb9, hr, hQ⟩
  refine And.intro rfl ?_
  refine And.intro (by omega) ⟨fun h1 => ?_, fun h1 => ?_⟩
  · refine And.intro (zRb rfl) (zbt rfl ?_)
    refine hQ _ ?_ ?_
    · unfold cxI
      first
      | rw [if_neg (by omega)]
      | (rw [if_pos (by omega)]
         show _ = (((l.toNat * H + j.toNat) * W + i.toNat : Nat) : Int)
         rw [Int.natCast_add, Int.natCast_mul, Int.natCast_add, Int.natCast_mul, Int.toNat_of_nonneg (by omega), Int.toNat_of_nonneg (by omega), Int.toNat_of_nonneg (by omega)])
    · have hp : 0 < W * H * D := Nat.mul_pos (Nat.mul_pos (by omega) (by omega)) (by omega)
      first
      | omega
      | (have q := cx_lt (W := W) (H := H) (D := D) (l := l.toNat) (i := i.toNat) (j := j.toNat) (by omega) (by omega) (by omega)
         have e : (((l.toNat * H + j.toNat) * W + i.toNat : Nat) : Int) = (l * H + j) * W + i := by
           rw [Int.natCast_add, Int.natCast_mul, Int.natCast_add, Int.natCast_mul, Int.toNat_of_nonneg (by omega), Int.toNat_of_nonneg (by omega), Int.toNat_of_nonneg (by omega)]
         omega)
  · refine And.intro (zA_82 hS) (zrd (v := D) hd ?_)
    refine And.intro ⟨(by omega), (by omega)⟩ ⟨fun h9 => ?_, fun h9 => ?_⟩
    · refine And.intro (zRb rfl) (zbt rfl ?_)
      refine hQ _ ?_ ?_
      · unfold cxI
        first
        | rw [if_neg (by omega)]
        | (rw [if_pos (by omega)]
           show _ = (((l.toNat * H + j.toNat) * W + i.toNat : Nat) : Int)
           rw [Int.natCast_add, Int.natCast_mul, Int.natCast_add, Int.natCast_mul, Int.toNat_of_nonneg (by omega), Int.toNat_of_nonneg (by omega), Int.toNat_of_nonneg (by omega)])
      · have hp : 0 < W * H * D := Nat.mul_pos (Nat.mul_pos (by omega) (by omega)) (by omega)
        first
        | omega
        | (have q := cx_lt (W := W) (H := H) (D := D) (l := l.toNat) (i := i.toNat) (j := j.toNat) (by omega) (by omega) (by omega)
           have e : (((l.toNat * H + j.toNat) * W + i.toNat : Nat) : Int) = (l * H + j) * W + i := by
             rw [Int.natCast_add, Int.natCast_mul, Int.natCast_add, Int.natCast_mul, Int.toNat_of_nonneg (by omega), Int.toNat_of_nonneg (by omega), Int.toNat_of_nonneg (by omega)]
           omega)
    · refine And.intro (by omega) ⟨fun h13 => ?_, fun h13 => ?_⟩
      · refine And.intro (zRb rfl) (zbt rfl ?_)
        refine hQ _ ?_ ?_
        · unfold cxI
          first
          | rw [if_neg (by omega)]
          | (rw [if_pos (by omega)]
             show _ = (((l.toNat * H + j.toNat) * W + i.toNat : Nat) : Int)
             rw [Int.natCast_add, Int.natCast_mul, Int.natCast_add, Int.natCast_mul, Int.toNat_of_nonneg (by omega), Int.toNat_of_nonneg (by omega), Int.toNat_of_nonneg (by omega)])
        · have hp : 0 < W * H * D := Nat.mul_pos (Nat.mul_pos (by omega) (by omega)) (by omega)
          first
          | omega
          | (have q := cx_lt (W := W) (H := H) (D := D) (l := l.toNat) (i := i.toNat) (j := j.toNat) (by omega) (by omega) (by omega)
             have e : (((l.toNat * H + j.toNat) * W + i.toNat : Nat) : Int) = (l * H + j) * W + i := by
               rw [Int.natCast_add, Int.natCast_mul, Int.natCast_add, Int.natCast_mul, Int.toNat_of_nonneg (by omega), Int.toNat_of_nonneg (by omega), Int.toNat_of_nonneg (by omega)]
             omega)
      · refine And.intro (zA_82 hS) (zrd (v := W) hw ?_)
        refine And.intro ⟨(by omega), (by omega)⟩ ⟨fun h21 => ?_, fun h21 => ?_⟩
        · refine And.intro (zRb rfl) (zbt rfl ?_)
          refine hQ _ ?_ ?_
          · unfold cxI
            first
            | rw [if_neg (by omega)]
            | (rw [if_pos (by omega)]
               show _ = (((l.toNat * H + j.toNat) * W + i.toNat : Nat) : Int)
               rw [Int.natCast_add, Int.natCast_mul, Int.natCast_add, Int.natCast_mul, Int.toNat_of_nonneg (by omega), Int.toNat_of_nonneg (by omega), Int.toNat_of_nonneg (by omega)])
          · have hp : 0 < W * H * D := Nat.mul_pos (Nat.mul_pos (by omega) (by omega)) (by omega)
            first
            | omega
            | (have q := cx_lt (W := W) (H := H) (D := D) (l := l.toNat) (i := i.toNat) (j := j.toNat) (by omega) (by omega) (by omega)
               have e : (((l.toNat * H + j.toNat) * W + i.toNat : Nat) : Int) = (l * H + j) * W + i := by
                 rw [Int.natCast_add, Int.natCast_mul, Int.natCast_add, Int.natCast_mul, Int.toNat_of_nonneg (by omega), Int.toNat_of_nonneg (by omega), Int.toNat_of_nonneg (by omega)]
               omega)
        · refine And.intro (by omega) ⟨fun h25 => ?_, fun h25 => ?_⟩
          · refine And.intro (zRb rfl) (zbt rfl ?_)
            refine hQ _ ?_ ?_
            · unfold cxI
              first
              | rw [if_neg (by omega)]
              | (rw [if_pos (by omega)]
                 show _ = (((l.toNat * H + j.toNat) * W + i.toNat : Nat) : Int)
                 rw [Int.natCast_add, Int.natCast_mul, Int.natCast_add, Int.natCast_mul, Int.toNat_of_nonneg (by omega), Int.toNat_of_nonneg (by omega), Int.toNat_of_nonneg (by omega)])
            · have hp : 0 < W * H * D := Nat.mul_pos (Nat.mul_pos (by omega) (by omega)) (by omega)
              first
              | omega
              | (have q := cx_lt (W := W) (H := H) (D := D) (l := l.toNat) (i := i.toNat) (j := j.toNat) (by omega) (by omega) (by omega)
                 have e : (((l.toNat * H + j.toNat) * W + i.toNat : Nat) : Int) = (l * H + j) * W + i := by
                   rw [Int.natCast_add, Int.natCast_mul, Int.natCast_add, Int.natCast_mul, Int.toNat_of_nonneg (by omega), Int.toNat_of_nonneg (by omega), Int.toNat_of_nonneg (by omega)]
                 omega)
          · refine And.intro (zA_82 hS) (zrd (v := H) hh ?_)
            refine And.intro ⟨(by omega), (by omega)⟩ ⟨fun h33 => ?_, fun h33 => ?_⟩
            · refine And.intro (zRb rfl) (zbt rfl ?_)
              refine hQ _ ?_ ?_
              · unfold cxI
                first
                | rw [if_neg (by omega)]
                | (rw [if_pos (by omega)]
                   show _ = (((l.toNat * H + j.toNat) * W + i.toNat : Nat) : Int)
                   rw [Int.natCast_add, Int.natCast_mul, Int.natCast_add, Int.natCast_mul, Int.toNat_of_nonneg (by omega), Int.toNat_of_nonneg (by omega), Int.toNat_of_nonneg (by omega)])
              · have hp : 0 < W * H * D := Nat.mul_pos (Nat.mul_pos (by omega) (by omega)) (by omega)
                first
                | omega
                | (have q := cx_lt (W := W) (H := H) (D := D) (l := l.toNat) (i := i.toNat) (j := j.toNat) (by omega) (by omega) (by omega)
                   have e : (((l.toNat * H + j.toNat) * W + i.toNat : Nat) : Int) = (l * H + j) * W + i := by
                     rw [Int.natCast_add, Int.natCast_mul, Int.natCast_add, Int.natCast_mul, Int.toNat_of_nonneg (by omega), Int.toNat_of_nonneg (by omega), Int.toNat_of_nonneg (by omega)]
                   omega)
            · refine And.intro (zRb rfl) (zbf rfl ?_)
              refine And.intro (zA_82 hS) (zrd (v := H) hh ?_)
              refine And.intro (zA_82 hS) (zrd (v := W) hw ?_)
              refine hQ _ ?_ ?_
              · unfold cxI
                first
                | rw [if_neg (by omega)]
                | (rw [if_pos (by omega)]
                   show _ = (((l.toNat * H + j.toNat) * W + i.toNat : Nat) : Int)
                   rw [Int.natCast_add, Int.natCast_mul, Int.natCast_add, Int.natCast_mul, Int.toNat_of_nonneg (by omega), Int.toNat_of_nonneg (by omega), Int.toNat_of_nonneg (by omega)])
              · have hp : 0 < W * H * D := Nat.mul_pos (Nat.mul_pos (by omega) (by omega)) (by omega)
                first
                | omega
                | (have q := cx_lt (W := W) (H := H) (D := D) (l := l.toNat) (i := i.toNat) (j := j.toNat) (by omega) (by omega) (by omega)
                   have e : (((l.toNat * H + j.toNat) * W + i.toNat : Nat) : Int) = (l * H + j) * W + i := by
                     rw [Int.natCast_add, Int.natCast_mul, Int.natCast_add, Int.natCast_mul, Int.toNat_of_nonneg (by omega), Int.toNat_of_nonneg (by omega), Int.toNat_of_nonneg (by omega)]
                   omega))
def T_A_lay : ZT := fun args I L R S Q => ∃ (W : Nat) (H : Nat) (D : Nat) (a : Int) (c : Nat), args = [zvr 82, zvi a] ∧ (zSh S) ∧ (zRs R) ∧ (I 82 1 = W) ∧ (I 82 2 = H) ∧ (I 82 3 = D) ∧ (1 ≤ W ∧ W ≤ 16 ∧ 1 ≤ H ∧ H ≤ 16 ∧ 1 ≤ D ∧ D ≤ 4) ∧ (a = c) ∧ (c < W * H * D) ∧ (W * H * D ≤ 1024) ∧ ∀ (v : Int), (v = (c / W / H : Nat)) → (0 ≤ v ∧ v < D) → Q (some (zvi (v))) I L R S
theorem sn_A_lay : ZSnd 1 0 14 T_A_lay := ZSnd.of (zT0_14 0) (by
  rintro args I L R S Q hz ⟨W, H, D, a, c, rfl, hS, hR, hw, hh, hd, hsz, ha, hc, hb9, hQ⟩
  have hq := cx_of hc
  refine And.intro rfl ?_
  refine And.intro (zA_82 hS) (zrd (v := W) hw ?_)
  refine And.intro ⟨(by omega), (by omega), (by omega)⟩ (zdv (by omega) (fun q5 e5 => ?_))
  have f5 : q5 = (c / W : Nat) := (by subst ha; rw [e5]; exact (Int.natCast_ediv _ _).symm)
  have f5b : 0 ≤ q5 ∧ q5 ≤ 1024 := (by rw [f5]; exact ⟨Int.natCast_nonneg _, by have := Nat.div_le_self c W; omega⟩)
  refine And.intro (zA_82 hS) (zrd (v := H) hh ?_)
  refine And.intro ⟨(by omega), (by omega), (by omega)⟩ (zdv (by omega) (fun q10 e10 => ?_))
  refine hQ _ (by rw [e10, f5]; exact (Int.natCast_ediv _ _).symm) (by rw [e10, f5, ← Int.natCast_ediv]; exact ⟨Int.natCast_nonneg _, by have := hq.1; omega⟩))
def T_A_row : ZT := fun args I L R S Q => ∃ (W : Nat) (H : Nat) (D : Nat) (a : Int) (c : Nat), args = [zvr 82, zvi a] ∧ (zSh S) ∧ (zRs R) ∧ (I 82 1 = W) ∧ (I 82 2 = H) ∧ (I 82 3 = D) ∧ (1 ≤ W ∧ W ≤ 16 ∧ 1 ≤ H ∧ H ≤ 16 ∧ 1 ≤ D ∧ D ≤ 4) ∧ (a = c) ∧ (c < W * H * D) ∧ (W * H * D ≤ 1024) ∧ ∀ (v : Int), (v = (c / W % H : Nat)) → (0 ≤ v ∧ v < H) → Q (some (zvi (v))) I L R S
theorem sn_A_row : ZSnd 1 0 21 T_A_row := ZSnd.of (zT0_21 0) (by
  rintro args I L R S Q hz ⟨W, H, D, a, c, rfl, hS, hR, hw, hh, hd, hsz, ha, hc, hb9, hQ⟩
  have hq := cx_of hc
  refine And.intro rfl ?_
  refine And.intro (zA_82 hS) (zrd (v := W) hw ?_)
  refine And.intro ⟨(by omega), (by omega), (by omega)⟩ (zdv (by omega) (fun q5 e5 => ?_))
  have f5 : q5 = (c / W : Nat) := (by subst ha; rw [e5]; exact (Int.natCast_ediv _ _).symm)
  have f5b : 0 ≤ q5 ∧ q5 ≤ 1024 := (by rw [f5]; exact ⟨Int.natCast_nonneg _, by have := Nat.div_le_self c W; omega⟩)
  refine And.intro (zA_82 hS) (zrd (v := H) hh ?_)
  refine And.intro ⟨(by omega), (by omega), (by omega)⟩ (zdv (by omega) (fun q10 e10 => ?_))
  refine hQ _ (by rw [e10, f5]; exact (Int.natCast_emod _ _).symm) (by rw [e10, f5, ← Int.natCast_emod]; exact ⟨Int.natCast_nonneg _, by have := hq.2.2.1; omega⟩))
def T_A_col : ZT := fun args I L R S Q => ∃ (W : Nat) (H : Nat) (D : Nat) (a : Int) (c : Nat), args = [zvr 82, zvi a] ∧ (zSh S) ∧ (zRs R) ∧ (I 82 1 = W) ∧ (I 82 2 = H) ∧ (I 82 3 = D) ∧ (1 ≤ W ∧ W ≤ 16 ∧ 1 ≤ H ∧ H ≤ 16 ∧ 1 ≤ D ∧ D ≤ 4) ∧ (a = c) ∧ (c < W * H * D) ∧ (W * H * D ≤ 1024) ∧ ∀ (v : Int), (v = (c % W : Nat)) → (0 ≤ v ∧ v < W) → Q (some (zvi (v))) I L R S
theorem sn_A_col : ZSnd 1 0 6 T_A_col := ZSnd.of (zT0_6 0) (by
  rintro args I L R S Q hz ⟨W, H, D, a, c, rfl, hS, hR, hw, hh, hd, hsz, ha, hc, hb9, hQ⟩
  have hq := cx_of hc
  refine And.intro rfl ?_
  refine And.intro (zA_82 hS) (zrd (v := W) hw ?_)
  refine And.intro ⟨(by omega), (by omega), (by omega)⟩ (zdv (by omega) (fun q5 e5 => ?_))
  refine hQ _ (by subst ha; rw [e5]; exact (Int.natCast_emod _ _).symm) (by subst ha; rw [e5, ← Int.natCast_emod]; exact ⟨Int.natCast_nonneg _, by have := hq.2.1; omega⟩))
def T_A_nb : ZT := fun args I L R S Q => ∃ (W : Nat) (H : Nat) (D : Nat) (a : Int) (c : Nat) (b : Int) (x : Nat), args = [zvr 82, zvi a, zvi b] ∧ (zSh S) ∧ (zRs R) ∧ (a = c) ∧ (c < W * H * D) ∧ (W * H * D ≤ 1024) ∧ (b = x ∧ x < 6) ∧ (∀ c x : Nat, c < W * H * D → x < 6 → I 83 (6 * c + x) = nbI W H D c x) ∧ ∀ (v : Int), (v = nbI W H D c x) → (-1 ≤ v ∧ v < (W * H * D : Nat) ∧ v ≤ 1023) → Q (some (zvi (v))) I L R S
theorem sn_A_nb : ZSnd 1 0 16 T_A_nb := ZSnd.of (zT0_16 0) (by
  rintro args I L R S Q hz ⟨W, H, D, a, c, b, x, rfl, hS, hR, ha, hc, hb9, hb, hnb, hQ⟩
  refine And.intro rfl ?_
  refine And.intro (zA_82 hS) (zrdR (v := some 83) (zR_82_5 hR) ?_)
  refine And.intro (zP_83 hS (by omega) (by omega)) (fun v10 e10 r10 => ?_)
  have f10 : v10 = nbI W H D c x := (e10.trans ((congrArg (I 83) (by omega)).trans (hnb c x hc hb.2)))
  refine hQ _ f10 (by have q := nbI_b (c := c) (s := x) hb9; rw [f10]; omega))
def T_A_findN : ZT := fun args I L R S Q => ∃ (W : Nat) (H : Nat) (D : Nat), args = [zvr 82] ∧ (zSh S) ∧ (zRs R) ∧ (I 82 1 = W) ∧ (I 82 2 = H) ∧ (I 82 3 = D) ∧ (1 ≤ W ∧ W ≤ 16 ∧ 1 ≤ H ∧ H ≤ 16 ∧ 1 ≤ D ∧ D ≤ 4) ∧ (W * H * D ≤ 1024) ∧ ∀ (I' : ZI), (∀ c x : Nat, c < W * H * D → x < 6 → I' 83 (6 * c + x) = nbI W H D c x) → (∀ c j : Nat, ¬ c = 83 → I' c j = I c j) → Q none I' L R S
theorem sn_A_findN : ZSnd 2 0 8 T_A_findN := ZSnd.loops (zT0_8 1) (by
  rintro args I L R S Q hz ⟨W, H, D, rfl, hS, hR, hw, hh, hd, hsz, hb9, hQ⟩
  have hm1 := zmb (a := W) (b := H) (by omega) (show (W : Int) ≤ 16 by omega) (by omega) (show (H : Int) ≤ 16 by omega)
  have hm2 := zmb (a := (W : Int) * H) (b := D) (by omega) hm1.2 (by omega) (show (D : Int) ≤ 4 by omega)
  have hm3 : ((W * H * D : Nat) : Int) = (W : Int) * H * D := by rw [Int.natCast_mul, Int.natCast_mul]
  refine ⟨[2], fun nM tM lsM stM I1 L1 R1 S1 => match tM with
      | 2 => ∃ (c : Nat), nM = ((1025 - c), 0, 0) ∧ lsM = [some (zvr (82)), some (zvi (c)), none, none, none, none] ∧ stM = [] ∧ L1 = L ∧ R1 = R ∧ S1 = S ∧ (c ≤ W * H * D) ∧ (∀ p x : Nat, p < c → x < 6 → I1 83 (6 * p + x) = nbI W H D p x) ∧ (∀ c j : Nat, ¬ c = 83 → I1 c j = I c j)
      | _ => False, rfl, ?_, ⟨?_, True.intro⟩⟩
  · refine ⟨((1025 - (0 : Nat)), 0, 0), [some (zvr (82)), some (zvi ((0 : Nat))), none, none, none, none], ⟨rfl, rfl, rfl⟩, 0, rfl, rfl, rfl, rfl, rfl, rfl, (by omega), (fun p x h _ => absurd h (Nat.not_lt_zero p)), (fun c j h0 => rfl)⟩
  · rintro nM lsM stM I1 L1 R1 S1 hz1 ⟨c, rfl, rfl, rfl, rfl, rfl, rfl, hc, hn, fr⟩
    refine And.intro (zA_82 hS) (zrd (v := W) ((fr 82 1 (by omega)).trans hw) ?_)
    refine And.intro (zA_82 hS) (zrd (v := H) ((fr 82 2 (by omega)).trans hh) ?_)
    refine And.intro (zA_82 hS) (zrd (v := D) ((fr 82 3 (by omega)).trans hd) ?_)
    refine And.intro ⟨(by omega), (by omega)⟩ ⟨fun h17 => ?_, fun h17 => ?_⟩
    · refine hQ _ (fun p x hp hx => hn p x (by omega) hx) (fun c j h0 => ((fr c j (by omega)).trans rfl))
    · have t17 : c + 1 ≤ W * H * D := (by omega)
      refine And.intro (zA_82 hS) ⟨_, sn_A_lay.up (by decide), ?_⟩
      refine ⟨_, _, _, (c : Int), c, rfl, hS, hR, ((fr 82 1 (by omega)).trans hw), ((fr 82 2 (by omega)).trans hh), ((fr 82 3 (by omega)).trans hd), (by omega), (by omega), (by omega), (by omega), ?_⟩
      intro v22o p22hv p22bhv2
      refine And.intro (zA_82 hS) ⟨_, sn_A_col.up (by decide), ?_⟩
      refine ⟨_, _, _, (c : Int), c, rfl, hS, hR, ((fr 82 1 (by omega)).trans hw), ((fr 82 2 (by omega)).trans hh), ((fr 82 3 (by omega)).trans hd), (by omega), (by omega), (by omega), (by omega), ?_⟩
      intro v28o p28hv p28bhv2
      refine And.intro (zA_82 hS) ⟨_, sn_A_row.up (by decide), ?_⟩
      refine ⟨_, _, _, (c : Int), c, rfl, hS, hR, ((fr 82 1 (by omega)).trans hw), ((fr 82 2 (by omega)).trans hh), ((fr 82 3 (by omega)).trans hd), (by omega), (by omega), (by omega), (by omega), ?_⟩
      intro v34o p34hv p34bhv2
      refine And.intro (zA_82 hS) (zrdR (v := some 83) (zR_82_5 hR) ?_)
      refine And.intro (zA_82 hS) ⟨_, sn_A_cell.up (by decide), ?_⟩
      refine ⟨_, _, _, ((v22o - 1) : Int), (v28o : Int), (v34o : Int), rfl, hS, hR, ((fr 82 1 (by omega)).trans hw), ((fr 82 2 (by omega)).trans hh), ((fr 82 3 (by omega)).trans hd), (by omega), (by omega), (by omega), ?_⟩
      intro v58o p58hv p58bhv2
      refine And.intro ⟨(zx0 rfl), (zP_83 hS (by omega) (by omega))⟩ ⟨_, (zWi (by omega)), ?_⟩
      refine And.intro (zA_82 hS) (zrdR (v := some 83) (zR_82_5 hR) ?_)
      refine And.intro (zA_82 hS) ⟨_, sn_A_cell.up (by decide), ?_⟩
      refine ⟨_, _, _, (v22o : Int), (v28o : Int), ((v34o - 1) : Int), rfl, hS, hR, ((fr 82 1 (by omega)).trans hw), ((fr 82 2 (by omega)).trans hh), ((fr 82 3 (by omega)).trans hd), (by omega), (by omega), (by omega), ?_⟩
      intro v77o p77hv p77bhv2
      refine And.intro ⟨(zx0 rfl), (zP_83 hS (by omega) (by omega))⟩ ⟨_, (zWi (by omega)), ?_⟩
      refine And.intro (zA_82 hS) (zrdR (v := some 83) (zR_82_5 hR) ?_)
      refine And.intro (zA_82 hS) ⟨_, sn_A_cell.up (by decide), ?_⟩
      refine ⟨_, _, _, (v22o : Int), ((v28o - 1) : Int), (v34o : Int), rfl, hS, hR, ((fr 82 1 (by omega)).trans hw), ((fr 82 2 (by omega)).trans hh), ((fr 82 3 (by omega)).trans hd), (by omega), (by omega), (by omega), ?_⟩
      intro v96o p96hv p96bhv2
      refine And.intro ⟨(zx0 rfl), (zP_83 hS (by omega) (by omega))⟩ ⟨_, (zWi (by omega)), ?_⟩
      refine And.intro (zA_82 hS) (zrdR (v := some 83) (zR_82_5 hR) ?_)
      refine And.intro (zA_82 hS) ⟨_, sn_A_cell.up (by decide), ?_⟩
      refine ⟨_, _, _, (v22o : Int), ((v28o + 1) : Int), (v34o : Int), rfl, hS, hR, ((fr 82 1 (by omega)).trans hw), ((fr 82 2 (by omega)).trans hh), ((fr 82 3 (by omega)).trans hd), (by omega), (by omega), (by omega), ?_⟩
      intro v115o p115hv p115bhv2
      refine And.intro ⟨(zx0 rfl), (zP_83 hS (by omega) (by omega))⟩ ⟨_, (zWi (by omega)), ?_⟩
      refine And.intro (zA_82 hS) (zrdR (v := some 83) (zR_82_5 hR) ?_)
      refine And.intro (zA_82 hS) ⟨_, sn_A_cell.up (by decide), ?_⟩
      refine ⟨_, _, _, (v22o : Int), (v28o : Int), ((v34o + 1) : Int), rfl, hS, hR, ((fr 82 1 (by omega)).trans hw), ((fr 82 2 (by omega)).trans hh), ((fr 82 3 (by omega)).trans hd), (by omega), (by omega), (by omega), ?_⟩
      intro v134o p134hv p134bhv2
      refine And.intro ⟨(zx0 rfl), (zP_83 hS (by omega) (by omega))⟩ ⟨_, (zWi (by omega)), ?_⟩
      refine And.intro (zA_82 hS) (zrdR (v := some 83) (zR_82_5 hR) ?_)
      refine And.intro (zA_82 hS) ⟨_, sn_A_cell.up (by decide), ?_⟩
      refine ⟨_, _, _, ((v22o + 1) : Int), (v28o : Int), (v34o : Int), rfl, hS, hR, ((fr 82 1 (by omega)).trans hw), ((fr 82 2 (by omega)).trans hh), ((fr 82 3 (by omega)).trans hd), (by omega), (by omega), (by omega), ?_⟩
      intro v153o p153hv p153bhv2
      refine And.intro ⟨(zx0 rfl), (zP_83 hS (by omega) (by omega))⟩ ⟨_, (zWi (by omega)), ?_⟩
      refine ⟨((1025 - (c + 1)), 0, 0), zlt6 (by omega), [some (zvr (82)), some (zvi ((c + 1))), none, none, none, none], ⟨rfl, rfl, rfl⟩, (c + 1), rfl, rfl, rfl, rfl, rfl, rfl, (by omega), ?_, (fun c j h0 => (zxu h0 (zxu h0 (zxu h0 (zxu h0 (zxu h0 (zxu h0 ((fr c j (by omega)).trans rfl))))))))⟩
      · intro p x hp hx
        by_cases h : p = c
        · subst h
          have z9 : x = 0 ∨ x = 1 ∨ x = 2 ∨ x = 3 ∨ x = 4 ∨ x = 5 := by omega
          unfold nbI
          rcases z9 with rfl | rfl | rfl | rfl | rfl | rfl
          · rw [if_pos rfl, show 6 * p + 0 = ((p : Int) * 6).toNat by omega]
            refine zxs (by omega) (zxs (by omega) (zxs (by omega) (zxs (by omega) (zxs (by omega) (zxe.trans (p58hv.trans ?_))))))
            rw [p22hv, p28hv, p34hv]
          · rw [if_neg (by decide), if_pos rfl, show 6 * p + 1 = ((p : Int) * 6 + 1).toNat by omega]
            refine zxs (by omega) (zxs (by omega) (zxs (by omega) (zxs (by omega) (zxe.trans (p77hv.trans ?_)))))
            rw [p22hv, p28hv, p34hv]
          · rw [if_neg (by decide), if_neg (by decide), if_pos rfl, show 6 * p + 2 = ((p : Int) * 6 + 2).toNat by omega]
            refine zxs (by omega) (zxs (by omega) (zxs (by omega) (zxe.trans (p96hv.trans ?_))))
            rw [p22hv, p28hv, p34hv]
          · rw [if_neg (by decide), if_neg (by decide), if_neg (by decide), if_pos rfl, show 6 * p + 3 = ((p : Int) * 6 + 3).toNat by omega]
            refine zxs (by omega) (zxs (by omega) (zxe.trans (p115hv.trans ?_)))
            rw [p22hv, p28hv, p34hv]
          · rw [if_neg (by decide), if_neg (by decide), if_neg (by decide), if_neg (by decide), if_pos rfl, show 6 * p + 4 = ((p : Int) * 6 + 4).toNat by omega]
            refine zxs (by omega) (zxe.trans (p134hv.trans ?_))
            rw [p22hv, p28hv, p34hv]
          · rw [if_neg (by decide), if_neg (by decide), if_neg (by decide), if_neg (by decide), if_neg (by decide), show 6 * p + 5 = ((p : Int) * 6 + 5).toNat by omega]
            refine zxe.trans (p153hv.trans ?_)
            rw [p22hv, p28hv, p34hv]
        · exact zxs (by omega) (zxs (by omega) (zxs (by omega) (zxs (by omega) (zxs (by omega) (zxs (by omega) (hn p x (by omega) hx)))))))
