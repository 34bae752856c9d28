/-! gb -/
def T_G_cell : ZT := fun args I L R S Q => ∃ (k : Nat) (q : Int) (s : BdS) (l : Int) (i : Int) (j : Int), args = [zvr k, zvi l, zvi i, zvi j] ∧ (zDy zT17 zF17 k R S) ∧ (zBB k q s I L) ∧ (bGz s) ∧ (r32 l ∧ r32 i ∧ r32 j) ∧ ∀ (v : Int), (v = cxI (bW s) (bH s) (bD s) l i j) → (-1 ≤ v ∧ v ≤ 1023 ∧ v < bK s) → Q (some (zvi (v))) I L R S
theorem sn_G_cell : ZSnd 1 17 4 T_G_cell := ZSnd.of (zT17_4 0) (by
  rintro args I L R S Q hz ⟨k, q, s, l, i, j, rfl, hd, hBB, hGz, hr, hQ⟩
  have h5 := hd.1
  obtain ⟨⟨hbw, hbh, hbd, hbs, hbn⟩, hcl, hco, hpc, hne, hpi⟩ := id hBB
  obtain ⟨⟨⟨gW1, gW2⟩, ⟨gH1, gH2⟩, ⟨gD1, gD2⟩, gB9⟩, ⟨gnp, gnn⟩, gco⟩ := id hGz
  obtain ⟨m1, m2, hKe⟩ := gWH hGz
  have hKd : bK s = bW s * bH s * bD s := rfl
  refine And.intro rfl ?_
  refine And.intro (by omega) ⟨fun h1 => ?_, fun h1 => ?_⟩
  · refine And.intro (zRb rfl) (zbt rfl ?_)
    refine hQ _ ?_ ?_
    · unfold cxI
      first
      | rw [if_neg (by omega)]
      | (rw [if_pos (by omega)]
         show _ = (((l.toNat * bH s + j.toNat) * bW s + i.toNat : Nat) : Int)
         rw [Int.natCast_add, Int.natCast_mul, Int.natCast_add, Int.natCast_mul, Int.toNat_of_nonneg (by omega), Int.toNat_of_nonneg (by omega), Int.toNat_of_nonneg (by omega)])
    · first
      | omega
      | (have q := cx_lt (W := bW s) (H := bH s) (D := bD s) (l := l.toNat) (i := i.toNat) (j := j.toNat) (by omega) (by omega) (by omega)
         have e : (((l.toNat * bH s + j.toNat) * bW s + i.toNat : Nat) : Int) = (l * bH s + j) * bW s + i := by
           rw [Int.natCast_add, Int.natCast_mul, Int.natCast_add, Int.natCast_mul, Int.toNat_of_nonneg (by omega), Int.toNat_of_nonneg (by omega), Int.toNat_of_nonneg (by omega)]
         omega)
  · refine And.intro (zDX hd 0 rfl) (zrd (v := (bD s)) hbd ?_)
    refine And.intro ⟨(by omega), (by omega)⟩ ⟨fun h9 => ?_, fun h9 => ?_⟩
    · refine And.intro (zRb rfl) (zbt rfl ?_)
      refine hQ _ ?_ ?_
      · unfold cxI
        first
        | rw [if_neg (by omega)]
        | (rw [if_pos (by omega)]
           show _ = (((l.toNat * bH s + j.toNat) * bW s + i.toNat : Nat) : Int)
           rw [Int.natCast_add, Int.natCast_mul, Int.natCast_add, Int.natCast_mul, Int.toNat_of_nonneg (by omega), Int.toNat_of_nonneg (by omega), Int.toNat_of_nonneg (by omega)])
      · first
        | omega
        | (have q := cx_lt (W := bW s) (H := bH s) (D := bD s) (l := l.toNat) (i := i.toNat) (j := j.toNat) (by omega) (by omega) (by omega)
           have e : (((l.toNat * bH s + j.toNat) * bW s + i.toNat : Nat) : Int) = (l * bH s + j) * bW s + i := by
             rw [Int.natCast_add, Int.natCast_mul, Int.natCast_add, Int.natCast_mul, Int.toNat_of_nonneg (by omega), Int.toNat_of_nonneg (by omega), Int.toNat_of_nonneg (by omega)]
           omega)
    · refine And.intro (by omega) ⟨fun h13 => ?_, fun h13 => ?_⟩
      · refine And.intro (zRb rfl) (zbt rfl ?_)
        refine hQ _ ?_ ?_
        · unfold cxI
          first
          | rw [if_neg (by omega)]
          | (rw [if_pos (by omega)]
             show _ = (((l.toNat * bH s + j.toNat) * bW s + i.toNat : Nat) : Int)
             rw [Int.natCast_add, Int.natCast_mul, Int.natCast_add, Int.natCast_mul, Int.toNat_of_nonneg (by omega), Int.toNat_of_nonneg (by omega), Int.toNat_of_nonneg (by omega)])
        · first
          | omega
          | (have q := cx_lt (W := bW s) (H := bH s) (D := bD s) (l := l.toNat) (i := i.toNat) (j := j.toNat) (by omega) (by omega) (by omega)
             have e : (((l.toNat * bH s + j.toNat) * bW s + i.toNat : Nat) : Int) = (l * bH s + j) * bW s + i := by
               rw [Int.natCast_add, Int.natCast_mul, Int.natCast_add, Int.natCast_mul, Int.toNat_of_nonneg (by omega), Int.toNat_of_nonneg (by omega), Int.toNat_of_nonneg (by omega)]
             omega)
      · refine And.intro (zDX hd 0 rfl) (zrd (v := (bW s)) hbw ?_)
        refine And.intro ⟨(by omega), (by omega)⟩ ⟨fun h21 => ?_, fun h21 => ?_⟩
        · refine And.intro (zRb rfl) (zbt rfl ?_)
          refine hQ _ ?_ ?_
          · unfold cxI
            first
            | rw [if_neg (by omega)]
            | (rw [if_pos (by omega)]
               show _ = (((l.toNat * bH s + j.toNat) * bW s + i.toNat : Nat) : Int)
               rw [Int.natCast_add, Int.natCast_mul, Int.natCast_add, Int.natCast_mul, Int.toNat_of_nonneg (by omega), Int.toNat_of_nonneg (by omega), Int.toNat_of_nonneg (by omega)])
          · first
            | omega
            | (have q := cx_lt (W := bW s) (H := bH s) (D := bD s) (l := l.toNat) (i := i.toNat) (j := j.toNat) (by omega) (by omega) (by omega)
               have e : (((l.toNat * bH s + j.toNat) * bW s + i.toNat : Nat) : Int) = (l * bH s + j) * bW s + i := by
                 rw [Int.natCast_add, Int.natCast_mul, Int.natCast_add, Int.natCast_mul, Int.toNat_of_nonneg (by omega), Int.toNat_of_nonneg (by omega), Int.toNat_of_nonneg (by omega)]
               omega)
        · refine And.intro (by omega) ⟨fun h25 => ?_, fun h25 => ?_⟩
          · refine And.intro (zRb rfl) (zbt rfl ?_)
            refine hQ _ ?_ ?_
            · unfold cxI
              first
              | rw [if_neg (by omega)]
              | (rw [if_pos (by omega)]
                 show _ = (((l.toNat * bH s + j.toNat) * bW s + i.toNat : Nat) : Int)
                 rw [Int.natCast_add, Int.natCast_mul, Int.natCast_add, Int.natCast_mul, Int.toNat_of_nonneg (by omega), Int.toNat_of_nonneg (by omega), Int.toNat_of_nonneg (by omega)])
            · first
              | omega
              | (have q := cx_lt (W := bW s) (H := bH s) (D := bD s) (l := l.toNat) (i := i.toNat) (j := j.toNat) (by omega) (by omega) (by omega)
                 have e : (((l.toNat * bH s + j.toNat) * bW s + i.toNat : Nat) : Int) = (l * bH s + j) * bW s + i := by
                   rw [Int.natCast_add, Int.natCast_mul, Int.natCast_add, Int.natCast_mul, Int.toNat_of_nonneg (by omega), Int.toNat_of_nonneg (by omega), Int.toNat_of_nonneg (by omega)]
                 omega)
          · refine And.intro (zDX hd 0 rfl) (zrd (v := (bH s)) hbh ?_)
            refine And.intro ⟨(by omega), (by omega)⟩ ⟨fun h33 => ?_, fun h33 => ?_⟩
            · refine And.intro (zRb rfl) (zbt rfl ?_)
              refine hQ _ ?_ ?_
              · unfold cxI
                first
                | rw [if_neg (by omega)]
                | (rw [if_pos (by omega)]
                   show _ = (((l.toNat * bH s + j.toNat) * bW s + i.toNat : Nat) : Int)
                   rw [Int.natCast_add, Int.natCast_mul, Int.natCast_add, Int.natCast_mul, Int.toNat_of_nonneg (by omega), Int.toNat_of_nonneg (by omega), Int.toNat_of_nonneg (by omega)])
              · first
                | omega
                | (have q := cx_lt (W := bW s) (H := bH s) (D := bD s) (l := l.toNat) (i := i.toNat) (j := j.toNat) (by omega) (by omega) (by omega)
                   have e : (((l.toNat * bH s + j.toNat) * bW s + i.toNat : Nat) : Int) = (l * bH s + j) * bW s + i := by
                     rw [Int.natCast_add, Int.natCast_mul, Int.natCast_add, Int.natCast_mul, Int.toNat_of_nonneg (by omega), Int.toNat_of_nonneg (by omega), Int.toNat_of_nonneg (by omega)]
                   omega)
            · have t33 : 0 ≤ l * bH s ∧ l * bH s ≤ 4 * 16 := (zmb (by omega) (by omega) (by omega) (by omega))
              have t33b : 0 ≤ (l * bH s + j) * bW s ∧ (l * bH s + j) * bW s ≤ 80 * 16 := (zmb (by omega) (by omega) (by omega) (by omega))
              refine And.intro (zRb rfl) (zbf rfl ?_)
              refine And.intro (zDX hd 0 rfl) (zrd (v := (bH s)) hbh ?_)
              refine And.intro (zDX hd 0 rfl) (zrd (v := (bW s)) hbw ?_)
              refine hQ _ ?_ ?_
              · unfold cxI
                first
                | rw [if_neg (by omega)]
                | (rw [if_pos (by omega)]
                   show _ = (((l.toNat * bH s + j.toNat) * bW s + i.toNat : Nat) : Int)
                   rw [Int.natCast_add, Int.natCast_mul, Int.natCast_add, Int.natCast_mul, Int.toNat_of_nonneg (by omega), Int.toNat_of_nonneg (by omega), Int.toNat_of_nonneg (by omega)])
              · first
                | omega
                | (have q := cx_lt (W := bW s) (H := bH s) (D := bD s) (l := l.toNat) (i := i.toNat) (j := j.toNat) (by omega) (by omega) (by omega)
                   have e : (((l.toNat * bH s + j.toNat) * bW s + i.toNat : Nat) : Int) = (l * bH s + j) * bW s + i := by
                     rw [Int.natCast_add, Int.natCast_mul, Int.natCast_add, Int.natCast_mul, Int.toNat_of_nonneg (by omega), Int.toNat_of_nonneg (by omega), Int.toNat_of_nonneg (by omega)]
                   omega))
def T_G_lay : ZT := fun args I L R S Q => ∃ (k : Nat) (q : Int) (s : BdS) (a : Int) (c : Nat), args = [zvr k, zvi a] ∧ (zDy zT17 zF17 k R S) ∧ (zBB k q s I L) ∧ (bGz s) ∧ (a = c) ∧ (c < bK s) ∧ ∀ (v : Int), (v = (c / bW s / bH s : Nat)) → (0 ≤ v ∧ v < bD s) → Q (some (zvi (v))) I L R S
theorem sn_G_lay : ZSnd 1 17 16 T_G_lay := ZSnd.of (zT17_16 0) (by
  rintro args I L R S Q hz ⟨k, q, s, a, c, rfl, hd, hBB, hGz, ha, hc, hQ⟩
  have h5 := hd.1
  obtain ⟨⟨hbw, hbh, hbd, hbs, hbn⟩, hcl, hco, hpc, hne, hpi⟩ := id hBB
  obtain ⟨⟨⟨gW1, gW2⟩, ⟨gH1, gH2⟩, ⟨gD1, gD2⟩, gB9⟩, ⟨gnp, gnn⟩, gco⟩ := id hGz
  obtain ⟨m1, m2, hKe⟩ := gWH hGz
  have hKd : bK s = bW s * bH s * bD s := rfl
  have hq := cx_of hc
  have h1024 : c < 1024 := Nat.lt_of_lt_of_le hc gB9
  refine And.intro rfl ?_
  refine And.intro (zDX hd 0 rfl) (zrd (v := (bW s)) hbw ?_)
  refine And.intro (zDX hd 0 rfl) (zrd (v := (bH s)) hbh ?_)
  refine And.intro ⟨(by omega), (by omega), (by omega)⟩ (zdv (by omega) (fun q10 e10 => ?_))
  refine hQ _ (by rw [e10, Nat.div_div_eq_div_mul]; subst ha; exact (by rw [Int.natCast_ediv, Int.natCast_mul])) (by have e9 : q10 = (c / bW s / bH s : Nat) := (by rw [e10, Nat.div_div_eq_div_mul]; subst ha; exact (by rw [Int.natCast_ediv, Int.natCast_mul])); rw [e9]; exact ⟨Int.natCast_nonneg _, Int.ofNat_lt.mpr hq.1⟩))
def T_G_row : ZT := fun args I L R S Q => ∃ (k : Nat) (q : Int) (s : BdS) (a : Int) (c : Nat), args = [zvr k, zvi a] ∧ (zDy zT17 zF17 k R S) ∧ (zBB k q s I L) ∧ (bGz s) ∧ (a = c) ∧ (c < bK s) ∧ ∀ (v : Int), (v = (c / bW s % bH s : Nat)) → (0 ≤ v ∧ v < bH s) → Q (some (zvi (v))) I L R S
theorem sn_G_row : ZSnd 1 17 28 T_G_row := ZSnd.of (zT17_28 0) (by
  rintro args I L R S Q hz ⟨k, q, s, a, c, rfl, hd, hBB, hGz, ha, hc, hQ⟩
  have h5 := hd.1
  obtain ⟨⟨hbw, hbh, hbd, hbs, hbn⟩, hcl, hco, hpc, hne, hpi⟩ := id hBB
  obtain ⟨⟨⟨gW1, gW2⟩, ⟨gH1, gH2⟩, ⟨gD1, gD2⟩, gB9⟩, ⟨gnp, gnn⟩, gco⟩ := id hGz
  obtain ⟨m1, m2, hKe⟩ := gWH hGz
  have hKd : bK s = bW s * bH s * bD s := rfl
  have hq := cx_of hc
  have h1024 : c < 1024 := Nat.lt_of_lt_of_le hc gB9
  refine And.intro rfl ?_
  refine And.intro (zDX hd 0 rfl) (zrd (v := (bW s)) hbw ?_)
  refine And.intro ⟨(by omega), (by omega), (by omega)⟩ (zdv (by omega) (fun q5 e5 => ?_))
  have f5 : q5 = (c / bW s : Nat) := (by subst ha; rw [e5]; exact (Int.natCast_ediv _ _).symm)
  have f5b : 0 ≤ q5 ∧ q5 ≤ 1024 := (by rw [f5]; exact ⟨Int.natCast_nonneg _, by have := Nat.div_le_self c (bW s); omega⟩)
  refine And.intro (zDX hd 0 rfl) (zrd (v := (bH s)) hbh ?_)
  refine And.intro ⟨(by omega), (by omega), (by omega)⟩ (zdv (by omega) (fun q10 e10 => ?_))
  refine hQ _ (by rw [e10, f5]; exact (Int.natCast_emod _ _).symm) (by rw [e10, f5, ← Int.natCast_emod]; exact ⟨Int.natCast_nonneg _, by have := hq.2.2.1; omega⟩))
def T_G_nb : ZT := fun args I L R S Q => ∃ (k : Nat) (q : Int) (s : BdS) (a : Int) (c : Nat) (b : Int) (x : Nat), args = [zvr k, zvi a, zvi b] ∧ (zDy zT17 zF17 k R S) ∧ (zBB k q s I L) ∧ (bGz s) ∧ (a = c) ∧ (c < bK s) ∧ (b = x ∧ x < 6) ∧ ∀ (v : Int), (v = bnb s c x) → (-1 ≤ v ∧ v ≤ 1023 ∧ v < bK s) → Q (some (zvi (v))) I L R S
theorem sn_G_nb : ZSnd 2 17 19 T_G_nb := ZSnd.of (zT17_19 1) (by
  rintro args I L R S Q hz ⟨k, q, s, a, c, b, x, rfl, hd, hBB, hGz, ha, hc, hb, hQ⟩
  have h5 := hd.1
  obtain ⟨⟨hbw, hbh, hbd, hbs, hbn⟩, hcl, hco, hpc, hne, hpi⟩ := id hBB
  obtain ⟨⟨⟨gW1, gW2⟩, ⟨gH1, gH2⟩, ⟨gD1, gD2⟩, gB9⟩, ⟨gnp, gnn⟩, gco⟩ := id hGz
  obtain ⟨m1, m2, hKe⟩ := gWH hGz
  have hKd : bK s = bW s * bH s * bD s := rfl
  have hq := cx_of hc
  have h1024 : c < 1024 := Nat.lt_of_lt_of_le hc gB9
  refine And.intro rfl ?_
  refine And.intro (zDX hd 0 rfl) ⟨_, sn_G_lay.up (by decide), ?_⟩
  refine ⟨k, _, s, (a : Int), c, rfl, hd, (by first | exact (zBB_fr hBB (fun c j h => rfl) (fun c j h => rfl)) | (clear hQ; grind [xu])), (by first | exact hGz | (clear hQ; grind [xu])), (by omega), (by omega), ?_⟩
  intro v2o p2hv p2bhv2
  refine And.intro (zDX hd 0 rfl) (zrd (v := (bW s)) hbw ?_)
  refine And.intro ⟨(by omega), (by omega), (by omega)⟩ (zdv (by omega) (fun q11 e11 => ?_))
  have f11 : q11 = (c % bW s : Nat) := (by subst ha; rw [e11]; exact (Int.natCast_emod _ _).symm)
  have f11b : 0 ≤ q11 ∧ q11 + 1 ≤ bW s := (by rw [f11]; exact ⟨Int.natCast_nonneg _, by have := hq.2.1; omega⟩)
  refine And.intro (zDX hd 0 rfl) ⟨_, sn_G_row.up (by decide), ?_⟩
  refine ⟨k, _, s, (a : Int), c, rfl, hd, (by first | exact (zBB_fr hBB (fun c j h => rfl) (fun c j h => rfl)) | (clear hQ; grind [xu])), (by first | exact hGz | (clear hQ; grind [xu])), (by omega), (by omega), ?_⟩
  intro v16o p16hv p16bhv2
  refine And.intro (by omega) (And.intro (And.intro (fun h22 => ?_) (And.intro (fun h22 => ?_) (And.intro (fun h22 => ?_) (And.intro (fun h22 => ?_) (And.intro (fun h22 => ?_) True.intro))))) (fun h22 => ?_))
  · refine And.intro (zDX hd 0 rfl) ⟨_, sn_G_cell.up (by decide), ?_⟩
    refine ⟨k, _, s, ((v2o - 1) : Int), (q11 : Int), (v16o : Int), rfl, hd, (by first | exact (zBB_fr hBB (fun c j h => rfl) (fun c j h => rfl)) | (clear hQ; grind [xu])), (by first | exact hGz | (clear hQ; grind [xu])), (by omega), ?_⟩
    intro v64o p64hv p64bhv2
    refine hQ _ ?_ (by omega)
    · obtain rfl : x = 0 := (by omega)
      rw [p64hv, p2hv, f11, p16hv]
      show _ = nbI (bW s) (bH s) (bD s) c 0
      unfold nbI
      rw [if_pos rfl]
  · refine And.intro (zDX hd 0 rfl) ⟨_, sn_G_cell.up (by decide), ?_⟩
    refine ⟨k, _, s, (v2o : Int), (q11 : Int), ((v16o - 1) : Int), rfl, hd, (by first | exact (zBB_fr hBB (fun c j h => rfl) (fun c j h => rfl)) | (clear hQ; grind [xu])), (by first | exact hGz | (clear hQ; grind [xu])), (by omega), ?_⟩
    intro v76o p76hv p76bhv2
    refine hQ _ ?_ (by omega)
    · obtain rfl : x = 1 := (by omega)
      rw [p76hv, p2hv, f11, p16hv]
      show _ = nbI (bW s) (bH s) (bD s) c 1
      unfold nbI
      rw [if_neg (by decide), if_pos rfl]
  · refine And.intro (zDX hd 0 rfl) ⟨_, sn_G_cell.up (by decide), ?_⟩
    refine ⟨k, _, s, (v2o : Int), ((q11 - 1) : Int), (v16o : Int), rfl, hd, (by first | exact (zBB_fr hBB (fun c j h => rfl) (fun c j h => rfl)) | (clear hQ; grind [xu])), (by first | exact hGz | (clear hQ; grind [xu])), (by omega), ?_⟩
    intro v88o p88hv p88bhv2
    refine hQ _ ?_ (by omega)
    · obtain rfl : x = 2 := (by omega)
      rw [p88hv, p2hv, f11, p16hv]
      show _ = nbI (bW s) (bH s) (bD s) c 2
      unfold nbI
      rw [if_neg (by decide), if_neg (by decide), if_pos rfl]
  · refine And.intro (zDX hd 0 rfl) ⟨_, sn_G_cell.up (by decide), ?_⟩
    refine ⟨k, _, s, (v2o : Int), ((q11 + 1) : Int), (v16o : Int), rfl, hd, (by first | exact (zBB_fr hBB (fun c j h => rfl) (fun c j h => rfl)) | (clear hQ; grind [xu])), (by first | exact hGz | (clear hQ; grind [xu])), (by omega), ?_⟩
    intro v100o p100hv p100bhv2
    refine hQ _ ?_ (by omega)
    · obtain rfl : x = 3 := (by omega)
      rw [p100hv, p2hv, f11, p16hv]
      show _ = nbI (bW s) (bH s) (bD s) c 3
      unfold nbI
      rw [if_neg (by decide), if_neg (by decide), if_neg (by decide), if_pos rfl]
  · refine And.intro (zDX hd 0 rfl) ⟨_, sn_G_cell.up (by decide), ?_⟩
    refine ⟨k, _, s, (v2o : Int), (q11 : Int), ((v16o + 1) : Int), rfl, hd, (by first | exact (zBB_fr hBB (fun c j h => rfl) (fun c j h => rfl)) | (clear hQ; grind [xu])), (by first | exact hGz | (clear hQ; grind [xu])), (by omega), ?_⟩
    intro v112o p112hv p112bhv2
    refine hQ _ ?_ (by omega)
    · obtain rfl : x = 4 := (by omega)
      rw [p112hv, p2hv, f11, p16hv]
      show _ = nbI (bW s) (bH s) (bD s) c 4
      unfold nbI
      rw [if_neg (by decide), if_neg (by decide), if_neg (by decide), if_neg (by decide), if_pos rfl]
  · refine And.intro (zDX hd 0 rfl) ⟨_, sn_G_cell.up (by decide), ?_⟩
    refine ⟨k, _, s, ((v2o + 1) : Int), (q11 : Int), (v16o : Int), rfl, hd, (by first | exact (zBB_fr hBB (fun c j h => rfl) (fun c j h => rfl)) | (clear hQ; grind [xu])), (by first | exact hGz | (clear hQ; grind [xu])), (by omega), ?_⟩
    intro v124o p124hv p124bhv2
    refine hQ _ ?_ (by omega)
    · obtain rfl : x = 5 := (by omega)
      rw [p124hv, p2hv, f11, p16hv]
      show _ = nbI (bW s) (bH s) (bD s) c 5
      unfold nbI
      rw [if_neg (by decide), if_neg (by decide), if_neg (by decide), if_neg (by decide), if_neg (by decide)])
def T_G_can : ZT := fun args I L R S Q => ∃ (k : Nat) (q : Int) (s : BdS) (n : Int) (a : Int) (rr : Int), args = [zvr k, zvi n, zvi a, zvi rr] ∧ (zDy zT17 zF17 k R S) ∧ (zBB k q s I L) ∧ (bGz s) ∧ (-1 ≤ a ∧ a < bK s) ∧ (r32 n) ∧ (rr = 0 ∨ rr = 1) ∧ ∀ (v : Int), ((v = 1 ∧ 0 ≤ a ∧ bTl s n rr a.toNat ≠ -1) ∨ (v = 0 ∧ (a = -1 ∨ bTl s n rr a.toNat = -1))) → Q (some (zvi (v))) I L R S
theorem sn_G_can : ZSnd 1 17 3 T_G_can := ZSnd.of (zT17_3 0) (by
  rintro args I L R S Q hz ⟨k, q, s, n, a, rr, rfl, hd, hBB, hGz, ha, hr, hrr, hQ⟩
  have h5 := hd.1
  obtain ⟨⟨hbw, hbh, hbd, hbs, hbn⟩, hcl, hco, hpc, hne, hpi⟩ := id hBB
  obtain ⟨⟨⟨gW1, gW2⟩, ⟨gH1, gH2⟩, ⟨gD1, gD2⟩, gB9⟩, ⟨gnp, gnn⟩, gco⟩ := id hGz
  obtain ⟨m1, m2, hKe⟩ := gWH hGz
  have hKd : bK s = bW s * bH s * bD s := rfl
  refine And.intro rfl ?_
  refine And.intro ⟨(by omega), (zRb rfl)⟩ ⟨fun h2 => ?_, fun h2 => ?_⟩
  · refine And.intro (Or.inl rfl) ?_
    refine hQ _ ?_
    · first
      | exact Or.inl ⟨by omega, by omega, gTl_yes (by omega) (Or.inl (show ¬ (bHl s n a.toNat) from fun q => by have q1 := q.1; have q2 := q.2; omega))⟩
      | exact Or.inl ⟨by omega, by omega, gTl_yes (by omega) (Or.inr ⟨by omega, by omega⟩)⟩
      | exact Or.inr ⟨by omega, Or.inl (by omega)⟩
      | exact Or.inr ⟨by omega, Or.inr (gTl_no1 (by omega))⟩
      | exact Or.inr ⟨by omega, Or.inr (gTl_no2 (show bHl s n a.toNat from And.intro (by omega) (by omega)) (Or.inl (by omega)))⟩
      | exact Or.inr ⟨by omega, Or.inr (gTl_no2 (show bHl s n a.toNat from And.intro (by omega) (by omega)) (Or.inr (by omega)))⟩
  · refine And.intro (zDX hd 0 rfl) (zrdR (v := some (k + 5)) (zDR hd 4 rfl) ?_)
    refine And.intro (Or.inr (zDP hd 5 rfl rfl (by omega) (by omega))) (fun v10 e10 r10 => ?_)
    have f10 : v10 = bba s a.toNat := (by have w := (hcl a.toNat (by omega)).2.2.1; exact e10.trans w)
    refine And.intro r10 ⟨fun h11 => ?_, fun h11 => ?_⟩
    · refine And.intro (zDX hd 0 rfl) (zrdR (v := some (k + 3)) (zDR hd 2 rfl) ?_)
      refine And.intro (zDP hd 3 rfl rfl (by omega) (by omega)) (fun v21 e21 r21 => ?_)
      have f21 : v21 = bho s a.toNat := (e21.trans (hcl a.toNat (by omega)).1)
      refine And.intro ⟨r21, (zRb rfl)⟩ ⟨fun h23 => ?_, fun h23 => ?_⟩
      · refine And.intro (zRb rfl) (zbt rfl ?_)
        refine And.intro (Or.inr rfl) ?_
        refine hQ _ ?_
        · first
          | exact Or.inl ⟨by omega, by omega, gTl_yes (by omega) (Or.inl (show ¬ (bHl s n a.toNat) from fun q => by have q1 := q.1; have q2 := q.2; omega))⟩
          | exact Or.inl ⟨by omega, by omega, gTl_yes (by omega) (Or.inr ⟨by omega, by omega⟩)⟩
          | exact Or.inr ⟨by omega, Or.inl (by omega)⟩
          | exact Or.inr ⟨by omega, Or.inr (gTl_no1 (by omega))⟩
          | exact Or.inr ⟨by omega, Or.inr (gTl_no2 (show bHl s n a.toNat from And.intro (by omega) (by omega)) (Or.inl (by omega)))⟩
          | exact Or.inr ⟨by omega, Or.inr (gTl_no2 (show bHl s n a.toNat from And.intro (by omega) (by omega)) (Or.inr (by omega)))⟩
      · refine And.intro (zDX hd 0 rfl) (zrdR (v := some (k + 3)) (zDR hd 2 rfl) ?_)
        refine And.intro (zDP hd 3 rfl rfl (by omega) (by omega)) (fun v31 e31 r31 => ?_)
        have f31 : v31 = bho s a.toNat := (e31.trans (hcl a.toNat (by omega)).1)
        refine And.intro ⟨r31, (by omega)⟩ ⟨fun h33 => ?_, fun h33 => ?_⟩
        · refine And.intro (zRb rfl) (zbt rfl ?_)
          refine And.intro (Or.inr rfl) ?_
          refine hQ _ ?_
          · first
            | exact Or.inl ⟨by omega, by omega, gTl_yes (by omega) (Or.inl (show ¬ (bHl s n a.toNat) from fun q => by have q1 := q.1; have q2 := q.2; omega))⟩
            | exact Or.inl ⟨by omega, by omega, gTl_yes (by omega) (Or.inr ⟨by omega, by omega⟩)⟩
            | exact Or.inr ⟨by omega, Or.inl (by omega)⟩
            | exact Or.inr ⟨by omega, Or.inr (gTl_no1 (by omega))⟩
            | exact Or.inr ⟨by omega, Or.inr (gTl_no2 (show bHl s n a.toNat from And.intro (by omega) (by omega)) (Or.inl (by omega)))⟩
            | exact Or.inr ⟨by omega, Or.inr (gTl_no2 (show bHl s n a.toNat from And.intro (by omega) (by omega)) (Or.inr (by omega)))⟩
        · refine And.intro (zRb rfl) (zbf rfl ?_)
          refine And.intro (by omega) ⟨fun h49 => ?_, fun h49 => ?_⟩
          · refine And.intro (Or.inl rfl) ?_
            refine hQ _ ?_
            · first
              | exact Or.inl ⟨by omega, by omega, gTl_yes (by omega) (Or.inl (show ¬ (bHl s n a.toNat) from fun q => by have q1 := q.1; have q2 := q.2; omega))⟩
              | exact Or.inl ⟨by omega, by omega, gTl_yes (by omega) (Or.inr ⟨by omega, by omega⟩)⟩
              | exact Or.inr ⟨by omega, Or.inl (by omega)⟩
              | exact Or.inr ⟨by omega, Or.inr (gTl_no1 (by omega))⟩
              | exact Or.inr ⟨by omega, Or.inr (gTl_no2 (show bHl s n a.toNat from And.intro (by omega) (by omega)) (Or.inl (by omega)))⟩
              | exact Or.inr ⟨by omega, Or.inr (gTl_no2 (show bHl s n a.toNat from And.intro (by omega) (by omega)) (Or.inr (by omega)))⟩
          · refine And.intro (zDX hd 0 rfl) (zrdR (v := some (k + 4)) (zDR hd 3 rfl) ?_)
            refine And.intro (Or.inr (zDP hd 4 rfl rfl (by omega) (by omega))) (fun v57 e57 r57 => ?_)
            have f57 : (v57 = 0 ∧ bpa s a.toNat = -1) ∨ (v57 = 1 ∧ bpa s a.toNat ≠ -1) := (gIf (e57.trans (hcl a.toNat (by omega)).2.1))
            refine And.intro r57 ⟨fun h58 => ?_, fun h58 => ?_⟩
            · refine And.intro (Or.inl rfl) ?_
              refine hQ _ ?_
              · first
                | exact Or.inl ⟨by omega, by omega, gTl_yes (by omega) (Or.inl (show ¬ (bHl s n a.toNat) from fun q => by have q1 := q.1; have q2 := q.2; omega))⟩
                | exact Or.inl ⟨by omega, by omega, gTl_yes (by omega) (Or.inr ⟨by omega, by omega⟩)⟩
                | exact Or.inr ⟨by omega, Or.inl (by omega)⟩
                | exact Or.inr ⟨by omega, Or.inr (gTl_no1 (by omega))⟩
                | exact Or.inr ⟨by omega, Or.inr (gTl_no2 (show bHl s n a.toNat from And.intro (by omega) (by omega)) (Or.inl (by omega)))⟩
                | exact Or.inr ⟨by omega, Or.inr (gTl_no2 (show bHl s n a.toNat from And.intro (by omega) (by omega)) (Or.inr (by omega)))⟩
            · refine And.intro (Or.inr rfl) ?_
              refine hQ _ ?_
              · first
                | exact Or.inl ⟨by omega, by omega, gTl_yes (by omega) (Or.inl (show ¬ (bHl s n a.toNat) from fun q => by have q1 := q.1; have q2 := q.2; omega))⟩
                | exact Or.inl ⟨by omega, by omega, gTl_yes (by omega) (Or.inr ⟨by omega, by omega⟩)⟩
                | exact Or.inr ⟨by omega, Or.inl (by omega)⟩
                | exact Or.inr ⟨by omega, Or.inr (gTl_no1 (by omega))⟩
                | exact Or.inr ⟨by omega, Or.inr (gTl_no2 (show bHl s n a.toNat from And.intro (by omega) (by omega)) (Or.inl (by omega)))⟩
                | exact Or.inr ⟨by omega, Or.inr (gTl_no2 (show bHl s n a.toNat from And.intro (by omega) (by omega)) (Or.inr (by omega)))⟩
    · refine And.intro (Or.inl rfl) ?_
      refine hQ _ ?_
      · first
        | exact Or.inl ⟨by omega, by omega, gTl_yes (by omega) (Or.inl (show ¬ (bHl s n a.toNat) from fun q => by have q1 := q.1; have q2 := q.2; omega))⟩
        | exact Or.inl ⟨by omega, by omega, gTl_yes (by omega) (Or.inr ⟨by omega, by omega⟩)⟩
        | exact Or.inr ⟨by omega, Or.inl (by omega)⟩
        | exact Or.inr ⟨by omega, Or.inr (gTl_no1 (by omega))⟩
        | exact Or.inr ⟨by omega, Or.inr (gTl_no2 (show bHl s n a.toNat from And.intro (by omega) (by omega)) (Or.inl (by omega)))⟩
        | exact Or.inr ⟨by omega, Or.inr (gTl_no2 (show bHl s n a.toNat from And.intro (by omega) (by omega)) (Or.inr (by omega)))⟩)
def T_G_step : ZT := fun args I L R S Q => ∃ (k : Nat) (q : Int) (s : BdS) (n : Int) (a : Int) (c : Nat) (b : Int) (x : Nat) (e : Int) (d : Nat) (rr : Int) (hb_ : Nat), args = [zvr k, zvi n, zvi a, zvi b, zvi e, zvi rr] ∧ (zDy zT17 zF17 k R S) ∧ (zBB k q s I L) ∧ (bGz s) ∧ (a = c) ∧ (c < bK s) ∧ (b = x ∧ x < 6) ∧ (e = d) ∧ (d < bK s) ∧ (bnb s c x = d) ∧ (r32 n) ∧ (rr = 0 ∨ rr = 1) ∧ (bhi s d ≤ hb_ ∧ hb_ ≤ 1000000) ∧ ∀ (v : Int), (v = gSt s n rr c x d) → (2 ≤ v ∧ v ≤ hb_ + 352) → Q (some (zvl (v))) I L R S
theorem sn_G_step : ZSnd 3 17 31 T_G_step := ZSnd.loops (zT17_31 2) (by
  rintro args I L R S Q hz ⟨k, q, s, n, a, c, b, x, e, d, rr, hb_, rfl, hd, hBB, hGz, ha, hc, hb, he, hdK, hnb, hr, hrr, hh9, hQ⟩
  have h5 := hd.1
  obtain ⟨⟨hbw, hbh, hbd, hbs, hbn⟩, hcl, hco, hpc, hne, hpi⟩ := id hBB
  obtain ⟨⟨⟨gW1, gW2⟩, ⟨gH1, gH2⟩, ⟨gD1, gD2⟩, gB9⟩, ⟨gnp, gnn⟩, gco⟩ := id hGz
  obtain ⟨m1, m2, hKe⟩ := gWH hGz
  have hKd : bK s = bW s * bH s * bD s := rfl
  have hq := cx_of hc
  have h1024 : c < 1024 := Nat.lt_of_lt_of_le hc gB9
  have h1d : d < 1024 := Nat.lt_of_lt_of_le hdK gB9
  have hl4 : d / bW s / bH s < 4 := by have := (cx_of hdK).1; omega
  have hc4 : c / bW s / bH s < 4 := by have := hq.1; omega
  have g1 := gco 1 (d / bW s / bH s) (by omega) hl4
  have g2 := gco 1 (c / bW s / bH s) (by omega) hc4
  have g3 := gco 0 (d / bW s / bH s) (by omega) hl4
  have g4 := gco 2 (d / bW s / bH s) (by omega) hl4
  refine ⟨[104], fun nM tM lsM stM I1 L1 R1 S1 => match tM with
      | 104 => ∃ (m : Nat) (u : Int) (y : Int), nM = ((6 - m), 0, 0) ∧ lsM = [some (zvr (k)), some (zvi (n)), some (zvi (c)), some (zvi (x)), some (zvi (d)), some (zvi (rr)), some (zvi (y)), some (zvl (u)), none, some (zvi (m + 1)), none] ∧ stM = [] ∧ I1 = I ∧ L1 = L ∧ R1 = R ∧ S1 = S ∧ (m ≤ 4) ∧ (y = (((d / bW s / bH s) : Nat) : Int)) ∧ (u = bStp s c x + (bco s 2 (d / bW s / bH s) : Int) * (bNr s n d m : Int))
      | _ => False, rfl, ?_, ⟨?_, True.intro⟩⟩
  · refine And.intro (zDX hd 0 rfl) ⟨_, sn_G_lay.up (by decide), ?_⟩
    refine ⟨k, _, s, (e : Int), d, rfl, hd, (by first | exact (zBB_fr hBB (fun c j h => rfl) (fun c j h => rfl)) | (clear hQ; grind [xu])), (by first | exact hGz | (clear hQ; grind [xu])), (by omega), hdK, ?_⟩
    intro v3o p3hv p3bhv2
    have g3 : v3o = (((d / bW s / bH s) : Nat) : Int) := p3hv
    refine And.intro (by omega) ⟨fun h14 => ?_, fun h14 => ?_⟩
    · refine And.intro (zDX hd 0 rfl) (zrdR (v := some (k + 8)) (zDR hd 7 rfl) ?_)
      refine And.intro (by omega) ⟨(fun h29 => False.elim (by omega)), fun h29 => ?_⟩
      refine And.intro (zDP hd 8 rfl rfl (by omega) (by omega)) (fun v42 e42 r42 => ?_)
      have f42 : v42 = bco s 1 (if x = 0 then (d / bW s / bH s) else c / bW s / bH s) := (show v42 = bco s 1 (if x = 0 then (d / bW s / bH s) else c / bW s / bH s) from e42.trans (by by_cases q : x = 0; rw [if_pos q]; exact (congrArg (I (k + 8)) (by omega)).trans (hco (d / bW s / bH s) hl4).2.1; rw [if_neg q]; exact (congrArg (I (k + 8)) (by omega)).trans (hco (c / bW s / bH s) hc4).2.1))
      have f42b : 0 ≤ v42 ∧ v42 ≤ 50 := (by by_cases q : x = 0; rw [if_pos q] at f42; omega; rw [if_neg q] at f42; omega)
      refine And.intro r42 ?_
      refine ⟨((6 - (0 : Nat)), 0, 0), [some (zvr (k)), some (zvi (n)), some (zvi (c)), some (zvi (x)), some (zvi (d)), some (zvi (rr)), some (zvi (v3o)), some (zvl ((2 + v42))), none, some (zvi ((0 : Nat) + 1)), none], ⟨rfl, rfl, (congrArg (fun z => some (zvi z)) (by omega)), (congrArg (fun z => some (zvi z)) (by omega)), (congrArg (fun z => some (zvi z)) (by omega)), rfl, rfl, rfl, (congrArg (fun z => some (zvi z)) (by omega)), rfl⟩, 0, (2 + v42), v3o, rfl, rfl, rfl, rfl, rfl, rfl, rfl, (by omega), p3hv, ?_⟩
      · show _ = ((bStp s c x : Nat) : Int) + (bco s 2 (d / bW s / bH s) : Int) * ((0 : Nat) : Int)
        first
        | (have f43 := f42; rw [if_pos (by omega)] at f43; rw [gSp_0 hc hnb (by omega)]; omega)
        | (have f43 := f42; rw [if_neg (by omega)] at f43; rw [gSp_5 (s := s) (c := c) (x := x) (by omega)]; omega)
        | (rw [gSp_0 hc hnb (by omega)]; omega)
        | (rw [gSp_5 (s := s) (c := c) (x := x) (by omega)]; omega)
        | (rw [gSp_a hc hnb ⟨by omega, by omega, by omega⟩ ⟨fun _ => by omega, fun _ => by omega⟩]; omega)
        | (rw [gSp_a hc hnb ⟨by omega, by omega, by omega⟩ ⟨fun _ => False.elim (by omega), fun _ => False.elim (by omega)⟩]; omega)
        | (rw [gSp_b hc hnb ⟨by omega, by omega, by omega⟩ (fun q => by have q1 := q.1; omega)]; omega)
        | (rw [gSp_b hc hnb ⟨by omega, by omega, by omega⟩ (fun q => by have q1 := q.2; omega)]; omega)
    · refine And.intro ⟨(by omega), (zRb rfl)⟩ ⟨fun h19 => ?_, fun h19 => ?_⟩
      · refine And.intro ⟨(by omega), (zRb rfl)⟩ ⟨fun h52 => ?_, fun h52 => ?_⟩
        · refine And.intro ⟨(by omega), (zRb rfl), (by decide)⟩ (zdv (by omega) (fun q74 e74 => ?_))
          refine And.intro (by omega) ⟨fun h75 => ?_, fun h75 => ?_⟩
          · refine And.intro ⟨(zRb rfl), (zRb rfl)⟩ (zbt rfl ?_)
            refine ⟨((6 - (0 : Nat)), 0, 0), [some (zvr (k)), some (zvi (n)), some (zvi (c)), some (zvi (x)), some (zvi (d)), some (zvi (rr)), some (zvi (v3o)), some (zvl ((2 + 0))), none, some (zvi ((0 : Nat) + 1)), none], ⟨rfl, rfl, (congrArg (fun z => some (zvi z)) (by omega)), (congrArg (fun z => some (zvi z)) (by omega)), (congrArg (fun z => some (zvi z)) (by omega)), rfl, rfl, rfl, (congrArg (fun z => some (zvi z)) (by omega)), rfl⟩, 0, (2 + 0), v3o, rfl, rfl, rfl, rfl, rfl, rfl, rfl, (by omega), p3hv, ?_⟩
            · show _ = ((bStp s c x : Nat) : Int) + (bco s 2 (d / bW s / bH s) : Int) * ((0 : Nat) : Int)
              first
              | (have f43 := f42; rw [if_pos (by omega)] at f43; rw [gSp_0 hc hnb (by omega)]; omega)
              | (have f43 := f42; rw [if_neg (by omega)] at f43; rw [gSp_5 (s := s) (c := c) (x := x) (by omega)]; omega)
              | (rw [gSp_0 hc hnb (by omega)]; omega)
              | (rw [gSp_5 (s := s) (c := c) (x := x) (by omega)]; omega)
              | (rw [gSp_a hc hnb ⟨by omega, by omega, by omega⟩ ⟨fun _ => by omega, fun _ => by omega⟩]; omega)
              | (rw [gSp_a hc hnb ⟨by omega, by omega, by omega⟩ ⟨fun _ => False.elim (by omega), fun _ => False.elim (by omega)⟩]; omega)
              | (rw [gSp_b hc hnb ⟨by omega, by omega, by omega⟩ (fun q => by have q1 := q.1; omega)]; omega)
              | (rw [gSp_b hc hnb ⟨by omega, by omega, by omega⟩ (fun q => by have q1 := q.2; omega)]; omega)
          · refine And.intro ⟨(zRb rfl), (zRb rfl)⟩ (zbf rfl ?_)
            refine And.intro (zDX hd 0 rfl) (zrdR (v := some (k + 7)) (zDR hd 6 rfl) ?_)
            refine And.intro (zDP hd 7 rfl rfl (by omega) (by omega)) (fun v92 e92 r92 => ?_)
            have f92 : v92 = bco s 0 (d / bW s / bH s) := (e92.trans ((congrArg (I (k + 7)) (by omega)).trans (hco (d / bW s / bH s) hl4).1))
            have f92b : 0 ≤ v92 ∧ v92 ≤ 50 := (by omega)
            refine And.intro r92 ?_
            refine ⟨((6 - (0 : Nat)), 0, 0), [some (zvr (k)), some (zvi (n)), some (zvi (c)), some (zvi (x)), some (zvi (d)), some (zvi (rr)), some (zvi (v3o)), some (zvl ((2 + v92))), none, some (zvi ((0 : Nat) + 1)), none], ⟨rfl, rfl, (congrArg (fun z => some (zvi z)) (by omega)), (congrArg (fun z => some (zvi z)) (by omega)), (congrArg (fun z => some (zvi z)) (by omega)), rfl, rfl, rfl, (congrArg (fun z => some (zvi z)) (by omega)), rfl⟩, 0, (2 + v92), v3o, rfl, rfl, rfl, rfl, rfl, rfl, rfl, (by omega), p3hv, ?_⟩
            · show _ = ((bStp s c x : Nat) : Int) + (bco s 2 (d / bW s / bH s) : Int) * ((0 : Nat) : Int)
              first
              | (have f43 := f42; rw [if_pos (by omega)] at f43; rw [gSp_0 hc hnb (by omega)]; omega)
              | (have f43 := f42; rw [if_neg (by omega)] at f43; rw [gSp_5 (s := s) (c := c) (x := x) (by omega)]; omega)
              | (rw [gSp_0 hc hnb (by omega)]; omega)
              | (rw [gSp_5 (s := s) (c := c) (x := x) (by omega)]; omega)
              | (rw [gSp_a hc hnb ⟨by omega, by omega, by omega⟩ ⟨fun _ => by omega, fun _ => by omega⟩]; omega)
              | (rw [gSp_a hc hnb ⟨by omega, by omega, by omega⟩ ⟨fun _ => False.elim (by omega), fun _ => False.elim (by omega)⟩]; omega)
              | (rw [gSp_b hc hnb ⟨by omega, by omega, by omega⟩ (fun q => by have q1 := q.1; omega)]; omega)
              | (rw [gSp_b hc hnb ⟨by omega, by omega, by omega⟩ (fun q => by have q1 := q.2; omega)]; omega)
        · refine And.intro ⟨(by omega), (zRb rfl)⟩ ⟨fun h57 => ?_, fun h57 => ?_⟩
          · refine And.intro ⟨(by omega), (zRb rfl), (by decide)⟩ (zdv (by omega) (fun q74 e74 => ?_))
            refine And.intro (by omega) ⟨fun h75 => ?_, fun h75 => ?_⟩
            · refine And.intro ⟨(zRb rfl), (zRb rfl)⟩ (zbf rfl ?_)
              refine And.intro (zDX hd 0 rfl) (zrdR (v := some (k + 7)) (zDR hd 6 rfl) ?_)
              refine And.intro (zDP hd 7 rfl rfl (by omega) (by omega)) (fun v92 e92 r92 => ?_)
              have f92 : v92 = bco s 0 (d / bW s / bH s) := (e92.trans ((congrArg (I (k + 7)) (by omega)).trans (hco (d / bW s / bH s) hl4).1))
              have f92b : 0 ≤ v92 ∧ v92 ≤ 50 := (by omega)
              refine And.intro r92 ?_
              refine ⟨((6 - (0 : Nat)), 0, 0), [some (zvr (k)), some (zvi (n)), some (zvi (c)), some (zvi (x)), some (zvi (d)), some (zvi (rr)), some (zvi (v3o)), some (zvl ((2 + v92))), none, some (zvi ((0 : Nat) + 1)), none], ⟨rfl, rfl, (congrArg (fun z => some (zvi z)) (by omega)), (congrArg (fun z => some (zvi z)) (by omega)), (congrArg (fun z => some (zvi z)) (by omega)), rfl, rfl, rfl, (congrArg (fun z => some (zvi z)) (by omega)), rfl⟩, 0, (2 + v92), v3o, rfl, rfl, rfl, rfl, rfl, rfl, rfl, (by omega), p3hv, ?_⟩
              · show _ = ((bStp s c x : Nat) : Int) + (bco s 2 (d / bW s / bH s) : Int) * ((0 : Nat) : Int)
                first
                | (have f43 := f42; rw [if_pos (by omega)] at f43; rw [gSp_0 hc hnb (by omega)]; omega)
                | (have f43 := f42; rw [if_neg (by omega)] at f43; rw [gSp_5 (s := s) (c := c) (x := x) (by omega)]; omega)
                | (rw [gSp_0 hc hnb (by omega)]; omega)
                | (rw [gSp_5 (s := s) (c := c) (x := x) (by omega)]; omega)
                | (rw [gSp_a hc hnb ⟨by omega, by omega, by omega⟩ ⟨fun _ => by omega, fun _ => by omega⟩]; omega)
                | (rw [gSp_a hc hnb ⟨by omega, by omega, by omega⟩ ⟨fun _ => False.elim (by omega), fun _ => False.elim (by omega)⟩]; omega)
                | (rw [gSp_b hc hnb ⟨by omega, by omega, by omega⟩ (fun q => by have q1 := q.1; omega)]; omega)
                | (rw [gSp_b hc hnb ⟨by omega, by omega, by omega⟩ (fun q => by have q1 := q.2; omega)]; omega)
            · refine And.intro ⟨(zRb rfl), (zRb rfl)⟩ (zbt rfl ?_)
              refine ⟨((6 - (0 : Nat)), 0, 0), [some (zvr (k)), some (zvi (n)), some (zvi (c)), some (zvi (x)), some (zvi (d)), some (zvi (rr)), some (zvi (v3o)), some (zvl ((2 + 0))), none, some (zvi ((0 : Nat) + 1)), none], ⟨rfl, rfl, (congrArg (fun z => some (zvi z)) (by omega)), (congrArg (fun z => some (zvi z)) (by omega)), (congrArg (fun z => some (zvi z)) (by omega)), rfl, rfl, rfl, (congrArg (fun z => some (zvi z)) (by omega)), rfl⟩, 0, (2 + 0), v3o, rfl, rfl, rfl, rfl, rfl, rfl, rfl, (by omega), p3hv, ?_⟩
              · show _ = ((bStp s c x : Nat) : Int) + (bco s 2 (d / bW s / bH s) : Int) * ((0 : Nat) : Int)
                first
                | (have f43 := f42; rw [if_pos (by omega)] at f43; rw [gSp_0 hc hnb (by omega)]; omega)
                | (have f43 := f42; rw [if_neg (by omega)] at f43; rw [gSp_5 (s := s) (c := c) (x := x) (by omega)]; omega)
                | (rw [gSp_0 hc hnb (by omega)]; omega)
                | (rw [gSp_5 (s := s) (c := c) (x := x) (by omega)]; omega)
                | (rw [gSp_a hc hnb ⟨by omega, by omega, by omega⟩ ⟨fun _ => by omega, fun _ => by omega⟩]; omega)
                | (rw [gSp_a hc hnb ⟨by omega, by omega, by omega⟩ ⟨fun _ => False.elim (by omega), fun _ => False.elim (by omega)⟩]; omega)
                | (rw [gSp_b hc hnb ⟨by omega, by omega, by omega⟩ (fun q => by have q1 := q.1; omega)]; omega)
                | (rw [gSp_b hc hnb ⟨by omega, by omega, by omega⟩ (fun q => by have q1 := q.2; omega)]; omega)
          · refine And.intro ⟨(by omega), (zRb rfl), (by decide)⟩ (zdv (by omega) (fun q74 e74 => ?_))
            refine And.intro (by omega) ⟨fun h75 => ?_, fun h75 => ?_⟩
            · refine And.intro ⟨(zRb rfl), (zRb rfl)⟩ (zbt rfl ?_)
              refine ⟨((6 - (0 : Nat)), 0, 0), [some (zvr (k)), some (zvi (n)), some (zvi (c)), some (zvi (x)), some (zvi (d)), some (zvi (rr)), some (zvi (v3o)), some (zvl ((2 + 0))), none, some (zvi ((0 : Nat) + 1)), none], ⟨rfl, rfl, (congrArg (fun z => some (zvi z)) (by omega)), (congrArg (fun z => some (zvi z)) (by omega)), (congrArg (fun z => some (zvi z)) (by omega)), rfl, rfl, rfl, (congrArg (fun z => some (zvi z)) (by omega)), rfl⟩, 0, (2 + 0), v3o, rfl, rfl, rfl, rfl, rfl, rfl, rfl, (by omega), p3hv, ?_⟩
              · show _ = ((bStp s c x : Nat) : Int) + (bco s 2 (d / bW s / bH s) : Int) * ((0 : Nat) : Int)
                first
                | (have f43 := f42; rw [if_pos (by omega)] at f43; rw [gSp_0 hc hnb (by omega)]; omega)
                | (have f43 := f42; rw [if_neg (by omega)] at f43; rw [gSp_5 (s := s) (c := c) (x := x) (by omega)]; omega)
                | (rw [gSp_0 hc hnb (by omega)]; omega)
                | (rw [gSp_5 (s := s) (c := c) (x := x) (by omega)]; omega)
                | (rw [gSp_a hc hnb ⟨by omega, by omega, by omega⟩ ⟨fun _ => by omega, fun _ => by omega⟩]; omega)
                | (rw [gSp_a hc hnb ⟨by omega, by omega, by omega⟩ ⟨fun _ => False.elim (by omega), fun _ => False.elim (by omega)⟩]; omega)
                | (rw [gSp_b hc hnb ⟨by omega, by omega, by omega⟩ (fun q => by have q1 := q.1; omega)]; omega)
                | (rw [gSp_b hc hnb ⟨by omega, by omega, by omega⟩ (fun q => by have q1 := q.2; omega)]; omega)
            · refine And.intro ⟨(zRb rfl), (zRb rfl)⟩ (zbf rfl ?_)
              refine And.intro (zDX hd 0 rfl) (zrdR (v := some (k + 7)) (zDR hd 6 rfl) ?_)
              refine And.intro (zDP hd 7 rfl rfl (by omega) (by omega)) (fun v92 e92 r92 => ?_)
              have f92 : v92 = bco s 0 (d / bW s / bH s) := (e92.trans ((congrArg (I (k + 7)) (by omega)).trans (hco (d / bW s / bH s) hl4).1))
              have f92b : 0 ≤ v92 ∧ v92 ≤ 50 := (by omega)
              refine And.intro r92 ?_
              refine ⟨((6 - (0 : Nat)), 0, 0), [some (zvr (k)), some (zvi (n)), some (zvi (c)), some (zvi (x)), some (zvi (d)), some (zvi (rr)), some (zvi (v3o)), some (zvl ((2 + v92))), none, some (zvi ((0 : Nat) + 1)), none], ⟨rfl, rfl, (congrArg (fun z => some (zvi z)) (by omega)), (congrArg (fun z => some (zvi z)) (by omega)), (congrArg (fun z => some (zvi z)) (by omega)), rfl, rfl, rfl, (congrArg (fun z => some (zvi z)) (by omega)), rfl⟩, 0, (2 + v92), v3o, rfl, rfl, rfl, rfl, rfl, rfl, rfl, (by omega), p3hv, ?_⟩
              · show _ = ((bStp s c x : Nat) : Int) + (bco s 2 (d / bW s / bH s) : Int) * ((0 : Nat) : Int)
                first
                | (have f43 := f42; rw [if_pos (by omega)] at f43; rw [gSp_0 hc hnb (by omega)]; omega)
                | (have f43 := f42; rw [if_neg (by omega)] at f43; rw [gSp_5 (s := s) (c := c) (x := x) (by omega)]; omega)
                | (rw [gSp_0 hc hnb (by omega)]; omega)
                | (rw [gSp_5 (s := s) (c := c) (x := x) (by omega)]; omega)
                | (rw [gSp_a hc hnb ⟨by omega, by omega, by omega⟩ ⟨fun _ => by omega, fun _ => by omega⟩]; omega)
                | (rw [gSp_a hc hnb ⟨by omega, by omega, by omega⟩ ⟨fun _ => False.elim (by omega), fun _ => False.elim (by omega)⟩]; omega)
                | (rw [gSp_b hc hnb ⟨by omega, by omega, by omega⟩ (fun q => by have q1 := q.1; omega)]; omega)
                | (rw [gSp_b hc hnb ⟨by omega, by omega, by omega⟩ (fun q => by have q1 := q.2; omega)]; omega)
      · refine And.intro (zDX hd 0 rfl) (zrdR (v := some (k + 8)) (zDR hd 7 rfl) ?_)
        refine And.intro (by omega) ⟨fun h29 => ?_, (fun h29 => False.elim (by omega))⟩
        refine And.intro (zDX hd 0 rfl) ⟨_, sn_G_lay.up (by decide), ?_⟩
        refine ⟨k, _, s, (a : Int), c, rfl, hd, (by first | exact (zBB_fr hBB (fun c j h => rfl) (fun c j h => rfl)) | (clear hQ; grind [xu])), (by first | exact hGz | (clear hQ; grind [xu])), (by omega), hc, ?_⟩
        intro v39o p39hv p39bhv2
        refine And.intro (zDP hd 8 rfl rfl (by omega) (by omega)) (fun v42 e42 r42 => ?_)
        have f42 : v42 = bco s 1 (if x = 0 then (d / bW s / bH s) else c / bW s / bH s) := (show v42 = bco s 1 (if x = 0 then (d / bW s / bH s) else c / bW s / bH s) from e42.trans (by by_cases q : x = 0; rw [if_pos q]; exact (congrArg (I (k + 8)) (by omega)).trans (hco (d / bW s / bH s) hl4).2.1; rw [if_neg q]; exact (congrArg (I (k + 8)) (by omega)).trans (hco (c / bW s / bH s) hc4).2.1))
        have f42b : 0 ≤ v42 ∧ v42 ≤ 50 := (by by_cases q : x = 0; rw [if_pos q] at f42; omega; rw [if_neg q] at f42; omega)
        refine And.intro r42 ?_
        refine ⟨((6 - (0 : Nat)), 0, 0), [some (zvr (k)), some (zvi (n)), some (zvi (c)), some (zvi (x)), some (zvi (d)), some (zvi (rr)), some (zvi (v3o)), some (zvl ((2 + v42))), none, some (zvi ((0 : Nat) + 1)), none], ⟨rfl, rfl, (congrArg (fun z => some (zvi z)) (by omega)), (congrArg (fun z => some (zvi z)) (by omega)), (congrArg (fun z => some (zvi z)) (by omega)), rfl, rfl, rfl, (congrArg (fun z => some (zvi z)) (by omega)), rfl⟩, 0, (2 + v42), v3o, rfl, rfl, rfl, rfl, rfl, rfl, rfl, (by omega), p3hv, ?_⟩
        · show _ = ((bStp s c x : Nat) : Int) + (bco s 2 (d / bW s / bH s) : Int) * ((0 : Nat) : Int)
          first
          | (have f43 := f42; rw [if_pos (by omega)] at f43; rw [gSp_0 hc hnb (by omega)]; omega)
          | (have f43 := f42; rw [if_neg (by omega)] at f43; rw [gSp_5 (s := s) (c := c) (x := x) (by omega)]; omega)
          | (rw [gSp_0 hc hnb (by omega)]; omega)
          | (rw [gSp_5 (s := s) (c := c) (x := x) (by omega)]; omega)
          | (rw [gSp_a hc hnb ⟨by omega, by omega, by omega⟩ ⟨fun _ => by omega, fun _ => by omega⟩]; omega)
          | (rw [gSp_a hc hnb ⟨by omega, by omega, by omega⟩ ⟨fun _ => False.elim (by omega), fun _ => False.elim (by omega)⟩]; omega)
          | (rw [gSp_b hc hnb ⟨by omega, by omega, by omega⟩ (fun q => by have q1 := q.1; omega)]; omega)
          | (rw [gSp_b hc hnb ⟨by omega, by omega, by omega⟩ (fun q => by have q1 := q.2; omega)]; omega)
  · rintro nM lsM stM I1 L1 R1 S1 hz1 ⟨m, u, y, rfl, rfl, rfl, rfl, rfl, rfl, rfl, hm, hy, hu⟩
    have hy9 : 0 ≤ y ∧ y ≤ 3 := by rw [hy]; have h4 := hl4; generalize d / bW s / bH s = u9 at h4 ⊢; omega
    have hle := bNr_le s n d m
    have hst := bStp_le hGz hc x
    have hml := nmb g4 hle
    have hnn : (0 : Int) ≤ (bco s 2 (d / bW s / bH s) : Int) * (bNr s n d m : Int) ∧ (bco s 2 (d / bW s / bH s) : Int) * (bNr s n d m : Int) ≤ 50 * m := zmb (by omega) (by omega) (by omega) (by omega)
    have hu9 : 0 ≤ u ∧ u ≤ 252 := by omega
    refine And.intro ⟨(by omega), (zRb rfl)⟩ ⟨fun h107 => ?_, fun h107 => ?_⟩
    · refine And.intro (zDX hd 0 rfl) (zrdR (v := some (k + 6)) (zDR hd 5 rfl) ?_)
      refine And.intro (zDP hd 6 rfl rfl (by omega) (by omega)) (fun v179 e179 r179 => ?_)
      have f179 : v179 = bhi s d := (e179.trans ((congrArg (L1 (k + 6)) (by omega)).trans (hcl d h1d).2.2.2))
      have f179b : 0 ≤ v179 ∧ v179 ≤ hb_ := (by omega)
      refine And.intro (by omega) ⟨fun h183 => ?_, fun h183 => ?_⟩
      · refine hQ _ ?_ (by have t1 := bStp_2 s c x; omega)
        · obtain rfl : m = 4 := (by omega)
          unfold gSt bEnt
          rw [Int.natCast_add, Int.natCast_mul]
          first
          | (rw [zite_t (show rr ≠ 0 ∧ bHl s n d from And.intro (by omega) (And.intro (by omega) (by omega)))]; omega)
          | (rw [zite_f (fun q : rr ≠ 0 ∧ bHl s n d => by have q1 := q.1; have q2 := q.2.1; have q3 := q.2.2; omega)]; omega)
      · refine And.intro (zDX hd 0 rfl) (zrdR (v := some (k + 3)) (zDR hd 2 rfl) ?_)
        refine And.intro (zDP hd 3 rfl rfl (by omega) (by omega)) (fun v192 e192 r192 => ?_)
        have f192 : v192 = bho s d := (e192.trans ((congrArg (I1 (k + 3)) (by omega)).trans (hcl d h1d).1))
        refine And.intro ⟨r192, (zRb rfl)⟩ ⟨fun h194 => ?_, fun h194 => ?_⟩
        · refine hQ _ ?_ (by have t1 := bStp_2 s c x; omega)
          · obtain rfl : m = 4 := (by omega)
            unfold gSt bEnt
            rw [Int.natCast_add, Int.natCast_mul]
            first
            | (rw [zite_t (show rr ≠ 0 ∧ bHl s n d from And.intro (by omega) (And.intro (by omega) (by omega)))]; omega)
            | (rw [zite_f (fun q : rr ≠ 0 ∧ bHl s n d => by have q1 := q.1; have q2 := q.2.1; have q3 := q.2.2; omega)]; omega)
        · refine And.intro (zDX hd 0 rfl) (zrdR (v := some (k + 3)) (zDR hd 2 rfl) ?_)
          refine And.intro (zDP hd 3 rfl rfl (by omega) (by omega)) (fun v203 e203 r203 => ?_)
          have f203 : v203 = bho s d := (e203.trans ((congrArg (I1 (k + 3)) (by omega)).trans (hcl d h1d).1))
          refine And.intro ⟨r203, (by omega)⟩ ⟨fun h205 => ?_, fun h205 => ?_⟩
          · refine hQ _ ?_ (by have t1 := bStp_2 s c x; omega)
            · obtain rfl : m = 4 := (by omega)
              unfold gSt bEnt
              rw [Int.natCast_add, Int.natCast_mul]
              first
              | (rw [zite_t (show rr ≠ 0 ∧ bHl s n d from And.intro (by omega) (And.intro (by omega) (by omega)))]; omega)
              | (rw [zite_f (fun q : rr ≠ 0 ∧ bHl s n d => by have q1 := q.1; have q2 := q.2.1; have q3 := q.2.2; omega)]; omega)
          · refine hQ _ ?_ (by have t1 := bStp_2 s c x; omega)
            · obtain rfl : m = 4 := (by omega)
              unfold gSt bEnt
              rw [Int.natCast_add, Int.natCast_mul]
              first
              | (rw [zite_t (show rr ≠ 0 ∧ bHl s n d from And.intro (by omega) (And.intro (by omega) (by omega)))]; omega)
              | (rw [zite_f (fun q : rr ≠ 0 ∧ bHl s n d => by have q1 := q.1; have q2 := q.2.1; have q3 := q.2.2; omega)]; omega)
    · refine And.intro (zDX hd 0 rfl) ⟨_, sn_G_nb.up (by decide), ?_⟩
      refine ⟨k, _, s, (d : Int), d, ((m + 1) : Int), (m + 1), rfl, hd, (by first | exact (zBB_fr hBB (fun c j h => rfl) (fun c j h => rfl)) | (clear hQ; grind [xu])), (by first | exact hGz | (clear hQ; grind [xu])), (by omega), hdK, (by omega), ?_⟩
      intro v115o p115hv p115bhv2
      have g115 : v115o = bnb s d (m + 1) := p115hv
      have g115b : bNr s n d (m + 1) = bNr s n d m + zite (bHO s n v115o) 1 0 := (by rw [p115hv]; rfl)
      have g115bb : bNr s n d (m + 1) ≤ m + 1 := (bNr_le s n d (m + 1))
      refine And.intro ⟨(by omega), (zRb rfl)⟩ ⟨fun h125 => ?_, fun h125 => ?_⟩
      · refine ⟨((6 - (m + 1)), 0, 0), zlt6 (by omega), [some (zvr (k)), some (zvi (n)), some (zvi (c)), some (zvi (x)), some (zvi (d)), some (zvi (rr)), some (zvi (y)), some (zvl ((u + 0))), none, some (zvi ((m + 1) + 1)), none], ⟨rfl, rfl, rfl, rfl, rfl, rfl, rfl, rfl, rfl, rfl⟩, (m + 1), (u + 0), y, rfl, rfl, rfl, rfl, rfl, rfl, rfl, (by omega), hy, ?_⟩
        · rw [g115b, Int.natCast_add, Int.mul_add]
          first
          | (rw [zite_f (show ¬ (bHO s n v115o) from fun q => by have q1 := q.1; have q2 := q.2.1; have q3 := q.2.2; omega)]; omega)
          | (rw [zite_t (show bHO s n v115o from And.intro (by omega) (And.intro (by omega) (by omega)))]; omega)
      · refine And.intro (zDX hd 0 rfl) (zrdR (v := some (k + 3)) (zDR hd 2 rfl) ?_)
        refine And.intro (zDP hd 3 rfl rfl (by omega) (by omega)) (fun v134 e134 r134 => ?_)
        have f134 : v134 = bho s v115o.toNat := (e134.trans (hcl v115o.toNat (by omega)).1)
        refine And.intro ⟨r134, (zRb rfl)⟩ ⟨fun h136 => ?_, fun h136 => ?_⟩
        · refine ⟨((6 - (m + 1)), 0, 0), zlt6 (by omega), [some (zvr (k)), some (zvi (n)), some (zvi (c)), some (zvi (x)), some (zvi (d)), some (zvi (rr)), some (zvi (y)), some (zvl ((u + 0))), none, some (zvi ((m + 1) + 1)), none], ⟨rfl, rfl, rfl, rfl, rfl, rfl, rfl, rfl, rfl, rfl⟩, (m + 1), (u + 0), y, rfl, rfl, rfl, rfl, rfl, rfl, rfl, (by omega), hy, ?_⟩
          · rw [g115b, Int.natCast_add, Int.mul_add]
            first
            | (rw [zite_f (show ¬ (bHO s n v115o) from fun q => by have q1 := q.1; have q2 := q.2.1; have q3 := q.2.2; omega)]; omega)
            | (rw [zite_t (show bHO s n v115o from And.intro (by omega) (And.intro (by omega) (by omega)))]; omega)
        · refine And.intro (zDX hd 0 rfl) (zrdR (v := some (k + 3)) (zDR hd 2 rfl) ?_)
          refine And.intro (zDP hd 3 rfl rfl (by omega) (by omega)) (fun v145 e145 r145 => ?_)
          have f145 : v145 = bho s v115o.toNat := (e145.trans (hcl v115o.toNat (by omega)).1)
          refine And.intro ⟨r145, (by omega)⟩ ⟨fun h147 => ?_, fun h147 => ?_⟩
          · refine ⟨((6 - (m + 1)), 0, 0), zlt6 (by omega), [some (zvr (k)), some (zvi (n)), some (zvi (c)), some (zvi (x)), some (zvi (d)), some (zvi (rr)), some (zvi (y)), some (zvl ((u + 0))), none, some (zvi ((m + 1) + 1)), none], ⟨rfl, rfl, rfl, rfl, rfl, rfl, rfl, rfl, rfl, rfl⟩, (m + 1), (u + 0), y, rfl, rfl, rfl, rfl, rfl, rfl, rfl, (by omega), hy, ?_⟩
            · rw [g115b, Int.natCast_add, Int.mul_add]
              first
              | (rw [zite_f (show ¬ (bHO s n v115o) from fun q => by have q1 := q.1; have q2 := q.2.1; have q3 := q.2.2; omega)]; omega)
              | (rw [zite_t (show bHO s n v115o from And.intro (by omega) (And.intro (by omega) (by omega)))]; omega)
          · refine And.intro (zDX hd 0 rfl) (zrdR (v := some (k + 9)) (zDR hd 8 rfl) ?_)
            refine And.intro (zDP hd 9 rfl rfl (by omega) (by omega)) (fun v156 e156 r156 => ?_)
            have f156 : v156 = bco s 2 (d / bW s / bH s) := (e156.trans ((congrArg (I1 (k + 9)) (by omega)).trans (hco (d / bW s / bH s) hl4).2.2))
            have f156b : 0 ≤ v156 ∧ v156 ≤ 50 := (by omega)
            refine And.intro r156 ?_
            refine ⟨((6 - (m + 1)), 0, 0), zlt6 (by omega), [some (zvr (k)), some (zvi (n)), some (zvi (c)), some (zvi (x)), some (zvi (d)), some (zvi (rr)), some (zvi (y)), some (zvl ((u + v156))), none, some (zvi ((m + 1) + 1)), none], ⟨rfl, rfl, rfl, rfl, rfl, rfl, rfl, rfl, rfl, rfl⟩, (m + 1), (u + v156), y, rfl, rfl, rfl, rfl, rfl, rfl, rfl, (by omega), hy, ?_⟩
            · rw [g115b, Int.natCast_add, Int.mul_add]
              first
              | (rw [zite_f (show ¬ (bHO s n v115o) from fun q => by have q1 := q.1; have q2 := q.2.1; have q3 := q.2.2; omega)]; omega)
              | (rw [zite_t (show bHO s n v115o from And.intro (by omega) (And.intro (by omega) (by omega)))]; omega))
