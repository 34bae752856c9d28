/-! THE SEARCH: cells spread one after another -/
def hM (h : Nat → Int) (z : Nat) (v : Int) : Prop := zex (fun j => j < z ∧ h j = v)
theorem hM_add {h h' : Nat → Int} {z : Nat} {v : Int} (a : hpAdd h z v h') (w : Int) : hM h' (z + 1) w ↔ (hM h z w ∨ w = v) := by
  obtain ⟨a1, a2, a3⟩ := a
  constructor
  · intro q
    obtain ⟨j, q1, q2⟩ := q
    rcases a1 j q1 with e | e
    · exact Or.inr (q2.symm.trans e)
    · obtain ⟨i, e1, e2⟩ := e
      exact Or.inl (Exists.intro i ⟨e1, e2.trans q2⟩)
  · rintro (q | q)
    · obtain ⟨i, q1, q2⟩ := q
      obtain ⟨j, e1, e2⟩ := a3 i q1
      exact Exists.intro j ⟨e1, e2.trans q2⟩
    · obtain ⟨j, e1, e2⟩ := a2
      exact Exists.intro j ⟨e1, e2.trans q.symm⟩
theorem hM_del {h h' : Nat → Int} {z : Nat} (a : hpDel h z h') (hn : ∀ j : Nat, j < z - 1 → h' j ≠ h 0) (w : Int) : hM h' (z - 1) w ↔ (hM h z w ∧ w ≠ h 0) := by
  obtain ⟨a1, a2⟩ := a
  constructor
  · intro q
    obtain ⟨j, q1, q2⟩ := q
    obtain ⟨i, e1, e2⟩ := a1 j q1
    exact ⟨Exists.intro i ⟨e1, e2.trans q2⟩, fun e => hn j q1 (q2.trans e)⟩
  · rintro ⟨q, q3⟩
    obtain ⟨i, q1, q2⟩ := q
    obtain ⟨j, e1, e2⟩ := a2 i q1 (fun e => q3 (q2.symm.trans e))
    exact Exists.intro j ⟨e1, e2.trans q2⟩
theorem hM_min {h : Nat → Int} {z : Nat} (ho : hpO h z) {w : Int} (q : hM h z w) : h 0 ≤ w := by
  obtain ⟨j, q1, q2⟩ := q
  rw [← q2]
  exact hpO_min ho j q1
/-- what the search keeps: sp are the cells that were spread, lv what was taken last, c the cell that is being spread, to x of its sides -/
def bSx (s : BdS) (n r : Int) (T : Nat → Prop) (U : Int) (dd h : Nat → Int) (z : Nat) (sp : Nat → Prop) (lv : Int) (c x : Nat) : Prop :=
  (∀ d : Nat, d < bK s → dd d = -1 ∨ (0 ≤ bDi s n r T d ∧ bDi s n r T d ≤ dd d ∧ dd d ≤ U)) ∧
  (∀ d : Nat, sp d → d < bK s ∧ dd d = bDi s n r T d ∧ 0 ≤ dd d ∧ dd d * 1024 + d ≤ lv) ∧
  (∀ d : Nat, d < bK s → T d → dd d = 0) ∧
  (∀ d : Nat, d < bK s → dd d ≠ -1 → ¬ sp d → hM h z (dd d * 1024 + d)) ∧
  (∀ w : Int, hM h z w → lv < w ∧ 0 ≤ w ∧ (w % 1024).toNat < bK s ∧ dd (w % 1024).toNat ≠ -1 ∧ dd (w % 1024).toNat ≤ w / 1024 ∧ w / 1024 ≤ U) ∧
  (∀ d y e : Nat, sp d → y < 6 → (d = c → y < x) → bnb s d y = e → bTl s n r e ≠ -1 → dd e ≠ -1 ∧ dd e ≤ dd d + bStp s d y + bTl s n r e)
theorem bSx_cl {s : BdS} {n r : Int} {T : Nat → Prop} {U : Int} {dd h : Nat → Int} {z : Nat} {sp : Nat → Prop} {lv : Int} {c : Nat} (hb : bK s ≤ 1024) (hx : bSx s n r T U dd h z sp lv c 6) {m : Int} (hm : ∀ w, hM h z w → m ≤ w / 1024) :
    ∀ k d : Nat, 0 ≤ bDi s n r T d → bDi s n r T d ≤ k → bDi s n r T d < m → sp d ∧ dd d = bDi s n r T d := by
  obtain ⟨x1, x2, x3, x4, x5, x6⟩ := hx
  have fin : ∀ d : Nat, 0 ≤ bDi s n r T d → bDi s n r T d < m → dd d ≠ -1 → dd d ≤ bDi s n r T d → sp d ∧ dd d = bDi s n r T d := by
    intro d h0 h2 h3 h4
    have hd := bDi_lt hb h0
    have e : dd d = bDi s n r T d := by
      rcases x1 d hd with q | q
      · exact absurd q h3
      · omega
    refine ⟨Classical.byContradiction (fun q => ?_), e⟩
    have w := hm _ (x4 d hd h3 q)
    omega
  intro k
  induction k with
  | zero =>
    intro d h0 h1 h2
    by_cases hT : T d
    · have := x3 d (bDi_lt hb h0) hT
      exact fin d h0 h2 (by omega) (by omega)
    · obtain ⟨c', y, y1, y2, y3, y4, y5⟩ := bDi_p h0 hT
      have t0 := bTl_ge s n r d
      have t1 := bStp_2 s c' y
      omega
  | succ k ih =>
    intro d h0 h1 h2
    by_cases hT : T d
    · have := x3 d (bDi_lt hb h0) hT
      exact fin d h0 h2 (by omega) (by omega)
    · obtain ⟨c', y, y1, y2, y3, y4, y5⟩ := bDi_p h0 hT
      have t0 := bTl_ge s n r d
      have t1 := bStp_2 s c' y
      obtain ⟨i1, i2⟩ := ih c' y3 (by omega) (by omega)
      have w := x6 c' y d i1 y1 (fun _ => y1) y2 y4
      exact fin d h0 h2 w.1 (by omega)
theorem bSx_lo {s : BdS} {n r : Int} {T : Nat → Prop} {U : Int} {dd h : Nat → Int} {z : Nat} {sp : Nat → Prop} {lv : Int} {c : Nat} (hb : bK s ≤ 1024) (hx : bSx s n r T U dd h z sp lv c 6) {m : Int} (hm : ∀ w, hM h z w → m ≤ w / 1024) (d : Nat) (h0 : 0 ≤ bDi s n r T d) (h2 : bDi s n r T d < m) : sp d ∧ dd d = bDi s n r T d :=
  bSx_cl hb hx hm (bDi s n r T d).toNat d h0 (by omega) h2
/-- the heap is used up: all is found -/
theorem bSx_all {s : BdS} {n r : Int} {T : Nat → Prop} {U : Int} {dd h : Nat → Int} {sp : Nat → Prop} {lv : Int} {c : Nat} (hb : bK s ≤ 1024) (hx : bSx s n r T U dd h 0 sp lv c 6) (d : Nat) (hd : d < bK s) : dd d = bDi s n r T d ∧ (0 ≤ dd d → sp d) := by
  rcases bDi_ge s n r T d with q | q
  · rcases hx.1 d hd with q2 | q2
    · exact ⟨by omega, fun h => by omega⟩
    · omega
  · have w := bSx_lo hb hx (m := bDi s n r T d + 1) (fun w hw => by obtain ⟨j, j1, j2⟩ := hw; omega) d q (by omega)
    exact ⟨w.2, fun _ => w.1⟩
/-- what is taken is stale -/
theorem bSx_old {s : BdS} {n r : Int} {T : Nat → Prop} {U : Int} {dd h h' : Nat → Int} {z : Nat} {sp : Nat → Prop} {lv : Int} {c : Nat} (hb : bK s ≤ 1024) (hx : bSx s n r T U dd h z sp lv c 6) (hz : 1 ≤ z) (ho : hpO h z) (a : hpDel h z h') (hn : ∀ j : Nat, j < z - 1 → h' j ≠ h 0) (hne : dd (h 0 % 1024).toNat ≠ h 0 / 1024) : bSx s n r T U dd h' (z - 1) sp (h 0) c 6 := by
  obtain ⟨x1, x2, x3, x4, x5, x6⟩ := hx
  have w0 := x5 (h 0) (Exists.intro 0 ⟨by omega, rfl⟩)
  refine ⟨x1, fun d hd => ?_, x3, fun d h1 h2 h3 => (hM_del a hn _).2 ⟨x4 d h1 h2 h3, fun e => ?_⟩, fun w hw => ?_, x6⟩
  · have w := x2 d hd
    exact ⟨w.1, w.2.1, w.2.2.1, by omega⟩
  · rcases x1 d h1 with q | q
    · exact h2 q
    · have e1 : (h 0 % 1024).toNat = d := by omega
      rw [e1] at hne
      omega
  · have w1 := (hM_del a hn w).1 hw
    have w2 := x5 w w1.1
    have w3 := hM_min ho w1.1
    exact ⟨by omega, w2.2⟩
/-- what is taken is a cell's distance -/
theorem bSx_new {s : BdS} {n r : Int} {T : Nat → Prop} {U : Int} {dd h h' : Nat → Int} {z : Nat} {sp : Nat → Prop} {lv : Int} {c k : Nat} (hb : bK s ≤ 1024) (hx : bSx s n r T U dd h z sp lv c 6) (hz : 1 ≤ z) (ho : hpO h z) (a : hpDel h z h') (hn : ∀ j : Nat, j < z - 1 → h' j ≠ h 0) (hk : k = (h 0 % 1024).toNat) (he : dd k = h 0 / 1024) :
    bSx s n r T U dd h' (z - 1) (fun d => sp d ∨ d = k) (h 0) k 0 ∧ ¬ sp k ∧ k < bK s ∧ dd k = bDi s n r T k ∧ 0 ≤ dd k ∧ h 0 = dd k * 1024 + k ∧ ∀ d : Nat, 0 ≤ bDi s n r T d → bDi s n r T d < dd k → sp d := by
  have w0 := hx.2.2.2.2.1 (h 0) (Exists.intro 0 ⟨by omega, rfl⟩)
  rw [← hk] at w0
  have lo := bSx_lo hb hx (m := h 0 / 1024) (fun w hw => by
    have := hM_min ho hw
    omega)
  obtain ⟨x1, x2, x3, x4, x5, x6⟩ := hx
  have hek : dd k = bDi s n r T k := by
    rcases x1 k w0.2.2.1 with q | q
    · exact absurd q w0.2.2.2.1
    · rcases Int.lt_or_le (bDi s n r T k) (h 0 / 1024) with q2 | q2
      · exact (lo k q.1 q2).2
      · omega
  have hnk : ¬ sp k := fun q => by
    have := (x2 k q).2.2.2
    omega
  refine ⟨⟨x1, ?_, x3, fun d h1 h2 h3 => (hM_del a hn _).2 ⟨x4 d h1 h2 (fun q => h3 (Or.inl q)), fun e => ?_⟩, fun w hw => ?_, fun d y e hd hy hc => ?_⟩, hnk, w0.2.2.1, hek, by omega, by omega, fun d q1 q2 => (lo d q1 (by omega)).1⟩
  · rintro d (hd | rfl)
    · have w := x2 d hd
      exact ⟨w.1, w.2.1, w.2.2.1, by omega⟩
    · exact ⟨w0.2.2.1, hek, by omega, by omega⟩
  · exact h3 (Or.inr (by omega))
  · have w1 := (hM_del a hn w).1 hw
    have w2 := x5 w w1.1
    have w3 := hM_min ho w1.1
    exact ⟨by omega, w2.2⟩
  · rcases hd with hd | rfl
    · exact x6 d y e hd hy (fun _ => hy)
    · exact absurd (hc rfl) (Nat.not_lt_zero y)
/-- a side that leads nowhere -/
theorem bSx_nx {s : BdS} {n r : Int} {T : Nat → Prop} {U : Int} {dd h : Nat → Int} {z : Nat} {sp : Nat → Prop} {lv : Int} {c x : Nat} (hx : bSx s n r T U dd h z sp lv c x) (hs : ∀ e : Nat, bnb s c x = e → bTl s n r e = -1 ∨ (dd e ≠ -1 ∧ dd e ≤ dd c + bStp s c x + bTl s n r e)) : bSx s n r T U dd h z sp lv c (x + 1) := by
  obtain ⟨x1, x2, x3, x4, x5, x6⟩ := hx
  refine ⟨x1, x2, x3, x4, x5, fun d y e hd hy hc he ht => ?_⟩
  by_cases q : d = c ∧ y = x
  · obtain ⟨rfl, rfl⟩ := q
    rcases hs e he with w | w
    · exact absurd w ht
    · exact w
  · exact x6 d y e hd hy (fun w => by have := hc w; omega) he ht
/-- a side that leads to a cell nearer now -/
theorem bSx_up {s : BdS} {n r : Int} {T : Nat → Prop} {U : Int} {dd d' h h' : Nat → Int} {z : Nat} {sp : Nat → Prop} {lv : Int} {c x e : Nat} {v : Int} (hb : bK s ≤ 1024) (hx : bSx s n r T U dd h z sp lv c x) (hx6 : x < 6) (hc : sp c) (hlv : lv = dd c * 1024 + c) (he : bnb s c x = e) (ht : bTl s n r e ≠ -1) (hv : v = dd c + bStp s c x + bTl s n r e) (hU : v ≤ U) (hk : ¬ (dd e ≠ -1 ∧ dd e ≤ v)) (a : hpAdd h z (v * 1024 + e) h') (hd : ∀ j : Nat, j < 1024 → d' j = upF dd e v j) :
    bSx s n r T U d' h' (z + 1) sp lv c (x + 1) ∧ ∀ i : Nat, i < z → h i ≠ v * 1024 + e := by
  have heK : e < bK s := by
    have w := nbI_b (W := bW s) (H := bH s) (D := bD s) (c := c) (s := x) hb
    have h4 : nbI (bW s) (bH s) (bD s) c x = e := he
    have h5 : (bW s * bH s * bD s : Nat) = bK s := rfl
    omega
  have t0 := bTl_ge s n r e
  have t1 := bStp_2 s c x
  obtain ⟨x1, x2, x3, x4, x5, x6⟩ := hx
  have hcc := x2 c hc
  have hsp : ¬ sp e := fun q => by
    have w1 := x2 e q
    have w := (bDi_s (by omega : 0 ≤ bDi s n r T c) hx6 he ht).2
    omega
  have at_ : d' e = v := (hd e (by omega)).trans (if_pos rfl)
  have up : ∀ j : Nat, j < bK s → j ≠ e → d' j = dd j := fun j h1 h2 => (hd j (by omega)).trans (if_neg h2)
  have hDe := (bDi_s (by omega : 0 ≤ bDi s n r T c) hx6 he ht)
  have ent : ∀ w : Int, hM h z w → (w % 1024).toNat = e → v < w / 1024 := fun w hw q => by
    have w1 := x5 w hw
    rw [q] at w1
    omega
  refine ⟨⟨fun d h1 => ?_, fun d q => ?_, fun d h1 h2 => ?_, fun d h1 h2 h3 => ?_, fun w hw => ?_, fun d y g hd2 hy hq hg htg => ?_⟩, fun i hi q => ?_⟩
  · by_cases q : d = e
    · rw [q, at_]
      right
      omega
    · rw [up d h1 q]
      exact x1 d h1
  · have w := x2 d q
    have hne : d ≠ e := fun k => hsp (by rw [← k]; exact q)
    rw [up d w.1 hne]
    exact w
  · have w := x3 d h1 h2
    by_cases q : d = e
    · rw [q] at w
      omega
    · rw [up d h1 q]
      exact w
  · by_cases q : d = e
    · rw [q, at_]
      exact (hM_add a _).2 (Or.inr rfl)
    · rw [up d h1 q] at h2 ⊢
      exact (hM_add a _).2 (Or.inl (x4 d h1 h2 h3))
  · rcases (hM_add a w).1 hw with q | q
    · have w1 := x5 w q
      by_cases q2 : (w % 1024).toNat = e
      · have w2 := ent w q q2
        rw [q2, at_]
        exact ⟨w1.1, w1.2.1, heK, by omega, by omega, w1.2.2.2.2.2⟩
      · rw [up _ w1.2.2.1 q2]
        exact w1
    · have q2 : (w % 1024).toNat = e := by omega
      rw [q2, at_]
      exact ⟨by omega, by omega, heK, by omega, by omega, by omega⟩
  · have hdn : d ≠ e := fun k => hsp (by rw [← k]; exact hd2)
    have hgK : g < bK s := by
      have w := nbI_b (W := bW s) (H := bH s) (D := bD s) (c := d) (s := y) hb
      have h4 : nbI (bW s) (bH s) (bD s) d y = g := hg
      have h5 : (bW s * bH s * bD s : Nat) = bK s := rfl
      omega
    rw [up d (x2 d hd2).1 hdn]
    by_cases q : d = c ∧ y = x
    · obtain ⟨rfl, rfl⟩ := q
      have e2 : g = e := by
        have := hg.symm.trans he
        omega
      rw [e2, at_]
      omega
    · have w := x6 d y g hd2 hy (fun k => by have := hq k; omega) hg htg
      by_cases q2 : g = e
      · rw [q2, at_]
        rw [q2] at w
        omega
      · rw [up g hgK q2]
        exact w
  · have w := ent _ (Exists.intro i ⟨hi, rfl⟩) (by omega)
    omega
/-- the first cells -/
theorem bSx_0 {s : BdS} {n r : Int} {T : Nat → Prop} {U : Int} {dd h : Nat → Int} {z : Nat} (hb : bK s ≤ 1024) (hU : 0 ≤ U) (h1 : ∀ d : Nat, d < bK s → (T d → dd d = 0) ∧ (¬ T d → dd d = -1)) (h2 : ∀ w : Int, hM h z w ↔ zex (fun d => d < bK s ∧ T d ∧ w = d)) : bSx s n r T U dd h z (fun _ => False) (-1) 0 6 := by
  refine ⟨fun d hd => ?_, fun d q => q.elim, fun d hd q => (h1 d hd).1 q, fun d hd q _ => ?_, fun w hw => ?_, fun d y e hd => hd.elim⟩
  · by_cases q : T d
    · right
      rw [(h1 d hd).1 q, bDi_T hd q]
      omega
    · exact Or.inl ((h1 d hd).2 q)
  · by_cases q2 : T d
    · rw [(h1 d hd).1 q2]
      exact (h2 _).2 (Exists.intro d ⟨hd, q2, by omega⟩)
    · exact absurd ((h1 d hd).2 q2) q
  · obtain ⟨d, q1, q2, q3⟩ := (h2 w).1 hw
    have e : (w % 1024).toNat = d := by omega
    rw [e, (h1 d q1).1 q2]
    exact ⟨by omega, by omega, q1, by omega, by omega, by omega⟩
/-- how many of the first k -/
noncomputable def zct (P : Nat → Prop) : Nat → Nat
  | 0 => 0
  | k + 1 => zct P k + zite (P k) 1 0
theorem zct_le (P : Nat → Prop) : ∀ k, zct P k ≤ k
  | 0 => Nat.le_refl 0
  | k + 1 => by
    have h := zct_le P k
    show zct P k + zite (P k) 1 0 ≤ k + 1
    by_cases e : P k
    · rw [zite_t e]; omega
    · rw [zite_f e]; omega
theorem zct_mono {P Q : Nat → Prop} (hPQ : ∀ d, P d → Q d) : ∀ k, zct P k ≤ zct Q k
  | 0 => Nat.le_refl 0
  | k + 1 => by
    have h := zct_mono hPQ k
    show zct P k + zite (P k) 1 0 ≤ zct Q k + zite (Q k) 1 0
    by_cases e : P k
    · rw [zite_t e, zite_t (hPQ k e)]; omega
    · rw [zite_f e]; omega
theorem zct_lt {P Q : Nat → Prop} (hPQ : ∀ d, P d → Q d) {c : Nat} (hc : ¬ P c) (hc2 : Q c) : ∀ {k}, c < k → zct P k + 1 ≤ zct Q k
  | 0, h => absurd h (Nat.not_lt_zero c)
  | k + 1, h => by
    show zct P k + zite (P k) 1 0 + 1 ≤ zct Q k + zite (Q k) 1 0
    by_cases e : c = k
    · have w := zct_mono hPQ k
      rw [← e] at w ⊢
      rw [zite_f hc, zite_t hc2]
      omega
    · have w := zct_lt hPQ hc hc2 (show c < k by omega)
      by_cases e2 : P k
      · rw [zite_t e2, zite_t (hPQ k e2)]; omega
      · rw [zite_f e2]; omega
theorem zct_eq {P : Nat → Prop} {c : Nat} (hc : ¬ P c) : ∀ {k}, c < k → zct (fun d => P d ∨ d = c) k = zct P k + 1
  | 0, h => absurd h (Nat.not_lt_zero c)
  | k + 1, h => by
    show zct (fun d => P d ∨ d = c) k + zite (P k ∨ k = c) 1 0 = zct P k + zite (P k) 1 0 + 1
    by_cases e : c = k
    · have w : ∀ j, j ≤ k → zct (fun d => P d ∨ d = c) j = zct P j := by
        intro j
        induction j with
        | zero => intro _; rfl
        | succ j ih =>
          intro hj
          show zct (fun d => P d ∨ d = c) j + zite (P j ∨ j = c) 1 0 = zct P j + zite (P j) 1 0
          rw [ih (by omega)]
          by_cases e2 : P j
          · rw [zite_t e2, zite_t (Or.inl e2)]
          · rw [zite_f e2, zite_f (fun q => by rcases q with q | q; exact e2 q; omega)]
      rw [w k (Nat.le_refl k), zite_t (Or.inr e.symm), zite_f (by rw [← e]; exact hc)]
    · rw [zct_eq hc (show c < k by omega)]
      by_cases e2 : P k
      · rw [zite_t e2, zite_t (Or.inl e2)]
      · rw [zite_f e2, zite_f (fun q => by rcases q with q | q; exact e2 q; omega)]
theorem zct_one {P : Nat → Prop} {c : Nat} (hc : P c) : ∀ {k}, c < k → 1 ≤ zct P k
  | 0, h => absurd h (Nat.not_lt_zero c)
  | k + 1, h => by
    show 1 ≤ zct P k + zite (P k) 1 0
    by_cases e : c = k
    · rw [← e, zite_t hc]; omega
    · have := zct_one hc (show c < k by omega)
      omega
/-- a distance is at most so many times the dearest step -/
theorem bDi_ub {s : BdS} {n r : Int} {T : Nat → Prop} {M : Int} (hb : bK s ≤ 1024) (hM0 : 0 ≤ M) (hM : ∀ c x d : Nat, c < bK s → x < 6 → d < bK s → bStp s c x + bTl s n r d ≤ M) : ∀ k d : Nat, bDi s n r T d ≤ k → bDi s n r T d ≤ M * (zct (fun e => 0 ≤ bDi s n r T e ∧ bDi s n r T e < bDi s n r T d) (bK s) : Nat) := by
  intro k
  induction k with
  | zero =>
    intro d h1
    have := Int.mul_nonneg hM0 (Int.natCast_nonneg (zct (fun e => 0 ≤ bDi s n r T e ∧ bDi s n r T e < bDi s n r T d) (bK s)))
    omega
  | succ k ih =>
    intro d h1
    have w := Int.mul_nonneg hM0 (Int.natCast_nonneg (zct (fun e => 0 ≤ bDi s n r T e ∧ bDi s n r T e < bDi s n r T d) (bK s)))
    rcases bDi_ge s n r T d with q | q
    · omega
    · by_cases hT : T d
      · rw [bDi_T (bDi_lt hb q) hT] at w ⊢
        exact w
      · obtain ⟨c', y, y1, y2, y3, y4, y5⟩ := bDi_p q hT
        have t0 := bTl_ge s n r d
        have t1 := bStp_2 s c' y
        have i1 := ih c' (by omega)
        have i2 := zct_lt (P := fun e => 0 ≤ bDi s n r T e ∧ bDi s n r T e < bDi s n r T c') (Q := fun e => 0 ≤ bDi s n r T e ∧ bDi s n r T e < bDi s n r T d) (fun e he => ⟨he.1, by have := he.2; omega⟩) (c := c') (fun q => by have := q.2; omega) ⟨y3, by omega⟩ (bDi_lt hb y3)
        have i3 := hM c' y d (bDi_lt hb y3) y1 (bDi_lt hb q)
        have i4 := Int.mul_le_mul_of_nonneg_left (Int.ofNat_le.mpr i2) hM0
        rw [Int.natCast_add, Int.mul_add] at i4
        omega
theorem bDi_max {s : BdS} {n r : Int} {T : Nat → Prop} {M : Int} (hb : bK s ≤ 1024) (hM0 : 0 ≤ M) (hM : ∀ c x d : Nat, c < bK s → x < 6 → d < bK s → bStp s c x + bTl s n r d ≤ M) (d : Nat) : bDi s n r T d ≤ M * 1024 := by
  have w := bDi_ub (T := T) hb hM0 hM (bDi s n r T d).toNat d (by omega)
  have w2 := zct_le (fun e => 0 ≤ bDi s n r T e ∧ bDi s n r T e < bDi s n r T d) (bK s)
  have w3 := Int.mul_le_mul_of_nonneg_left (show ((zct (fun e => 0 ≤ bDi s n r T e ∧ bDi s n r T e < bDi s n r T d) (bK s) : Nat) : Int) ≤ 1024 by omega) hM0
  omega
theorem bSx_ext {s : BdS} {n r : Int} {T : Nat → Prop} {U : Int} {dd d' h h' : Nat → Int} {z : Nat} {sp : Nat → Prop} {lv : Int} {c x : Nat} (hb : bK s ≤ 1024) (hx : bSx s n r T U dd h z sp lv c x) (hd : ∀ j : Nat, j < 1024 → d' j = dd j) (hh : ∀ j : Nat, j < z → h' j = h j) : bSx s n r T U d' h' z sp lv c x := by
  have hm : ∀ w, hM h' z w ↔ hM h z w := fun w => ⟨fun q => by
    obtain ⟨j, q1, q2⟩ := q
    exact Exists.intro j ⟨q1, (hh j q1).symm.trans q2⟩, fun q => by
    obtain ⟨j, q1, q2⟩ := q
    exact Exists.intro j ⟨q1, (hh j q1).trans q2⟩⟩
  obtain ⟨x1, x2, x3, x4, x5, x6⟩ := hx
  refine ⟨fun d h1 => ?_, fun d q => ?_, fun d h1 h2 => ?_, fun d h1 h2 h3 => ?_, fun w hw => ?_, fun d y g hd2 hy hq hg htg => ?_⟩
  · rw [hd d (by omega)]
    exact x1 d h1
  · have w := x2 d q
    rw [hd d (by omega)]
    exact w
  · rw [hd d (by omega)]
    exact x3 d h1 h2
  · rw [hd d (by omega)] at h2 ⊢
    exact (hm _).2 (x4 d h1 h2 h3)
  · have w := x5 w ((hm _).1 hw)
    rw [hd _ (by omega)]
    exact w
  · have hgK : g < bK s := by
      have w := nbI_b (W := bW s) (H := bH s) (D := bD s) (c := d) (s := y) hb
      have h4 : nbI (bW s) (bH s) (bD s) d y = g := hg
      have h5 : (bW s * bH s * bD s : Nat) = bK s := rfl
      omega
    have w2 := (x2 d hd2).1
    rw [hd g (by omega), hd d (by omega)]
    exact x6 d y g hd2 hy hq hg htg
theorem bSx_step {s : BdS} {n r : Int} {T : Nat → Prop} {U : Int} {dd d' h h' : Nat → Int} {z : Nat} {sp : Nat → Prop} {lv : Int} {c x e : Nat} {v zi : Int} (hb : bK s ≤ 1024) (hx : bSx s n r T U dd h z sp lv c x) (hI : hpI h z) (hx6 : x < 6) (hc : sp c) (hlv : lv = bDi s n r T c * 1024 + c) (he : bnb s c x = e) (ht : bTl s n r e ≠ -1) (hv : v = bDi s n r T c + bStp s c x + bTl s n r e) (hU : v ≤ U)
    (p1 : zi = if dd e ≠ -1 ∧ dd e ≤ v then (z : Int) else z + 1) (p2 : ∀ j : Nat, j < 1024 → d' j = if dd e ≠ -1 ∧ dd e ≤ v then dd j else upF dd e v j) (p3 : hpO h' (if dd e ≠ -1 ∧ dd e ≤ v then z else z + 1)) (p4 : if dd e ≠ -1 ∧ dd e ≤ v then (∀ j, h' j = h j) else hpAdd h z (v * 1024 + e) h') (p5 : hpI h z → (∀ i : Nat, i < z → h i ≠ v * 1024 + e) → ¬ (dd e ≠ -1 ∧ dd e ≤ v) → hpI h' (z + 1)) :
    bSx s n r T U d' h' zi.toNat sp lv c (x + 1) ∧ hpO h' zi.toNat ∧ hpI h' zi.toNat ∧ 0 ≤ zi ∧ zi ≤ z + 1 := by
  have hcc := hx.2.1 c hc
  by_cases hk : dd e ≠ -1 ∧ dd e ≤ v
  · rw [if_pos hk] at p1 p3 p4
    have e1 : zi.toNat = z := by omega
    have e2 : h' = h := funext p4
    rw [e1]
    refine ⟨bSx_ext hb (bSx_nx hx (fun g hg => Or.inr ?_)) (fun j hj => (p2 j hj).trans (if_pos hk)) (fun j _ => p4 j), p3, by rw [e2]; exact hI, by omega, by omega⟩
    have e3 : g = e := by
      have := hg.symm.trans he
      omega
    rw [e3]
    exact ⟨hk.1, by omega⟩
  · rw [if_neg hk] at p1 p3 p4
    have e1 : zi.toNat = z + 1 := by omega
    rw [e1]
    have w := bSx_up hb hx hx6 hc (by omega) he ht (v := v) (by omega) hU hk p4 (fun j hj => (p2 j hj).trans (if_neg hk))
    exact ⟨w.1, p3, p5 hI w.2 hk, by omega, by omega⟩
