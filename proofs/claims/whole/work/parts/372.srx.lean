/-! THE SEARCH: what comes of it -/
def bOut (s : BdS) (n : Int) (tr : Nat → Int) (c : Nat) : Prop := c < bK s ∧ bpa s c ≠ -1 ∧ bho s c = n ∧ tr c = 0
def bTr (s : BdS) (n : Nat) (c : Nat) : Prop := zex (fun k => k < bwl s n ∧ bwy s n k = c)
noncomputable abbrev bDn (s : BdS) (n : Nat) (r : Int) (c : Nat) : Int := bDi s n r (bTr s n) c
/-- a pad that is not of the tree, and that no other is nearer than -/
def bNst (s : BdS) (n : Nat) (r : Int) (tr : Nat → Int) (d : Nat) : Prop := ∀ c, bOut s n tr c → 0 ≤ bDn s n r c → bDn s n r d ≤ bDn s n r c
noncomputable def bPk (s : BdS) (n : Nat) (r : Int) (tr : Nat → Int) : Int := zlow (fun p => bOut s n tr (bP s p 2).toNat ∧ 0 ≤ bDn s n r (bP s p 2).toNat ∧ bNst s n r tr (bP s p 2).toNat) (bnp s)
theorem zlow_cg {P Q : Nat → Prop} : ∀ {n : Nat}, (∀ b, b < n → (P b ↔ Q b)) → zlow P n = zlow Q n
  | 0, _ => rfl
  | n + 1, h => by
    have w := zlow_cg (n := n) (fun b hb => h b (by omega))
    unfold zlow
    rw [w]
    by_cases e : Q n
    · rw [zite_t e, zite_t ((h n (by omega)).2 e)]
    · rw [zite_f e, zite_f (fun q => e ((h n (by omega)).1 q))]
theorem bSx_c {s : BdS} {n r : Int} {T : Nat → Prop} {U : Int} {dd h : Nat → Int} {z : Nat} {sp : Nat → Prop} {lv : Int} {c : Nat} (c' : Nat) (hx : bSx s n r T U dd h z sp lv c 6) : bSx s n r T U dd h z sp lv c' 6 :=
  ⟨hx.1, hx.2.1, hx.2.2.1, hx.2.2.2.1, hx.2.2.2.2.1, fun d y e h1 h2 _ => hx.2.2.2.2.2 d y e h1 h2 (fun _ => h2)⟩
theorem bStp_le {s : BdS} (h : bGz s) {c : Nat} (hc : c < bK s) (x : Nat) : bStp s c x ≤ 52 := by
  have w := (cx_of (W := bW s) (H := bH s) (D := bD s) hc).1
  have hD : bD s ≤ 4 := h.1.2.2.1.2
  have q1 := h.2.2 1 (c / bW s / bH s) (by omega) (by omega)
  have q2 := h.2.2 1 (c / bW s / bH s - 1) (by omega) (by omega)
  have q3 := h.2.2 0 (c / bW s / bH s) (by omega) (by omega)
  unfold bStp
  split
  · split <;> omega
  · split
    · omega
    · split <;> omega
theorem bEnt_le {s : BdS} (h : bGz s) {c hb : Nat} (hc : c < bK s) (n : Int) (hh : bhi s c ≤ hb) : bEnt s n c ≤ hb + 200 := by
  have w := (cx_of (W := bW s) (H := bH s) (D := bD s) hc).1
  have hD : bD s ≤ 4 := h.1.2.2.1.2
  have q1 := h.2.2 2 (c / bW s / bH s) (by omega) (by omega)
  have q2 := bNr_le s n c 4
  have q3 := nmb q1 q2
  unfold bEnt
  omega
theorem bTl_le {s : BdS} (h : bGz s) {c hb : Nat} (hc : c < bK s) (n r : Int) (hh : bhi s c ≤ hb) : bTl s n r c ≤ hb + 300 := by
  have w := bEnt_le h hc n hh
  unfold bTl
  by_cases e : bba s c ≠ 0 ∨ (bHl s n c ∧ (r = 0 ∨ bpa s c ≠ -1))
  · rw [zite_t e]; omega
  · rw [zite_f e]
    by_cases e2 : bHl s n c
    · rw [zite_t e2]; omega
    · rw [zite_f e2]; omega
theorem bDn_le {s : BdS} (h : bGz s) {hb : Nat} (hh : ∀ c, c < bK s → bhi s c ≤ hb) (n r : Int) (T : Nat → Prop) (d : Nat) : bDi s n r T d ≤ (hb + 352) * 1024 :=
  bDi_max (M := hb + 352) h.1.2.2.2 (by omega) (fun c x d hc hx hd => by
    have w1 := bStp_le h hc x
    have w2 := bTl_le h hd n r (hh d hd)
    omega) d
/-- the first cells of the tree come into the heap -/
def bS0 (s : BdS) (T : Nat → Prop) (dd h : Nat → Int) (z : Nat) : Prop := (∀ d : Nat, d < bK s → (T d → dd d = 0) ∧ (¬ T d → dd d = -1)) ∧ ∀ w : Int, hM h z w ↔ zex (fun d => d < bK s ∧ T d ∧ w = d)
theorem bS0_0 {s : BdS} {dd h : Nat → Int} {T : Nat → Prop} (hT : ∀ d, ¬ T d) (hd : ∀ d, d < bK s → dd d = -1) : bS0 s T dd h 0 :=
  ⟨fun d h1 => ⟨fun q => absurd q (hT d), fun _ => hd d h1⟩, fun w => ⟨fun q => by
    obtain ⟨j, q1, q2⟩ := q
    exact absurd q1 (Nat.not_lt_zero j), fun q => by
    obtain ⟨d, q1, q2, q3⟩ := q
    exact absurd q2 (hT d)⟩⟩
theorem bS0_step {s : BdS} {T T' : Nat → Prop} {dd d' h h' : Nat → Int} {z e : Nat} {v zi : Int} (hb : bK s ≤ 1024) (hx : bS0 s T dd h z) (hI : hpI h z) (he : e < bK s) (hT : ∀ d, T' d ↔ (T d ∨ d = e)) (hv : v = 0)
    (p1 : zi = if dd e ≠ -1 ∧ dd e ≤ v then (z : Int) else z + 1) (p2 : ∀ j : Nat, j < 1024 → d' j = if dd e ≠ -1 ∧ dd e ≤ v then dd j else upF dd e v j) (p3 : hpO h' (if dd e ≠ -1 ∧ dd e ≤ v then z else z + 1)) (p4 : if dd e ≠ -1 ∧ dd e ≤ v then (∀ j, h' j = h j) else hpAdd h z (v * 1024 + e) h') (p5 : hpI h z → (∀ i : Nat, i < z → h i ≠ v * 1024 + e) → ¬ (dd e ≠ -1 ∧ dd e ≤ v) → hpI h' (z + 1)) :
    bS0 s T' d' h' zi.toNat ∧ hpO h' zi.toNat ∧ hpI h' zi.toNat ∧ 0 ≤ zi ∧ zi ≤ z + 1 := by
  obtain ⟨x1, x2⟩ := hx
  have xe := x1 e he
  by_cases hk : dd e ≠ -1 ∧ dd e ≤ v
  · rw [if_pos hk] at p1 p3 p4
    have e1 : zi.toNat = z := by omega
    have e2 : h' = h := funext p4
    have hTe : T e := Classical.byContradiction (fun q => hk.1 (xe.2 q))
    have hT2 : T' = T := funext (fun d => propext ((hT d).trans ⟨fun q => by
      rcases q with q | q
      · exact q
      · rw [q]; exact hTe, Or.inl⟩))
    rw [e1, hT2, e2]
    refine ⟨⟨fun d h1 => ?_, x2⟩, by rw [← e2]; exact p3, hI, by omega, by omega⟩
    rw [p2 d (by omega), if_pos hk]
    exact x1 d h1
  · rw [if_neg hk] at p1 p3 p4
    have e1 : zi.toNat = z + 1 := by omega
    have hTe : ¬ T e := fun q => hk (by rw [xe.1 q]; omega)
    rw [e1]
    refine ⟨⟨fun d h1 => ?_, fun w => (hM_add p4 w).trans ⟨fun q => ?_, fun q => ?_⟩⟩, p3, p5 hI (fun i hi q => ?_) hk, by omega, by omega⟩
    · rw [p2 d (by omega), if_neg hk]
      unfold upF
      by_cases q : d = e
      · rw [if_pos q]
        exact ⟨fun _ => hv, fun k => absurd ((hT d).2 (Or.inr q)) k⟩
      · rw [if_neg q]
        exact ⟨fun k => (x1 d h1).1 (by
          rcases (hT d).1 k with k | k
          · exact k
          · exact absurd k q), fun k => (x1 d h1).2 (fun k2 => k ((hT d).2 (Or.inl k2)))⟩
    · rcases q with q | q
      · obtain ⟨d, q1, q2, q3⟩ := (x2 w).1 q
        exact Exists.intro d ⟨q1, (hT d).2 (Or.inl q2), q3⟩
      · exact Exists.intro e ⟨he, (hT e).2 (Or.inr rfl), by omega⟩
    · obtain ⟨d, q1, q2, q3⟩ := q
      rcases (hT d).1 q2 with k | k
      · exact Or.inl ((x2 w).2 (Exists.intro d ⟨q1, k, q3⟩))
      · right
        rw [k] at q3
        omega
    · obtain ⟨d, q1, q2, q3⟩ := (x2 (v * 1024 + e)).1 (Exists.intro i ⟨hi, q⟩)
      have : d = e := by omega
      rw [this] at q2
      exact hTe q2
/-- what the search keeps of the best -/
def bBs (s : BdS) (n : Nat) (r : Int) (tr : Nat → Int) (sp : Nat → Prop) (B : Int) : Prop := (B = -1 ∧ ∀ d, sp d → ¬ bOut s n tr d) ∨ (0 ≤ B ∧ zex (fun d => bOut s n tr d ∧ bDn s n r d = B) ∧ ∀ d, bOut s n tr d → 0 ≤ bDn s n r d → B ≤ bDn s n r d)
theorem bBs_old {s : BdS} {n : Nat} {r : Int} {tr : Nat → Int} {sp : Nat → Prop} {B : Int} {k : Nat} (h : bBs s n r tr sp B) (hk : B ≠ -1 ∨ ¬ bOut s n tr k) : bBs s n r tr (fun d => sp d ∨ d = k) B := by
  rcases h with ⟨h1, h2⟩ | h
  · refine Or.inl ⟨h1, fun d q => ?_⟩
    rcases q with q | q
    · exact h2 d q
    · rw [q]
      exact hk.resolve_left (fun w => w h1)
  · exact Or.inr h
theorem bBs_new {s : BdS} {n : Nat} {r : Int} {tr : Nat → Int} {sp : Nat → Prop} {B v : Int} {k : Nat} (h : bBs s n r tr sp B) (hB : B = -1) (hk : bOut s n tr k) (hv : v = bDn s n r k) (h0 : 0 ≤ v) (hs : ∀ d : Nat, 0 ≤ bDn s n r d → bDn s n r d < v → sp d) (sp' : Nat → Prop) : bBs s n r tr sp' v := by
  rcases h with ⟨-, h2⟩ | h
  · exact Or.inr ⟨h0, Exists.intro k ⟨hk, hv.symm⟩, fun d q1 q2 => by
      rcases Int.lt_or_le (bDn s n r d) v with w | w
      · exact absurd q1 (h2 d (hs d q2 w))
      · exact w⟩
  · have := h.1
    omega
/-- the end of the search -/
theorem bSx_end {s : BdS} {n : Nat} {r : Int} {U : Int} {dd h : Nat → Int} {z : Nat} {sp : Nat → Prop} {lv B : Int} {c : Nat} {tr : Nat → Int} (hb : bK s ≤ 1024) (hx : bSx s n r (bTr s n) U dd h z sp lv c 6) (hB : bBs s n r tr sp B) (hz : z = 0 ∨ (B ≠ -1 ∧ hpO h z ∧ B < h 0 / 1024)) :
    (∀ d, d < bK s → dd d = -1 ∨ (0 ≤ bDn s n r d ∧ bDn s n r d ≤ dd d ∧ dd d ≤ U)) ∧ (∀ d, 0 ≤ bDn s n r d → bNst s n r tr d → dd d = bDn s n r d) ∧ (B = -1 → bPk s n r tr = -1) ∧ (B ≠ -1 → bPk s n r tr = zlow (fun p => bOut s n tr (bP s p 2).toNat ∧ dd (bP s p 2).toNat = B) (bnp s)) := by
  have fin : ∀ d, 0 ≤ bDn s n r d → bNst s n r tr d → dd d = bDn s n r d := by
    intro d h0 h1
    rcases hz with q | ⟨q1, q2, q3⟩
    · subst q
      exact (bSx_all hb hx d (bDi_lt hb h0)).1
    · rcases hB with w | ⟨w1, w2, w3⟩
      · exact absurd w.1 q1
      · obtain ⟨k, k1, k2⟩ := w2
        have e := h1 k k1 (by omega)
        refine (bSx_lo hb hx (m := h 0 / 1024) (fun w hw => ?_) d h0 (by
          have e2 : bDi s n r (bTr s n) d = bDn s n r d := rfl
          omega)).2
        have := hM_min q2 hw
        omega
  refine ⟨fun d hd => ?_, fin, fun e => ?_, fun e => ?_⟩
  · rcases hx.1 d hd with q | q
    · exact Or.inl q
    · exact Or.inr q
  · have hz0 : z = 0 := by
      rcases hz with q | q
      · exact q
      · exact absurd e q.1
    subst hz0
    rcases hB with w | w
    · refine zlow_no (fun p hp q => ?_)
      have w2 := bSx_all hb hx (bP s p 2).toNat q.1.1
      have w3 : bDi s n r (bTr s n) (bP s p 2).toNat = bDn s n r (bP s p 2).toNat := rfl
      have q2 := q.2.1
      exact w.2 _ (w2.2 (by omega)) q.1
    · have := w.1
      omega
  · rcases hB with w | ⟨w1, w2, w3⟩
    · exact absurd w.1 e
    · refine zlow_cg (fun p hp => ⟨fun q => ⟨q.1, ?_⟩, fun q => ⟨q.1, ?_, ?_⟩⟩)
      · have q1 := fin _ q.2.1 q.2.2
        obtain ⟨k, k1, k2⟩ := w2
        have q2 := q.2.2 k k1 (by omega)
        have q3 := w3 _ q.1 q.2.1
        omega
      · rcases hx.1 _ q.1.1 with k | k
        · have := q.2
          omega
        · exact k.1
      · rcases hx.1 _ q.1.1 with k | k
        · have := q.2
          omega
        · intro c' h1 h2
          have k1 := w3 c' h1 h2
          have k2 := k.2.1
          have k3 := q.2
          have k4 : bDi s n r (bTr s n) (bP s p 2).toNat = bDn s n r (bP s p 2).toNat := rfl
          omega
/-- one taken: stale or not, in one -/
noncomputable def spU (sp : Nat → Prop) (dd : Nat → Int) (w : Int) : Nat → Prop := fun d => sp d ∨ (d = (w % 1024).toNat ∧ dd (w % 1024).toNat = w / 1024)
theorem spU_t {sp : Nat → Prop} {dd : Nat → Int} {w : Int} {k : Nat} (hk : k = (w % 1024).toNat) (h : dd k = w / 1024) : spU sp dd w = fun d => sp d ∨ d = k := by
  subst hk
  exact funext (fun d => propext ⟨fun q => by
    rcases q with q | q
    · exact Or.inl q
    · exact Or.inr q.1, fun q => by
    rcases q with q | q
    · exact Or.inl q
    · exact Or.inr ⟨q, h⟩⟩)
theorem spU_f {sp : Nat → Prop} {dd : Nat → Int} {w : Int} (h : dd (w % 1024).toNat ≠ w / 1024) : spU sp dd w = sp :=
  funext (fun d => propext ⟨fun q => by
    rcases q with q | q
    · exact q
    · exact absurd q.2 h, Or.inl⟩)
theorem bSx_ol {s : BdS} {n r : Int} {T : Nat → Prop} {U : Int} {dd h h' : Nat → Int} {z : Nat} {sp : Nat → Prop} {lv : Int} {c : Nat} {w : Int} (hb : bK s ≤ 1024) (hx : bSx s n r T U dd h z sp lv c 6) (hz : 1 ≤ z) (ho : hpO h z) (a : hpDel h z h') (hn : ∀ j : Nat, j < z - 1 → h' j ≠ h 0) (hw : w = h 0) (hne : dd (w % 1024).toNat ≠ w / 1024) : bSx s n r T U dd h' (z - 1) sp w c 6 := by
  subst hw
  exact bSx_old hb hx hz ho a hn hne
theorem bSx_nw {s : BdS} {n r : Int} {T : Nat → Prop} {U : Int} {dd h h' : Nat → Int} {z : Nat} {sp : Nat → Prop} {lv : Int} {c : Nat} {w : Int} (hb : bK s ≤ 1024) (hx : bSx s n r T U dd h z sp lv c 6) (hz : 1 ≤ z) (ho : hpO h z) (a : hpDel h z h') (hn : ∀ j : Nat, j < z - 1 → h' j ≠ h 0) (hw : w = h 0) (he : dd (w % 1024).toNat = w / 1024) :
    bSx s n r T U dd h' (z - 1) (fun d => sp d ∨ d = (w % 1024).toNat) w (w % 1024).toNat 0 ∧ ¬ sp (w % 1024).toNat ∧ (w % 1024).toNat < bK s ∧ dd (w % 1024).toNat = bDi s n r T (w % 1024).toNat ∧ 0 ≤ dd (w % 1024).toNat ∧ w = dd (w % 1024).toNat * 1024 + (w % 1024).toNat ∧ ∀ d : Nat, 0 ≤ bDi s n r T d → bDi s n r T d < dd (w % 1024).toNat → sp d := by
  subst hw
  exact bSx_new hb hx hz ho a hn rfl he
/-- the first k cells of a way -/
def bTk (s : BdS) (n k : Nat) (c : Nat) : Prop := zex (fun q => q < k ∧ bwy s n q = c)
theorem bTk_0 (s : BdS) (n : Nat) (d : Nat) : ¬ bTk s n 0 d := fun q => by
  obtain ⟨j, q1, q2⟩ := q
  exact absurd q1 (Nat.not_lt_zero j)
theorem bTk_s (s : BdS) (n k : Nat) (d : Nat) : bTk s n (k + 1) d ↔ (bTk s n k d ∨ d = bwy s n k) := ⟨fun q => by
  obtain ⟨j, q1, q2⟩ := q
  by_cases e : j = k
  · rw [e] at q2
    exact Or.inr q2.symm
  · exact Or.inl (Exists.intro j ⟨by omega, q2⟩), fun q => by
  rcases q with q | q
  · obtain ⟨j, q1, q2⟩ := q
    exact Exists.intro j ⟨by omega, q2⟩
  · exact Exists.intro k ⟨Nat.lt_succ_self k, q.symm⟩⟩
