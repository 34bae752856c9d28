
/-! BLOCKERS are nets that are there: routing keeps it -/
theorem g5_c {s t : BdS} (h : gB5 s) (hn : bnn t = bnn s) (h5 : ∀ m : Nat, bN t m 5 = bN s m 5) : gB5 t := fun n hn' o ho h12 => by
  rw [h5 n]
  exact h n (by omega) o (by omega) h12
theorem bMs_m {s : BdS} {n : Int} {c : Nat} {v : Int} {m : Nat} (hm : m ≤ 12) (hb : bK s ≤ 1024) (hh : ∀ c, c < 1024 → -1 ≤ bho s c ∧ bho s c < m) (hv : 0 ≤ v ∧ v < ((2 ^ m : Nat) : Int)) : ∀ x, 0 ≤ bMs s n c v x ∧ bMs s n c v x < ((2 ^ m : Nat) : Int)
  | 0 => hv
  | x + 1 => by
    have w := bMs_m (n := n) (c := c) hm hb hh hv x
    show 0 ≤ zite (bHO s n (bnb s c x)) (zmk (bMs s n c v x) (bho s (bnb s c x).toNat)) (bMs s n c v x) ∧ zite (bHO s n (bnb s c x)) (zmk (bMs s n c v x) (bho s (bnb s c x).toNat)) (bMs s n c v x) < ((2 ^ m : Nat) : Int)
    by_cases e : bHO s n (bnb s c x)
    · rw [zite_t e]
      have b0 := nbI_b (W := bW s) (H := bH s) (D := bD s) (c := c) (s := x) hb
      have e9 : nbI (bW s) (bH s) (bD s) c x = bnb s c x := rfl
      have e8 : (bW s * bH s * bD s : Nat) = bK s := rfl
      have q1 := e.1
      have q2 := e.2.1
      have q3 := hh (bnb s c x).toNat (by omega)
      exact zmk_b w (by omega) hm
    · rw [zite_f e]; exact w
theorem bMc_m {s : BdS} {n m : Nat} (hm : m ≤ 12) (hb : bK s ≤ 1024) (hh : ∀ c, c < 1024 → -1 ≤ bho s c ∧ bho s c < m) : ∀ k, 0 ≤ bMc s n k ∧ bMc s n k < ((2 ^ m : Nat) : Int)
  | 0 => ⟨Int.le_refl 0, (show (0 : Int) < ((2 ^ m : Nat) : Int) by have := Nat.pow_pos (n := m) (show 0 < 2 by decide); omega)⟩
  | k + 1 => by
    have w := bMc_m (n := n) hm hb hh k
    unfold bMc
    split
    · exact bMs_m hm hb hh w 6
    · exact w
theorem g5_M5 {s : BdS} {n : Nat} (h : gB5 s) (hb : bK s ≤ 1024) (hn : bnn s ≤ 12) (hh : ∀ c, c < 1024 → -1 ≤ bho s c ∧ bho s c < bnn s) : gB5 (bM5 s n) := fun m hm o ho h12 => by
  show ¬ bBit (up2z (bN s) n 5 (bMc s n (bK s)) m 5) o
  have ho' : bnn s ≤ o := ho
  by_cases e : m = n
  · subst e
    rw [up2z_at]
    exact bBit_no (bMc_m hn hb hh (bK s)) hn ho' (by omega)
  · rw [up2z_ne (by omega)]
    exact h m hm o ho h12
theorem g5_Jn {s : BdS} {n : Nat} {r : Int} {c : Nat} (h : gB5 s) : gB5 (bJn s n r c) := by
  refine g5_c h (bJn_kp s n r c).2.2.2.2.2.2.1 (fun m => ?_)
  have w := (bRp_N4 (bs_hi (bWx s n (bPth s n r c) (bPl s n r c)) (bHx (bWx s n (bPth s n r c) (bPl s n r c)) n (bPth s n r c) (bPl s n r c))) (bRm (bWx s n (bPth s n r c) (bPl s n r c)) n (bPth s n r c) (bPl s n r c)) m 12).2 5 (by decide) (by decide)
  have w2 := (bWx_p s n (bPth s n r c) (bPl s n r c)).2.2.2.2.2.2.2.2.2.1
  exact w.trans (congrFun (congrFun w2 m) 5)
theorem g5_Nx {s : BdS} {n hb rb : Nat} (h : bLi s n hb rb) (g : gB5 s) : gB5 (bNx s n).1 := by
  have gB9 : bK s ≤ 1024 := h.1.1.2.2.2
  have hnn : bnn s ≤ 12 := h.1.2.1.2
  have g5 : gB5 (bM5 s n) := g5_M5 g gB9 hnn (bLi_h h)
  by_cases e : bPk s n 0 (bTn s n) = -1
  · by_cases e2 : bPk (bM5 s n) n 1 (bTn s n) = -1
    · rw [bNx_b rfl e rfl e2]; exact g5
    · rw [bNx_c rfl e rfl e2]; exact g5_Jn g5
  · rw [bNx_a rfl e]; exact g5_Jn g
theorem g5_Lp {n : Nat} : ∀ (k : Nat) (t : BdS) (a : Int) (hb rb : Nat), bLi t n hb rb → gB5 t → gB5 (bLp n k t a).1
  | 0, t, a, hb, rb, _, g => g
  | k + 1, t, a, hb, rb, h, g => by
    by_cases e : bAll t n (bTn t n)
    · rw [bLp_a e]; exact g
    · by_cases e2 : (bNx t n).2 = -1
      · rw [bLp_s e e2]; exact g5_Nx h g
      · rw [bLp_k e e2]; exact g5_Lp k _ _ hb (rb + 1) (bNx_li h) (g5_Nx h g)
theorem g5_Ld {s : BdS} {n hb rb : Nat} (hg : bGd s) (hn : n < bnn s) (hp : 0 < bN s n 1) (h2 : bN s n 2 = 0) (hhi : ∀ c, c < 1024 → bhi s c ≤ hb) (hrp : ∀ m, m < bnn s → 0 ≤ bN s m 4 ∧ bN s m 4 ≤ rb) (g : gB5 s) : gB5 (bLd s n) := by
  have w : gB5 (bLr s n).1 := g5_Lp 5 (bLs s n) 0 hb rb (bLs_li hg hn hp h2 hhi hrp) g
  unfold bLd
  by_cases e : (bLr s n).2.2 = 1
  · rw [if_pos e]
    exact g5_c w rfl (fun m => up2z_ne (by omega))
  · rw [if_neg e]
    intro m hm o ho h12
    show ¬ bBit (up2z (up2z (up2z (bN (bLr s n).1) n 2 1) n 3 (bLr s n).2.1) n 5 0 m 5) o
    by_cases e2 : m = n
    · subst e2; rw [up2z_at]; exact bBit_no (m := 0) (by decide) (by decide) (Nat.zero_le _) (by omega)
    · rw [up2z_ne (by omega), up2z_ne (by omega), up2z_ne (by omega)]; exact w m hm o ho h12
/-- a net's number is kept -/
theorem n0_Jn {s : BdS} {n : Nat} {r : Int} {c m : Nat} : bN (bJn s n r c) m 0 = bN s m 0 := by
  have w := (bRp_N4 (bs_hi (bWx s n (bPth s n r c) (bPl s n r c)) (bHx (bWx s n (bPth s n r c) (bPl s n r c)) n (bPth s n r c) (bPl s n r c))) (bRm (bWx s n (bPth s n r c) (bPl s n r c)) n (bPth s n r c) (bPl s n r c)) m 12).2 0 (by decide) (by decide)
  have w2 := (bWx_p s n (bPth s n r c) (bPl s n r c)).2.2.2.2.2.2.2.2.2.1
  exact w.trans (congrFun (congrFun w2 m) 0)
theorem n0_M5 {s : BdS} {n m : Nat} : bN (bM5 s n) m 0 = bN s m 0 := up2z_ne (by omega)
theorem n0_Nx {s : BdS} {n m : Nat} : bN (bNx s n).1 m 0 = bN s m 0 := by
  by_cases e : bPk s n 0 (bTn s n) = -1
  · by_cases e2 : bPk (bM5 s n) n 1 (bTn s n) = -1
    · rw [bNx_b rfl e rfl e2]; exact n0_M5
    · rw [bNx_c rfl e rfl e2]; exact n0_Jn.trans n0_M5
  · rw [bNx_a rfl e]; exact n0_Jn
theorem n0_Lp {n m : Nat} : ∀ (k : Nat) (t : BdS) (a : Int), bN (bLp n k t a).1 m 0 = bN t m 0
  | 0, t, a => rfl
  | k + 1, t, a => by
    by_cases e : bAll t n (bTn t n)
    · rw [bLp_a e]
    · by_cases e2 : (bNx t n).2 = -1
      · rw [bLp_s e e2]; exact n0_Nx
      · rw [bLp_k e e2]; exact (n0_Lp k _ _).trans n0_Nx
theorem n0_Ld {s : BdS} {n m : Nat} : bN (bLd s n) m 0 = bN s m 0 := by
  have w : bN (bLr s n).1 m 0 = bN s m 0 := n0_Lp 5 (bLs s n) 0
  unfold bLd
  split
  · exact (show up2z (bN (bLr s n).1) n 2 0 m 0 = _ from up2z_ne (by omega)).trans w
  · show up2z (up2z (up2z (bN (bLr s n).1) n 2 1) n 3 (bLr s n).2.1) n 5 0 m 0 = _
    rw [up2z_ne (by omega), up2z_ne (by omega), up2z_ne (by omega)]
    exact w
/-- what routing keeps -/
def bKq (t s : BdS) : Prop := (t.1 = s.1 ∧ bnp t = bnp s ∧ bP t = bP s ∧ bnn t = bnn s ∧ bnd t = bnd s) ∧ ∀ m, bN t m 0 = bN s m 0
theorem bKq_r (s : BdS) : bKq s s := ⟨⟨rfl, rfl, rfl, rfl, rfl⟩, fun _ => rfl⟩
theorem bKq_t {a b c : BdS} (h : bKq a b) (g : bKq b c) : bKq a c := ⟨⟨h.1.1.trans g.1.1, h.1.2.1.trans g.1.2.1, h.1.2.2.1.trans g.1.2.2.1, h.1.2.2.2.1.trans g.1.2.2.2.1, h.1.2.2.2.2.trans g.1.2.2.2.2⟩, fun m => (h.2 m).trans (g.2 m)⟩
theorem bKq_Ld (s : BdS) (n : Nat) : bKq (bLd s n) s := by
  obtain ⟨k1, k2, k3, k4, k5, k6, k7, k8, k9⟩ := bLd_kp s n
  exact ⟨⟨k1, k5, k6, k7, k9⟩, fun m => n0_Ld⟩
/-- good, with bounds that are not said -/
def g5P (s : BdS) : Prop := (bGd s ∧ gB5 s) ∧ ∃ hb rb : Nat, (∀ c, c < 1024 → bhi s c ≤ hb) ∧ ∀ m, m < bnn s → 0 ≤ bN s m 4 ∧ bN s m 4 ≤ (rb : Int)
theorem g5P_Ld {s : BdS} {n : Nat} (h : g5P s) (hn : n < bnn s) (hp : 0 < bN s n 1 ∧ bN s n 2 ≠ 1) : g5P (bLd s n) := by
  obtain ⟨⟨h1, h2⟩, hb, rb, h3, h4⟩ := h
  have e := bGd_02 h1 hn hp.2
  have w := bLd_gd h1 hn hp.1 e h3 h4
  exact ⟨⟨w.1, g5_Ld h1 hn hp.1 e h3 h4 h2⟩, hb + 1, rb + 5, w.2.1, fun m hm => by have := w.2.2 m hm; omega⟩
theorem g5P_Rd {f : Nat → Nat} {s : BdS} (h : g5P s) : ∀ k, (∀ j, j < k → f j < bnn s) → g5P (bRd f s k) ∧ bKq (bRd f s k) s
  | 0, _ => ⟨h, bKq_r s⟩
  | k + 1, hf => by
    obtain ⟨w1, w2⟩ := g5P_Rd (f := f) h k (fun j hj => hf j (by omega))
    have w3 : bnn (bRd f s k) = bnn s := w2.1.2.2.2.1
    have hk := hf k (by omega)
    unfold bRd
    by_cases e : 0 < bN (bRd f s k) (f k) 1 ∧ bN (bRd f s k) (f k) 2 ≠ 1
    · rw [if_pos e]
      exact ⟨g5P_Ld w1 (by omega) e, bKq_t (bKq_Ld _ _) w2⟩
    · rw [if_neg e]; exact ⟨w1, w2⟩
theorem bSw_lt {N K : Nat} : ∀ (k : Nat) (x : BdS × (Nat → Nat)), k < K → (∀ j, j < K → x.2 j < N) → ∀ j, j < K → (bSw k x).2 j < N
  | 0, x, _, h => h
  | k + 1, x, hk, h => bSw_lt k (bs_sd x.1 (bSe x.1), upF (upF x.2 (k + 1) (x.2 (bDr x.1 % (k + 2)).toNat)) (bDr x.1 % (k + 2)).toNat (x.2 (k + 1))) (by omega) (fun j hj => by
      have hr : 0 ≤ bDr x.1 % ((k : Int) + 2) ∧ bDr x.1 % ((k : Int) + 2) < (k : Int) + 2 := ⟨Int.emod_nonneg _ (by omega), Int.emod_lt_of_pos _ (by omega)⟩
      show upF (upF x.2 (k + 1) (x.2 (bDr x.1 % ((k : Int) + 2)).toNat)) (bDr x.1 % ((k : Int) + 2)).toNat (x.2 (k + 1)) j < N
      have hr2 : (bDr x.1 % ((k : Int) + 2)).toNat < k + 2 := by omega
      generalize (bDr x.1 % ((k : Int) + 2)).toNat = r at *
      have h1 := h (k + 1) hk
      by_cases e : j = r
      · rw [e, upF_at]; exact h1
      · rw [upF_ne e]
        by_cases e2 : j = k + 1
        · rw [e2, upF_at]; exact h r (by omega)
        · rw [upF_ne e2]; exact h j hj)
theorem bSw_s : ∀ (k : Nat) (x : BdS × (Nat → Nat)), ∃ sd, (bSw k x).1 = bs_sd x.1 sd
  | 0, x => ⟨bsd x.1, rfl⟩
  | k + 1, x => by
    obtain ⟨sd, h⟩ := bSw_s k (bs_sd x.1 (bSe x.1), upF (upF x.2 (k + 1) (x.2 (bDr x.1 % (k + 2)).toNat)) (bDr x.1 % (k + 2)).toNat (x.2 (k + 1)))
    exact ⟨sd, h⟩
theorem g5P_Gr {s : BdS} (h : g5P s) : g5P (bGr s) ∧ bKq (bGr s) s := by
  obtain ⟨sd, e⟩ := bSw_s (bOpn s (bnn s) - 1) (s, bOf s (bnn s))
  have h1 : g5P (bs_sd s sd) := h
  have h2 : bKq (bs_sd s sd) s := ⟨⟨rfl, rfl, rfl, rfl, rfl⟩, fun _ => rfl⟩
  unfold bGr
  rw [e]
  by_cases hk : bOpn s (bnn s) = 0
  · rw [hk]
    exact ⟨h1, h2⟩
  · have w := g5P_Rd (f := (bSw (bOpn s (bnn s) - 1) (s, bOf s (bnn s))).2) h1 (bOpn s (bnn s)) (bSw_lt (N := bnn s) (bOpn s (bnn s) - 1) (s, bOf s (bnn s)) (by omega) (fun j hj => bOf_lt s (bnn s) j hj))
    exact ⟨w.1, bKq_t w.2 h2⟩
theorem g5P_Ru : ∀ (k : Nat) (s : BdS), g5P s → g5P (bRu k s) ∧ bKq (bRu k s) s
  | 0, s, h => ⟨h, bKq_r s⟩
  | k + 1, s, h => by
    unfold bRu
    split
    · have w := g5P_Gr h
      have w2 := g5P_Ru k (bGr s) w.1
      exact ⟨w2.1, bKq_t w2.2 w.2⟩
    · exact ⟨h, bKq_r s⟩
theorem g5P_RtS {s : BdS} {r : Int} (h : g5P s) : g5P (bRtS s r) ∧ bKq (bRtS s r) s := by
  unfold bRtS
  split
  · exact g5P_Ru _ s h
  · exact ⟨h, bKq_r s⟩
theorem zPB_kq {s t : BdS} {I : ZI} (h : zPB s I) (k : bKq t s) : zPB t I := by
  obtain ⟨⟨k1, k2, k3, k4, k5⟩, k6⟩ := k
  obtain ⟨h1, h2, h3, h4⟩ := h
  have e1 : bW t = bW s := congrArg (fun x => x.1) k1
  have e2 : bH t = bH s := congrArg (fun x => x.2.1) k1
  have e3 : bD t = bD s := congrArg (fun x => x.2.2) k1
  unfold zPB
  rw [k2, k3, k4, e1, e2, e3]
  exact ⟨h1, h2, h3, fun n hn => (h4 n hn).trans (k6 n).symm⟩
/-- what a board's drawing alone decides, under put -/
theorem g5_rs {s : BdS} {sn : Int} (h : gB5 s) (hn : bnn s ≤ 12) : gB5 (bRs s sn) := by
  unfold bRs
  split
  · intro n hn' o ho h12
    have hn2 : n < bnn s + 1 := hn'
    have ho2 : bnn s + 1 ≤ o := ho
    show ¬ bBit (upR (bN s) (bnn s) sn 0 0 0 0 n 5) o
    by_cases e : n = bnn s
    · have e5 : upR (bN s) (bnn s) sn 0 0 0 0 n 5 = 0 := by rw [e]; exact if_pos rfl
      rw [e5]
      exact bBit_no (m := 0) (by decide) (by decide) (Nat.zero_le _) (by omega)
    · rw [upR_ne e]; exact h n (by omega) o (by omega) h12
  · exact h
theorem g5_pad {s : BdS} {n c : Nat} {t o : Int} (h : gB5 s) : gB5 (bPad s n c t o) := g5_c h rfl (fun m => by
  show up2z (up2z (bN s) n 2 0) n 1 (bN s n 1 + 1) m 5 = _
  rw [up2z_ne (by omega), up2z_ne (by omega)])
theorem bPutS_ind {C : BdS → Prop} {b : Nat} {s : BdS} {t o l i j : Int} (h0 : C s) (h1 : C (bRs s (bSn s t o))) (h2 : ∀ n c, C (bPad (bRs s (bSn s t o)) n c t o)) : C (bPutS b s t o l i j) := by
  unfold bPutS
  split
  · exact h0
  · split
    · exact h0
    · by_cases e : bHas s t o
      · rw [zite_t e]; exact h0
      · rw [zite_f e]
        split
        · exact h0
        · by_cases e2 : bFree (bRs s (bSn s t o)) (bRn s (bSn s t o)) (cxI (bW s) (bH s) (bD s) l i j).toNat
          · rw [zite_t e2]; exact h2 _ _
          · rw [zite_f e2]; exact h1
theorem g5_put {b : Nat} {s : BdS} {t o l i j : Int} (h : gB5 s) (hn : bnn s ≤ 12) : gB5 (bPutS b s t o l i j) := bPutS_ind (C := gB5) h (g5_rs h hn) (fun _ _ => g5_pad (g5_rs h hn))
/-- histories and rips within bounds -/
def gHr (hb rb : Nat) (s : BdS) : Prop := (∀ c, c < 1024 → bhi s c ≤ hb) ∧ ∀ m, m < bnn s → 0 ≤ bN s m 4 ∧ bN s m 4 ≤ (rb : Int)
theorem gHr_rs {hb rb : Nat} {s : BdS} {sn : Int} (h : gHr hb rb s) : gHr hb rb (bRs s sn) := by
  unfold bRs
  split
  · refine ⟨h.1, fun m hm => ?_⟩
    have hm2 : m < bnn s + 1 := hm
    show 0 ≤ upR (bN s) (bnn s) sn 0 0 0 0 m 4 ∧ upR (bN s) (bnn s) sn 0 0 0 0 m 4 ≤ (rb : Int)
    by_cases e : m = bnn s
    · have e4 : upR (bN s) (bnn s) sn 0 0 0 0 m 4 = 0 := by rw [e]; exact if_pos rfl
      rw [e4]; omega
    · rw [upR_ne e]; exact h.2 m (by omega)
  · exact h
theorem gHr_pad {hb rb : Nat} {s : BdS} {n c : Nat} {t o : Int} (h : gHr hb rb s) : gHr hb rb (bPad s n c t o) := ⟨h.1, fun m hm => by
  show 0 ≤ up2z (up2z (bN s) n 2 0) n 1 (bN s n 1 + 1) m 4 ∧ up2z (up2z (bN s) n 2 0) n 1 (bN s n 1 + 1) m 4 ≤ (rb : Int)
  rw [up2z_ne (by omega), up2z_ne (by omega)]
  exact h.2 m hm⟩
theorem gHr_put {hb rb b : Nat} {s : BdS} {t o l i j : Int} (h : gHr hb rb s) : gHr hb rb (bPutS b s t o l i j) := bPutS_ind (C := gHr hb rb) h (gHr_rs h) (fun _ _ => gHr_pad (gHr_rs h))
/-- many puts -/
theorem ldK_h {f : Int → Int} {hb rb : Nat} {s : BdS} (h : bGd s) (h5 : gB5 s) (hh : gHr hb rb s) : ∀ q, gB5 (ldK f s q).1 ∧ gHr hb rb (ldK f s q).1
  | 0 => ⟨h5, hh⟩
  | q + 1 => by
    have w := ldK_h (f := f) h h5 hh q
    have g := ldK_g (f := f) h q
    exact ⟨g5_put w.1 g.1.2.1.2, gHr_put w.2⟩
/-- what the board's part keeps: with another board on the same drawing -/
theorem iB_new {x : BoL} {s : BdS} (h : iB x) (hb : x.1 ≠ 0) (g : bGd s ∧ gB5 s) (hn : bnd s = bnd x.2.1) (hh : gHr (240 * x.2.2.2) (1200 * x.2.2.2) s) : iB (x.1, s, x.2.2) := by
  obtain ⟨h1, h2, h3⟩ := h
  obtain ⟨g0, ⟨g3, g4⟩, g5, g6⟩ := h3 hb
  exact ⟨h1, fun q => absurd q hb, fun _ => ⟨g, ⟨g3, fun y hy => by show bnd s y = _; rw [hn]; exact g4 y hy⟩, hh.1, hh.2⟩⟩
theorem iB_put {x : BoL} {b : Nat} {t o l i j : Int} (h : iB x) (hb : x.1 ≠ 0) : iB (x.1, bPutS b x.2.1 t o l i j, x.2.2) := by
  obtain ⟨⟨g1, g2⟩, g3, g5, g6⟩ := h.2.2 hb
  exact iB_new h hb ⟨bGd_put g1, g5_put g2 g1.2.1.2⟩ bPutS_nd (gHr_put ⟨g5, g6⟩)
theorem iB_bar {x : BoL} {c : Nat} (h : iB x) (hb : x.1 ≠ 0) (hc : bho x.2.1 c = -1) : iB (x.1, bBar x.2.1 c, x.2.2) := by
  obtain ⟨⟨g1, g2⟩, g3, g5, g6⟩ := h.2.2 hb
  exact iB_new h hb ⟨bGd_bar g1 hc, g2⟩ rfl ⟨g5, g6⟩
theorem iB_ld {x : BoL} {b cr : Nat} {t : StS} {g : Nat → Int} {e : Int} (h : iB x) (hb : x.1 ≠ 0) : iB (x.1, ldS b cr t g e x.2.1, x.2.2) := by
  obtain ⟨⟨g1, g2⟩, g3, g5, g6⟩ := h.2.2 hb
  unfold ldS
  split
  · exact h
  · split
    · exact h
    · have w := ldK_g (f := ldF g t e) g1 (stFr t e)
      have w2 := ldK_h (f := ldF g t e) g1 g2 ⟨g5, g6⟩ (stFr t e)
      exact iB_new h hb ⟨w.1, w2.1⟩ w.2.1 w2.2
theorem iB_rt {x : BoL} {r : Int} (h : iB x) (hb : x.1 ≠ 0) (hh : (∀ c, c < 1024 → bhi (bRtS x.2.1 r) c ≤ 240 * x.2.2.2 + 240) ∧ ∀ m, m < bnn (bRtS x.2.1 r) → 0 ≤ bN (bRtS x.2.1 r) m 4 ∧ bN (bRtS x.2.1 r) m 4 ≤ ((1200 * x.2.2.2 : Nat) : Int) + 1200) : iB (x.1, bRtS x.2.1 r, x.2.2.1, x.2.2.2 + 1) := by
  obtain ⟨⟨g1, g2⟩, ⟨g3, g4⟩, g5, g6⟩ := h.2.2 hb
  have w := g5P_RtS (r := r) (show g5P x.2.1 from ⟨⟨g1, g2⟩, _, _, g5, g6⟩)
  refine ⟨h.1, fun q => absurd q hb, fun _ => ⟨w.1.1, ⟨g3, fun y hy => by show bnd (bRtS x.2.1 r) y = _; rw [w.2.1.2.2.2.2]; exact g4 y hy⟩, fun c hc => ?_, fun m hm => ?_⟩⟩
  · have := hh.1 c hc
    show bhi (bRtS x.2.1 r) c ≤ 240 * (x.2.2.2 + 1)
    omega
  · have := hh.2 m hm
    show 0 ≤ bN (bRtS x.2.1 r) m 4 ∧ bN (bRtS x.2.1 r) m 4 ≤ ((1200 * (x.2.2.2 + 1) : Nat) : Int)
    omega
