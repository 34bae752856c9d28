/-! gy: SCRIPTS: the reference runs a script: what it comes to -/
theorem mNd_0 {M : WkM} {E : EvE} {bk : Nat → Int} (h : (M.1 0).1 = 20) : mNd M (mS0 E bk) (((fun _ => 0, E.2), (0, fun _ => 0), (0, fun _ => 0)), 0, (0, -1, 0)) := by
  have z : mSt M.1 M.2.1 M.2.2.1 (mS0 E bk) = (((fun _ => 0, E.2), (0, fun _ => 0), (0, fun _ => 0)), 0, (1, 0), (0, -1, 0), 0 + 1, 0, bk, []) := mSt_20 (x := mS0 E bk) (i := 0) (show ¬ (0 : Nat) = 1 by decide) rfl h
  refine mNd_of (itC_1 ⟨⟨Int.le_refl _, Int.natCast_nonneg _⟩, mVo_s ?_⟩ z) rfl rfl
  show (M.1 0).1 = 3 ∨ (M.1 0).1 = 4 ∨ (M.1 0).1 = 5 ∨ (M.1 0).1 = 6 ∨ (M.1 0).1 = 12 ∨ (M.1 0).1 = 13 ∨ (M.1 0).1 = 14 ∨ (M.1 0).1 = 15 ∨ (M.1 0).1 = 16 ∨ (M.1 0).1 = 17 ∨ (M.1 0).1 = 20
  omega
def T_G_rnR : ZT := fun args I L R S Q => ∃ (w : List Int) (D : DtT) (er : Int × Int × Int) (lim : Nat), args = [zvr 234, zvl lim] ∧ (zSh S) ∧ (zRs R) ∧ (scV w) ∧ (scB w D er I L) ∧ (1 ≤ lim ∧ lim ≤ 300) ∧ ∀ (v : Int) (I' : ZI) (L' : ZI), (I' 234 0 = 0) → (v = (scRn (scP (scX w) lim) D.1).2.1) → (scB w (scRn (scP (scX w) lim) D.1).1 (scRn (scP (scX w) lim) D.1).2.2 I' L') → (∀ c j : Nat, ¬ (c = 234 ∧ j = 28) → ¬ (c = 234 ∧ j = 30) → ¬ (c = 234 ∧ j = 36) → ¬ (c = 234 ∧ j = 38) → ¬ (c = 234 ∧ j = 40) → ¬ (c = 234 ∧ j = 42) → ¬ (c = 234 ∧ j = 44) → ¬ (c = 234 ∧ j = 51) → ¬ (c = 234 ∧ j = 66) → ¬ (c = 234 ∧ j = 53) → ¬ (c = 234 ∧ j = 55) → ¬ (c = 234 ∧ j = 46) → ¬ (c = 234 ∧ j = 47) → ¬ (c = 234 ∧ j = 48) → ¬ (c = 234 ∧ j = 49) → ¬ (c = 234 ∧ j = 50) → ¬ (c = 234 ∧ j = 52) → ¬ (c = 234 ∧ j = 45) → ¬ c = 254 → ¬ c = 255 → ¬ c = 256 → ¬ c = 257 → ¬ c = 258 → ¬ c = 259 → ¬ c = 260 → ¬ c = 261 → ¬ c = 262 → ¬ c = 263 → ¬ c = 264 → ¬ c = 266 → ¬ (c = 234 ∧ j = 0) → I' c j = I c j) → (∀ c j : Nat, ¬ c = 251 → ¬ c = 252 → ¬ c = 253 → ¬ c = 265 → ¬ c = 267 → ¬ (c = 234 ∧ j = 65) → ¬ (c = 234 ∧ j = 35) → ¬ (c = 234 ∧ j = 34) → L' c j = L c j) → Q (some (zvi (v))) I' L' R S
theorem sc_us {w : List Int} {D : DtT} {er : Int × Int × Int} {I L : ZI} {lim g : Nat} {bk : Nat → Int} (hV : scV w) (hF : 0 < w.length → ∀ f : Nat, f < 26 → I 244 (26 * g + f) = (scX w).2.2.2.2.2.2.2 f) : ∃ u : Nat → Int, (∀ f : Nat, f < 26 → I 244 (26 * g + f) = u f) ∧ mNd ((scP (scX w) lim).1, u, lim, (scX w).2.2.1) (mS0 D.1 bk) (scRn (scP (scX w) lim) D.1) := by
  by_cases h0 : 0 < w.length
  · obtain ⟨G, hG⟩ := scP_ok hV.1.1 hV.1.2 (fun _ => 0) hV.2.1 hV.2.2.1 hV.2.2.2.1 hV.2.2.2.2 lim
    exact ⟨(scX w).2.2.2.2.2.2.2, hF h0, scRn_m hG bk⟩
  · have hw : w = [] := List.eq_nil_of_length_eq_zero (by omega)
    have ht : (scX w).2.2.1 = 0 := by
      have e : scX w = rdX0 := scX_e hV.1.1 itR_r (Or.inr ⟨rfl, by show ¬ 0 < w.length; omega, rfl⟩)
      rw [e]; rfl
    have h20 : ∀ u l, ((((scP (scX w) lim).1, u, l, (scX w).2.2.1) : WkM).1 0).1 = 20 := fun u l => by
      show (upF (scX w).2.2.2.2.2.2.1 (scX w).2.2.1 (20, 0, 0, [], [], 0) 0).1 = 20
      rw [ht, upF_at]
    refine ⟨fun f => I 244 (26 * g + f), fun f hf => rfl, ?_⟩
    rw [scRn_e (M := scP (scX w) lim) (E := D.1) (fun bk => mNd_0 (h20 _ _))]
    exact mNd_0 (h20 _ _)
theorem sn_G_rnR : ZSnd 14 12 48 T_G_rnR := fun d0 hd0 args I L R S Q hz gg => by
  obtain ⟨w, D, er, lim, ha, hS, hR, hV, hB, hlm, hQ⟩ := gg
  obtain ⟨g, ⟨g3, g3b⟩, g1, g20, gO, gF, gV⟩ := id hB
  have hb := scV_b hV
  obtain ⟨u, hu, N, n1, n2, n3⟩ := sc_us (D := D) (er := er) (L := L) (lim := lim) (bk := fun i => I 258 i) hV gF
  have hT : mSt (fun i => if i = (scX w).2.2.1 then ((20 : Int), I 239 (600 * g + (scX w).2.2.1), I 240 (600 * g + (scX w).2.2.1), [], [], I 243 (600 * g + (scX w).2.2.1)) else (scX w).2.2.2.2.2.2.1 i) u lim = mSt (scP (scX w) lim).1 u lim := mSt_T (t := (scX w).2.2.1) (fun i hi => (if_neg hi).trans (upF_i hi).symm) (by show (upF (scX w).2.2.2.2.2.2.1 (scX w).2.2.1 (20, 0, 0, [], [], 0) (scX w).2.2.1).1 = 20; rw [upF_at]) (by rw [if_pos rfl])
  obtain ⟨R9, hR9⟩ : ∃ R9 : Nat → OrT, R9 = (fun i => if i = (scX w).2.2.1 then ((20 : Int), I 239 (600 * g + (scX w).2.2.1), I 240 (600 * g + (scX w).2.2.1), [], [], I 243 (600 * g + (scX w).2.2.1)) else (scX w).2.2.2.2.2.2.1 i) := ⟨_, rfl⟩
  rw [← hR9] at hT
  have hkp : ∀ k, mKp lim (itN (mSt R9 u lim) k (mS0 D.1 (fun i => I 258 i))) := fun k => itN_kp ⟨Nat.zero_le _, Nat.zero_le _⟩
  refine (sn_G_rnn.up (Nat.le_trans (by decide) hd0)) d0 (Nat.le_refl d0) args I L R S Q hz ⟨g, lim, N, (scX w).2.2.1, (scX w).2.2.2.1, D.1, mS0 D.1 (fun i => I 258 i), R9, u, ha, hS, hR, g3, g3b, by omega, by omega, fun i hi => ?_, hu, hlm, gV.2.2.2.2, gV.1, rfl, fun k hk => ⟨?_, (hkp k).1⟩, fun k => (hkp k).2, by rw [hT]; exact n1, fun v I' L' q0 qv qM qf ql => ?_⟩
  · rw [hR9]
    by_cases e : i = (scX w).2.2.1
    · show zOr g _ i (if i = (scX w).2.2.1 then _ else _) I
      rw [if_pos e, e]
      exact zOr_0 g20 rfl rfl rfl (by unfold hsL; decide)
    · show zOr g _ i (if i = (scX w).2.2.1 then _ else _) I
      rw [if_neg e]
      exact gO i (by omega)
  · rw [hT] at hk ⊢
    have q := n3 k hk
    refine ⟨q.1, ?_⟩
    have q2 := q.2
    rw [hR9]
    by_cases e : (itN (mSt (scP (scX w) lim).1 u lim) k (mS0 D.1 (fun i => I 258 i))).2.2.2.2.1.toNat = (scX w).2.2.1
    · show mVo (if _ = (scX w).2.2.1 then _ else _) _
      rw [if_pos e]
      exact mVo_s (Or.inr (Or.inr (Or.inr (Or.inr (Or.inr (Or.inr (Or.inr (Or.inr (Or.inr (Or.inr rfl))))))))))
    · show mVo (if _ = (scX w).2.2.1 then _ else _) _
      rw [if_neg e]
      have q3 : mVo (upF (scX w).2.2.2.2.2.2.1 (scX w).2.2.1 (20, 0, 0, [], [], 0) (itN (mSt (scP (scX w) lim).1 u lim) k (mS0 D.1 (fun i => I 258 i))).2.2.2.2.1.toNat) _ := q2
      rw [upF_i e] at q3
      exact q3
  · rw [hT] at qv qM
    have n2 : ((itN (mSt (scP (scX w) lim).1 u lim) N (mS0 D.1 fun i => I 258 i)).1, (itN (mSt (scP (scX w) lim).1 u lim) N (mS0 D.1 fun i => I 258 i)).2.2.1.2, (itN (mSt (scP (scX w) lim).1 u lim) N (mS0 D.1 fun i => I 258 i)).2.2.2.1) = scRn (scP (scX w) lim) D.1 := n2
    refine hQ v I' L' q0 (by rw [← n2]; exact qv) ?_ qf ql
    rw [← n2]
    obtain ⟨m1, m2, m3, m4, m5, m6, m7, m8, m9, m10, m11, m12, m13⟩ := qM
    have k1 : ∀ c j : Nat, (c = 234 ∧ (j = 1 ∨ j = 3)) ∨ (238 ≤ c ∧ c ≤ 246) → I' c j = I c j := fun c j h => qf c j (by omega) (by omega) (by omega) (by omega) (by omega) (by omega) (by omega) (by omega) (by omega) (by omega) (by omega) (by omega) (by omega) (by omega) (by omega) (by omega) (by omega) (by omega) (by omega) (by omega) (by omega) (by omega) (by omega) (by omega) (by omega) (by omega) (by omega) (by omega) (by omega) (by omega) (by omega)
    exact ⟨g, ⟨(k1 _ _ (by omega)).trans g3, g3b⟩, (k1 _ _ (by omega)).trans g1, (k1 _ _ (by omega)).trans g20, orA_fr gO (Nat.le_refl _) (fun c j a b _ => k1 c j (by omega)) (fun c j a _ => k1 c j (by omega)), fun h0 f hf2 => (k1 _ _ (by omega)).trans (gF h0 f hf2), m1, m2, m3, m6, m13⟩
