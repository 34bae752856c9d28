/-! PADS PUT, as the mill of the reference keeps them -/
def zPB (s : BdS) (I : ZI) : Prop := I 165 15 = bnp s ∧ I 165 22 = bnn s ∧ (∀ p : Nat, p < bnp s → (I 197 p = bP s p 0 ∧ I 198 p = bP s p 1 ∧ I 202 p = bP s p 3) ∧ cxI (bW s) (bH s) (bD s) (I 199 p) (I 200 p) (I 201 p) = bP s p 2) ∧ ∀ n : Nat, n < bnn s → I 203 n = bN s n 0
theorem zPB_fr {s : BdS} {I I' : ZI} (h : zPB s I) (hf : ∀ c j : Nat, (c = 165 ∧ (j = 15 ∨ j = 22)) ∨ (197 ≤ c ∧ c ≤ 203) → I' c j = I c j) : zPB s I' := by
  obtain ⟨h1, h2, h3, h4⟩ := h
  refine ⟨(hf 165 15 (by omega)).trans h1, (hf 165 22 (by omega)).trans h2, fun p hp => ?_, fun n hn => (hf 203 n (by omega)).trans (h4 n hn)⟩
  have w := h3 p hp
  rw [hf 197 p (by omega), hf 198 p (by omega), hf 202 p (by omega), hf 199 p (by omega), hf 200 p (by omega), hf 201 p (by omega)]
  exact w
theorem bPu1_2 {s : BdS} {t o l i j : Int} (h : bSn s t o = -1 ∨ cxI (bW s) (bH s) (bD s) l i j = -1) : bPutV 1 s t o l i j = -2 ∧ bPutS 1 s t o l i j = s := ⟨(if_neg (by decide)).trans (if_pos h), (if_neg (by decide)).trans (if_pos h)⟩
theorem bPu1_h {s : BdS} {t o l i j : Int} (h : ¬ (bSn s t o = -1 ∨ cxI (bW s) (bH s) (bD s) l i j = -1)) (h2 : bHas s t o) : bPutV 1 s t o l i j = -4 ∧ bPutS 1 s t o l i j = s := ⟨(if_neg (by decide)).trans ((if_neg h).trans (zite_t h2)), (if_neg (by decide)).trans ((if_neg h).trans (zite_t h2))⟩
theorem bPu1_f {s : BdS} {t o l i j : Int} (h : ¬ (bSn s t o = -1 ∨ cxI (bW s) (bH s) (bD s) l i j = -1)) (h2 : ¬ bHas s t o) (h3 : bnp s = 40 ∨ (bRt s (bSn s t o) = -1 ∧ bnn s = 12)) : bPutV 1 s t o l i j = -1 ∧ bPutS 1 s t o l i j = s := ⟨(if_neg (by decide)).trans ((if_neg h).trans ((zite_f h2).trans (if_pos h3))), (if_neg (by decide)).trans ((if_neg h).trans ((zite_f h2).trans (if_pos h3)))⟩
theorem bPu1_y {s : BdS} {t o l i j : Int} (h : ¬ (bSn s t o = -1 ∨ cxI (bW s) (bH s) (bD s) l i j = -1)) (h2 : ¬ bHas s t o) (h3 : ¬ (bnp s = 40 ∨ (bRt s (bSn s t o) = -1 ∧ bnn s = 12))) (h4 : bFree (bRs s (bSn s t o)) (bRn s (bSn s t o)) (cxI (bW s) (bH s) (bD s) l i j).toNat) : bPutV 1 s t o l i j = bnp s ∧ bPutS 1 s t o l i j = bPad (bRs s (bSn s t o)) (bRn s (bSn s t o)) (cxI (bW s) (bH s) (bD s) l i j).toNat t o := ⟨(if_neg (by decide)).trans ((if_neg h).trans ((zite_f h2).trans ((if_neg h3).trans (zite_t h4)))), (if_neg (by decide)).trans ((if_neg h).trans ((zite_f h2).trans ((if_neg h3).trans (zite_t h4))))⟩
theorem bPu1_n {s : BdS} {t o l i j : Int} (h : ¬ (bSn s t o = -1 ∨ cxI (bW s) (bH s) (bD s) l i j = -1)) (h2 : ¬ bHas s t o) (h3 : ¬ (bnp s = 40 ∨ (bRt s (bSn s t o) = -1 ∧ bnn s = 12))) (h4 : ¬ bFree (bRs s (bSn s t o)) (bRn s (bSn s t o)) (cxI (bW s) (bH s) (bD s) l i j).toNat) : bPutV 1 s t o l i j = -4 ∧ bPutS 1 s t o l i j = bRs s (bSn s t o) := ⟨(if_neg (by decide)).trans ((if_neg h).trans ((zite_f h2).trans ((if_neg h3).trans (zite_f h4)))), (if_neg (by decide)).trans ((if_neg h).trans ((zite_f h2).trans ((if_neg h3).trans (zite_f h4))))⟩
theorem bPu1_b {b : Nat} {s : BdS} {t o l i j : Int} (h : b ≠ 0) : bPutV b s t o l i j = bPutV 1 s t o l i j ∧ bPutS b s t o l i j = bPutS 1 s t o l i j := ⟨(if_neg h).trans (if_neg (by decide)).symm, (if_neg h).trans (if_neg (by decide)).symm⟩
/-- a copy's net, out of range or not -/
theorem bSn_j {s : BdS} {d : JdS} {t o : Int} (hg : jGd d) (h : ∀ x, x < 960 → bnd s x = bDj d x) : bSn s t o = jOf d t o := by
  unfold bSn
  by_cases q : 0 ≤ t ∧ t < 60 ∧ 0 ≤ o ∧ o < 16
  · rw [if_pos q, h _ (by omega)]
    unfold bDj
    rw [show ((((16 * t.toNat + o.toNat) / 16 : Nat)) : Int) = t by omega, show ((((16 * t.toNat + o.toNat) % 16 : Nat)) : Int) = o by omega]
  · rw [if_neg q]
    unfold jOf
    rw [if_neg]
    intro w
    have hle := jNc_le (dbs d) (dT d t.toNat 0) (dns d)
    have g := hg.1
    omega
theorem jOf_E {d : JdS} {x y : Int} (hg : jGd d) (h : dns d = 0) : jOf d x y = -1 := by
  unfold jOf
  rw [if_neg]
  intro w
  have g := (hg.2.2.2.2.2.2 x.toNat (by omega)).1
  omega
theorem bRt_s (s : BdS) (sn : Int) : (bRt s sn = -1 ∧ ∀ n, n < bnn s → bN s n 0 ≠ sn) ∨ (0 ≤ bRt s sn ∧ bRt s sn < bnn s ∧ bN s (bRt s sn).toNat 0 = sn) := by
  rcases zlow_sp (fun n => bN s n 0 = sn) (bnn s) with w | ⟨r, w1, w2, w3, w4⟩
  · exact Or.inl w
  · have e : bRt s sn = (r : Nat) := w2
    rw [e]
    exact Or.inr ⟨by omega, by omega, w3⟩
/-- the nets of the sheets, with one more -/
theorem zPB_n {s : BdS} {I I' : ZI} {sn : Int} (h : zPB s I) (hr : bRt s sn = -1) (hn : I' 165 22 = (bnn s + 1 : Nat)) (hs : I' 203 (bnn s) = sn) (h0 : ∀ n : Nat, n < bnn s → I' 203 n = I 203 n) (hf : ∀ c j : Nat, (c = 165 ∧ j = 15) ∨ (197 ≤ c ∧ c ≤ 202) → I' c j = I c j) : zPB (bRs s sn) I' := by
  obtain ⟨h1, h2, h3, h4⟩ := h
  unfold bRs
  rw [if_pos hr]
  refine ⟨(hf 165 15 (by omega)).trans h1, hn, fun p hp => ?_, fun n hn2 => ?_⟩
  · have w := h3 p hp
    rw [hf 197 p (by omega), hf 198 p (by omega), hf 202 p (by omega), hf 199 p (by omega), hf 200 p (by omega), hf 201 p (by omega)]
    exact w
  · have hn3 : n < bnn s + 1 := hn2
    show I' 203 n = upR (bN s) (bnn s) sn 0 0 0 0 n 0
    by_cases e : n = bnn s
    · rw [e, hs]
      exact (if_pos rfl).symm
    · rw [upR_ne e]
      exact (h0 n (by omega)).trans (h4 n (by omega))
/-- a pad more -/
theorem zPB_p {s : BdS} {I I' : ZI} {n : Nat} {t o l i j : Int} (h : zPB s I) (hc : cxI (bW s) (bH s) (bD s) l i j ≠ -1) (hn : I' 165 15 = (bnp s + 1 : Nat)) (hr : I' 165 22 = I 165 22) (hs : I' 197 (bnp s) = t ∧ I' 198 (bnp s) = o ∧ I' 199 (bnp s) = l ∧ I' 200 (bnp s) = i ∧ I' 201 (bnp s) = j ∧ I' 202 (bnp s) = n) (h0 : ∀ c p : Nat, 197 ≤ c → c ≤ 202 → p < bnp s → I' c p = I c p) (hf : ∀ m : Nat, I' 203 m = I 203 m) (hcb : 0 ≤ cxI (bW s) (bH s) (bD s) l i j) : zPB (bPad s n (cxI (bW s) (bH s) (bD s) l i j).toNat t o) I' := by
  obtain ⟨h1, h2, h3, h4⟩ := h
  refine ⟨hn, hr.trans h2, fun p hp => ?_, fun m hm => ?_⟩
  · have hp2 : p < bnp s + 1 := hp
    show (I' 197 p = upR (bP s) (bnp s) t o ((cxI (bW s) (bH s) (bD s) l i j).toNat : Nat) n 0 p 0 ∧ I' 198 p = upR (bP s) (bnp s) t o ((cxI (bW s) (bH s) (bD s) l i j).toNat : Nat) n 0 p 1 ∧ I' 202 p = upR (bP s) (bnp s) t o ((cxI (bW s) (bH s) (bD s) l i j).toNat : Nat) n 0 p 3) ∧ cxI (bW s) (bH s) (bD s) (I' 199 p) (I' 200 p) (I' 201 p) = upR (bP s) (bnp s) t o ((cxI (bW s) (bH s) (bD s) l i j).toNat : Nat) n 0 p 2
    by_cases e : p = bnp s
    · rw [e, hs.1, hs.2.1, hs.2.2.1, hs.2.2.2.1, hs.2.2.2.2.1, hs.2.2.2.2.2]
      exact ⟨⟨(if_pos rfl).symm, (if_pos rfl).symm, (if_pos rfl).symm⟩, (show cxI (bW s) (bH s) (bD s) l i j = ((cxI (bW s) (bH s) (bD s) l i j).toNat : Nat) by omega).trans (if_pos rfl).symm⟩
    · have w := h3 p (by omega)
      rw [upR_ne e, upR_ne e, upR_ne e, upR_ne e, h0 197 p (by omega) (by omega) (by omega), h0 198 p (by omega) (by omega) (by omega), h0 202 p (by omega) (by omega) (by omega), h0 199 p (by omega) (by omega) (by omega), h0 200 p (by omega) (by omega) (by omega), h0 201 p (by omega) (by omega) (by omega)]
      exact w
  · show I' 203 m = up2z (up2z (bN s) n 2 0) n 1 (bN s n 1 + 1) m 0
    rw [up2z_ne (fun w => by have := w.2; omega), up2z_ne (fun w => by have := w.2; omega), hf m]
    exact h4 m hm
