/-! fs: SCRIPTS: orders that act, one by one -/
theorem mAc_1 {i : Nat} {o : OrT} {u : Nat → Int} {x : MsT} (h : o.1 = 1) : mAc i o u x = if evF x.1.1 o.2.2.2.2.1 = 0 then mE x (evSv x.1.1 o.2.2.1.toNat (evV x.1.1 o.2.2.2.2.1)) else mRa (evF x.1.1 o.2.2.2.2.1) o.2.1 0 x := if_pos h
theorem mAc_2 {i : Nat} {o : OrT} {u : Nat → Int} {x : MsT} (h : o.1 = 2) : mAc i o u x = if evF x.1.1 o.2.2.2.1 ≠ 0 then mRa (evF x.1.1 o.2.2.2.1) o.2.1 0 x else if ¬ (0 ≤ evV x.1.1 o.2.2.2.1 ∧ evV x.1.1 o.2.2.2.1 < (x.1.1.2.1 : Int)) then mRa 2 o.2.1 0 x else if evF x.1.1 o.2.2.2.2.1 ≠ 0 then mRa (evF x.1.1 o.2.2.2.2.1) o.2.1 0 x else mE x (evSf x.1.1 (6 * (evV x.1.1 o.2.2.2.1).toNat + o.2.2.1.toNat) (evV x.1.1 o.2.2.2.2.1)) := by
  refine (if_neg (by omega)).trans ((if_pos (Or.inl h)).trans ?_)
  rw [if_pos h, if_pos h]
theorem mAc_3 {i : Nat} {o : OrT} {u : Nat → Int} {x : MsT} (h : o.1 = 3) : mAc i o u x = if evF x.1.1 o.2.2.2.1 ≠ 0 then mRa (evF x.1.1 o.2.2.2.1) o.2.1 0 x else if ¬ (0 ≤ evV x.1.1 o.2.2.2.1 ∧ evV x.1.1 o.2.2.2.1 < (x.1.1.2.2.2.1 : Int)) then mRa 2 o.2.1 0 x else if evF x.1.1 o.2.2.2.2.1 ≠ 0 then mRa (evF x.1.1 o.2.2.2.2.1) o.2.1 0 x else mE x (evSl x.1.1 (evV x.1.1 o.2.2.2.1).toNat (evV x.1.1 o.2.2.2.2.1)) := by
  refine (if_neg (by omega)).trans ((if_pos (Or.inr h)).trans ?_)
  rw [if_neg (show ¬ o.1 = 2 by omega), if_neg (show ¬ o.1 = 2 by omega)]
theorem zRv_f {E : EvE} {I L I' L' : ZI} {i : Nat} {v : Int} (h : zRv E I L) (hf : ∀ c j : Nat, c = 234 ∧ (j = 28 ∨ j = 30) → I' c j = I c j) (hl : ∀ c j : Nat, (c = 251 ∧ ¬ j = i) ∨ c = 252 ∨ c = 253 → L' c j = L c j) (hv : L' 251 i = v) : zRv (evSf E i v) I' L' := ⟨fun w hw => (hl _ _ (by omega)).trans (h.1 w hw), ⟨(hf _ _ (by omega)).trans h.2.1.1, h.2.1.2⟩, fun j hj => by
  show L' 251 j = upF E.2.2.1 i v j
  unfold upF
  by_cases e : j = i
  · rw [if_pos e, e]; exact hv
  · rw [if_neg e]; exact (hl _ _ (by omega)).trans (h.2.2.1 j hj), ⟨(hf _ _ (by omega)).trans h.2.2.2.1.1, h.2.2.2.1.2⟩, fun j hj => (hl _ _ (by omega)).trans (h.2.2.2.2 j hj)⟩
theorem zRv_l {E : EvE} {I L I' L' : ZI} {i : Nat} {v : Int} (h : zRv E I L) (hf : ∀ c j : Nat, c = 234 ∧ (j = 28 ∨ j = 30) → I' c j = I c j) (hl : ∀ c j : Nat, c = 251 ∨ (c = 252 ∧ ¬ j = i) ∨ c = 253 → L' c j = L c j) (hv : L' 252 i = v) : zRv (evSl E i v) I' L' := ⟨fun w hw => (hl _ _ (by omega)).trans (h.1 w hw), ⟨(hf _ _ (by omega)).trans h.2.1.1, h.2.1.2⟩, fun j hj => (hl _ _ (by omega)).trans (h.2.2.1 j hj), ⟨(hf _ _ (by omega)).trans h.2.2.2.1.1, h.2.2.2.1.2⟩, fun j hj => by
  show L' 252 j = upF E.2.2.2.2 i v j
  unfold upF
  by_cases e : j = i
  · rw [if_pos e, e]; exact hv
  · rw [if_neg e]; exact (hl _ _ (by omega)).trans (h.2.2.2.2 j hj)⟩
theorem mAc_q {i : Nat} {o : OrT} {u : Nat → Int} {x : MsT} (h : o.1 = 15) : mAc i o u x = mQr o.2.2.2.2.1 o.2.1 x := (if_neg (by omega)).trans ((if_neg (by omega)).trans ((if_neg (by omega)).trans ((if_neg (by omega)).trans ((if_neg (by omega)).trans ((if_neg (by omega)).trans (if_pos h))))))
theorem mAc_r {i : Nat} {o : OrT} {u : Nat → Int} {x : MsT} (h : o.1 = 14) : mAc i o u x = if x.1.2.2.1 < 8 then mDt x (x.1.1, x.1.2.1, (x.1.2.2.1 + 1, upF x.1.2.2.2 x.1.2.2.1 i)) else x := (if_neg (by omega)).trans ((if_neg (by omega)).trans ((if_neg (by omega)).trans ((if_neg (by omega)).trans ((if_neg (by omega)).trans (if_pos h)))))
/-- those with an expression in their second place -/
def mA2 (o : OrT) (x : MsT) (v : Int) : MsT := if o.1 = 4 then (if x.1.2.1.1 < 40 then mDt x (x.1.1, (x.1.2.1.1 + 1, upF x.1.2.1.2 x.1.2.1.1 (zn v)), x.1.2.2) else x)
  else if o.1 = 12 then mRa 4 o.2.1 (zn v) x
  else if o.1 = 13 then (if x.1.1.2.1 = 12 then mRa 3 o.2.1 0 x else mE x (evNw x.1.1 v))
  else if o.1 = 16 then (if v < 0 ∨ 20 < v then mRa 3 o.2.1 0 x else mE x (evLn x.1.1 v.toNat))
  else if v = 0 then mNx x o.2.2.2.2.2 else x
theorem mAc_s {i : Nat} {o : OrT} {u : Nat → Int} {x : MsT} (h : o.1 = 4 ∨ o.1 = 12 ∨ o.1 = 13 ∨ o.1 = 16 ∨ o.1 = 5 ∨ o.1 = 6) : mAc i o u x = if evF x.1.1 o.2.2.2.2.1 ≠ 0 then mRa (evF x.1.1 o.2.2.2.2.1) o.2.1 0 x else mA2 o x (evV x.1.1 o.2.2.2.2.1) := (if_neg (by omega)).trans ((if_neg (by omega)).trans ((if_neg (by omega)).trans ((if_neg (by omega)).trans ((if_neg (by omega)).trans ((if_neg (by omega)).trans (if_neg (by omega)))))))
theorem zMs_o {g lim : Nat} {x : MsT} {v : Int} {I I' L : ZI} (h : zMs g lim x I L) (hn : x.1.2.1.1 < 40) (h36 : I' 234 36 = (x.1.2.1.1 : Int) + 1) (hv : I' 254 x.1.2.1.1 = v) (hf : ∀ c j : Nat, ¬ (c = 234 ∧ j = 36) → ¬ (c = 254 ∧ j = x.1.2.1.1) → I' c j = I c j) : zMs g lim (mDt x (x.1.1, (x.1.2.1.1 + 1, upF x.1.2.1.2 x.1.2.1.1 v), x.1.2.2)) I' L := by
  obtain ⟨h1, ⟨h2, h2'⟩, ⟨h3, h3'⟩, h4, h5, h6, h7, h8, h9, h10, h11, h12, h13⟩ := h
  refine ⟨zRv_fr h1 (fun c j hj => hf c j (by omega) (by omega)) (fun _ _ _ => rfl), ⟨⟨h36.trans (by show _ = ((x.1.2.1.1 + 1 : Nat) : Int); omega), by show x.1.2.1.1 + 1 ≤ 40; omega⟩, fun i hi => ?_⟩, ⟨⟨(hf _ _ (by omega) (by omega)).trans h3.1, h3.2⟩, fun j hj => (hf _ _ (by omega) (by omega)).trans ((h3' j hj).trans (hf _ _ (by omega) (by omega)).symm)⟩, h4, ⟨(hf _ _ (by omega) (by omega)).trans h5.1, (hf _ _ (by omega) (by omega)).trans h5.2⟩, ⟨(hf _ _ (by omega) (by omega)).trans h6.1, (hf _ _ (by omega) (by omega)).trans h6.2.1, (hf _ _ (by omega) (by omega)).trans h6.2.2⟩, (hf _ _ (by omega) (by omega)).trans h7, ⟨(hf _ _ (by omega) (by omega)).trans h8.1, h8.2⟩, fun i hi => (hf _ _ (by omega) (by omega)).trans (h9 i hi), ⟨(hf _ _ (by omega) (by omega)).trans h10.1, h10.2⟩, zHs_fr h11 (fun c i _ _ _ => hf c i (by omega) (by omega)) (fun _ _ => rfl), by rw [hf 234 42 (by omega) (by omega)]; exact h12, (hf _ _ (by omega) (by omega)).trans h13⟩
  show I' 254 i = upF x.1.2.1.2 x.1.2.1.1 v i
  unfold upF
  have hi2 : i < x.1.2.1.1 + 1 := hi
  by_cases e : i = x.1.2.1.1
  · rw [if_pos e, e]; exact hv
  · rw [if_neg e]; exact (hf _ _ (by omega) (by omega)).trans (h2' i (by omega))
theorem zMs_r {g lim : Nat} {x : MsT} {k : Nat} {I I' L : ZI} (h : zMs g lim x I L) (hn : x.1.2.2.1 < 8) (h38 : I' 234 38 = (x.1.2.2.1 : Int) + 1) (hv : I' 255 x.1.2.2.1 = I 242 (600 * g + k)) (hf : ∀ c j : Nat, ¬ (c = 234 ∧ j = 38) → ¬ (c = 255 ∧ j = x.1.2.2.1) → I' c j = I c j) : zMs g lim (mDt x (x.1.1, x.1.2.1, (x.1.2.2.1 + 1, upF x.1.2.2.2 x.1.2.2.1 k))) I' L := by
  obtain ⟨h1, ⟨h2, h2'⟩, ⟨h3, h3'⟩, h4, h5, h6, h7, h8, h9, h10, h11, h12, h13⟩ := h
  refine ⟨zRv_fr h1 (fun c j hj => hf c j (by omega) (by omega)) (fun _ _ _ => rfl), ⟨⟨(hf _ _ (by omega) (by omega)).trans h2.1, h2.2⟩, fun i hi => (hf _ _ (by omega) (by omega)).trans (h2' i hi)⟩, ⟨⟨h38.trans (by show _ = ((x.1.2.2.1 + 1 : Nat) : Int); omega), by show x.1.2.2.1 + 1 ≤ 8; omega⟩, fun j hj => ?_⟩, h4, ⟨(hf _ _ (by omega) (by omega)).trans h5.1, (hf _ _ (by omega) (by omega)).trans h5.2⟩, ⟨(hf _ _ (by omega) (by omega)).trans h6.1, (hf _ _ (by omega) (by omega)).trans h6.2.1, (hf _ _ (by omega) (by omega)).trans h6.2.2⟩, (hf _ _ (by omega) (by omega)).trans h7, ⟨(hf _ _ (by omega) (by omega)).trans h8.1, h8.2⟩, fun i hi => (hf _ _ (by omega) (by omega)).trans (h9 i hi), ⟨(hf _ _ (by omega) (by omega)).trans h10.1, h10.2⟩, zHs_fr h11 (fun c i _ _ _ => hf c i (by omega) (by omega)) (fun _ _ => rfl), by rw [hf 234 42 (by omega) (by omega)]; exact h12, (hf _ _ (by omega) (by omega)).trans h13⟩
  show I' 255 j = I' 242 (600 * g + upF x.1.2.2.2 x.1.2.2.1 k j)
  have hj2 : j < x.1.2.2.1 + 1 := hj
  rw [hf 242 _ (by omega) (by omega)]
  unfold upF
  by_cases e : j = x.1.2.2.1
  · rw [if_pos e, e]; exact hv
  · rw [if_neg e]; exact (hf _ _ (by omega) (by omega)).trans (h3' j (by omega))
theorem zMs_n {g lim : Nat} {x : MsT} {v : Int} {I I' L : ZI} (h : zMs g lim x I L) (hv : I' 234 52 = v) (hf : ∀ c j : Nat, ¬ (c = 234 ∧ j = 52) → I' c j = I c j) : zMs g lim (mNx x v) I' L := by
  obtain ⟨h1, ⟨h2, h2'⟩, ⟨h3, h3'⟩, h4, h5, h6, h7, h8, h9, h10, h11, h12, h13⟩ := h
  exact ⟨zRv_fr h1 (fun c j hj => hf c j (by omega)) (fun _ _ _ => rfl), ⟨⟨(hf _ _ (by omega)).trans h2.1, h2.2⟩, fun i hi => (hf _ _ (by omega)).trans (h2' i hi)⟩, ⟨⟨(hf _ _ (by omega)).trans h3.1, h3.2⟩, fun j hj => (hf _ _ (by omega)).trans ((h3' j hj).trans (hf _ _ (by omega)).symm)⟩, h4, ⟨(hf _ _ (by omega)).trans h5.1, (hf _ _ (by omega)).trans h5.2⟩, ⟨(hf _ _ (by omega)).trans h6.1, (hf _ _ (by omega)).trans h6.2.1, (hf _ _ (by omega)).trans h6.2.2⟩, hv, ⟨(hf _ _ (by omega)).trans h8.1, h8.2⟩, fun i hi => (hf _ _ (by omega)).trans (h9 i hi), ⟨(hf _ _ (by omega)).trans h10.1, h10.2⟩, zHs_fr h11 (fun c i _ _ _ => hf c i (by omega)) (fun _ _ => rfl), by rw [hf 234 42 (by omega)]; exact h12, (hf _ _ (by omega)).trans h13⟩
