/-! fw: SCRIPTS: the reference's run: from its start to its end -/
theorem mSt_d {R : Nat → OrT} {u : Nat → Int} {lim : Nat} {x : MsT} (hd : x.2.2.1.1 = 1) : mSt R u lim x = x := if_pos hd
theorem itN_s2 {α : Type} {f : α → α} {k : Nat} {x0 x : α} (hk : itN f k x0 = x) : itN f (k + 1) x0 = f x := by
  rw [itN_add, hk]
  rfl
theorem mSt_lt {R : Nat → OrT} {u : Nat → Int} {lim n k : Nat} {x0 x : MsT} (hn : (itN (mSt R u lim) n x0).2.2.1.1 = 1) (hk : itN (mSt R u lim) k x0 = x) (hd : ¬ x.2.2.1.1 = 1) : k < n := by
  apply Nat.lt_of_not_le
  intro h
  have q : itN (mSt R u lim) (n + (k - n)) x0 = itN (mSt R u lim) (k - n) (itN (mSt R u lim) n x0) := itN_add
  rw [show n + (k - n) = k by omega, itN_fix (mSt_d hn), hk] at q
  rw [q] at hd
  exact hd hn
theorem mSt_en {R : Nat → OrT} {u : Nat → Int} {lim n k : Nat} {x0 x : MsT} (hn : (itN (mSt R u lim) n x0).2.2.1.1 = 1) (hk : itN (mSt R u lim) k x0 = x) (hd : x.2.2.1.1 = 1) : x = itN (mSt R u lim) n x0 := itN_det hk rfl (mSt_d hd) (mSt_d hn)
def mS0 (E : EvE) (bk : Nat → Int) : MsT := (((fun _ => 0, E.2), (0, fun _ => 0), (0, fun _ => 0)), 0, (0, 0), (0, -1, 0), 0, 0, bk, [])
theorem zMs_0 {g lim : Nat} {E : EvE} {I I' L L' : ZI} {bk : Nat → Int} (hV : zRv E I L) (hf : ∀ c j : Nat, c = 234 ∧ (j = 28 ∨ j = 30) → I' c j = I c j) (hl : ∀ c j : Nat, c = 251 ∨ c = 252 → L' c j = L c j) (hF : zFg I' L') (h34 : L' 234 34 = lim) (h49 : I' 234 49 = 0) (h50 : I' 234 50 = 0) (h52 : I' 234 52 = 0) (h53 : I' 234 53 = 0) (h55 : I' 234 55 = 0) (h42 : I' 234 42 = 0) (h32 : I' 234 32 = -1) (hb : ∀ i : Nat, i < 2 → I' 258 i = bk i) : zMs g lim (mS0 E bk) I' L' := by
  obtain ⟨f1, f2, f3, f4, f5, f6, f7⟩ := hF
  exact ⟨⟨fun v hv => f1 v hv, ⟨(hf _ _ (by omega)).trans hV.2.1.1, hV.2.1.2⟩, fun j hj => (hl _ _ (by omega)).trans (hV.2.2.1 j hj), ⟨(hf _ _ (by omega)).trans hV.2.2.2.1.1, hV.2.2.2.1.2⟩, fun j hj => (hl _ _ (by omega)).trans (hV.2.2.2.2 j hj)⟩, ⟨⟨f3, Nat.zero_le 40⟩, fun i hi => absurd hi (Nat.not_lt_zero i)⟩, ⟨⟨f4, Nat.zero_le 8⟩, fun i hi => absurd hi (Nat.not_lt_zero i)⟩, ⟨f2, h34⟩, ⟨h49, h50⟩, ⟨f5, f6, f7⟩, h52, ⟨h53, Nat.zero_le 2⟩, hb, ⟨h55, Nat.zero_le 15⟩, True.intro, by rw [h42]; decide, h32⟩
theorem zFg_fr {I I' L L' : ZI} (h : zFg I L) (hf : ∀ c j : Nat, c = 234 ∧ (j = 36 ∨ j = 38 ∨ (46 ≤ j ∧ j ≤ 48)) → I' c j = I c j) (hl : ∀ c j : Nat, c = 253 ∨ (c = 234 ∧ j = 35) → L' c j = L c j) : zFg I' L' := ⟨fun v hv => (hl _ _ (by omega)).trans (h.1 v hv), (hl _ _ (by omega)).trans h.2.1, (hf _ _ (by omega)).trans h.2.2.1, (hf _ _ (by omega)).trans h.2.2.2.1, (hf _ _ (by omega)).trans h.2.2.2.2.1, (hf _ _ (by omega)).trans h.2.2.2.2.2.1, (hf _ _ (by omega)).trans h.2.2.2.2.2.2⟩
