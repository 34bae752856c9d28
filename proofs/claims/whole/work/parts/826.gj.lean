/-! gj: SCRIPTS: steps only grow; loops as the class goes through them -/
def mTk (a : Nat) (x : MsT) : Prop := a ≤ x.2.1
theorem mRa_tk {a : Nat} {k p v : Int} {x : MsT} (h : mTk a x) : mTk a (mRa k p v x) := by
  unfold mRa
  split
  · exact h
  · exact h
theorem tk_if {a : Nat} {c : Prop} [Decidable c] {x y : MsT} (ha : mTk a x) (hb : mTk a y) : mTk a (if c then x else y) := by
  by_cases q : c
  · rw [if_pos q]; exact ha
  · rw [if_neg q]; exact hb
theorem mAc_tk {a i : Nat} {o : OrT} {u : Nat → Int} {x : MsT} (h : mTk a x) : mTk a (mAc i o u x) := by
  unfold mAc
  repeat' (first | exact h | exact mRa_tk h | refine tk_if ?_ ?_)
theorem mSt_tk {R : Nat → OrT} {u : Nat → Int} {lim a : Nat} {x : MsT} (h : mTk a x) : mTk a (mSt R u lim x) := by
  unfold mSt
  dsimp only
  refine tk_if h (tk_if h (tk_if h (tk_if h (tk_if h (tk_if h (tk_if ?_ (tk_if h (mAc_tk ?_))))))))
  rotate_left
  · exact Nat.le_succ_of_le h
  split
  · split
    · exact h
    · exact mRa_tk h
  · exact h
theorem itN_tk {R : Nat → OrT} {u : Nat → Int} {lim a : Nat} : ∀ {k : Nat} {x : MsT}, mTk a x → mTk a (itN (mSt R u lim) k x)
  | 0, _, h => h
  | k + 1, x, h => itN_tk (k := k) (mSt_tk h)
theorem mRa_2 {k p v : Int} {x : MsT} : (mRa k p v x).2.1 = x.2.1 := by
  unfold mRa
  split
  · rfl
  · rfl
section
variable {n : Nat} {e : Nat → Int} {M : WkM} {d cl i j : Nat} {s s' : WkS} {I L I' L' : ZI}
theorem wkZ_m (h : wkZ M d cl i s j s') : s.2.1 ≤ s'.2.1 := by
  obtain ⟨bk, _, q⟩ := h (fun _ => 0) [] (Nat.zero_le d)
  have hi : ∀ y, wkI M (wkX s i cl (fun _ => 0) []) y → s.2.1 ≤ y.2.1 := fun y w => by
    obtain ⟨k, w1, _⟩ := w
    rw [← w1]
    exact itN_tk (Nat.le_refl s.2.1)
  rcases q with q | ⟨_, _, nx, c2, q⟩ | ⟨_, y, q, _, q2, _⟩
  · exact hi _ q.2
  · have w := hi _ q
    rw [mRa_2] at w
    exact w
  · have w := hi _ q
    rw [q2] at w
    exact w
/-- the place that is told, where it goes on -/
def wkV (s : WkS) (v x : Int) : Prop := wkGo s → v = x
theorem wkV_1 {v x : Int} (h : v = x) : wkV s v x := fun _ => h
theorem wkV_0 {v x : Int} (h : ¬ wkGo s) : wkV s v x := fun q => absurd q h
theorem wkSt_no : ¬ wkGo (wkSt s) := fun q => absurd (show (1 : Nat) = 0 from q.1) (by decide)
/-- how it stands by what lies -/
theorem wkZ_no (h : wkZ M d cl i s j s') (hW : zWk n e M s' I L) (g : ¬ wkGo s') : ¬ I 138 12 = 0 ∨ ¬ I 138 13 = 0 := by
  rcases wkZ_3 h with q | q | q
  · exact absurd q g
  · exact Or.inr (by rw [hW.2.2.2.2.2.1]; exact q.2)
  · exact Or.inl (by rw [hW.2.2.2.2.1.1, q]; decide)
/-- a loop's round without a step -/
theorem wkL_n {p tg : Int} {l : CdL} (hM : M.1 i = (6, p, 0, [], l, tg)) (hi : i ≤ M.2.2.2) (hl : s.2.1 = M.2.2.1) : wkZ M d cl i s j (wkSt s) := wkZ_n (by rw [hM]; exact (show wkO (6, p, 0, [], l, tg) from (show ¬ ((6 : Int) = 20 ∨ (6 : Int) = 17 ∨ (6 : Int) = 19 ∨ (6 : Int) = 8 ∨ (6 : Int) = 10 ∨ (6 : Int) = 11) by decide))) hi (fun _ _ _ => mVo_s (by rw [hM]; exact Or.inr (Or.inr (Or.inr (Or.inl rfl))))) hl
end
