/-! gm: SCRIPTS: the class's run: statements that act, as orders -/
def wkH (s : WkS) : Prop := wkGo s ∨ (s.2.2.1 = 0 ∧ s.2.2.2.1 ≠ 0)
theorem wkH_if {c : Prop} [Decidable c] {a b : WkS} (ha : wkH a) (hb : wkH b) : wkH (if c then a else b) := by
  by_cases q : c
  · rw [if_pos q]; exact ha
  · rw [if_neg q]; exact hb
theorem wkH_F {s : WkS} {k p v : Int} (h : wkGo s) (hk : k ≠ 0) : wkH (wkF s k p v) := Or.inr ⟨h.1, hk⟩
theorem wkH_f {c : Nat} {s a : WkS} {p v : Int} (h : wkGo s) (ha : wkH a) : wkH (if c = 0 then a else wkF s (c : Nat) p v) := by
  by_cases q : c = 0
  · rw [if_pos q]; exact ha
  · rw [if_neg q]; exact wkH_F h (wkN q)
theorem wkO_of {o : OrT} {k : Int} (e : o.1 = k) (h : ¬ (k = 20 ∨ k = 17 ∨ k = 19 ∨ k = 8 ∨ k = 10 ∨ k = 11)) : wkO o := by
  unfold wkO; rw [e]; exact h
theorem ne_of7 {a k : Int} (e : a = k) (h : ¬ (k = 7 ∨ k = 9 ∨ k = 8 ∨ k = 10 ∨ k = 11 ∨ k = 19)) : ¬ (a = 7 ∨ a = 9 ∨ a = 8 ∨ a = 10 ∨ a = 11 ∨ a = 19) := by
  rw [e]; exact h
section
variable {M : WkM} {d cl i : Nat} {s : WkS} {p g tg : Int} {l m : CdL}
theorem mVo_m {o : OrT} {x : MsT} (h1 : 1 ≤ o.1 ∧ o.1 ≤ 20) (h2 : o.1 = 1 ∨ o.1 = 18 → 0 ≤ o.2.2.1 ∧ o.2.2.1 < 26) (h3 : o.1 = 2 → 0 ≤ o.2.2.1 ∧ o.2.2.1 ≤ 5) (h : ¬ (o.1 = 7 ∨ o.1 = 9 ∨ o.1 = 8 ∨ o.1 = 10 ∨ o.1 = 11 ∨ o.1 = 19)) : mVo o x := ⟨h1, h2, h3, fun q => by omega, fun q => by omega, fun q => by omega⟩
theorem wkZ_1 (hM : M.1 i = (1, p, g, m, l, tg)) (hg : wkGo s) (hi : i ≤ M.2.2.2) (hl : s.2.1 < M.2.2.1) (hb : 0 ≤ g ∧ g < 26) : wkZ M d cl i s (i + 1) (wk1 (wkSp s) p g.toNat l) := wkZ_s (wkO_of (k := 1) (by rw [hM]) (by decide)) hi (fun _ _ _ => by rw [hM]; exact mVo_m ⟨by show (1 : Int) ≤ 1; decide, by show (1 : Int) ≤ 20; decide⟩ (fun _ => hb) (fun q => absurd (show (1 : Int) = 2 from q) (by decide)) (ne_of7 (k := 1) rfl (by decide))) hl (wkH_f hg (Or.inl hg)) (fun bk hs => by
  have w := wkA_1 (s := wkSp s) (o := M.1 i) (u := M.2.1) (i := i) (ni := ((i + 1 : Nat) : Int)) (cl := cl) (bk := bk) (hs := hs) hg (by rw [hM])
  rw [w, hM])
theorem wkZ_2 (hM : M.1 i = (2, p, g, m, l, tg)) (hg : wkGo s) (hi : i ≤ M.2.2.2) (hl : s.2.1 < M.2.2.1) (hb : 0 ≤ g ∧ g ≤ 5) : wkZ M d cl i s (i + 1) (wk2 (wkSp s) p g.toNat m l) := wkZ_s (wkO_of (k := 2) (by rw [hM]) (by decide)) hi (fun _ _ _ => by rw [hM]; exact mVo_m ⟨by show (1 : Int) ≤ 2; decide, by show (2 : Int) ≤ 20; decide⟩ (fun q => absurd (show (2 : Int) = 1 ∨ (2 : Int) = 18 from q) (by decide)) (fun _ => hb) (ne_of7 (k := 2) rfl (by decide))) hl (wkH_f hg (Or.inl hg)) (fun bk hs => by
  have w := wkA_2 (s := wkSp s) (o := M.1 i) (u := M.2.1) (i := i) (ni := ((i + 1 : Nat) : Int)) (cl := cl) (bk := bk) (hs := hs) hg (by rw [hM])
  rw [w, hM])
theorem wkZ_3' (hM : M.1 i = (3, p, g, m, l, tg)) (hg : wkGo s) (hi : i ≤ M.2.2.2) (hl : s.2.1 < M.2.2.1) : wkZ M d cl i s (i + 1) (wk3 (wkSp s) p m l) := wkZ_s (wkO_of (k := 3) (by rw [hM]) (by decide)) hi (fun _ _ _ => mVo_s (by rw [hM]; exact Or.inl rfl)) hl (wkH_f hg (Or.inl hg)) (fun bk hs => by
  have w := wkA_3 (s := wkSp s) (o := M.1 i) (u := M.2.1) (i := i) (ni := ((i + 1 : Nat) : Int)) (cl := cl) (bk := bk) (hs := hs) hg (by rw [hM])
  rw [w, hM])
theorem wkZ_4 (hM : M.1 i = (4, p, g, m, l, tg)) (hg : wkGo s) (hi : i ≤ M.2.2.2) (hl : s.2.1 < M.2.2.1) : wkZ M d cl i s (i + 1) (wk4 (wkSp s) p l) := wkZ_s (wkO_of (k := 4) (by rw [hM]) (by decide)) hi (fun _ _ _ => mVo_s (by rw [hM]; exact Or.inr (Or.inl rfl))) hl (wkH_f hg (wkH_if (Or.inl hg) (Or.inl hg))) (fun bk hs => by
  have w := wkA_4 (s := wkSp s) (o := M.1 i) (u := M.2.1) (i := i) (ni := ((i + 1 : Nat) : Int)) (cl := cl) (bk := bk) (hs := hs) hg (by rw [hM])
  rw [w, hM])
theorem wkZ_12 (hM : M.1 i = (12, p, g, m, l, tg)) (hg : wkGo s) (hi : i ≤ M.2.2.2) (hl : s.2.1 < M.2.2.1) : wkZ M d cl i s (i + 1) (wk12 (wkSp s) p l) := wkZ_s (wkO_of (k := 12) (by rw [hM]) (by decide)) hi (fun _ _ _ => mVo_s (by rw [hM]; exact Or.inr (Or.inr (Or.inr (Or.inr (Or.inl rfl)))))) hl (wkH_f hg (wkH_F hg (by decide))) (fun bk hs => by
  have w := wkA_12 (s := wkSp s) (o := M.1 i) (u := M.2.1) (i := i) (ni := ((i + 1 : Nat) : Int)) (cl := cl) (bk := bk) (hs := hs) hg (by rw [hM])
  rw [w, hM])
theorem wkZ_13 (hM : M.1 i = (13, p, g, m, l, tg)) (hg : wkGo s) (hi : i ≤ M.2.2.2) (hl : s.2.1 < M.2.2.1) : wkZ M d cl i s (i + 1) (wk13 (wkSp s) p l) := wkZ_s (wkO_of (k := 13) (by rw [hM]) (by decide)) hi (fun _ _ _ => mVo_s (by rw [hM]; exact Or.inr (Or.inr (Or.inr (Or.inr (Or.inr (Or.inl rfl))))))) hl (wkH_f hg (wkH_if (wkH_F hg (by decide)) (Or.inl hg))) (fun bk hs => by
  have w := wkA_13 (s := wkSp s) (o := M.1 i) (u := M.2.1) (i := i) (ni := ((i + 1 : Nat) : Int)) (cl := cl) (bk := bk) (hs := hs) hg (by rw [hM])
  rw [w, hM])
theorem wkZ_16 (hM : M.1 i = (16, p, g, m, l, tg)) (hg : wkGo s) (hi : i ≤ M.2.2.2) (hl : s.2.1 < M.2.2.1) : wkZ M d cl i s (i + 1) (wk16 (wkSp s) p l) := wkZ_s (wkO_of (k := 16) (by rw [hM]) (by decide)) hi (fun _ _ _ => mVo_s (by rw [hM]; exact Or.inr (Or.inr (Or.inr (Or.inr (Or.inr (Or.inr (Or.inr (Or.inr (Or.inl rfl)))))))))) hl (wkH_f hg (wkH_if (wkH_F hg (by decide)) (Or.inl hg))) (fun bk hs => by
  have w := wkA_16 (s := wkSp s) (o := M.1 i) (u := M.2.1) (i := i) (ni := ((i + 1 : Nat) : Int)) (cl := cl) (bk := bk) (hs := hs) hg (by rw [hM])
  rw [w, hM])
theorem wkZ_14 (hM : M.1 i = (14, p, g, m, l, tg)) (hg : wkGo s) (hi : i ≤ M.2.2.2) (hl : s.2.1 < M.2.2.1) : wkZ M d cl i s (i + 1) (wk14 (wkSp s) i) := wkZ_s (wkO_of (k := 14) (by rw [hM]) (by decide)) hi (fun _ _ _ => mVo_s (by rw [hM]; exact Or.inr (Or.inr (Or.inr (Or.inr (Or.inr (Or.inr (Or.inl rfl)))))))) hl (wkH_if (Or.inl hg) (Or.inl hg)) (fun bk hs => wkA_14 (s := wkSp s) (o := M.1 i) (u := M.2.1) (i := i) (ni := ((i + 1 : Nat) : Int)) (cl := cl) (bk := bk) (hs := hs) hg (by rw [hM]))
theorem wkZ_15 (hM : M.1 i = (15, p, g, m, l, tg)) (hg : wkGo s) (hi : i ≤ M.2.2.2) (hl : s.2.1 < M.2.2.1) : wkZ M d cl i s (i + 1) (wk15 (wkSp s) p l) := wkZ_s (wkO_of (k := 15) (by rw [hM]) (by decide)) hi (fun _ _ _ => mVo_s (by rw [hM]; exact Or.inr (Or.inr (Or.inr (Or.inr (Or.inr (Or.inr (Or.inr (Or.inl rfl))))))))) hl (by
  unfold wk15
  by_cases q : (qrL l (wkSp s).1.1.2.1 0 (wkSp s).1.1).1 = 0
  · rw [if_pos q]; exact Or.inl hg
  · rw [if_neg q]; exact wkH_F hg (wkN q)) (fun bk hs => by
  have w := wkA_15 (s := wkSp s) (o := M.1 i) (u := M.2.1) (i := i) (ni := ((i + 1 : Nat) : Int)) (cl := cl) (bk := bk) (hs := hs) hg (by rw [hM])
  rw [w, hM])
end
/-- an order that costs a step, whichever -/
theorem stO_V {c : Nat → Int} {p : Nat} (h : (stS c p).1 = 1) : wkO (stO c p) ∧ ∀ x, mVo (stO c p) x := by
  rcases stS_1 h with ⟨h1, h2, _⟩ | ⟨h1, h2, h3, _⟩ | ⟨h1, _, _, h4, _⟩ | ⟨h1, _⟩ | ⟨h1, _⟩
  · rw [(stO_v ⟨h1, h2⟩).1]
    exact ⟨wkO_of (k := 1) rfl (by decide), fun x => mVo_m ⟨by show (1 : Int) ≤ 1; decide, by show (1 : Int) ≤ 20; decide⟩ (fun _ => by show 0 ≤ c p - 97 ∧ c p - 97 < 26; omega) (fun q => absurd (show (1 : Int) = 2 from q) (by decide)) (ne_of7 (k := 1) rfl (by decide))⟩
  · rw [(stO_c ⟨h1, h2, h3⟩).1]
    exact ⟨wkO_of (k := 18) rfl (by decide), fun x => mVo_m ⟨by show (1 : Int) ≤ 18; decide, by show (18 : Int) ≤ 20; decide⟩ (fun _ => by show 0 ≤ c p - 65 ∧ c p - 65 < 26; omega) (fun q => absurd (show (18 : Int) = 2 from q) (by decide)) (ne_of7 (k := 18) rfl (by decide))⟩
  · rw [(stO_a h1).1]
    exact ⟨wkO_of (k := 2) rfl (by decide), fun x => mVo_m ⟨by show (1 : Int) ≤ 2; decide, by show (2 : Int) ≤ 20; decide⟩ (fun q => absurd (show (2 : Int) = 1 ∨ (2 : Int) = 18 from q) (by decide)) (fun _ => by show 0 ≤ c ((exAt c 3 (p + 1)).2.1 + 1) - 48 ∧ c ((exAt c 3 (p + 1)).2.1 + 1) - 48 ≤ 5; omega) (ne_of7 (k := 2) rfl (by decide))⟩
  · rw [(stO_q h1).1]
    exact ⟨wkO_of (k := 3) rfl (by decide), fun x => mVo_s (Or.inl rfl)⟩
  · rw [(stO_s h1).1]
    have hk : smK (c p) = 4 ∨ smK (c p) = 12 ∨ smK (c p) = 13 ∨ smK (c p) = 14 ∨ smK (c p) = 15 ∨ smK (c p) = 16 := by
      unfold smK
      rcases h1 with q | q | q | q | q | q
      · rw [q]; decide
      · rw [q]; decide
      · rw [q]; decide
      · rw [q]; decide
      · rw [q]; decide
      · rw [q]; decide
    exact ⟨by show ¬ (smK (c p) = 20 ∨ smK (c p) = 17 ∨ smK (c p) = 19 ∨ smK (c p) = 8 ∨ smK (c p) = 10 ∨ smK (c p) = 11); omega, fun x => mVo_s (by show smK (c p) = 3 ∨ smK (c p) = 4 ∨ smK (c p) = 5 ∨ smK (c p) = 6 ∨ smK (c p) = 12 ∨ smK (c p) = 13 ∨ smK (c p) = 14 ∨ smK (c p) = 15 ∨ smK (c p) = 16 ∨ smK (c p) = 17 ∨ smK (c p) = 20; omega)⟩
theorem wf_O {N : Nat} {c cl : Nat → Int} {M : WkM} {G : WkG} {r p i tq j : Nat} (h : wfSt N c cl M G r p i tq j) (h58 : c p ≠ 58) : wkO (M.1 i) ∧ ∀ x : MsT, x.2.2.2.2.2.2.2.length ≤ 14 → mVo (M.1 i) x := by
  rcases h with ⟨_, h1, h2, _⟩ | ⟨r', q, t1, j1, _, _, _, _, _, _, hh⟩
  · rw [h2]; exact ⟨(stO_V h1).1, fun x _ => (stO_V h1).2 x⟩
  · rcases hh with ⟨_, _, _, h2, _⟩ | ⟨t2, j2, _, _, _, h2, _⟩ | ⟨_, _, h2, _⟩ | ⟨_, _, h2, _⟩ | ⟨t2, j2, _, _, h2, _⟩ | ⟨h2, _⟩
    · rw [h2]; exact ⟨wkO_of (k := 5) rfl (by decide), fun x _ => mVo_s (Or.inr (Or.inr (Or.inl rfl)))⟩
    · rw [h2]; exact ⟨wkO_of (k := 5) rfl (by decide), fun x _ => mVo_s (Or.inr (Or.inr (Or.inl rfl)))⟩
    · rw [h2]; exact ⟨wkO_of (k := 6) rfl (by decide), fun x _ => mVo_s (Or.inr (Or.inr (Or.inr (Or.inl rfl))))⟩
    · exact ⟨by unfold wkO; omega, fun x hx => mVo_7 (Or.inl h2) hx⟩
    · exact ⟨by unfold wkO; omega, fun x hx => mVo_7 (Or.inr h2.1) hx⟩
    · exact absurd h2 h58
