/-! fh: SCRIPTS: the reference's reader of an expression: its state as it lies -/
def zRr (g q : Nat) (z : RcT) (I : ZI) : Prop := (z.1 ≠ 0 ∧ (I 234 16 = z.2.2.1 ∧ I 234 17 = -1 ∧ I 234 25 = z.2.2.2.1 ∧ I 234 27 = z.2.2.2.2.2.1 ∧ I 234 19 = (q + z.2.2.2.2.2.2.length : Nat)) ∧ (∀ i : Nat, i < z.2.2.2.1 → I 250 i = z.2.2.2.2.1 i) ∧ zCo (1000 * g + q) z.2.2.2.2.2.2 I) ∨ (z.1 = 0 ∧ I 234 17 = z.2.2.1 ∧ 0 ≤ I 234 16 ∧ I 234 16 ≤ 410)
theorem zRr_g {g q f v a m w : Nat} {s : Nat → Int} {K : CdL} {I : ZI} {x2 x3 x4 x5 x6 : Int} (hf : f ≠ 0) (h2 : I 234 16 = x2) (h3 : I 234 17 = x3) (h4 : I 234 25 = x4) (h5 : I 234 27 = x5) (h6 : I 234 19 = x6) (e : x2 = a ∧ x3 = -1 ∧ x4 = m ∧ x5 = w ∧ x6 = (q + K.length : Nat)) (hs : ∀ i : Nat, i < m → I 250 i = s i) (hK : zCo (1000 * g + q) K I) : zRr g q (f, v, a, m, s, w, K) I := Or.inl ⟨hf, ⟨h2.trans e.1, h3.trans e.2.1, h4.trans e.2.2.1, h5.trans e.2.2.2.1, h6.trans e.2.2.2.2⟩, hs, hK⟩
theorem zRr_f {g q v a : Nat} {y : Nat × (Nat → Int) × Nat × CdL} {I : ZI} {x2 x3 : Int} (h2 : I 234 16 = x2) (h3 : I 234 17 = x3) (e : x3 = a ∧ 0 ≤ x2 ∧ x2 ≤ 410) : zRr g q (0, v, a, y) I := Or.inr ⟨rfl, h3.trans e.1, by omega, by omega⟩
theorem zRr_x {g q : Nat} {z y : RcT} {I : ZI} (e : z = y) (h : zRr g q z I) : zRr g q y I := by rw [← e]; exact h
theorem rcC_u {c s : Nat → Int} {m a w : Nat} {K : CdL} (h : s m = 95 ∨ s m = 39) : rcC c s (m + 1) a w K = rcC c s m a (w - 1) (K ++ [(s m, 0)]) := if_pos h
theorem rcC_a {c s : Nat → Int} {m a w : Nat} {K : CdL} (h : s m = 64) (h1 : c a = 58) (h2 : 48 ≤ c (a + 1) ∧ c (a + 1) ≤ 53) : rcC c s (m + 1) a w K = rcC c s m (a + 2) (w - 1) (K ++ [(64, c (a + 1) - 48)]) := (if_neg (by omega)).trans ((if_pos h).trans ((if_pos h1).trans (if_pos h2)))
theorem rcC_b {c s : Nat → Int} {m a w : Nat} {K : CdL} (h : s m = 64) (h1 : c a = 58) (h2 : ¬ (48 ≤ c (a + 1) ∧ c (a + 1) ≤ 53)) : rcC c s (m + 1) a w K = (0, 0, a + 1, m + 1, s, w, K) := (if_neg (by omega)).trans ((if_pos h).trans ((if_pos h1).trans (if_neg h2)))
theorem rcC_d {c s : Nat → Int} {m a w : Nat} {K : CdL} (h : s m = 64) (h1 : ¬ c a = 58) : rcC c s (m + 1) a w K = (0, 0, a, m + 1, s, w, K) := (if_neg (by omega)).trans ((if_pos h).trans (if_neg h1))
theorem rcC_e {c s : Nat → Int} {m a w : Nat} {K : CdL} (h : ¬ (s m = 95 ∨ s m = 39 ∨ s m = 64)) : rcC c s (m + 1) a w K = (1, 0, a, m + 1, s, w, K) := (if_neg (fun q => h (by rcases q with q | q; exact Or.inl q; exact Or.inr (Or.inl q)))).trans (if_neg (fun q => h (Or.inr (Or.inr q))))
theorem rcC_0 {c s : Nat → Int} {a w : Nat} {K : CdL} : rcC c s 0 a w K = (1, 0, a, 0, s, w, K) := rfl
theorem drM_s {s : Nat → Int} {l m : Nat} (h : ¬ l ≤ sgS (s m)) : drM s l (m + 1) = m + 1 ∧ drK s l (m + 1) = [] := ⟨if_neg h, if_neg h⟩
theorem sgG_1 {s : Nat → Int} {m w : Nat} (h : sgG s (m + 1) w) (h0 : sgS (s m) = 0) : 1 ≤ w ∧ sgG s m (w - 1) := by
  rcases h with ⟨_, h2, h3⟩ | ⟨h1, _⟩
  · exact ⟨h2, h3⟩
  · omega
theorem sgG_2 {s : Nat → Int} {m w : Nat} (h : sgG s (m + 1) w) (h0 : 1 ≤ sgS (s m)) : sgG s m w := by
  rcases h with ⟨h1, _, _⟩ | ⟨_, h2⟩
  · omega
  · exact h2
/-- the step, case by case -/
theorem rcS_1 {c : Nat → Int} {wh : Nat} {x : RcT} (h : x.1 = 1) (hv : x.2.1 = 1) (hn : c x.2.2.1 = 45 ∨ c x.2.2.1 = 40 ∨ c x.2.2.1 = 64 ∨ c x.2.2.1 = 39) : rcS c wh x = if x.2.2.2.2.2.1 = 3 then (0, 1, x.2.2.1, x.2.2.2.1, x.2.2.2.2.1, x.2.2.2.2.2.1, x.2.2.2.2.2.2) else (1, 1, x.2.2.1 + 1, x.2.2.2.1 + 1, upF x.2.2.2.2.1 x.2.2.2.1 (if c x.2.2.1 = 45 then 95 else c x.2.2.1), x.2.2.2.2.2.1 + 1, x.2.2.2.2.2.2) := (if_pos h).trans ((if_pos hv).trans (if_pos hn))
theorem rcS_2 {c : Nat → Int} {wh : Nat} {x : RcT} (h : x.1 = 1) (hv : x.2.1 = 1) (hn : ¬ (c x.2.2.1 = 45 ∨ c x.2.2.1 = 40 ∨ c x.2.2.1 = 64 ∨ c x.2.2.1 = 39)) : rcS c wh x = if (exB c x.2.2.1).1 = 1 then rcC c x.2.2.2.2.1 x.2.2.2.1 (exB c x.2.2.1).2.1 x.2.2.2.2.2.1 (x.2.2.2.2.2.2 ++ (exB c x.2.2.1).2.2) else (0, 0, (exB c x.2.2.1).2.1, x.2.2.2.1, x.2.2.2.2.1, x.2.2.2.2.2.1, x.2.2.2.2.2.2) := (if_pos h).trans ((if_pos hv).trans (if_neg hn))
theorem rcS_3 {c : Nat → Int} {wh : Nat} {x : RcT} (h : x.1 = 1) (hv : ¬ x.2.1 = 1) (hm : x.2.2.2.1 = 0 ∧ wh = 0) : rcS c wh x = (2, 0, x.2.2.1, x.2.2.2.1, x.2.2.2.2.1, x.2.2.2.2.2.1, x.2.2.2.2.2.2) := (if_pos h).trans ((if_neg hv).trans (if_pos hm))
theorem rcS_4 {c : Nat → Int} {wh : Nat} {x : RcT} (h : x.1 = 1) (hv : ¬ x.2.1 = 1) (hm : ¬ (x.2.2.2.1 = 0 ∧ wh = 0)) (ho : 2 ≤ sgS (c x.2.2.1) ∨ (sgS (c x.2.2.1) = 1 ∧ hcN x.2.2.2.2.1 x.2.2.2.1 = 0)) : rcS c wh x = (1, 1, x.2.2.1 + 1, drM x.2.2.2.2.1 (sgS (c x.2.2.1)) x.2.2.2.1 + 1, upF x.2.2.2.2.1 (drM x.2.2.2.2.1 (sgS (c x.2.2.1)) x.2.2.2.1) (c x.2.2.1), x.2.2.2.2.2.1, x.2.2.2.2.2.2 ++ drK x.2.2.2.2.1 (sgS (c x.2.2.1)) x.2.2.2.1) := (if_pos h).trans ((if_neg hv).trans ((if_neg hm).trans (if_pos ho)))
theorem rcS_5 {c : Nat → Int} {wh : Nat} {x : RcT} (h : x.1 = 1) (hv : ¬ x.2.1 = 1) (hm : ¬ (x.2.2.2.1 = 0 ∧ wh = 0)) (ho : ¬ (2 ≤ sgS (c x.2.2.1) ∨ (sgS (c x.2.2.1) = 1 ∧ hcN x.2.2.2.2.1 x.2.2.2.1 = 0))) (hp : c x.2.2.1 = 41 ∧ hpN x.2.2.2.2.1 x.2.2.2.1 = 1) : rcS c wh x = rcC c x.2.2.2.2.1 (drM x.2.2.2.2.1 1 x.2.2.2.1 - 1) (x.2.2.1 + 1) (x.2.2.2.2.2.1 - 1) (x.2.2.2.2.2.2 ++ drK x.2.2.2.2.1 1 x.2.2.2.1) := (if_pos h).trans ((if_neg hv).trans ((if_neg hm).trans ((if_neg ho).trans (if_pos hp))))
theorem rcS_6 {c : Nat → Int} {wh : Nat} {x : RcT} (h : x.1 = 1) (hv : ¬ x.2.1 = 1) (hm : ¬ (x.2.2.2.1 = 0 ∧ wh = 0)) (ho : ¬ (2 ≤ sgS (c x.2.2.1) ∨ (sgS (c x.2.2.1) = 1 ∧ hcN x.2.2.2.2.1 x.2.2.2.1 = 0))) (hp : ¬ (c x.2.2.1 = 41 ∧ hpN x.2.2.2.2.1 x.2.2.2.1 = 1)) (hq : hpN x.2.2.2.2.1 x.2.2.2.1 = 1) : rcS c wh x = (0, 0, x.2.2.1, x.2.2.2.1, x.2.2.2.2.1, x.2.2.2.2.2.1, x.2.2.2.2.2.2) := (if_pos h).trans ((if_neg hv).trans ((if_neg hm).trans ((if_neg ho).trans ((if_neg hp).trans (if_pos hq)))))
theorem rcS_7 {c : Nat → Int} {wh : Nat} {x : RcT} (h : x.1 = 1) (hv : ¬ x.2.1 = 1) (hm : ¬ (x.2.2.2.1 = 0 ∧ wh = 0)) (ho : ¬ (2 ≤ sgS (c x.2.2.1) ∨ (sgS (c x.2.2.1) = 1 ∧ hcN x.2.2.2.2.1 x.2.2.2.1 = 0))) (hq : ¬ hpN x.2.2.2.2.1 x.2.2.2.1 = 1) : rcS c wh x = (2, 0, x.2.2.1, drM x.2.2.2.2.1 1 x.2.2.2.1, x.2.2.2.2.1, x.2.2.2.2.2.1, x.2.2.2.2.2.2 ++ drK x.2.2.2.2.1 1 x.2.2.2.1) := (if_pos h).trans ((if_neg hv).trans ((if_neg hm).trans ((if_neg ho).trans ((if_neg (fun z => hq z.2)).trans (if_neg hq)))))
theorem hpN_01 {s : Nat → Int} : ∀ {m : Nat}, hpN s m = 0 ∨ hpN s m = 1
  | 0 => Or.inl rfl
  | m + 1 => by
    show (if s m = 40 then 1 else hpN s m) = 0 ∨ (if s m = 40 then 1 else hpN s m) = 1
    by_cases e : s m = 40
    · rw [if_pos e]; exact Or.inr rfl
    · rw [if_neg e]; exact hpN_01
theorem hcN_01 {s : Nat → Int} : ∀ {m : Nat}, hcN s m = 0 ∨ hcN s m = 1
  | 0 => Or.inl rfl
  | m + 1 => by
    show (if s m = 40 then 0 else if sgS (s m) = 1 then 1 else hcN s m) = 0 ∨ (if s m = 40 then 0 else if sgS (s m) = 1 then 1 else hcN s m) = 1
    by_cases e : s m = 40
    · rw [if_pos e]; exact Or.inl rfl
    · rw [if_neg e]
      by_cases e2 : sgS (s m) = 1
      · rw [if_pos e2]; exact Or.inr rfl
      · rw [if_neg e2]; exact hcN_01
/-- one that is there, seen from below -/
theorem hpN_up {s : Nat → Int} : ∀ {m : Nat}, hpN s m = 1 → ∀ {d : Nat}, hpN s (m + d) = 1
  | m, h, 0 => h
  | m, h, d + 1 => by
    show (if s (m + d) = 40 then 1 else hpN s (m + d)) = 1
    by_cases e : s (m + d) = 40
    · rw [if_pos e]
    · rw [if_neg e]; exact hpN_up h
theorem dr_end {s : Nat → Int} {l m : Nat} (h : m = 0 ∨ (1 ≤ m ∧ ¬ l ≤ sgS (s (m - 1)))) : drM s l m = m ∧ drK s l m = [] := by
  rcases h with h | ⟨h1, h2⟩
  · rw [h]; exact ⟨rfl, rfl⟩
  · obtain ⟨k, rfl⟩ : ∃ k, m = k + 1 := ⟨m - 1, by omega⟩
    exact drM_s h2
theorem dr_st {s : Nat → Int} {l m M : Nat} {K Z : CdL} (h1 : 1 ≤ m) (h : l ≤ sgS (s (m - 1))) (hd : drM s l m = M ∧ K ++ drK s l m = Z) : drM s l (m - 1) = M ∧ K ++ [(s (m - 1), 0)] ++ drK s l (m - 1) = Z := by
  obtain ⟨k, rfl⟩ : ∃ k, m = k + 1 := ⟨m - 1, by omega⟩
  rw [Nat.add_sub_cancel] at h ⊢
  rw [(drM_y h).1, (drM_y h).2] at hd
  exact ⟨hd.1, by rw [List.append_assoc]; exact hd.2⟩
theorem up_row {c m : Nat} {s : Nat → Int} {I I' : ZI} {u : Int} (hs : ∀ i : Nat, i < m → I c i = s i) (hm : I' c m = u) (hf : ∀ i : Nat, i < m → I' c i = I c i) : ∀ i : Nat, i < m + 1 → I' c i = upF s m u i := fun i hi => by
  unfold upF
  by_cases e : i = m
  · rw [if_pos e, e]; exact hm
  · rw [if_neg e]; exact (hf i (by omega)).trans (hs i (by omega))
theorem zRr_n {g q : Nat} {z : RcT} {I : ZI} (h : zRr g q z I) : (z.1 ≠ 0 ∧ I 234 17 = -1) ∨ (z.1 = 0 ∧ I 234 17 = z.2.2.1) := by
  rcases h with h | h
  · exact Or.inl ⟨h.1, h.2.1.2.1⟩
  · exact Or.inr ⟨h.1, h.2.1⟩
theorem rcC_n {c s : Nat → Int} : ∀ {m a w : Nat} {K : CdL}, (rcC c s m a w K).1 ≤ 1 ∧ (rcC c s m a w K).2.1 = 0
  | 0, a, w, K => ⟨Nat.le_refl 1, rfl⟩
  | m + 1, a, w, K => by
    by_cases e1 : s m = 95 ∨ s m = 39
    · rw [rcC_u e1]; exact rcC_n
    · by_cases e2 : s m = 64
      · by_cases e3 : c a = 58
        · by_cases e4 : 48 ≤ c (a + 1) ∧ c (a + 1) ≤ 53
          · rw [rcC_a e2 e3 e4]; exact rcC_n
          · rw [rcC_b e2 e3 e4]; exact ⟨Nat.zero_le 1, rfl⟩
        · rw [rcC_d e2 e3]; exact ⟨Nat.zero_le 1, rfl⟩
      · rw [rcC_e (by omega)]; exact ⟨Nat.le_refl 1, rfl⟩
theorem rcS_n1 {c : Nat → Int} {wh : Nat} {x : RcT} (h : x.1 = 1) (hv : x.2.1 = 1) (hn : c x.2.2.1 = 45 ∨ c x.2.2.1 = 40 ∨ c x.2.2.1 = 64 ∨ c x.2.2.1 = 39) : (rcS c wh x).1 ≤ 1 ∧ (rcS c wh x).2.1 = 1 := by
  rw [rcS_1 h hv hn]
  by_cases e : x.2.2.2.2.2.1 = 3
  · rw [if_pos e]; exact ⟨Nat.zero_le 1, rfl⟩
  · rw [if_neg e]; exact ⟨Nat.le_refl 1, rfl⟩
theorem rcS_n2 {c : Nat → Int} {wh : Nat} {x : RcT} (h : x.1 = 1) (hv : x.2.1 = 1) (hn : ¬ (c x.2.2.1 = 45 ∨ c x.2.2.1 = 40 ∨ c x.2.2.1 = 64 ∨ c x.2.2.1 = 39)) : (rcS c wh x).1 ≤ 1 ∧ (rcS c wh x).2.1 = 0 := by
  rw [rcS_2 h hv hn]
  by_cases e : (exB c x.2.2.1).1 = 1
  · rw [if_pos e]; exact rcC_n
  · rw [if_neg e]; exact ⟨Nat.zero_le 1, rfl⟩
theorem rcS_n3 {c : Nat → Int} {wh : Nat} {x : RcT} (h : x.1 = 1) (hv : ¬ x.2.1 = 1) (hm : x.2.2.2.1 = 0 ∧ wh = 0) : (rcS c wh x).1 = 2 ∧ (rcS c wh x).2.1 = 0 := by
  rw [rcS_3 h hv hm]; exact ⟨rfl, rfl⟩
theorem rcS_n4 {c : Nat → Int} {wh : Nat} {x : RcT} (h : x.1 = 1) (hv : ¬ x.2.1 = 1) (hm : ¬ (x.2.2.2.1 = 0 ∧ wh = 0)) (ho : 2 ≤ sgS (c x.2.2.1) ∨ (sgS (c x.2.2.1) = 1 ∧ hcN x.2.2.2.2.1 x.2.2.2.1 = 0)) : (rcS c wh x).1 = 1 ∧ (rcS c wh x).2.1 = 1 := by
  rw [rcS_4 h hv hm ho]; exact ⟨rfl, rfl⟩
theorem rcS_n5 {c : Nat → Int} {wh : Nat} {x : RcT} (h : x.1 = 1) (hv : ¬ x.2.1 = 1) (hm : ¬ (x.2.2.2.1 = 0 ∧ wh = 0)) (ho : ¬ (2 ≤ sgS (c x.2.2.1) ∨ (sgS (c x.2.2.1) = 1 ∧ hcN x.2.2.2.2.1 x.2.2.2.1 = 0))) (hp : c x.2.2.1 = 41 ∧ hpN x.2.2.2.2.1 x.2.2.2.1 = 1) : (rcS c wh x).1 ≤ 1 ∧ (rcS c wh x).2.1 = 0 := by
  rw [rcS_5 h hv hm ho hp]; exact rcC_n
theorem rcS_n6 {c : Nat → Int} {wh : Nat} {x : RcT} (h : x.1 = 1) (hv : ¬ x.2.1 = 1) (hm : ¬ (x.2.2.2.1 = 0 ∧ wh = 0)) (ho : ¬ (2 ≤ sgS (c x.2.2.1) ∨ (sgS (c x.2.2.1) = 1 ∧ hcN x.2.2.2.2.1 x.2.2.2.1 = 0))) (hp : ¬ (c x.2.2.1 = 41 ∧ hpN x.2.2.2.2.1 x.2.2.2.1 = 1)) (hq : hpN x.2.2.2.2.1 x.2.2.2.1 = 1) : (rcS c wh x).1 = 0 ∧ (rcS c wh x).2.1 = 0 := by
  rw [rcS_6 h hv hm ho hp hq]; exact ⟨rfl, rfl⟩
theorem rcS_n7 {c : Nat → Int} {wh : Nat} {x : RcT} (h : x.1 = 1) (hv : ¬ x.2.1 = 1) (hm : ¬ (x.2.2.2.1 = 0 ∧ wh = 0)) (ho : ¬ (2 ≤ sgS (c x.2.2.1) ∨ (sgS (c x.2.2.1) = 1 ∧ hcN x.2.2.2.2.1 x.2.2.2.1 = 0))) (hq : ¬ hpN x.2.2.2.2.1 x.2.2.2.1 = 1) : (rcS c wh x).1 = 2 ∧ (rcS c wh x).2.1 = 0 := by
  rw [rcS_7 h hv hm ho hq]; exact ⟨rfl, rfl⟩
theorem rc_fin {c : Nat → Int} {wh p : Nat} {s : Nat → Int} {x : RcT} {y : ExR} (hx : itR (rcS c wh) (1, 1, p, 0, s, 0, []) x) (ht : x.1 ≠ 1) (hy : (y.1 = 1 ∧ ∃ s', itR (rcS c wh) (1, 1, p, 0, s, 0, []) (2, 0, y.2.1, 0, s', 0, y.2.2)) ∨ (y.1 = 0 ∧ ∃ z : Nat × Nat × Nat × (Nat → Int) × Nat × CdL, z.2.1 = y.2.1 ∧ itR (rcS c wh) (1, 1, p, 0, s, 0, []) (0, z))) : (x.1 = 2 ∧ y.1 = 1 ∧ x.2.2.1 = y.2.1 ∧ x.2.2.2.2.2.2 = y.2.2) ∨ (x.1 = 0 ∧ y.1 = 0 ∧ x.2.2.1 = y.2.1) := by
  obtain ⟨a, ha⟩ := hx
  rcases hy with ⟨h1, s', b, hb⟩ | ⟨h1, z, hz, b, hb⟩
  · have e := itN_det ha hb (rcS_f ht) (rcS_f (by show (2 : Nat) ≠ 1; decide))
    rw [e]
    exact Or.inl ⟨rfl, h1, rfl, rfl⟩
  · have e := itN_det ha hb (rcS_f ht) (rcS_f (by show (0 : Nat) ≠ 1; decide))
    rw [e]
    exact Or.inr ⟨rfl, h1, hz⟩
theorem zCo_eq {b : Nat} {K : CdL} {I I' : ZI} {u v u' v' : Int} (h : zCo b (K ++ [(u, v)]) I) (hu : u = u') (hv : v = v') (hf : ∀ x j : Nat, x = 245 ∨ x = 246 → I' x j = I x j) : zCo b (K ++ [(u', v')]) I' := by
  rw [← hu, ← hv]
  exact zCo_fr h (fun x j h1 _ => hf x j h1)
theorem rcC_jA {c s : Nat → Int} {m a w : Nat} {K : CdL} {z : RcT} (hm : 1 ≤ m) (h : s (m - 1) = 64) (h1 : c a = 58) (h2 : 48 ≤ c (a + 1) ∧ c (a + 1) ≤ 53) (e : rcC c s m a w K = z) : rcC c s (m - 1) (a + 2) (w - 1) (K ++ [(64, c (a + 1) - 48)]) = z := by
  obtain ⟨k, rfl⟩ : ∃ k, m = k + 1 := ⟨m - 1, by omega⟩
  rw [Nat.add_sub_cancel] at *
  exact (rcC_a h h1 h2).symm.trans e
theorem rcC_jU {c s : Nat → Int} {m a w : Nat} {K : CdL} {z : RcT} (hm : 1 ≤ m) (h : s (m - 1) = 95 ∨ s (m - 1) = 39) (e : rcC c s m a w K = z) : rcC c s (m - 1) a (w - 1) (K ++ [(s (m - 1), 0)]) = z := by
  obtain ⟨k, rfl⟩ : ∃ k, m = k + 1 := ⟨m - 1, by omega⟩
  rw [Nat.add_sub_cancel] at *
  exact (rcC_u h).symm.trans e
theorem rcC_j0 {c s : Nat → Int} {m a w : Nat} {K : CdL} {z : RcT} (h : m = 0 ∨ (1 ≤ m ∧ ¬ (s (m - 1) = 95 ∨ s (m - 1) = 39 ∨ s (m - 1) = 64))) (e : rcC c s m a w K = z) : (1, 0, a, m, s, w, K) = z := by
  rcases h with h | ⟨hm, h⟩
  · rw [h] at e ⊢; exact e
  · obtain ⟨k, rfl⟩ : ∃ k, m = k + 1 := ⟨m - 1, by omega⟩
    rw [Nat.add_sub_cancel] at *
    exact (rcC_e h).symm.trans e
theorem rcC_jB {c s : Nat → Int} {m a w : Nat} {K : CdL} {z : RcT} (hm : 1 ≤ m) (h : s (m - 1) = 64) (h1 : c a = 58) (h2 : ¬ (48 ≤ c (a + 1) ∧ c (a + 1) ≤ 53)) (e : rcC c s m a w K = z) : (0, 0, a + 1, m, s, w, K) = z := by
  obtain ⟨k, rfl⟩ : ∃ k, m = k + 1 := ⟨m - 1, by omega⟩
  rw [Nat.add_sub_cancel] at *
  exact (rcC_b h h1 h2).symm.trans e
theorem rcC_jD {c s : Nat → Int} {m a w : Nat} {K : CdL} {z : RcT} (hm : 1 ≤ m) (h : s (m - 1) = 64) (h1 : ¬ c a = 58) (e : rcC c s m a w K = z) : (0, 0, a, m, s, w, K) = z := by
  obtain ⟨k, rfl⟩ : ∃ k, m = k + 1 := ⟨m - 1, by omega⟩
  rw [Nat.add_sub_cancel] at *
  exact (rcC_d h h1).symm.trans e
theorem dgV_s {c : Nat → Int} {k p : Nat} {v : Int} : dgV c (k + 1) p v = dgV c k (p + 1) (10 * v + c p - 48) := rfl
theorem dg_end {c : Nat → Int} {p j : Nat} (h : j = 4 ∨ ¬ (48 ≤ c (p + j) ∧ c (p + j) ≤ 57)) (hj : j ≤ dgN c 4 p) (h4 : dgN c 4 p ≤ 4) : j = dgN c 4 p := by
  rcases h with h | h
  · omega
  · by_cases e : j < dgN c 4 p
    · exact absurd (dgN_in e) h
    · omega
theorem dg_go {c : Nat → Int} {p j : Nat} (hj : j < 4) (h : 48 ≤ c (p + j) ∧ c (p + j) ≤ 57) (hj2 : j ≤ dgN c 4 p) : j + 1 ≤ dgN c 4 p := by
  by_cases e : j < dgN c 4 p
  · exact e
  · have e2 : dgN c 4 p = j := by omega
    have w := dgN_no (c := c) (k := 4) (p := p) (by omega)
    rw [e2] at w
    exact absurd h w
theorem dgN_4 {c : Nat → Int} {k : Nat} : ∀ {p : Nat}, dgN c k p ≤ k := by
  induction k with
  | zero => intro p; exact Nat.le_refl 0
  | succ k ih =>
    intro p
    show (if 48 ≤ c p ∧ c p ≤ 57 then dgN c k (p + 1) + 1 else 0) ≤ k + 1
    by_cases e : 48 ≤ c p ∧ c p ≤ 57
    · rw [if_pos e]; exact Nat.succ_le_succ ih
    · rw [if_neg e]; exact Nat.zero_le _
theorem dg_st {c : Nat → Int} {p j N : Nat} {v V : Int} (hj : j + 1 ≤ N) (h : dgV c (N - j) (p + j) v = V) : dgV c (N - (j + 1)) (p + (j + 1)) (10 * v + c (p + j) - 48) = V := by
  obtain ⟨d, hd⟩ : ∃ d, N - j = d + 1 := ⟨N - j - 1, by omega⟩
  rw [hd, dgV_s] at h
  rw [show N - (j + 1) = d by omega, show p + (j + 1) = p + j + 1 by omega]
  exact h
theorem lenA {q : Nat} {K : CdL} {x : Int × Int} : (q : Int) + K.length + 1 = (q : Int) + ((K ++ [x]).length : Nat) := by
  rw [List.length_append]
  show (q : Int) + K.length + 1 = (q : Int) + ((K.length + 1 : Nat) : Int)
  omega
theorem lenB {q m B : Nat} {K : CdL} {x : Int × Int} (h : q + K.length + 1 + m ≤ B) : q + (K ++ [x]).length + m ≤ B := by
  rw [List.length_append]
  show q + (K.length + 1) + m ≤ B
  omega
theorem rc_hp {s : Nat → Int} {m : Nat} (h : hpN s m = 1) : 1 ≤ drM s 1 m := by
  rcases Nat.eq_zero_or_pos (drM s 1 m) with e | e
  · rw [hpN_dr (Nat.le_refl 1), e] at h
    exact absurd (show (0 : Nat) = 1 from h) (by decide)
  · exact e
theorem rc_pw {s : Nat → Int} {m w : Nat} (h : sgG s m w) (hp : hpN s m = 1) : 1 ≤ w ∧ sgG s (drM s 1 m - 1) (w - 1) := by
  have h1 := rc_hp hp
  have h2 := sgG_dr (Nat.le_refl 1) h
  have h3 := drM_tp (s := s) (Nat.le_refl 1) (m := m)
  obtain ⟨k, hk⟩ : ∃ k, drM s 1 m = k + 1 := ⟨drM s 1 m - 1, by omega⟩
  rw [hk] at h2 h3 ⊢
  rw [Nat.add_sub_cancel]
  have h4 : sgS (s k) < 1 := h3
  exact sgG_1 h2 (by omega)
theorem zRr_G {g q f v a m w : Nat} {s : Nat → Int} {K : CdL} {I : ZI} (hf : f ≠ 0) (h2 : I 234 16 = a) (h3 : I 234 17 = -1) (h4 : I 234 25 = m) (h5 : I 234 27 = w) (h6 : I 234 19 = (q : Int) + (K.length : Nat)) (hs : ∀ i : Nat, i < m → I 250 i = s i) (hK : zCo (1000 * g + q) K I) : zRr g q (f, v, a, m, s, w, K) I := Or.inl ⟨hf, ⟨h2, h3, h4, h5, h6.trans (by show _ = ((q + K.length : Nat) : Int); omega)⟩, hs, hK⟩
theorem zRr_F {g q v a : Nat} (d : Int) {y : Nat × (Nat → Int) × Nat × CdL} {I : ZI} (hd : 0 ≤ d ∧ d ≤ 5) (h2 : I 234 16 = a + d) (h3 : I 234 17 = a) (ha : a ≤ 405) : zRr g q (0, v, a, y) I := Or.inr ⟨rfl, h3, by omega, by omega⟩
