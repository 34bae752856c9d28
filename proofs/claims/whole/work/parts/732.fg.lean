/-! fg: SCRIPTS: what holds at each step of the reference's reader of an expression; the reference's text and codes as they lie -/
def sgG (s : Nat → Int) : Nat → Nat → Prop
  | 0, w => w = 0
  | m + 1, w => (sgS (s m) = 0 ∧ 1 ≤ w ∧ sgG s m (w - 1)) ∨ (tpS s m < sgS (s m) ∧ sgG s m w)
theorem sgG_m {s : Nat → Int} : ∀ {m w : Nat}, sgG s m w → m ≤ 4 * w + tpS s m
  | 0, w, _ => Nat.zero_le _
  | m + 1, w, h => by
    show m + 1 ≤ 4 * w + sgS (s m)
    have z := tpS_3 (s := s) (m := m)
    rcases h with ⟨h1, h2, h3⟩ | ⟨h1, h2⟩
    · have q := sgG_m h3
      omega
    · have q := sgG_m h2
      omega
theorem sgG_15 {s : Nat → Int} {m w : Nat} (h : sgG s m w) (hw : w ≤ 3) : m ≤ 15 := by
  have q := sgG_m h
  have z := tpS_3 (s := s) (m := m)
  omega
theorem sgG_ag {s s' : Nat → Int} : ∀ {m w : Nat}, agB s s' m → sgG s m w → sgG s' m w
  | 0, w, _, h => h
  | m + 1, w, hg, h => by
    have e := hg m (Nat.lt_succ_self m)
    have g2 : agB s s' m := fun i hi => hg i (Nat.lt_succ_of_lt hi)
    show (sgS (s' m) = 0 ∧ 1 ≤ w ∧ sgG s' m (w - 1)) ∨ (tpS s' m < sgS (s' m) ∧ sgG s' m w)
    rw [e, agB_tp g2]
    rcases h with ⟨h1, h2, h3⟩ | ⟨h1, h2⟩
    · exact Or.inl ⟨h1, h2, sgG_ag g2 h3⟩
    · exact Or.inr ⟨h1, sgG_ag g2 h2⟩
theorem sgG_dr {s : Nat → Int} {l : Nat} (hl : 1 ≤ l) : ∀ {m w : Nat}, sgG s m w → sgG s (drM s l m) w
  | 0, w, h => h
  | m + 1, w, h => by
    by_cases e : l ≤ sgS (s m)
    · rw [(drM_y e).1]
      rcases h with ⟨h1, h2, h3⟩ | ⟨h1, h2⟩
      · omega
      · exact sgG_dr hl h2
    · have z : drM s l (m + 1) = m + 1 := if_neg e
      rw [z]; exact h
theorem drK_len {s : Nat → Int} {l : Nat} : ∀ {m : Nat}, (drK s l m).length + drM s l m = m
  | 0 => rfl
  | m + 1 => by
    by_cases e : l ≤ sgS (s m)
    · rw [(drM_y e).1, (drM_y e).2]
      have w := drK_len (s := s) (l := l) (m := m)
      show (drK s l m).length + 1 + drM s l m = m + 1
      omega
    · have z : drM s l (m + 1) = m + 1 := if_neg e
      have z2 : drK s l (m + 1) = [] := if_neg e
      rw [z, z2]
      exact Nat.zero_add _
theorem agB_uf {s : Nat → Int} {m : Nat} {u : Int} : agB s (upF s m u) m := fun i hi => if_neg (by omega)
def rcI (n q : Nat) (x : RcT) : Prop := x.1 ≤ 2 ∧ x.2.1 ≤ 1 ∧ x.2.2.1 ≤ n ∧ (x.1 = 1 → sgG x.2.2.2.2.1 x.2.2.2.1 x.2.2.2.2.2.1 ∧ x.2.2.2.2.2.1 ≤ 3 ∧ q + x.2.2.2.2.2.2.length + x.2.2.2.1 ≤ x.2.2.1) ∧ (x.1 = 2 → q + x.2.2.2.2.2.2.length ≤ x.2.2.1)
theorem rcC_I {n q : Nat} {c s : Nat → Int} (h : eTx n c) : ∀ {m a w : Nat} {K : CdL}, a ≤ n → w ≤ 3 → sgG s m w → q + K.length + m ≤ a → rcI n q (rcC c s m a w K) ∧ a ≤ (rcC c s m a w K).2.2.1
  | 0, a, w, K, ha, hw, hg, hk => ⟨⟨by show 1 ≤ 2; decide, Nat.zero_le 1, ha, fun _ => ⟨hg, hw, hk⟩, fun g => absurd (show (1 : Nat) = 2 from g) (by decide)⟩, Nat.le_refl a⟩
  | m + 1, a, w, K, ha, hw, hg, hk => by
    have z : rcC c s (m + 1) a w K = if s m = 95 ∨ s m = 39 then rcC c s m a (w - 1) (K ++ [(s m, 0)]) else if s m = 64 then (if c a = 58 then (if 48 ≤ c (a + 1) ∧ c (a + 1) ≤ 53 then rcC c s m (a + 2) (w - 1) (K ++ [(64, c (a + 1) - 48)]) else (0, 0, a + 1, m + 1, s, w, K)) else (0, 0, a, m + 1, s, w, K)) else (1, 0, a, m + 1, s, w, K) := rfl
    have h0 : sgS (s m) = 0 → 1 ≤ w ∧ sgG s m (w - 1) := fun g => by
      rcases hg with ⟨h1, h2, h3⟩ | ⟨h1, h2⟩
      · exact ⟨h2, h3⟩
      · omega
    rw [z]
    by_cases e1 : s m = 95 ∨ s m = 39
    · rw [if_pos e1]
      have w2 := h0 (by rcases e1 with e | e <;> (rw [e]; rfl))
      exact rcC_I h ha (by omega) w2.2 (by rw [List.length_append]; show q + (K.length + 1) + m ≤ a; omega)
    · rw [if_neg e1]
      by_cases e2 : s m = 64
      · rw [if_pos e2]
        have w2 := h0 (by rw [e2]; rfl)
        by_cases e3 : c a = 58
        · rw [if_pos e3]
          have hl := eTx_lt h (p := a) (by omega)
          by_cases e4 : 48 ≤ c (a + 1) ∧ c (a + 1) ≤ 53
          · rw [if_pos e4]
            have hl2 := eTx_lt h (p := a + 1) (by omega)
            have w3 := rcC_I h (q := q) (m := m) (a := a + 2) (w := w - 1) (K := K ++ [(64, c (a + 1) - 48)]) (s := s) hl2 (by omega) w2.2 (by rw [List.length_append]; show q + (K.length + 1) + m ≤ a + 2; omega)
            exact ⟨w3.1, by omega⟩
          · rw [if_neg e4]
            exact ⟨⟨Nat.zero_le 2, Nat.zero_le 1, hl, fun g => absurd (show (0 : Nat) = 1 from g) (by decide), fun g => absurd (show (0 : Nat) = 2 from g) (by decide)⟩, Nat.le_succ a⟩
        · rw [if_neg e3]
          exact ⟨⟨Nat.zero_le 2, Nat.zero_le 1, ha, fun g => absurd (show (0 : Nat) = 1 from g) (by decide), fun g => absurd (show (0 : Nat) = 2 from g) (by decide)⟩, Nat.le_refl a⟩
      · rw [if_neg e2]
        exact ⟨⟨by show 1 ≤ 2; decide, Nat.zero_le 1, ha, fun _ => ⟨hg, hw, hk⟩, fun g => absurd (show (1 : Nat) = 2 from g) (by decide)⟩, Nat.le_refl a⟩
theorem exB_len {c : Nat → Int} {p : Nat} (h : (exB c p).1 = 1) : (exB c p).2.2.length = 1 := by
  unfold exB at *
  by_cases e1 : 48 ≤ c p ∧ c p ≤ 57
  · rw [if_pos e1]; rfl
  · rw [if_neg e1] at h ⊢
    by_cases e2 : 97 ≤ c p ∧ c p ≤ 122
    · rw [if_pos e2]; rfl
    · rw [if_neg e2] at h ⊢
      by_cases e3 : c p = 35
      · rw [if_pos e3]; rfl
      · rw [if_neg e3] at h
        exact absurd (show (0 : Nat) = 1 from h) (by decide)
/-- each step keeps it, and goes on in the text or ends -/
theorem rcP_I {n q wh : Nat} {c : Nat → Int} (h : eTx n c) {v a m w : Nat} {s : Nat → Int} {K : CdL} (ha : a ≤ n) (hw : w ≤ 3) (hg : sgG s m w) (hk : q + K.length + m ≤ a) : rcI n q (rcP c wh v a m s w K) ∧ ((rcP c wh v a m s w K).1 = 1 → a < (rcP c wh v a m s w K).2.2.1) := by
  have hF : ∀ {v2 a2 : Nat} {y : Nat × (Nat → Int) × Nat × CdL}, v2 ≤ 1 → a2 ≤ n → rcI n q ((0, v2, a2, y) : RcT) := fun h1 h2 => ⟨Nat.zero_le 2, h1, h2, fun g => absurd (show (0 : Nat) = 1 from g) (by decide), fun g => absurd (show (0 : Nat) = 2 from g) (by decide)⟩
  unfold rcP
  by_cases e1 : v = 1
  · rw [if_pos e1]
    by_cases e2 : c a = 45 ∨ c a = 40 ∨ c a = 64 ∨ c a = 39
    · rw [if_pos e2]
      have hl := eTx_lt h (p := a) (by omega)
      by_cases e3 : w = 3
      · rw [if_pos e3]
        exact ⟨hF (Nat.le_refl 1) ha, fun g => absurd (show (0 : Nat) = 1 from g) (by decide)⟩
      · rw [if_neg e3]
        refine ⟨⟨by show 1 ≤ 2; decide, Nat.le_refl 1, hl, fun _ => ⟨Or.inl ⟨?_, Nat.succ_pos w, ?_⟩, ?_, ?_⟩, fun g => absurd (show (1 : Nat) = 2 from g) (by decide)⟩, fun _ => Nat.lt_succ_self a⟩
        · show sgS (upF s m _ m) = 0
          unfold upF
          rw [if_pos rfl]
          rcases e2 with e | e | e | e
          · rw [if_pos e]; rfl
          · rw [if_neg (by omega), e]; rfl
          · rw [if_neg (by omega), e]; rfl
          · rw [if_neg (by omega), e]; rfl
        · exact sgG_ag agB_uf hg
        · show w + 1 ≤ 3; omega
        · show q + K.length + (m + 1) ≤ a + 1; omega
    · rw [if_neg e2]
      have hb := exB_ok h ha
      by_cases e3 : (exB c a).1 = 1
      · rw [if_pos e3]
        have w1 := exB_len e3
        unfold exOk at hb
        have w2 := rcC_I h (q := q) (m := m) (a := (exB c a).2.1) (w := w) (K := K ++ (exB c a).2.2) (s := s) (by omega) hw hg (by rw [List.length_append]; omega)
        exact ⟨w2.1, fun _ => by omega⟩
      · rw [if_neg e3]
        unfold exOk at hb
        exact ⟨hF (Nat.zero_le 1) (by omega), fun g => absurd (show (0 : Nat) = 1 from g) (by decide)⟩
  · rw [if_neg e1]
    by_cases e2 : m = 0 ∧ wh = 0
    · rw [if_pos e2]
      exact ⟨⟨Nat.le_refl 2, Nat.zero_le 1, ha, fun g => absurd (show (2 : Nat) = 1 from g) (by decide), fun _ => by show q + K.length ≤ a; omega⟩, fun g => absurd (show (2 : Nat) = 1 from g) (by decide)⟩
    · rw [if_neg e2]
      by_cases e3 : 2 ≤ sgS (c a) ∨ (sgS (c a) = 1 ∧ hcN s m = 0)
      · rw [if_pos e3]
        have h1 : 1 ≤ sgS (c a) := by omega
        have hl := eTx_lt h (p := a) (fun g => by rw [g] at h1; exact absurd h1 (by decide))
        have hd := drK_len (s := s) (l := sgS (c a)) (m := m)
        refine ⟨⟨by show 1 ≤ 2; decide, Nat.le_refl 1, hl, fun _ => ⟨Or.inr ⟨?_, sgG_ag agB_uf (sgG_dr h1 hg)⟩, hw, ?_⟩, fun g => absurd (show (1 : Nat) = 2 from g) (by decide)⟩, fun _ => Nat.lt_succ_self a⟩
        · show tpS (upF s (drM s (sgS (c a)) m) (c a)) (drM s (sgS (c a)) m) < sgS (upF s (drM s (sgS (c a)) m) (c a) (drM s (sgS (c a)) m))
          rw [agB_tp agB_uf]
          unfold upF
          rw [if_pos rfl]
          exact drM_tp h1
        · show q + (K ++ drK s (sgS (c a)) m).length + (drM s (sgS (c a)) m + 1) ≤ a + 1
          rw [List.length_append]; omega
      · rw [if_neg e3]
        have hd := drK_len (s := s) (l := 1) (m := m)
        by_cases e4 : c a = 41 ∧ hpN s m = 1
        · rw [if_pos e4]
          have hl := eTx_lt h (p := a) (by omega)
          have hgd := sgG_dr (Nat.le_refl 1) hg
          have htp := drM_tp (s := s) (Nat.le_refl 1) (m := m)
          have hm1 : hpN s (drM s 1 m) = 1 := (hpN_dr (Nat.le_refl 1)).symm.trans e4.2
          have hn0 : drM s 1 m ≠ 0 := fun g => by
            rw [g] at hm1
            exact absurd (show (0 : Nat) = 1 from hm1) (by decide)
          obtain ⟨m2, hx⟩ : ∃ m2, drM s 1 m = m2 + 1 := ⟨drM s 1 m - 1, by omega⟩
          rw [hx] at hgd hd htp
          have w0 : 1 ≤ w ∧ sgG s m2 (w - 1) := by
            rcases hgd with ⟨_, h2, h3⟩ | ⟨h1, h2⟩
            · exact ⟨h2, h3⟩
            · have h4 : sgS (s m2) < 1 := htp
              omega
          have w2 := rcC_I h (q := q) (m := m2) (a := a + 1) (w := w - 1) (K := K ++ drK s 1 m) (s := s) hl (by omega) w0.2 (by rw [List.length_append]; omega)
          rw [hx]
          exact ⟨w2.1, fun _ => w2.2⟩
        · rw [if_neg e4]
          by_cases e5 : hpN s m = 1
          · rw [if_pos e5]
            exact ⟨hF (Nat.zero_le 1) ha, fun g => absurd (show (0 : Nat) = 1 from g) (by decide)⟩
          · rw [if_neg e5]
            exact ⟨⟨Nat.le_refl 2, Nat.zero_le 1, ha, fun g => absurd (show (2 : Nat) = 1 from g) (by decide), fun _ => by show q + (K ++ drK s 1 m).length ≤ a; rw [List.length_append]; omega⟩, fun g => absurd (show (2 : Nat) = 1 from g) (by decide)⟩
def rcMe (n : Nat) (x : RcT) : Nat := if x.1 = 1 then n + 1 - x.2.2.1 else 0
theorem rcS_I {n q wh : Nat} {c : Nat → Int} (h : eTx n c) {x : RcT} (hi : rcI n q x) : rcI n q (rcS c wh x) ∧ (x.1 = 1 → rcMe n (rcS c wh x) < rcMe n x) := by
  by_cases e : x.1 = 1
  · have z : rcS c wh x = rcP c wh x.2.1 x.2.2.1 x.2.2.2.1 x.2.2.2.2.1 x.2.2.2.2.2.1 x.2.2.2.2.2.2 := if_pos e
    obtain ⟨_, _, h3, h4, _⟩ := hi
    have h5 := h4 e
    have w := rcP_I h (wh := wh) (v := x.2.1) h3 h5.2.1 h5.1 h5.2.2
    rw [← z] at w
    refine ⟨w.1, fun _ => ?_⟩
    unfold rcMe
    rw [if_pos e]
    by_cases e2 : (rcS c wh x).1 = 1
    · rw [if_pos e2]
      have w2 := w.2 e2
      have w3 := w.1.2.2.1
      omega
    · rw [if_neg e2]; omega
  · rw [rcS_f e]
    exact ⟨hi, fun g => absurd g e⟩
/-- the reference's text -/
def zTx (n : Nat) (c : Nat → Int) (I : ZI) : Prop := I 234 1 = n ∧ eTx n c ∧ ∀ p : Nat, p < n → I 235 p = c p
theorem zTx_fr {n : Nat} {c : Nat → Int} {I I' : ZI} (h : zTx n c I) (hf : ∀ x j : Nat, (x = 234 ∧ j = 1) ∨ x = 235 → I' x j = I x j) : zTx n c I' := ⟨(hf 234 1 (by omega)).trans h.1, h.2.1, fun p hp => (hf _ _ (by omega)).trans (h.2.2 p hp)⟩
/-- codes that lie from a place on -/
def zCo (b : Nat) (K : CdL) (I : ZI) : Prop := ∀ t, t < K.length → I 245 (b + t) = (K.getD t (0, 0)).1 ∧ I 246 (b + t) = (K.getD t (0, 0)).2
theorem zCo_0 {b : Nat} {I : ZI} : zCo b [] I := fun t h => absurd h (Nat.not_lt_zero t)
theorem zCo_fr {b : Nat} {K : CdL} {I I' : ZI} (h : zCo b K I) (hf : ∀ x j : Nat, x = 245 ∨ x = 246 → j < b + K.length → I' x j = I x j) : zCo b K I' := fun t ht => ⟨(hf 245 _ (Or.inl rfl) (by omega)).trans (h t ht).1, (hf 246 _ (Or.inr rfl) (by omega)).trans (h t ht).2⟩
theorem zCo_ap {b : Nat} {K : CdL} {I I' : ZI} {u v : Int} (h : zCo b K I) (hf : ∀ x j : Nat, x = 245 ∨ x = 246 → j < b + K.length → I' x j = I x j) (h1 : I' 245 (b + K.length) = u) (h2 : I' 246 (b + K.length) = v) : zCo b (K ++ [(u, v)]) I' := fun t ht => by
  rw [List.length_append] at ht
  have ht2 : t < K.length + 1 := ht
  by_cases e : t < K.length
  · have w := zCo_fr h hf t e
    have e3 : (K ++ [(u, v)]).getD t (0, 0) = K.getD t (0, 0) := by simp [List.getD, List.getElem?_append, e]
    rw [e3]
    exact w
  · have e2 : t = K.length := by omega
    have e3 : (K ++ [(u, v)]).getD K.length (0, 0) = (u, v) := by simp [List.getD]
    rw [e2, e3]
    exact ⟨h1, h2⟩
theorem zCo_ap1 {b : Nat} {K : CdL} {I I' : ZI} {x : Int × Int} (h : zCo b K I) (hf : ∀ x j : Nat, x = 245 ∨ x = 246 → j < b + K.length → I' x j = I x j) (h1 : I' 245 (b + K.length) = x.1) (h2 : I' 246 (b + K.length) = x.2) : zCo b (K ++ [x]) I' := zCo_ap h hf h1 h2
