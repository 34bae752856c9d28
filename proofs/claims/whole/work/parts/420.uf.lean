/-! JOINED: what is joined to the same is joined -/
/-- joined by pairs: what all colours that keep the pairs alike keep alike -/
def jCl (E : Nat → Nat → Prop) (a b : Nat) : Prop := ∀ f : Nat → Nat, (∀ x y, E x y → f x = f y) → f a = f b
theorem jCl_r {E : Nat → Nat → Prop} {a : Nat} : jCl E a a := fun _ _ => rfl
theorem jCl_s {E : Nat → Nat → Prop} {a b : Nat} (h : jCl E a b) : jCl E b a := fun f w => (h f w).symm
theorem jCl_t {E : Nat → Nat → Prop} {a b c : Nat} (h : jCl E a b) (g : jCl E b c) : jCl E a c := fun f w => (h f w).trans (g f w)
theorem jCl_e {E : Nat → Nat → Prop} {a b : Nat} (h : E a b) : jCl E a b := fun _ w => w a b h
theorem jCl_m {E F : Nat → Nat → Prop} {a b : Nat} (hE : ∀ x y, E x y → jCl F x y) (h : jCl E a b) : jCl F a b := fun f w => h f (fun x y q => hE x y q f w)
/-- one pair more -/
def jAd (E : Nat → Nat → Prop) (a b : Nat) : Nat → Nat → Prop := fun x y => E x y ∨ (x = a ∧ y = b)
theorem jAd_l {E : Nat → Nat → Prop} {a b x y : Nat} (h : jCl E x y) : jCl (jAd E a b) x y := jCl_m (fun _ _ q => jCl_e (Or.inl q)) h
theorem jAd_r {E : Nat → Nat → Prop} {a b : Nat} : jCl (jAd E a b) a b := jCl_e (Or.inr ⟨rfl, rfl⟩)
/-- a forest in a row of the memory: each knows one that is not above it -/
def zUF (c N : Nat) (rt : Nat → Nat) (I : ZI) : Prop := ∀ n : Nat, n < N → 0 ≤ I c n ∧ I c n ≤ n ∧ rt n ≤ n ∧ I c (rt n) = rt n ∧ rt (I c n).toNat = rt n ∧ (I c n = n → rt n = n)
theorem zUF_fr {c N : Nat} {rt : Nat → Nat} {I I' : ZI} (h : zUF c N rt I) (hf : ∀ d j : Nat, d = c → I' d j = I d j) : zUF c N rt I' := fun n hn => by
  rw [hf c n rfl, hf c (rt n) rfl]
  exact h n hn
theorem zUF_id {c N : Nat} {I : ZI} (h : ∀ n : Nat, n < N → I c n = n) : zUF c N (fun n => n) I := fun n hn => by
  have e := h n hn
  refine ⟨by omega, by omega, Nat.le_refl n, e, ?_, fun _ => rfl⟩
  rw [e]; rfl
/-- roots after a pair more -/
def jU (rt : Nat → Nat) (a b : Nat) : Nat → Nat := fun n => if rt n = max (rt a) (rt b) then min (rt a) (rt b) else rt n
theorem zUF_rt {c N : Nat} {rt : Nat → Nat} {I : ZI} (h : zUF c N rt I) {n : Nat} (hn : n < N) : rt (rt n) = rt n := by
  obtain ⟨h1, h2, h3, h4, h5, h6⟩ := h n hn
  exact (h (rt n) (by omega)).2.2.2.2.2 h4
/-- the row changes below roots, and the greater root comes under the less one -/
theorem zUF_join {c N : Nat} {rt : Nat → Nat} {I I' : ZI} {a b : Nat} (h : zUF c N rt I) (ha : a < N) (hb : b < N) (hm : I' c (max (rt a) (rt b)) = (min (rt a) (rt b) : Nat))
    (hx : ∀ n : Nat, n < N → n ≠ max (rt a) (rt b) → I' c n = I c n ∨ (I' c n = (min (rt a) (rt b) : Nat) ∧ (n = a ∨ n = b))) : zUF c N (jU rt a b) I' := by
  have ra := (h a ha).2.2.1
  have rb := (h b hb).2.2.1
  have rra := zUF_rt h ha
  have rrb := zUF_rt h hb
  have ia := (h a ha).2.2.2.1
  have ib := (h b hb).2.2.2.1
  generalize hM : max (rt a) (rt b) = M at *
  generalize hm' : min (rt a) (rt b) = m at *
  have hMm : m ≤ M := by omega
  have hMr : rt M = M ∧ I c M = M := by
    rcases Nat.le_total (rt a) (rt b) with q | q
    · have e : M = rt b := by omega
      rw [e]; exact ⟨rrb, ib⟩
    · have e : M = rt a := by omega
      rw [e]; exact ⟨rra, ia⟩
  have hmr : rt m = m ∧ I c m = m := by
    rcases Nat.le_total (rt a) (rt b) with q | q
    · have e : m = rt a := by omega
      rw [e]; exact ⟨rra, ia⟩
    · have e : m = rt b := by omega
      rw [e]; exact ⟨rrb, ib⟩
  have eU : ∀ n, jU rt a b n = if rt n = M then m else rt n := fun n => by
    unfold jU
    rw [hM, hm']
  have em : jU rt a b m = m := by
    rw [eU, hmr.1]
    split <;> rfl
  have ec : I' c m = m := by
    by_cases e : m = M
    · rw [e] at hm ⊢; exact hm
    · rcases hx m (by omega) e with q | q
      · rw [q]; exact hmr.2
      · exact q.1
  intro n hn
  obtain ⟨h1, h2, h3, h4, h5, h6⟩ := h n hn
  have hroot : ∀ r, r < N → rt r = r → I c r = r → r ≠ M → I' c r = r := fun r hr k1 k2 k3 => by
    rcases hx r hr k3 with q | q
    · rw [q]; exact k2
    · rcases q.2 with k | k
      · subst k
        have e : r = m := by omega
        rw [e]; exact ec
      · subst k
        have e : r = m := by omega
        rw [e]; exact ec
  have hr' : I' c (jU rt a b n) = jU rt a b n := by
    rw [eU]
    split
    · exact ec
    · next q => exact hroot (rt n) (by omega) (zUF_rt h hn) h4 q
  by_cases e : n = M
  · subst e
    rw [hm]
    refine ⟨by omega, by omega, ?_, hr', ?_, fun q => ?_⟩
    · rw [eU, hMr.1, if_pos rfl]; exact hMm
    · rw [show ((m : Nat) : Int).toNat = m from rfl, em, eU, hMr.1, if_pos rfl]
    · rw [eU, hMr.1, if_pos rfl]; omega
  · have hUn : jU rt a b n ≤ n := by
      rw [eU]
      split
      · omega
      · exact h3
    rcases hx n hn e with q | q
    · rw [q]
      refine ⟨h1, h2, hUn, hr', ?_, fun w => ?_⟩
      · rw [eU, eU, h5]
      · rw [eU, h6 w, if_neg e]
    · rw [q.1]
      have hnm : jU rt a b n = m := by
        rw [eU]
        rcases q.2 with k | k
        · subst k
          split
          · rfl
          · omega
        · subst k
          split
          · rfl
          · omega
      have hmn : m ≤ n := by
        rcases q.2 with k | k
        · subst k; omega
        · subst k; omega
      refine ⟨by omega, by omega, hUn, hr', ?_, fun w => ?_⟩
      · rw [show ((m : Nat) : Int).toNat = m from rfl, em, hnm]
      · rw [hnm]; omega
/-- the row changes, roots stay: a shorter way up -/
theorem zUF_half {c N : Nat} {rt : Nat → Nat} {I I' : ZI} {a : Nat} (h : zUF c N rt I) (ha : a < N) (hm : I' c a = I c (I c a).toNat) (hx : ∀ n : Nat, n ≠ a → I' c n = I c n) : zUF c N rt I' := by
  intro n hn
  obtain ⟨h1, h2, h3, h4, h5, h6⟩ := h n hn
  obtain ⟨a1, a2, a3, a4, a5, a6⟩ := h a ha
  obtain ⟨b1, b2, b3, b4, b5, b6⟩ := h (I c a).toNat (by omega)
  have hr : ∀ r, r < N → I c r = r → I' c r = r := fun r hr' k => by
    by_cases e : r = a
    · subst e
      rw [hm, k, show ((r : Nat) : Int).toNat = r from rfl, k]
    · rw [hx r e]; exact k
  by_cases e : n = a
  · subst e
    rw [hm]
    refine ⟨by omega, by omega, h3, hr _ (by omega) h4, ?_, fun q => h6 (by omega)⟩
    rw [b5, a5]
  · rw [hx n e]
    exact ⟨h1, h2, h3, hr _ (by omega) h4, h5, h6⟩
/-- roots tell what is joined -/
def jR (N : Nat) (E : Nat → Nat → Prop) (rt : Nat → Nat) : Prop := ∀ a b : Nat, a < N → b < N → (rt a = rt b ↔ jCl E a b)
theorem jR_id {N : Nat} {E : Nat → Nat → Prop} (h : ∀ x y, ¬ E x y) : jR N E (fun n => n) := fun a b _ _ => ⟨fun q => by
  have q' : a = b := q
  rw [q']; exact jCl_r, fun q => q (fun n => n) (fun x y w => absurd w (h x y))⟩
theorem jR_join {N : Nat} {E : Nat → Nat → Prop} {rt : Nat → Nat} {a b : Nat} (h : jR N E rt) (ha : a < N) (hb : b < N) (hE : ∀ x y, E x y → x < N ∧ y < N) (hrt : ∀ n, n < N → rt (rt n) = rt n ∧ rt n ≤ n) : jR N (jAd E a b) (jU rt a b) := by
  have eU : ∀ n, jU rt a b n = if rt n = max (rt a) (rt b) then min (rt a) (rt b) else rt n := fun n => rfl
  intro p q hp hq
  constructor
  · intro w
    rw [eU, eU] at w
    have cab : jCl (jAd E a b) a b := jAd_r
    have up : ∀ x y, x < N → y < N → rt x = rt y → jCl (jAd E a b) x y := fun x y hx hy k => jAd_l ((h x y hx hy).1 k)
    by_cases e1 : rt p = max (rt a) (rt b)
    · rw [if_pos e1] at w
      by_cases e2 : rt q = max (rt a) (rt b)
      · exact up p q hp hq (by omega)
      · rw [if_neg e2] at w
        rcases Nat.le_total (rt a) (rt b) with k | k
        · exact jCl_t (up p b hp hb (by omega)) (jCl_t (jCl_s cab) (up a q ha hq (by omega)))
        · exact jCl_t (up p a hp ha (by omega)) (jCl_t cab (up b q hb hq (by omega)))
    · rw [if_neg e1] at w
      by_cases e2 : rt q = max (rt a) (rt b)
      · rw [if_pos e2] at w
        rcases Nat.le_total (rt a) (rt b) with k | k
        · exact jCl_t (up p a hp ha (by omega)) (jCl_t cab (up b q hb hq (by omega)))
        · exact jCl_t (up p b hp hb (by omega)) (jCl_t (jCl_s cab) (up a q ha hq (by omega)))
      · rw [if_neg e2] at w
        exact up p q hp hq w
  · intro w
    refine w (jU rt a b) (fun x y k => ?_)
    rcases k with k | k
    · have hxy := hE x y k
      have e := (h x y hxy.1 hxy.2).2 (jCl_e k)
      rw [eU, eU, e]
    · rw [k.1, k.2, eU, eU]
      split
      · split
        · rfl
        · omega
      · split <;> omega
theorem jR_eq {N : Nat} {E F : Nat → Nat → Prop} {rt : Nat → Nat} (h : jR N E rt) (h1 : ∀ x y, E x y → jCl F x y) (h2 : ∀ x y, F x y → jCl E x y) : jR N F rt := fun a b ha hb => (h a b ha hb).trans ⟨jCl_m h1, jCl_m h2⟩
/-- the same joins under other numbers -/
theorem jCl_map {E F : Nat → Nat → Prop} {u v : Nat → Nat} {a b : Nat} (h1 : ∀ x y, E x y → jCl F (u x) (u y)) (h2 : ∀ x y, F x y → jCl E (v x) (v y)) (ha : v (u a) = a) (hb : v (u b) = b) : jCl E a b ↔ jCl F (u a) (u b) :=
  ⟨fun w f hf => w (fun x => f (u x)) (fun x y q => h1 x y q f hf), fun w f hf => by
    have k := w (fun x => f (v x)) (fun x y q => h2 x y q f hf)
    have k' : f (v (u a)) = f (v (u b)) := k
    rw [ha, hb] at k'
    exact k'⟩
