/-! NAMES taken from sorted pairs -/
/-- the sorted pairs of a net and a name -/
def cSo (d : JdS) (n : Nat) (h : Nat → Int) : Prop := zSo 1 n h ∧ (∀ j, j < n → ∃ q : Nat, h j = q ∧ cQ d q ∧ q < 1000 * zct (jFst d) 960) ∧ ∀ q, cQ d q → q < 1000 * zct (jFst d) 960 → ∃ j, j < n ∧ h j = q
/-- while they are taken -/
def cTk (d : JdS) (h : Nat → Int) (i : Nat) (la : Int) (nm rm : Nat → Int) (rc : Nat) : Prop := (∀ j, j < i → h j ≤ la) ∧ (la = -1 ∨ ∃ j, j < i ∧ h j = la) ∧ cTn d (la + 1).toNat nm rm rc ∧ rc ≤ i ∧ -1 ≤ la
theorem cTk_eq {d : JdS} {f : Nat → Int} {i : Nat} {la : Int} {nm rm nm' rm' : Nat → Int} {rc rc' : Nat} (h : cTk d f i la nm rm rc) (h1 : ∀ j, nm' j = nm j) (h2 : ∀ j, rm' j = rm j) (h3 : rc' = rc) : cTk d f i la nm' rm' rc' := by
  rw [funext h1, funext h2, h3]; exact h
theorem cTk_g {d : JdS} {h nm rm : Nat → Int} {n i rc : Nat} {la : Int} (hs : cSo d n h) (ht : cTk d h i la nm rm rc) (hi : i < n) : ∃ q : Nat, h i = q ∧ cQ d q ∧ q < 1000 * zct (jFst d) 960 ∧ (la = q ∨ (la < q ∧ cTn d q nm rm rc)) := by
  obtain ⟨s1, s2, s3⟩ := hs
  obtain ⟨t1, t2, t3, t4, t5⟩ := ht
  obtain ⟨q, q1, q2, q3⟩ := s2 i hi
  refine ⟨q, q1, q2, q3, ?_⟩
  have hL : la ≤ q := by
    rcases t2 with e | ⟨j, j1, j2⟩
    · omega
    · have := s1 rfl j i j1 hi
      omega
  by_cases e : la = q
  · exact Or.inl e
  · refine Or.inr ⟨by omega, cTn_k t3 (by omega) (fun r r1 r2 r3 => ?_)⟩
    obtain ⟨j, j1, j2⟩ := s3 r r3 (by omega)
    rcases Nat.lt_trichotomy j i with z | z | z
    · have := t1 j z
      omega
    · rw [z] at j2; omega
    · have := s1 rfl i j z j1
      omega
theorem cTk_i {d : JdS} {h nm rm : Nat → Int} {n i rc : Nat} (hs : cSo d n h) (hi : i < n) (t : cTn d (h i + 1).toNat nm rm rc) (hr : rc ≤ i + 1) : cTk d h (i + 1) (h i) nm rm rc := by
  obtain ⟨s1, s2, s3⟩ := hs
  obtain ⟨q, q1, -⟩ := s2 i hi
  refine ⟨fun j hj => ?_, Or.inr ⟨i, by omega, rfl⟩, t, hr, by omega⟩
  by_cases e : j = i
  · rw [e]; exact Int.le_refl _
  · exact s1 rfl j i (by omega) hi
theorem cTk_1 {d : JdS} {h nm rm : Nat → Int} {n i rc : Nat} {la : Int} (hs : cSo d n h) (ht : cTk d h i la nm rm rc) (hi : i < n) (hneg : nm ((h i).toNat / 1000) < 0) : cTk d h (i + 1) (h i) (upF nm ((h i).toNat / 1000) (((h i).toNat % 1000 : Nat) : Int)) rm rc := by
  obtain ⟨q, q1, q2, q3, q4⟩ := cTk_g hs ht hi
  have e : (h i).toNat = q := by omega
  refine cTk_i hs hi ?_ (by have := ht.2.2.2.1; omega)
  rw [e] at hneg ⊢
  rw [show (h i + 1).toNat = q + 1 by omega]
  rcases q4 with q4 | ⟨-, q5⟩
  · exfalso
    have t3 := ht.2.2.1
    rw [show (la + 1).toNat = q + 1 by omega] at t3
    rcases t3.1 (q / 1000) (by omega) with ⟨⟨r, r1, r2, r3⟩, r4⟩ | ⟨r1, -⟩
    · have lo := jNm_lo r2 (Nat.mod_lt _ (by decide))
      rw [r3] at lo
      omega
    · exact r1 q (Nat.lt_succ_self q) q2 rfl
  · exact cTn_f q5 q2 (by omega) hneg
theorem cTk_2 {d : JdS} {h nm rm : Nat → Int} {n i rc : Nat} {la : Int} (hs : cSo d n h) (ht : cTk d h i la nm rm rc) (hi : i < n) (hpos : 0 ≤ nm ((h i).toNat / 1000)) (hne : h i ≠ la) : cTk d h (i + 1) (h i) nm (upF rm rc (h i)) (rc + 1) := by
  obtain ⟨q, q1, q2, q3, q4⟩ := cTk_g hs ht hi
  have e : (h i).toNat = q := by omega
  refine cTk_i hs hi ?_ (by have := ht.2.2.2.1; omega)
  rw [e] at hpos
  rw [show (h i + 1).toNat = q + 1 by omega, q1]
  exact (cTn_g (q4.resolve_left (by omega)).2 q2 (by omega) hpos).1
theorem cTk_3 {d : JdS} {h nm rm : Nat → Int} {n i rc : Nat} {la : Int} (hs : cSo d n h) (ht : cTk d h i la nm rm rc) (hi : i < n) (he : h i = la) : cTk d h (i + 1) (h i) nm rm rc :=
  cTk_i hs hi (by rw [he]; exact ht.2.2.1) (by have := ht.2.2.2.1; omega)
theorem cTk_end {d : JdS} {h nm rm : Nat → Int} {n rc : Nat} {la : Int} (hs : cSo d n h) (ht : cTk d h n la nm rm rc) : cTn d (1000 * zct (jFst d) 960) nm rm rc := by
  obtain ⟨s1, s2, s3⟩ := hs
  obtain ⟨t1, t2, t3, t4, t5⟩ := ht
  refine cTn_k t3 ?_ (fun r r1 r2 r3 => ?_)
  · rcases t2 with e | ⟨j, j1, j2⟩
    · omega
    · obtain ⟨q, q1, -, q3⟩ := s2 j j1
      omega
  · obtain ⟨j, j1, j2⟩ := s3 r r3 r2
    have := t1 j j1
    omega
theorem cTk_0 {d : JdS} {h nm rm : Nat → Int} (h0 : cTn d 0 nm rm 0) : cTk d h 0 (-1) nm rm 0 := ⟨fun j hj => absurd hj (Nat.not_lt_zero j), Or.inl rfl, h0, Nat.le_refl _, by omega⟩
def cTx (d : JdS) (n : Nat) (I : ZI) : Prop := ∃ rc : Nat, I 63 13 = rc ∧ rc ≤ n ∧ cTn d (1000 * zct (jFst d) 960) (I 80) (I 81) rc
