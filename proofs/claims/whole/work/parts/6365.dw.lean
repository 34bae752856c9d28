/-! two rows of arrays of one object -/
theorem zsum_a : ∀ (a b : List (Int × Nat × Nat)), zsum (a ++ b) = zsum a + zsum b
  | [], b => (Nat.zero_add _).symm
  | e :: a, b => by
    show _ + zsum (a ++ b) = (_ + zsum a) + zsum b
    rw [zsum_a a b, Nat.add_assoc]
theorem zNw_app {q : Nat} {l1 l2 : List (Int × Nat × Nat)} {I L I1 L1 I1' L1' I2 L2 : ZI} {R R1 R2 : ZR} {S S1 S2 : ZS} (h1 : zNw q l1 I L R S I1 L1 R1 S1) (h2 : zNw q l2 I1' L1' R1 S1 I2 L2 R2 S2) (hd : ∀ e, e ∈ l1 → ∀ e', e' ∈ l2 → e'.2.2 ≠ e.2.2)
    (hz : ∀ d j : Nat, S.2.1 ≤ d → d < S.2.1 + l1.length → I1' d j = I1 d j ∧ L1' d j = L1 d j) : zNw q (l1 ++ l2) I2 L2 R S I2 L2 R2 S2 := by
  obtain ⟨⟨a1, a2, a3⟩, a4, a5, a6, a7, a8⟩ := h1
  obtain ⟨⟨b1, b2, b3⟩, b4, b5, b6, b7, b8⟩ := h2
  refine ⟨⟨by rw [List.length_append]; omega, by rw [zsum_a]; omega, ?_⟩, fun i e hi => ?_, fun _ _ _ => ⟨rfl, rfl⟩, fun d j g1 g2 => ?_, fun d f g1 g2 => ?_, fun f hf => ?_⟩
  · exact ⟨Nat.le_trans a3.1 b3.1, fun c hc => (b3.2 c (Nat.lt_of_lt_of_le hc a3.1)).trans (a3.2 c hc)⟩
  · by_cases hl : i < l1.length
    · rw [List.getElem?_append_left hl] at hi
      obtain ⟨c1, c2⟩ := a4 i e hi
      refine ⟨(b3.2 _ (by omega)).trans c1, (b8 e.2.2 (fun e' he' => hd e (List.mem_of_getElem? hi) e' he')).trans c2⟩
    · rw [List.getElem?_append_right (by omega)] at hi
      obtain ⟨c1, c2⟩ := b4 (i - l1.length) e hi
      rw [show S1.2.1 + (i - l1.length) = S.2.1 + i by omega] at c1 c2
      exact ⟨c1, c2⟩
  · rw [List.length_append] at g2
    by_cases hl : d < S.2.1 + l1.length
    · have z := a6 d j g1 hl
      have y := hz d j g1 hl
      have x := b5 d j (Or.inl (by omega))
      exact ⟨x.1.trans (y.1.trans z.1), x.2.trans (y.2.trans z.2)⟩
    · exact b6 d j (by omega) (by omega)
  · rw [List.length_append] at g1
    exact (b7 d f (by omega) g2).trans (a7 d f (by omega) g2)
  · exact (b8 f (fun e he => hf e (List.mem_append.mpr (Or.inr he)))).trans (a8 f (fun e he => hf e (List.mem_append.mpr (Or.inl he))))
