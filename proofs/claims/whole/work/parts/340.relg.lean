/-! relg -/
theorem zxor1 {x : Int} (h : 0 ≤ x ∧ x ≤ 63) : zxor x 1 = if x % 2 = 0 then x + 1 else x - 1 := by
  have q : ∀ y : Nat, y < 64 → zxor (y : Int) 1 = if (y : Int) % 2 = 0 then (y : Int) + 1 else (y : Int) - 1 := by decide +kernel
  have e := q x.toNat (by omega)
  rwa [show ((x.toNat : Nat) : Int) = x by omega] at e
/-- the releases, as the reference holds them -/
def zRB (cn : Nat) (t : Nat → Nat → Int) (n : Nat → Nat) (I : ZI) : Prop := I 280 8 = cn ∧ cn ≤ 10 ∧ I 280 2 = 0 ∧ (∀ j : Nat, j < 64 → I 281 j = shK j) ∧ ∀ r, r < cn → (1 ≤ n r ∧ n r ≤ 512 ∧ I 287 r = rW (n r) 0) ∧ (∀ j, j < n r → 0 ≤ t r j ∧ t r j ≤ 255) ∧
  (∀ k i : Nat, k < rW (n r) 0 → i < 32 → I 291 (256 * r + 32 * k + i) = rD (t r) (n r) 0 k i) ∧ (∀ i : Nat, i < 32 → I 292 (32 * r + i) = rD (t r) (n r) (rT (n r)) 0 i)
theorem zRB_fr {cn : Nat} {t : Nat → Nat → Int} {n : Nat → Nat} {I I' : ZI} (h : zRB cn t n I) (h2 : I' 280 2 = 0) (hf : ∀ c j, (c = 280 ∧ j = 8) ∨ c = 281 ∨ (c = 287 ∧ j < 10) ∨ c = 291 ∨ c = 292 → I' c j = I c j) : zRB cn t n I' := by
  obtain ⟨q1, q2, q3, q4, q5⟩ := h
  refine ⟨(hf 280 8 (Or.inl ⟨rfl, rfl⟩)).trans q1, q2, h2, fun j hj => (hf 281 j (Or.inr (Or.inl rfl))).trans (q4 j hj), fun r hr => ?_⟩
  obtain ⟨w1, w2, w3, w4⟩ := q5 r hr
  exact ⟨⟨w1.1, w1.2.1, (hf 287 r (Or.inr (Or.inr (Or.inl ⟨rfl, by omega⟩)))).trans w1.2.2⟩, w2, fun k i a1 a2 => (hf 291 _ (Or.inr (Or.inr (Or.inr (Or.inl rfl))))).trans (w3 k i a1 a2), fun i a1 => (hf 292 _ (Or.inr (Or.inr (Or.inr (Or.inr rfl))))).trans (w4 i a1)⟩
def T_B_steps : ZT := fun args I L R S Q => ∃ (k : Int) (w : Int) (n : Nat), args = [zvi k, zvi w] ∧ (1 ≤ n ∧ n ≤ 512) ∧ (0 ≤ k ∧ k < rW n 0) ∧ (w = rW n 0) ∧ ∀ (v : Int), (v = pfN n k.toNat (rT n)) → Q (some (zvi (v))) I L R S
theorem sn_B_steps : ZSnd 1 19 30 T_B_steps := ZSnd.loops (zT19_30 0) (by
  rintro args I L R S Q hz ⟨k, w, n, rfl, hn, hk, hw, hQ⟩
  have hw0 : rW n 0 = (n + 63) / 64 := rfl
  have hwu : ∀ l, rW n (l + 1) = (rW n l + 1) / 2 := fun _ => rfl
  have hk0 : k.toNat < rW n 0 := by omega
  refine ⟨[7], fun nM tM lsM stM I1 L1 R1 S1 => match tM with
      | 7 => ∃ (l : Nat), nM = ((rW n l), 0, 0) ∧ lsM = [some (zvi (k)), some (zvi (w)), some (zvi (pfN n k.toNat l)), some (zvi (pfK k.toNat l)), some (zvi (rW n l))] ∧ stM = [] ∧ I1 = I ∧ L1 = L ∧ R1 = R ∧ S1 = S ∧ ((l = 0 ∧ rW n l ≤ 8 ∧ rO n l = 0) ∨ (l = 1 ∧ rW n l ≤ 4 ∧ rO n l ≤ 8) ∨ (l = 2 ∧ rW n l ≤ 2 ∧ rO n l ≤ 12) ∨ (l = 3 ∧ rW n l ≤ 1 ∧ rO n l ≤ 14)) ∧ (∀ m, m < l → 1 < rW n m)
      | _ => False, rfl, ?_, ⟨?_, True.intro⟩⟩
  · refine ⟨((rW n (0 : Nat)), 0, 0), [some (zvi (k)), some (zvi (w)), some (zvi (pfN n k.toNat (0 : Nat))), some (zvi (pfK k.toNat (0 : Nat))), some (zvi (rW n (0 : Nat)))], ⟨rfl, rfl, (congrArg (fun z => some (zvi z)) (rfl)), (congrArg (fun z => some (zvi z)) (by show k = ((k.toNat : Nat) : Int); omega)), (congrArg (fun z => some (zvi z)) hw), rfl⟩, 0, rfl, rfl, rfl, rfl, rfl, rfl, rfl, (Or.inl ⟨rfl, by omega, rfl⟩), (fun m h => absurd h (Nat.not_lt_zero m))⟩
  · rintro nM lsM stM I1 L1 R1 S1 hz1 ⟨l, rfl, rfl, rfl, rfl, rfl, rfl, rfl, hl, hu⟩
    have hwl := hwu l
    have hn1 := pfN_le n k.toNat l
    have hkl := pfK_lt hk0 l
    have hn2 : pfN n k.toNat (l + 1) = pfN n k.toNat l + (if pfO (pfK k.toNat l) < rW n l then 1 else 0) := rfl
    have hk2 : pfK k.toNat (l + 1) = pfK k.toNat l / 2 := rfl
    refine And.intro ⟨(by omega), (zRb rfl)⟩ ⟨fun h10 => ?_, fun h10 => ?_⟩
    · refine hQ _ (by have e := rT_of ⟨hn.1, hn.2⟩ (l := l) (by omega) hu (by omega); rw [e])
    · have b16 : (zxor (pfK k.toNat l) 1) = if ((pfK k.toNat l) : Int) % 2 = 0 then ((pfK k.toNat l) : Int) + 1 else ((pfK k.toNat l) : Int) - 1 := zxor1 (by omega)
      refine And.intro ⟨zr_xor, (by omega)⟩ ⟨fun h19 => ?_, fun h19 => ?_⟩
      · refine And.intro ⟨(by omega), (zRb rfl), (by decide)⟩ (zdv (by omega) (fun q31 e31 => ?_))
        refine And.intro ⟨(by omega), (zRb rfl), (by decide)⟩ (zdv (by omega) (fun q38 e38 => ?_))
        refine ⟨((rW n (l + 1)), 0, 0), zlt6 (by omega), [some (zvi (k)), some (zvi (w)), some (zvi (pfN n k.toNat (l + 1))), some (zvi (pfK k.toNat (l + 1))), some (zvi (rW n (l + 1)))], ⟨rfl, rfl, (congrArg (fun z => some (zvi z)) (by rw [hn2]; have e : pfO (pfK k.toNat l) = if pfK k.toNat l % 2 = 0 then pfK k.toNat l + 1 else pfK k.toNat l - 1 := rfl; split at b16 <;> split <;> split at e <;> omega)), (congrArg (fun z => some (zvi z)) (by omega)), (congrArg (fun z => some (zvi z)) (by omega)), rfl⟩, (l + 1), rfl, rfl, rfl, rfl, rfl, rfl, rfl, (by have hol : rO n (l + 1) = rO n l + rW n l := rfl; omega), ?_⟩
        · intro m hm
          by_cases h : m = l
          · rw [h]; omega
          · exact hu m (by omega)
      · refine And.intro ⟨(by omega), (zRb rfl), (by decide)⟩ (zdv (by omega) (fun q31 e31 => ?_))
        refine And.intro ⟨(by omega), (zRb rfl), (by decide)⟩ (zdv (by omega) (fun q38 e38 => ?_))
        refine ⟨((rW n (l + 1)), 0, 0), zlt6 (by omega), [some (zvi (k)), some (zvi (w)), some (zvi (pfN n k.toNat (l + 1))), some (zvi (pfK k.toNat (l + 1))), some (zvi (rW n (l + 1)))], ⟨rfl, rfl, (congrArg (fun z => some (zvi z)) (by rw [hn2]; have e : pfO (pfK k.toNat l) = if pfK k.toNat l % 2 = 0 then pfK k.toNat l + 1 else pfK k.toNat l - 1 := rfl; split at b16 <;> split <;> split at e <;> omega)), (congrArg (fun z => some (zvi z)) (by omega)), (congrArg (fun z => some (zvi z)) (by omega)), rfl⟩, (l + 1), rfl, rfl, rfl, rfl, rfl, rfl, rfl, (by have hol : rO n (l + 1) = rO n l + rW n l := rfl; omega), ?_⟩
        · intro m hm
          by_cases h : m = l
          · rw [h]; omega
          · exact hu m (by omega))
