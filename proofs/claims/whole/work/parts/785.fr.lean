/-! fr: SCRIPTS: the reference's machine as it lies -/
def zMs (g lim : Nat) (x : MsT) (I L : ZI) : Prop := zRv x.1.1 I L ∧ ((I 234 36 = x.1.2.1.1 ∧ x.1.2.1.1 ≤ 40) ∧ ∀ i : Nat, i < x.1.2.1.1 → I 254 i = x.1.2.1.2 i) ∧ ((I 234 38 = x.1.2.2.1 ∧ x.1.2.2.1 ≤ 8) ∧ ∀ j : Nat, j < x.1.2.2.1 → I 255 j = I 242 (600 * g + x.1.2.2.2 j)) ∧ (L 234 35 = x.2.1 ∧ L 234 34 = lim) ∧ (I 234 49 = x.2.2.1.1 ∧ I 234 50 = x.2.2.1.2) ∧ (I 234 46 = x.2.2.2.1.1 ∧ I 234 47 = x.2.2.2.1.2.1 ∧ I 234 48 = x.2.2.2.1.2.2) ∧ I 234 52 = x.2.2.2.2.1 ∧ (I 234 53 = x.2.2.2.2.2.1 ∧ x.2.2.2.2.2.1 ≤ 2) ∧ (∀ i : Nat, i < 2 → I 258 i = x.2.2.2.2.2.2.1 i) ∧ (I 234 55 = x.2.2.2.2.2.2.2.length ∧ x.2.2.2.2.2.2.2.length ≤ 15) ∧ zHs x.2.2.2.2.2.2.2 I L ∧ (0 ≤ I 234 42 ∧ I 234 42 ≤ 20) ∧ I 234 32 = -1
/-- cells that a change of the facts, the list, the variables leaves -/
def msK (c j : Nat) : Prop := (c = 234 ∧ (j = 32 ∨ j = 36 ∨ j = 38 ∨ j = 42 ∨ (46 ≤ j ∧ j ≤ 50) ∨ j = 52 ∨ j = 53 ∨ j = 55)) ∨ c = 242 ∨ c = 254 ∨ c = 255 ∨ (258 ≤ c ∧ c ≤ 266)
theorem zMs_E {g lim : Nat} {x : MsT} {E : EvE} {I I' L L' : ZI} (h : zMs g lim x I L) (hV : zRv E I' L') (hf : ∀ c j : Nat, msK c j → I' c j = I c j) (hl : ∀ c j : Nat, (c = 234 ∧ (j = 34 ∨ j = 35)) ∨ c = 265 → L' c j = L c j) : zMs g lim (mE x E) I' L' := by
  obtain ⟨h1, ⟨h2, h2'⟩, ⟨h3, h3'⟩, h4, h5, h6, h7, h8, h9, h10, h11, h12, h13⟩ := h
  have k : ∀ j, (j = 32 ∨ j = 36 ∨ j = 38 ∨ j = 42 ∨ (46 ≤ j ∧ j ≤ 50) ∨ j = 52 ∨ j = 53 ∨ j = 55) → I' 234 j = I 234 j := fun j hj => hf 234 j (Or.inl ⟨rfl, hj⟩)
  have k2 : ∀ c j, (c = 242 ∨ c = 254 ∨ c = 255 ∨ (258 ≤ c ∧ c ≤ 266)) → I' c j = I c j := fun c j hc => hf c j (Or.inr hc)
  refine ⟨hV, ⟨⟨(k 36 (by omega)).trans h2.1, h2.2⟩, fun i hi => (k2 _ _ (by omega)).trans (h2' i hi)⟩, ⟨⟨(k 38 (by omega)).trans h3.1, h3.2⟩, fun j hj => (k2 _ _ (by omega)).trans ((h3' j hj).trans (k2 _ _ (by omega)).symm)⟩, ⟨(hl 234 35 (by omega)).trans h4.1, (hl 234 34 (by omega)).trans h4.2⟩, ⟨(k 49 (by omega)).trans h5.1, (k 50 (by omega)).trans h5.2⟩, ⟨(k 46 (by omega)).trans h6.1, (k 47 (by omega)).trans h6.2.1, (k 48 (by omega)).trans h6.2.2⟩, (k 52 (by omega)).trans h7, ⟨(k 53 (by omega)).trans h8.1, h8.2⟩, fun i hi => (k2 _ _ (by omega)).trans (h9 i hi), ⟨(k 55 (by omega)).trans h10.1, h10.2⟩, zHs_fr h11 (fun c i h1 h2 _ => k2 c i (by omega)) (fun j _ => hl 265 j (by omega)), ?_, (k 32 (by omega)).trans h13⟩
  rw [k 42 (by omega)]; exact h12
theorem mE_1 {x : MsT} : mE x x.1.1 = x := rfl
theorem zMs_fr {g lim : Nat} {x : MsT} {I I' L L' : ZI} (h : zMs g lim x I L) (hf : ∀ c j : Nat, msK c j ∨ (c = 234 ∧ (j = 28 ∨ j = 30)) → I' c j = I c j) (hl : ∀ c j : Nat, (c = 234 ∧ (j = 34 ∨ j = 35)) ∨ c = 265 ∨ c = 251 ∨ c = 252 ∨ c = 253 → L' c j = L c j) : zMs g lim x I' L' := zMs_E (E := x.1.1) h (zRv_fr h.1 (fun c j hj => hf c j (by unfold msK; omega)) (fun c j hj => hl c j (by omega))) (fun c j hj => hf c j (Or.inl hj)) (fun c j hj => hl c j (by omega))
/-- an error -/
theorem zMs_ra {g lim : Nat} {x : MsT} {k p w : Int} {I I' L L' : ZI} (h : zMs g lim x I L) (hR : zRe k p w (raH k p w x.2.2.2.2.2.2.2 x.1.1 x.2.2.2.2.2.1) I I' L') (g55 : I' 234 55 = ((raH k p w x.2.2.2.2.2.2.2 x.1.1 x.2.2.2.2.2.1).2.1.length : Nat)) (g53 : I' 234 53 = ((raH k p w x.2.2.2.2.2.2.2 x.1.1 x.2.2.2.2.2.1).2.2.2.1 : Nat)) (hcl : (raH k p w x.2.2.2.2.2.2.2 x.1.1 x.2.2.2.2.2.1).2.1.length ≤ 15 ∧ (raH k p w x.2.2.2.2.2.2.2 x.1.1 x.2.2.2.2.2.1).2.2.2.1 ≤ 2)
    (hf : ∀ c j : Nat, (c = 234 ∧ (j = 32 ∨ j = 36 ∨ j = 38 ∨ j = 42)) ∨ c = 242 ∨ c = 254 ∨ c = 255 ∨ c = 258 → I' c j = I c j) (hl : ∀ c j : Nat, c = 234 ∧ (j = 34 ∨ j = 35) → L' c j = L c j) : zMs g lim (mRa k p w x) I' L' := by
  obtain ⟨h1, ⟨h2, h2'⟩, ⟨h3, h3'⟩, h4, h5, h6, h7, h8, h9, h10, h11, h12, h13⟩ := h
  obtain ⟨r1, r2, r3⟩ := hR
  have c1 : (I' 234 36 = x.1.2.1.1 ∧ x.1.2.1.1 ≤ 40) ∧ ∀ i : Nat, i < x.1.2.1.1 → I' 254 i = x.1.2.1.2 i := ⟨⟨(hf _ _ (by omega)).trans h2.1, h2.2⟩, fun i hi => (hf _ _ (by omega)).trans (h2' i hi)⟩
  have c2 : (I' 234 38 = x.1.2.2.1 ∧ x.1.2.2.1 ≤ 8) ∧ ∀ j : Nat, j < x.1.2.2.1 → I' 255 j = I' 242 (600 * g + x.1.2.2.2 j) := ⟨⟨(hf _ _ (by omega)).trans h3.1, h3.2⟩, fun j hj => (hf _ _ (by omega)).trans ((h3' j hj).trans (hf _ _ (by omega)).symm)⟩
  have c4 : L' 234 35 = x.2.1 ∧ L' 234 34 = lim := ⟨(hl _ _ (by omega)).trans h4.1, (hl _ _ (by omega)).trans h4.2⟩
  have c9 : ∀ i : Nat, i < 2 → I' 258 i = x.2.2.2.2.2.2.1 i := fun i hi => (hf _ _ (by omega)).trans (h9 i hi)
  have c12 : 0 ≤ I' 234 42 ∧ I' 234 42 ≤ 20 := by rw [hf 234 42 (by omega)]; exact h12
  have c13 : I' 234 32 = -1 := (hf _ _ (by omega)).trans h13
  unfold mRa
  rcases r1 with ⟨q1, q2, q3⟩ | ⟨q1, q2, q3, q4⟩
  · rw [if_pos q1]
    exact ⟨r3, c1, c2, c4, ⟨(q3 49 (by decide) (by decide)).trans h5.1, (q3 50 (by decide) (by decide)).trans h5.2⟩, ⟨(q3 46 (by decide) (by decide)).trans h6.1, (q3 47 (by decide) (by decide)).trans h6.2.1, (q3 48 (by decide) (by decide)).trans h6.2.2⟩, q2, ⟨g53, hcl.2⟩, c9, ⟨g55, hcl.1⟩, r2, c12, c13⟩
  · rw [if_neg (by omega)]
    have e : ∀ hs E cl, (raH k p w hs E cl).1 = 0 → (raH k p w hs E cl).2.1 = [] := fun hs => by
      induction hs with
      | nil => exact fun _ _ _ => rfl
      | cons y o ih =>
        intro E cl hh
        by_cases e9 : y.1 = 9
        · rw [raH_t e9] at hh; exact absurd (show (1 : Nat) = 0 from hh) (by decide)
        · by_cases e7 : y.1 = 7
          · rw [raH_a e7] at hh ⊢; exact ih _ _ hh
          · rw [raH_o e9 e7] at hh ⊢; exact ih _ _ hh
    rw [e _ _ _ q1] at g55
    exact ⟨r3, c1, c2, c4, ⟨q3.2, q3.1⟩, q2, q4.trans h7, ⟨g53, hcl.2⟩, c9, ⟨g55, Nat.zero_le 15⟩, True.intro, c12, c13⟩
def mQr (l : CdL) (p : Int) (x : MsT) : MsT := if (qrL l x.1.1.2.1 0 x.1.1).1 = 0 then mE x (evSv (qrL l x.1.1.2.1 0 x.1.1).2 25 (x.1.1.1 25)) else mRa (qrL l x.1.1.2.1 0 x.1.1).1 p 0 (mE x (qrL l x.1.1.2.1 0 x.1.1).2)
theorem zRv_v {E : EvE} {I L I' L' : ZI} {i : Nat} {v : Int} (h : zRv E I L) (hf : ∀ c j : Nat, c = 234 ∧ (j = 28 ∨ j = 30) → I' c j = I c j) (hl : ∀ c j : Nat, c = 251 ∨ c = 252 ∨ (c = 253 ∧ ¬ j = i) → L' c j = L c j) (hv : L' 253 i = v) : zRv (evSv E i v) I' L' := ⟨fun w hw => by
  show L' 253 w = upF E.1 i v w
  unfold upF
  by_cases e : w = i
  · rw [if_pos e, e]; exact hv
  · rw [if_neg e]; exact (hl _ _ (by omega)).trans (h.1 w hw), ⟨(hf _ _ (by omega)).trans h.2.1.1, h.2.1.2⟩, fun j hj => (hl _ _ (by omega)).trans (h.2.2.1 j hj), ⟨(hf _ _ (by omega)).trans h.2.2.2.1.1, h.2.2.2.1.2⟩, fun j hj => (hl _ _ (by omega)).trans (h.2.2.2.2 j hj)⟩
theorem qr_go {l : CdL} {m o : Nat} {E : EvE} {Z : Nat × EvE} (h : qrL l (m + 1) o E = Z) (hf : evF (evSv E 25 (o : Int)) l = 0) : qrL l m (o + 1) (evSv E 25 (o : Int)) = Z := (if_pos hf).symm.trans h
theorem qr_no {l : CdL} {m o : Nat} {E : EvE} {Z : Nat × EvE} (h : qrL l (m + 1) o E = Z) (hf : ¬ evF (evSv E 25 (o : Int)) l = 0) : (evF (evSv E 25 (o : Int)) l, evSv E 25 (o : Int)) = Z := (if_neg hf).symm.trans h
theorem qr_go' {l : CdL} {m N : Nat} {E : EvE} {Z : Nat × EvE} (hm : m < N) (h : qrL l (N - m) m E = Z) (hf : evF (evSv E 25 (m : Int)) l = 0) : qrL l (N - (m + 1)) (m + 1) (evSv E 25 (m : Int)) = Z := by
  rw [show N - m = (N - (m + 1)) + 1 by omega] at h
  exact qr_go h hf
theorem qr_no' {l : CdL} {m N : Nat} {E : EvE} {Z : Nat × EvE} (hm : m < N) (h : qrL l (N - m) m E = Z) (hf : ¬ evF (evSv E 25 (m : Int)) l = 0) : Z = (evF (evSv E 25 (m : Int)) l, evSv E 25 (m : Int)) := by
  rw [show N - m = (N - (m + 1)) + 1 by omega] at h
  exact (qr_no h hf).symm
theorem qr_en {l : CdL} {m N : Nat} {E : EvE} {Z : Nat × EvE} (hm : ¬ m < N) (h : qrL l (N - m) m E = Z) : Z = (0, E) := by
  rw [show N - m = 0 by omega] at h
  exact h.symm
theorem mQr_0 {l : CdL} {p : Int} {x : MsT} {E : EvE} (h : qrL l x.1.1.2.1 0 x.1.1 = (0, E)) : mQr l p x = mE x (evSv E 25 (x.1.1.1 25)) := by
  unfold mQr
  rw [h]
  exact if_pos rfl
theorem mQr_1 {l : CdL} {p : Int} {x : MsT} {E : EvE} {f : Nat} (hf : ¬ f = 0) (h : qrL l x.1.1.2.1 0 x.1.1 = (f, E)) : mQr l p x = mRa f p 0 (mE x E) := by
  unfold mQr
  rw [h]
  exact if_neg hf
theorem zMs_x {g lim : Nat} {x y : MsT} {I L : ZI} (e : x = y) (h : zMs g lim x I L) : zMs g lim y I L := by rw [← e]; exact h
theorem evU_9 {E : EvE} {c v a : Int} : (evU E c v a).1 ≤ 9 := by
  unfold evU
  by_cases h1 : c = 95
  · rw [if_pos h1]; exact Nat.zero_le 9
  · rw [if_neg h1]
    by_cases h2 : c = 64
    · rw [if_pos h2]
      by_cases h3 : 0 ≤ a ∧ a < E.2.1
      · rw [if_pos h3]; exact Nat.zero_le 9
      · rw [if_neg h3]; exact (by decide : 2 ≤ 9)
    · rw [if_neg h2]
      by_cases h3 : 0 ≤ a ∧ a < E.2.2.2.1
      · rw [if_pos h3]; exact Nat.zero_le 9
      · rw [if_neg h3]; exact (by decide : 2 ≤ 9)
theorem evD_9 {c b : Int} : evD c b ≤ 9 := by
  unfold evD
  by_cases h : b = 0 ∧ (c = 47 ∨ c = 37)
  · rw [if_pos h]; decide
  · rw [if_neg h]; decide
theorem evC_9 {E : EvE} {c v : Int} {st : List Int} : (evC E c v st).1 ≤ 9 := by
  unfold evC
  by_cases h1 : c = 48
  · rw [if_pos h1]; exact Nat.zero_le 9
  · rw [if_neg h1]
    by_cases h2 : c = 97
    · rw [if_pos h2]; exact Nat.zero_le 9
    · rw [if_neg h2]
      by_cases h3 : c = 35
      · rw [if_pos h3]; exact Nat.zero_le 9
      · rw [if_neg h3]
        by_cases h4 : c = 95 ∨ c = 64 ∨ c = 39
        · rw [if_pos h4]
          match st with
          | [] => exact (by decide : 9 ≤ 9)
          | a :: s =>
            show (if (evU E c v a).1 = 0 then (0, (evU E c v a).2 :: s) else ((evU E c v a).1, [])).1 ≤ 9
            by_cases h5 : (evU E c v a).1 = 0
            · rw [if_pos h5]; exact Nat.zero_le 9
            · rw [if_neg h5]; exact evU_9
        · rw [if_neg h4]
          match st with
          | [] => exact (by decide : 9 ≤ 9)
          | [a] => exact (by decide : 9 ≤ 9)
          | b :: a :: s =>
            show (if evD c b = 0 then (0, evB c a b :: s) else (evD c b, [])).1 ≤ 9
            by_cases h5 : evD c b = 0
            · rw [if_pos h5]; exact Nat.zero_le 9
            · rw [if_neg h5]; exact evD_9
theorem evL_9 {E : EvE} : ∀ {l : CdL} {st : List Int}, (evL E l st).1 ≤ 9
  | [], st => Nat.zero_le 9
  | x :: r, st => by
    show (if (evC E x.1 x.2 st).1 = 0 then evL E r (evC E x.1 x.2 st).2 else ((evC E x.1 x.2 st).1, [])).1 ≤ 9
    by_cases h : (evC E x.1 x.2 st).1 = 0
    · rw [if_pos h]; exact evL_9
    · rw [if_neg h]; exact evC_9
theorem evF_9 {E : EvE} {l : CdL} : evF E l ≤ 9 := evL_9
