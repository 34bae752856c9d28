/-! OBJECTS that a method makes -/
/-- a constructor's arrays: lengths, kinds, fields -/
def zmA (c : Nat) : List (Int × Nat × Nat) → List ZF
  | [] => []
  | e :: r => zf_ald 0 :: zf_ic e.1 :: zf_newA e.2.1 :: zf_putR c e.2.2 :: zmA c r
def zsum : List (Int × Nat × Nat) → Nat
  | [] => 0
  | e :: r => e.1.toNat + zsum r
theorem zblk_app {g : ZK} {Q : ZQ} {k : ZC} : ∀ {a b : List ZF}, zblk g Q (a ++ b) k = zblk g Q a (zblk g Q b k)
  | [], _ => rfl
  | f :: a, b => congrArg (fun z => f z g Q) (zblk_app (a := a) (b := b))
/-- what they leave -/
def zNw (q : Nat) (l : List (Int × Nat × Nat)) (I L : ZI) (R : ZR) (S : ZS) (I' L' : ZI) (R' : ZR) (S' : ZS) : Prop := (S'.2.1 = S.2.1 + l.length ∧ S'.2.2 = S.2.2 + zsum l ∧ zSg S S') ∧ (∀ (i : Nat) (e : Int × Nat × Nat), l[i]? = some e → S'.1 (S.2.1 + i) = (e.2.1, e.1.toNat) ∧ R' q e.2.2 = some (S.2.1 + i)) ∧
  (∀ d j : Nat, d < S.2.1 ∨ S.2.1 + l.length ≤ d → I' d j = I d j ∧ L' d j = L d j) ∧ (∀ d j : Nat, S.2.1 ≤ d → d < S.2.1 + l.length → I' d j = 0 ∧ L' d j = 0) ∧ (∀ d f : Nat, d < S.2.1 ∨ S.2.1 + l.length ≤ d → d ≠ q → R' d f = R d f) ∧ ∀ f : Nat, (∀ e ∈ l, e.2.2 ≠ f) → R' q f = R q f
theorem zmA_ok {c q : Nat} {g : ZK} {Q : ZQ} {k : ZC} {ls : ZL} (h0 : zget ls 0 = some (zvr q)) : ∀ (l : List (Int × Nat × Nat)) {I L : ZI} {R : ZR} {S : ZS}, (l.all fun e => decide (0 ≤ e.1 ∧ e.1 < 1000000)) = true → (l.map fun e => e.2.2).Nodup → xat S q c → q < S.2.1 → (∀ I' L' R' S', zNw q l I L R S I' L' R' S' → k ls [] I' L' R' S') → zblk g Q (zmA c l) k ls [] I L R S
  | [], I, L, R, S, _, _, _, _, h => h I L R S ⟨⟨rfl, rfl, zSg_r S⟩, fun i e q => (by cases q), fun _ _ _ => ⟨rfl, rfl⟩, fun d j h1 h2 => absurd h2 (Nat.not_lt.mpr h1), fun _ _ _ _ => rfl, fun _ _ => rfl⟩
  | e :: r, I, L, R, S, hb, hn, hx, hq, h => by
    have hb2 : decide (0 ≤ e.1 ∧ e.1 < 1000000) = true ∧ (r.all fun e => decide (0 ≤ e.1 ∧ e.1 < 1000000)) = true := by
      rw [List.all_cons, Bool.and_eq_true] at hb
      exact hb
    have hn2 : e.2.2 ∉ r.map (fun e => e.2.2) ∧ (r.map fun e => e.2.2).Nodup := List.nodup_cons.mp hn
    show zf_ald 0 (fun ls st I L R S => zf_ic e.1 (fun ls st I L R S => zf_newA e.2.1 (fun ls st I L R S => zf_putR c e.2.2 (zblk g Q (zmA c r) k) g Q ls st I L R S) g Q ls st I L R S) g Q ls st I L R S) g Q ls [] I L R S
    unfold zf_ald
    rw [h0]
    show (0 ≤ e.1 ∧ e.1 < 1000000) ∧ (xat (znS S e.2.1 e.1.toNat) q c ∧ zblk g Q (zmA c r) k ls [] (zz I S.2.1 0) (zz L S.2.1 0) (xu (zz R S.2.1 none) q e.2.2 (some S.2.1)) (znS S e.2.1 e.1.toNat))
    have g9 : zSg S (znS S e.2.1 e.1.toNat) := zSg_n
    have hx2 : xat (znS S e.2.1 e.1.toNat) q c := ⟨hx.1, Nat.lt_succ_of_lt hx.2.1, by rw [g9.2 q hq]; exact hx.2.2⟩
    refine ⟨of_decide_eq_true hb2.1, hx2, zmA_ok h0 r hb2.2 hn2.2 hx2 (Nat.lt_succ_of_lt hq) (fun I' L' R' S' w => h I' L' R' S' ?_)⟩
    obtain ⟨⟨w1, w2, w3⟩, w4, w5, w6, w7, w8⟩ := w
    have e1 : (znS S e.2.1 e.1.toNat).2.1 = S.2.1 + 1 := rfl
    have e2 : (znS S e.2.1 e.1.toNat).2.2 = S.2.2 + e.1.toNat := rfl
    rw [e1] at w1 w4 w5 w6 w7
    rw [e2] at w2
    refine ⟨⟨?_, ?_, zSg_t g9 w3⟩, fun i z hz => ?_, fun d j hd => ?_, fun d j h1 h2 => ?_, fun d f hd hdq => ?_, fun f hf => ?_⟩
    · rw [w1, List.length_cons]
      omega
    · rw [w2]
      show S.2.2 + e.1.toNat + zsum r = S.2.2 + (e.1.toNat + zsum r)
      omega
    · rcases Nat.eq_zero_or_pos i with q0 | q0
      · rw [q0] at hz ⊢
        rw [List.getElem?_cons_zero] at hz
        cases hz
        refine ⟨?_, ?_⟩
        · rw [Nat.add_zero, w3.2 S.2.1 (by rw [e1]; omega)]
          exact if_pos rfl
        · rw [w8 e.2.2 (fun x hx e9 => hn2.1 (List.mem_map.mpr ⟨x, hx, e9⟩))]
          exact zxe
      · obtain ⟨i, rfl⟩ : ∃ i', i = i' + 1 := ⟨i - 1, by omega⟩
        rw [List.getElem?_cons_succ] at hz
        have w := w4 i z hz
        rw [show S.2.1 + (i + 1) = S.2.1 + 1 + i by omega]
        exact w
    · rw [List.length_cons] at hd
      have w := w5 d j (by omega)
      exact ⟨w.1.trans (if_neg (by omega)), w.2.trans (if_neg (by omega))⟩
    · rw [List.length_cons] at h2
      by_cases q : d = S.2.1
      · have w := w5 d j (by omega)
        exact ⟨w.1.trans (if_pos q), w.2.trans (if_pos q)⟩
      · exact w6 d j (by omega) (by omega)
    · rw [List.length_cons] at hd
      exact (w7 d f (by omega) hdq).trans (zxu hdq (if_neg (by omega)))
    · refine (w8 f (fun x hx => hf x (List.mem_cons_of_mem _ hx))).trans (zxs (fun e9 => hf e (List.mem_cons_self ..) e9.symm) (if_neg (by omega)))
theorem zNw_dy {c q nf : Nat} {l : List (Int × Nat × Nat)} {ts : List (Nat × Nat)} {fs : List (Nat × Nat × Nat)} {I L I' L' : ZI} {R R' : ZR} {S S' : ZS} (h : zNw q l I L R S I' L' R' S') (hq : S.2.1 = q + 1) (h40 : 40 ≤ q) (hs : S.1 q = (c, nf)) (ht : ts = (c, nf) :: l.map fun e => (e.2.1, e.1.toNat)) (hf : (fs.all fun e => Nat.beq e.1 0 && (Nat.ble 1 e.2.2 && match l[e.2.2 - 1]? with | some z => Nat.beq z.2.2 e.2.1 | none => false)) = true) : zDy ts fs q R' S' := by
  obtain ⟨⟨w1, w2, w3⟩, w4, -⟩ := h
  refine ⟨h40, ?_, fun i t n e => ?_, fun i o f u e => ?_⟩
  · rw [ht, w1, List.length_cons, List.length_map]
    omega
  · rw [ht] at e
    rcases Nat.eq_zero_or_pos i with q0 | q0
    · rw [q0, List.getElem?_cons_zero] at e
      rw [q0, Nat.add_zero, w3.2 q (by omega), hs]
      cases e
      rfl
    · obtain ⟨i, rfl⟩ : ∃ i', i = i' + 1 := ⟨i - 1, by omega⟩
      rw [List.getElem?_cons_succ, List.getElem?_map] at e
      cases hz : l[i]? with
      | none => rw [hz] at e; cases e
      | some z =>
        rw [hz] at e
        cases e
        have w := (w4 i z hz).1
        rw [show q + (i + 1) = S.2.1 + i by omega]
        exact w
  · have w := List.all_eq_true.mp hf _ (List.mem_of_getElem? e)
    rw [Bool.and_eq_true, Bool.and_eq_true] at w
    obtain ⟨a1, a2, a3⟩ := w
    have b1 : o = 0 := Nat.eq_of_beq_eq_true a1
    have b2 : 1 ≤ u := Nat.le_of_ble_eq_true a2
    have a4 : (match l[u - 1]? with | some z => Nat.beq z.2.2 f | none => false) = true := a3
    cases hz : l[u - 1]? with
    | none => rw [hz] at a4; cases a4
    | some z =>
      rw [hz] at a4
      have a5 : z.2.2 = f := Nat.eq_of_beq_eq_true a4
      have w9 := (w4 (u - 1) z hz).2
      rw [a5] at w9
      rw [b1, Nat.add_zero, w9]
      exact congrArg some (by omega)
/-- an object is made: the memory behind it -/
theorem zne {k : ZC} {g : ZK} {Q : ZQ} {ls : ZL} {st : List ZV} {I L : ZI} {R : ZR} {S : ZS} {a n : Nat} (h : ∀ (u : Nat) (I' L' : ZI) (R' : ZR) (S' : ZS), (u = S.2.1 ∧ S'.2.1 = u + 1 ∧ S'.2.2 = S.2.2 + n ∧ S'.1 u = (a, n)) → zSg S S' → (∀ c j : Nat, ¬ c = u → I' c j = I c j) → (∀ c j : Nat, ¬ c = u → L' c j = L c j) → (∀ c j : Nat, ¬ c = u → R' c j = R c j) → (∀ j : Nat, I' u j = 0 ∧ L' u j = 0 ∧ R' u j = none) → k ls (zvr u :: st) I' L' R' S') : zf_new a n k g Q ls st I L R S :=
  h S.2.1 _ _ _ _ ⟨rfl, rfl, rfl, if_pos rfl⟩ zSg_n (fun c j q => if_neg q) (fun c j q => if_neg q) (fun c j q => if_neg q) (fun j => ⟨if_pos rfl, if_pos rfl, if_pos rfl⟩)
theorem zDy_g2 {ts : List (Nat × Nat)} {fs : List (Nat × Nat × Nat)} {k : Nat} {R R' : ZR} {S S' : ZS} (h : zDy ts fs k R S) (g : zSg S S') (ho : (fs.all fun e => Nat.blt e.1 ts.length) = true) (hr : ∀ c f : Nat, k ≤ c → c < k + ts.length → R' c f = R c f) : zDy ts fs k R' S' :=
  ⟨h.1, Nat.le_trans h.2.1 g.1, fun i t n e => (g.2 _ (by have := zD_lt e; have := h.2.1; omega)).trans (h.2.2.1 i t n e), fun i o f u e => (hr _ f (Nat.le_add_right _ _) (by have w := Nat.blt_eq.mp (List.all_eq_true.mp ho _ (List.mem_of_getElem? e)); have w2 : o < ts.length := w; omega)).trans (h.2.2.2 i o f u e)⟩
/-- an object of class c with n fields, just made -/
def zNq (q c n : Nat) (I L : ZI) (R : ZR) (S : ZS) : Prop := S.2.1 = q + 1 ∧ S.1 q = (c, n) ∧ 302 ≤ q ∧ ∀ j : Nat, I q j = 0 ∧ L q j = 0 ∧ R q j = none
theorem zNq_x {q c n : Nat} {I L : ZI} {R : ZR} {S : ZS} (h : zNq q c n I L R S) : xat S q c := ⟨by have := h.2.2.1; show 40 ≤ q; omega, by have := h.1; omega, by rw [h.2.1]⟩
theorem zmA_at {c q : Nat} {g : ZK} {Q : ZQ} {k : ZC} {ls : ZL} {I L : ZI} {R : ZR} {S : ZS} (l : List (Int × Nat × Nat)) (rest : List ZF) (h0 : zget ls 0 = some (zvr q)) (hb : (l.all fun e => decide (0 ≤ e.1 ∧ e.1 < 1000000)) = true) (hn : (l.map fun e => e.2.2).Nodup) (hx : xat S q c) (hq : q < S.2.1) (h : ∀ I' L' R' S', zNw q l I L R S I' L' R' S' → zblk g Q rest k ls [] I' L' R' S') : zblk g Q (zmA c l ++ rest) k ls [] I L R S := by
  rw [zblk_app]
  exact zmA_ok h0 l hb hn hx hq h
theorem zSg_x {S S' : ZS} {q c : Nat} (h : zSg S S') (hx : xat S q c) : xat S' q c := ⟨hx.1, Nat.lt_of_lt_of_le hx.2.1 h.1, by rw [h.2 q hx.2.1]; exact hx.2.2⟩
