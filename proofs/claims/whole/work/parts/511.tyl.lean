/-! A LIST read; an object more, in the class's memory -/
theorem tuF_ge {c : Nat → Int} {n lim ar : Nat} {u : Nat × Nat × Nat} : -1 ≤ tuF c n lim ar u := by
  unfold tuF
  split
  · omega
  · split <;> omega
theorem tuX_ge {c : Nat → Int} {n lim ar q0 : Nat} : -1 ≤ tuX c n lim ar q0 := by
  unfold tuX
  split
  · omega
  · split
    · omega
    · exact tuF_ge
theorem tlX_ge {c : Nat → Int} {n lim ar q0 : Nat} : -1 ≤ tlX c n lim ar q0 := by
  unfold tlX
  split
  · omega
  · by_cases g : c (tlE c n lim ar q0) = 10 ∧ ¬ tDd c (tlE c n lim ar q0 + 1) ar
    · rw [zite_t g]; omega
    · rw [zite_f g]; omega
theorem tkX_ge {c : Nat → Int} {n b lim ar q0 : Nat} : -1 ≤ tkX c n b lim ar q0 := by
  unfold tkX
  split
  · exact tuX_ge
  · exact tlX_ge
theorem tVz_ge {c : Nat → Int} {n b a q m : Nat} (hc : tOk c n) (hq : q ≤ n) : -1 ≤ tVz c n b a q m := by
  unfold tVz
  by_cases e : ∃ i, i < m ∧ tVf c n b a q i ≠ -1
  · rw [zite_t e]
    rcases zlow_sp (fun i => tVf c n b a q i ≠ -1) m with ⟨w1, w2⟩ | ⟨r, w1, w2, w3, w4⟩
    · obtain ⟨i, h1, h2⟩ := e
      exact absurd h2 (w2 i h1)
    · rw [w2]
      have z := tVp_le (b := b) (a := a) (i := r) hc hq (fun j hj => Classical.not_not.mp (w4 j hj))
      exact (tVf_b1 hc z.1).1
  · rw [zite_f e]
    decide
theorem tkX_1 {c : Nat → Int} {n lim d q : Nat} : tkX c n 1 lim d q = tuX c n lim d q := if_pos rfl
theorem tkE_1 {c : Nat → Int} {n lim d q : Nat} : tkE c n 1 lim d q = tuE c n lim d q := if_pos rfl
theorem tkX_0 {c : Nat → Int} {n lim d q : Nat} : tkX c n 0 lim d q = tlX c n lim d q := if_neg (by decide)
theorem tkE_0 {c : Nat → Int} {n lim d q : Nat} : tkE c n 0 lim d q = tlE c n lim d q := if_neg (by decide)
theorem tyG_n {c : Nat → Int} {n b nm op d : Nat} {s : TyS} (h : ¬ tBg c n nm (tyz s d) (tyn s)) : tyG c n b s nm op d = tyF s nm := zite_f h
theorem tyG_t {c : Nat → Int} {n b nm op d : Nat} {s : TyS} (h : tBg c n nm (tyz s d) (tyn s)) : tyG c n b s nm op d = tyB c n b s (tSk tSm c n nm) op d (tKd c nm (tSk tSm c n nm)) := zite_t h
theorem tyB_uf {c : Nat → Int} {n b q op d : Nat} {a : Int} {s : TyS} (ha : a = 9) (h : tkX c n b (op + 2000 - tyk s) d q ≠ -1) : tyf (tyB c n b s q op d a) = tkX c n b (op + 2000 - tyk s) d q := by
  unfold tyB
  rw [if_pos ha, if_neg h]
  have w := tkX_ge (c := c) (n := n) (b := b) (lim := op + 2000 - tyk s) (ar := d) (q0 := q)
  show (((tkX c n b (op + 2000 - tyk s) d q).toNat : Nat) : Int) = _
  omega
theorem tyB_u {c : Nat → Int} {n b q op d : Nat} {a : Int} {s : TyS} (ha : a = 9) (h : tkX c n b (op + 2000 - tyk s) d q = -1) : tyB c n b s q op d a = tyU s (tkE c n b (op + 2000 - tyk s) d q + (1 - b)) d op (tkE c n b (op + 2000 - tyk s) d q) := by
  unfold tyB
  rw [if_pos ha, if_pos h]
theorem tyB_vf {c : Nat → Int} {n b q op d : Nat} {a : Int} {s : TyS} (hc : tOk c n) (hq : q ≤ n) (ha : a ≠ 9) (h : tVz c n b a.toNat q (tFv a.toNat (tyx s)) ≠ -1) : tyf (tyB c n b s q op d a) = tVz c n b a.toNat q (tFv a.toNat (tyx s)) := by
  unfold tyB
  rw [if_neg ha, if_neg h]
  have w := tVz_ge (b := b) (a := a.toNat) (m := tFv a.toNat (tyx s)) hc hq
  show (((tVz c n b a.toNat q (tFv a.toNat (tyx s))).toNat : Nat) : Int) = _
  omega
theorem tyB_vn {c : Nat → Int} {n q op d : Nat} {a : Int} {s : TyS} (ha : a ≠ 9) (h : tVz c n 0 a.toNat q (tFv a.toNat (tyx s)) = -1) (h10 : c (tVp c n 0 a.toNat q (tFv a.toNat (tyx s))) ≠ 10) : tyB c n 0 s q op d a = tyF s (tVp c n 0 a.toNat q (tFv a.toNat (tyx s))) := by
  unfold tyB
  rw [if_neg ha, if_pos h, if_pos ⟨rfl, h10⟩]
theorem tyB_v {c : Nat → Int} {n b q op d : Nat} {a : Int} {s : TyS} (ha : a ≠ 9) (h : tVz c n b a.toNat q (tFv a.toNat (tyx s)) = -1) (h10 : b = 0 → c (tVp c n b a.toNat q (tFv a.toNat (tyx s))) = 10) : tyB c n b s q op d a = tyO s (tVp c n b a.toNat q (tFv a.toNat (tyx s)) + (1 - b)) d a q (tXx c n b a.toNat q (tFv a.toNat (tyx s)) (tyx s)) := by
  unfold tyB
  rw [if_neg ha, if_pos h, if_neg (fun w => w.2 (h10 w.1))]
theorem tyy_O {s : TyS} {p d q : Nat} {a x : Int} : tyy (tyO s p d a q x) (d + 1) = tyn s := by
  have e : tyy (tyO s p d a q x) (d + 1) = (upF (tyo s) d (tyn s) (d + 1 - 1) : Nat) := if_neg (by omega)
  rw [e, Nat.add_sub_cancel, upF_at]
theorem tyy_U {s : TyS} {p d q e d' : Nat} : tyy (tyU s p d q e) d' = tyy s d' := rfl
/-- an object's row is stored -/
theorem zKO_O {k : Nat} {c : Nat → Int} {n b : Nat} {s : TyS} {I L I' L' : ZI} (h : zKO k c n b s I L) {p d q a_ cc : Nat} {a x : Int} (ha : a = a_) (ha8 : a_ ≤ 8) (hcc : I k 10 = cc)
    (g0 : I' k 0 = tyn s + 1) (g2 : I' k 2 = tyk s) (g1 : I' (k + 1) (tyn s) = a ∧ I' (k + 2) (tyn s) = tyy s d ∧ I' (k + 3) (tyn s) = d) (gc : cc ≤ I' k 10 ∧ I' k 10 ≤ p)
    (gv : tKs c n b a_ q (tFv a_ (tyx s)) k (tyn s) cc (I' k 10).toNat I' L') (gL : ∀ w, oCi a_ 0 (tFv a_ (tyx s)) ≤ w → w < 5 → L' (k + 4) (5 * tyn s + w) = tN0 a_ w) (g5 : ∀ w, oCi a_ 1 (tFv a_ (tyx s)) ≤ w → w < 2 → I' (k + 5) (2 * tyn s + w) = cc ∧ I' (k + 6) (2 * tyn s + w) = 0)
    (hf : ∀ x j : Nat, (x = k + 1 ∨ x = k + 2 ∨ x = k + 3) → j ≠ tyn s → I' x j = I x j) (hf5 : ∀ x j : Nat, (x = k + 5 ∨ x = k + 6) → j < 2 * tyn s → I' x j = I x j) (hf7 : ∀ j : Nat, j < cc → I' (k + 7) j = I (k + 7) j) (hfL : ∀ j : Nat, j < 5 * tyn s → L' (k + 4) j = L (k + 4) j) : zKO k c n b (tyO s p d a q x) I' L' := by
  have hw : tKr c n b k (tyW s d a q 0) (tyn s) (((I' k 10).toNat : Nat) : Int) I' L' := tKr_v ha8 (show tyW s d a q 0 0 = a_ from ha) rfl rfl gv (by omega) gL g5
  rw [Int.toNat_of_nonneg (by omega)] at hw
  exact zKO_up h rfl rfl g0 g2 (by omega) gc.2 g1 hw hf hf5 (fun j hj => hf7 j (by omega)) hfL
theorem zKO_U {k : Nat} {c : Nat → Int} {n b : Nat} {s : TyS} {I L I' L' : ZI} (h : zKO k c n b s I L) {p d q e cc : Nat} (hcc : I k 10 = cc) (hqe : q ≤ e) (hcq : cc ≤ q) (hep : e ≤ p)
    (g0 : I' k 0 = tyn s + 1) (g2 : I' k 2 = tyk s + (e - q : Nat)) (g1 : I' (k + 1) (tyn s) = 9 ∧ I' (k + 2) (tyn s) = tyy s d ∧ I' (k + 3) (tyn s) = d) (gc : I' k 10 = cc + (e - q : Nat))
    (gL : ∀ w, w < 5 → L' (k + 4) (5 * tyn s + w) = tN0 9 w) (g5 : I' (k + 5) (2 * tyn s) = cc ∧ I' (k + 6) (2 * tyn s) = (e - q : Nat)) (g51 : I' (k + 5) (2 * tyn s + 1) = cc ∧ I' (k + 6) (2 * tyn s + 1) = 0) (g7 : ∀ t, t < e - q → I' (k + 7) (cc + t) = c (q + t))
    (hf : ∀ x j : Nat, (x = k + 1 ∨ x = k + 2 ∨ x = k + 3) → j ≠ tyn s → I' x j = I x j) (hf5 : ∀ x j : Nat, (x = k + 5 ∨ x = k + 6) → j < 2 * tyn s → I' x j = I x j) (hf7 : ∀ j : Nat, j < cc → I' (k + 7) j = I (k + 7) j) (hfL : ∀ j : Nat, j < 5 * tyn s → L' (k + 4) j = L (k + 4) j) : zKO k c n b (tyU s p d q e) I' L' := by
  have hw : tKr c n b k (tyW s d 9 q e) (tyn s) (cc + ((e : Int) - q)) I' L' := tKr_u (q := q) (e := e) rfl rfl rfl hqe gL g5.1 (g5.2.trans (by omega)) g7 g51.1 g51.2
  have ec : (cc : Int) + ((e : Int) - q) = I' k 10 := by omega
  rw [ec] at hw
  refine zKO_up h rfl rfl g0 ?_ (by omega) (by show I' k 10 ≤ p; omega) g1 hw hf hf5 (fun j hj => hf7 j (by omega)) hfL
  rw [g2]
  show _ = ((tyk s + (e - q) : Nat) : Int)
  omega
theorem tyB_9 {c : Nat → Int} {n b q op d : Nat} {a : Int} {s : TyS} (ha : a = 9) : tyf (tyB c n b s q op d a) = tkX c n b (op + 2000 - tyk s) d q := by
  by_cases h : tkX c n b (op + 2000 - tyk s) d q = -1
  · rw [tyB_u ha h, h]
    rfl
  · exact tyB_uf ha h
theorem tyB_8 {c : Nat → Int} {n q op d : Nat} {a : Int} {s : TyS} (hc : tOk c n) (hq : q ≤ n) (ha : a ≠ 9) : tyf (tyB c n 1 s q op d a) = tVz c n 1 a.toNat q (tFv a.toNat (tyx s)) := by
  by_cases h : tVz c n 1 a.toNat q (tFv a.toNat (tyx s)) = -1
  · rw [tyB_v ha h (fun w => absurd w (by decide)), h]
    rfl
  · exact tyB_vf hc hq ha h
