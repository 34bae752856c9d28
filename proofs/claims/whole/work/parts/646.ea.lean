/-! CUTS, the reference: all that is told, in one -/
def zMK (k q d : Nat) (w : List CuR) (pc : Nat) (D : Int) (I L : ZI) : Prop := (zCk k w I L ∧ zFrs k w.length I L) ∧ (zPc q w pc I L ∧ pc ≤ w.length ∧ pc ≤ cuNp w) ∧ (zDh d w I L ∧ zMh w I ∧ cu3 w) ∧ ((I k 1 = D ∧ I k 11 = 0 ∧ I k 23 = 0) ∧ I q 1 = D ∧ D ≤ 8) ∧ I 165 42 = w.length ∧ I 165 41 = 1
theorem zMK_fr {k q d pc : Nat} {w : List CuR} {D : Int} {I I' L L' : ZI} (h : zMK k q d w pc D I L) (hf : ∀ c j : Nat, (k ≤ c ∧ c ≤ k + 17) ∨ (q ≤ c ∧ c ≤ q + 13) ∨ (d ≤ c ∧ c ≤ d + 21) ∨ (c = 165 ∧ (j = 35 ∨ j = 41 ∨ j = 42)) ∨ c = 208 ∨ c = 209 ∨ c = 210 → I' c j = I c j) (hl : ∀ c j : Nat, (k ≤ c ∧ c ≤ k + 17) ∨ (q ≤ c ∧ c ≤ q + 13) ∨ (d ≤ c ∧ c ≤ d + 21) → L' c j = L c j) : zMK k q d w pc D I' L' := by
  obtain ⟨⟨a1, a2⟩, ⟨b1, b2⟩, ⟨c1, c2, c3⟩, ⟨d1, d2, d3⟩, e1, e2⟩ := h
  exact ⟨⟨zCk_fr a1 (fun c j z => hf c j (by omega)) (fun c j z => hl c j (by omega)), zFrs_fr a2 (fun c j z => hf c j (by omega)) (fun c j z => hl c j (by omega))⟩, ⟨zPc_fr b1 (fun c j z => hf c j (by omega)) (fun c j z => hl c j (by omega)), b2⟩, ⟨zDh_fr c1 (fun c j z => hf c j (by omega)) (fun c j z => hl c j (by omega)), zMh_fr c2 (fun c j z => hf c j (by omega)), c3⟩, ⟨⟨(hf _ _ (by omega)).trans d1.1, (hf _ _ (by omega)).trans d1.2.1, (hf _ _ (by omega)).trans d1.2.2⟩, (hf _ _ (by omega)).trans d2, d3⟩, (hf _ _ (by omega)).trans e1, (hf _ _ (by omega)).trans e2⟩
theorem zMK_e {k q d pc : Nat} {w w' : List CuR} {D : Int} {I L : ZI} (h : zMK k q d w pc D I L) (e : w = w') : zMK k q d w' pc D I L := e ▸ h
theorem zMK_h {k q d pc : Nat} {w : List CuR} {r1 r2 r3 : CuR} {D : Int} {I' L' : ZI} (hpc : pc ≤ w.length ∧ pc ≤ cuNp w) (h3 : cu3 (w ++ [r1] ++ [r2] ++ [r3])) (e1 : r1 0 = 2) (e2 : r2 0 = 2) (e3 : r3 0 = 3) (hD8 : D ≤ 8) (h42 : I' 165 42 = w.length + 3) (h1 : zCk k (w ++ [r1] ++ [r2] ++ [r3]) I' L') (h2 : zFrs k (w.length + 3) I' L') (hP : zPc q (w ++ [r1] ++ [r2] ++ [r3]) pc I' L') (hDh : zDh d (w ++ [r1] ++ [r2] ++ [r3]) I' L') (hM : zMh (w ++ [r1] ++ [r2] ++ [r3]) I') (hD : (I' k 1 = D ∧ I' k 11 = 0 ∧ I' k 23 = 0) ∧ I' q 1 = D) (h41 : I' 165 41 = 1) : zMK k q d (w ++ [r1] ++ [r2] ++ [r3]) pc D I' L' := by
  have hl : (w ++ [r1] ++ [r2] ++ [r3]).length = w.length + 3 := by rw [cLn, cLn, cLn]
  refine ⟨⟨h1, by rw [hl]; exact h2⟩, ⟨hP, by rw [hl]; omega, ?_⟩, ⟨hDh, hM, h3⟩, ⟨hD.1, hD.2, hD8⟩, by rw [hl, h42]; rfl, h41⟩
  rw [(cuNp_a).1 (by rw [e3]; decide), (cuNp_a).2 e2, (cuNp_a).2 e1]
  omega
theorem zMK_r {k q d pc : Nat} {w : List CuR} {net l e g : Int} {D : Int} {I' L' : ZI} (hpc : pc ≤ w.length ∧ pc ≤ cuNp w) (h3 : cu3 w) (hD8 : D ≤ 8) (h42 : I' 165 42 = w.length + 1) (h1 : zCk k (w ++ [cRw 0 net l e g]) I' L') (h2 : zFrs k (w.length + 1) I' L') (hP : zPc q (w ++ [cRw 0 net l e g]) pc I' L') (hDh : zDh d w I' L') (hM : zMh w I') (hD : (I' k 1 = D ∧ I' k 11 = 0 ∧ I' k 23 = 0) ∧ I' q 1 = D) (h41 : I' 165 41 = 1) : zMK k q d (w ++ [cRw 0 net l e g]) pc D I' L' := by
  refine ⟨⟨h1, by rw [cLn]; exact h2⟩, ⟨hP, by rw [cLn]; omega, ?_⟩, ⟨zDh_n hDh (by show (0 : Int) ≠ 3; decide), zMh_n hM (by show (0 : Int) ≠ 3; decide), cu3_a h3 (cu3_n fun r hr => by rw [List.mem_singleton.mp hr]; show (0 : Int) ≠ 3; decide)⟩, ⟨hD.1, hD.2, hD8⟩, by rw [cLn, h42]; rfl, h41⟩
  rw [(cuNp_a).1 (by show (0 : Int) ≠ 2; decide)]
  omega
theorem cuHo_e {s : BdS} {net : Int} {l j i : Nat} {w : List CuR} (h1 : cuHb s net l i j = 1) (h2 : cuHb s net ((l : Int) + 1) i j = 1) : w ++ [cRw 2 net l (16 * (j : Int) + i) (16 * (j : Int) + i)] ++ [cRw 2 net ((l : Int) + 1) (16 * (j : Int) + i) (16 * (j : Int) + i)] ++ [cRw 3 net l (16 * (j : Int) + i) (16 * (j : Int) + i)] = w ++ cuHo s net l j i := by
  rw [cuHo_y h1 h2, List.append_assoc, List.append_assoc]
  rfl
/-- holes of one layer -/
def cuH1 (s : BdS) (net : Int) (l : Nat) (j : Nat) : List CuR := cuC (fun j => cuC (fun i => cuHo s net l j i) (bW s)) j
def cuH2 (s : BdS) (net : Int) (l j : Nat) (i : Nat) : List CuR := cuC (fun i => cuHo s net l j i) i
theorem cuH1_s {s : BdS} {net : Int} {l j : Nat} : cuH1 s net l (j + 1) = cuH1 s net l j ++ cuH2 s net l j (bW s) := rfl
theorem cuH2_s {s : BdS} {net : Int} {l j i : Nat} : cuH2 s net l j (i + 1) = cuH2 s net l j i ++ cuHo s net l j i := rfl
theorem cuC_ml {α : Type} {f : Nat → List α} {a b : Nat} (h : a ≤ b) : (cuC f a).length ≤ (cuC f b).length := by
  obtain ⟨x, hx⟩ := cuC_le (f := f) h
  rw [hx, List.length_append]
  omega
theorem cuH_l {s : BdS} {net : Int} {l j i : Nat} (hj : j < bH s) (hi : i < bW s) (h : cuHb s net l i j = 1) (h2 : cuHb s net ((l : Int) + 1) i j = 1) : (cuH1 s net l j).length + (cuH2 s net l j i).length + 3 ≤ (cuH1 s net l (bH s)).length := by
  have a := cuC_ml (f := fun j => cuC (fun i => cuHo s net l j i) (bW s)) (show j + 1 ≤ bH s by omega)
  have b := cuC_ml (f := fun i => cuHo s net l j i) (show i + 1 ≤ bW s by omega)
  have e : (cuHo s net l j i).length = 3 := by rw [cuHo_y h h2]; rfl
  have e1 : (cuC (fun j => cuC (fun i => cuHo s net l j i) (bW s)) (j + 1)).length = (cuH1 s net l j).length + (cuH2 s net l j (bW s)).length := by
    show (cuH1 s net l j ++ cuH2 s net l j (bW s)).length = _
    rw [List.length_append]
  have e2 : (cuC (fun i => cuHo s net l j i) (i + 1)).length = (cuH2 s net l j i).length + 3 := by
    show (cuH2 s net l j i ++ cuHo s net l j i).length = _
    rw [List.length_append, e]
  have e3 : (cuH2 s net l j (bW s)).length = (cuC (fun i => cuHo s net l j i) (bW s)).length := rfl
  have e4 : (cuH1 s net l (bH s)).length = (cuC (fun j => cuC (fun i => cuHo s net l j i) (bW s)) (bH s)).length := rfl
  omega
