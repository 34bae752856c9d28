/-! CUTS: the shapes of a board, row by row: class, net, layer, first place, last place -/
abbrev CuR : Type := Nat → Int
def cRw (a b d e g : Int) : CuR := fun c => if c = 0 then a else if c = 1 then b else if c = 2 then d else if c = 3 then e else if c = 4 then g else 0
def cg (w : List CuR) (i c : Nat) : Int := (w.getD i (fun _ => 0)) c
theorem cg_l {w x : List CuR} {i c : Nat} (h : i < w.length) : cg (w ++ x) i c = cg w i c := by
  unfold cg
  rw [List.getD_eq_getElem?_getD, List.getD_eq_getElem?_getD, List.getElem?_append_left h]
theorem cg_e {w : List CuR} {r : CuR} {c : Nat} : cg (w ++ [r]) w.length c = r c := by
  unfold cg
  rw [List.getD_eq_getElem?_getD, List.getElem?_append_right (Nat.le_refl _), Nat.sub_self]
  rfl
theorem cLn {w : List CuR} {r : CuR} : (w ++ [r]).length = w.length + 1 := by rw [List.length_append]; rfl
theorem cg_up {w : List CuR} {a b d e g : Int} {x y : Nat} (h : x < w.length + 1) : upR (cg w) w.length a b d e g x y = cg (w ++ [cRw a b d e g]) x y := by
  by_cases q : x = w.length
  · subst q
    rw [cg_e]
    unfold upR cRw
    rw [if_pos rfl]
  · rw [upR_ne q, cg_l (by omega)]
/-- pieces one behind the other -/
def cuC {α : Type} (f : Nat → List α) : Nat → List α
  | 0 => []
  | n + 1 => cuC f n ++ f n
theorem cuC_le {α : Type} {f : Nat → List α} {a : Nat} : ∀ {b : Nat}, a ≤ b → ∃ x, cuC f b = cuC f a ++ x
  | 0, h => ⟨[], by have e : a = 0 := by omega
                    rw [e, List.append_nil]⟩
  | b + 1, h => by
    by_cases e : a = b + 1
    · exact ⟨[], by rw [e, List.append_nil]⟩
    · obtain ⟨x, hx⟩ := cuC_le (f := f) (a := a) (b := b) (by omega)
      exact ⟨x ++ f b, by show cuC f b ++ f b = _; rw [hx, List.append_assoc]⟩
theorem cuC_l {α : Type} {f : Nat → List α} {m : Nat} : ∀ {n : Nat}, (∀ i, i < n → (f i).length ≤ m) → (cuC f n).length ≤ n * m
  | 0, _ => Nat.zero_le _
  | n + 1, h => by
    have w := cuC_l (f := f) (m := m) (n := n) (fun i hi => h i (by omega))
    have w2 := h n (by omega)
    show (cuC f n ++ f n).length ≤ _
    rw [List.length_append, Nat.succ_mul]
    omega
/-- how long the run is that ends at n; the runs that have ended -/
def cuR (h : Nat → Int) : Nat → Nat
  | 0 => 0
  | n + 1 => if h n = 1 then cuR h n + 1 else 0
def cuL (mk : Nat → Nat → CuR) (h : Nat → Int) : Nat → List CuR
  | 0 => []
  | n + 1 => cuL mk h n ++ (if h n = 1 then [] else if 1 < cuR h n then [mk (n - cuR h n) (n - 1)] else [])
theorem cuR_le {h : Nat → Int} : ∀ n, cuR h n ≤ n
  | 0 => Nat.le_refl _
  | n + 1 => by
    have w := cuR_le (h := h) n
    show (if h n = 1 then cuR h n + 1 else 0) ≤ n + 1
    split <;> omega
theorem cuR_y {h : Nat → Int} {n : Nat} (e : h n = 1) : cuR h (n + 1) = cuR h n + 1 := if_pos e
theorem cuR_n {h : Nat → Int} {n : Nat} (e : ¬ h n = 1) : cuR h (n + 1) = 0 := if_neg e
theorem cuL_y {mk : Nat → Nat → CuR} {h : Nat → Int} {n : Nat} (e : h n = 1) : cuL mk h (n + 1) = cuL mk h n := by
  show cuL mk h n ++ (if h n = 1 then [] else _) = _
  rw [if_pos e, List.append_nil]
theorem cuL_r {mk : Nat → Nat → CuR} {h : Nat → Int} {n : Nat} (e : ¬ h n = 1) (r : 1 < cuR h n) : cuL mk h (n + 1) = cuL mk h n ++ [mk (n - cuR h n) (n - 1)] := by
  show cuL mk h n ++ (if h n = 1 then [] else if 1 < cuR h n then _ else []) = _
  rw [if_neg e, if_pos r]
theorem cuL_n {mk : Nat → Nat → CuR} {h : Nat → Int} {n : Nat} (e : ¬ h n = 1) (r : ¬ 1 < cuR h n) : cuL mk h (n + 1) = cuL mk h n := by
  show cuL mk h n ++ (if h n = 1 then [] else if 1 < cuR h n then _ else []) = _
  rw [if_neg e, if_neg r, List.append_nil]
theorem cuL_l {mk : Nat → Nat → CuR} {h : Nat → Int} : ∀ n, (cuL mk h n).length ≤ n
  | 0 => Nat.le_refl _
  | n + 1 => by
    have w := cuL_l (mk := mk) (h := h) n
    by_cases e : h n = 1
    · rw [cuL_y e]; omega
    · by_cases r : 1 < cuR h n
      · rw [cuL_r e r, List.length_append]
        show _ + 1 ≤ _
        omega
      · rw [cuL_n e r]; omega
/-- whether a net holds a cell -/
def cuHb (s : BdS) (net l i j : Int) : Int := if cxI (bW s) (bH s) (bD s) l i j ≠ -1 ∧ bho s (cxI (bW s) (bH s) (bD s) l i j).toNat = net then 1 else 0
theorem cuHb_y {s : BdS} {net l i j : Int} (h : cxI (bW s) (bH s) (bD s) l i j ≠ -1) (h2 : bho s (cxI (bW s) (bH s) (bD s) l i j).toNat = net) : cuHb s net l i j = 1 := if_pos ⟨h, h2⟩
theorem cuHb_n {s : BdS} {net l i j : Int} (h : ¬ (cxI (bW s) (bH s) (bD s) l i j ≠ -1 ∧ bho s (cxI (bW s) (bH s) (bD s) l i j).toNat = net)) : cuHb s net l i j = 0 := if_neg h
theorem cuHb_b {s : BdS} {net l i j : Int} : cuHb s net l i j = 0 ∨ cuHb s net l i j = 1 := by
  unfold cuHb
  split
  · exact Or.inr rfl
  · exact Or.inl rfl
def cuHl (s : BdS) (net : Int) (l r al n : Nat) : Int := if al = 1 then cuHb s net l n r else cuHb s net l r n
def cuPl (r al n : Nat) : Int := if al = 1 then 16 * (r : Int) + n else 16 * (n : Int) + r
def cuMx (s : BdS) (al : Nat) : Nat := if al = 1 then bW s else bH s
def cuMl (s : BdS) (al : Nat) : Nat := if al = 1 then bH s else bW s
def cuMk (net : Int) (l r al a b : Nat) : CuR := cRw 0 net l (cuPl r al a) (cuPl r al b)
def cuLn (s : BdS) (net : Int) (l r al : Nat) : List CuR := cuL (cuMk net l r al) (cuHl s net l r al) (cuMx s al + 1)
def cuRs (s : BdS) (net : Int) (al : Nat) : List CuR := cuC (fun l => cuC (fun r => cuLn s net l r al) (cuMl s al)) (bD s)
def cuHo (s : BdS) (net : Int) (l j i : Nat) : List CuR := if cuHb s net l i j = 1 ∧ cuHb s net ((l : Int) + 1) i j = 1 then [cRw 2 net l (16 * (j : Int) + i) (16 * (j : Int) + i), cRw 2 net ((l : Int) + 1) (16 * (j : Int) + i) (16 * (j : Int) + i), cRw 3 net l (16 * (j : Int) + i) (16 * (j : Int) + i)] else []
def cuHs (s : BdS) (net : Int) : List CuR := cuC (fun l => cuC (fun j => cuC (fun i => cuHo s net l j i) (bW s)) (bH s)) (bD s - 1)
def cuNt (s : BdS) (n : Nat) : List CuR := if bN s n 2 = 1 then cuRs s n 1 ++ cuRs s n 0 ++ cuHs s n else []
def cuPp (s : BdS) (c : Nat) : Int := 16 * ((c / bW s % bH s : Nat) : Int) + ((c % bW s : Nat) : Int)
def cuPd (s : BdS) (p : Nat) : CuR := cRw 1 (bP s p 3) ((bP s p 2).toNat / bW s / bH s : Nat) (cuPp s (bP s p 2).toNat) (cuPp s (bP s p 2).toNat)
def cuS (s : BdS) : List CuR := cuC (fun p => [cuPd s p]) (bnp s) ++ cuC (cuNt s) (bnn s)
/-- the shapes in the class's cut -/
def zUw (k : Nat) (w : List CuR) (I : ZI) : Prop := zRT (k + 1) 60 (min w.length 60) (cg w) I ∧ I k 2 = if 60 < w.length then 1 else 0
theorem zUw_fr {k : Nat} {w : List CuR} {I I' : ZI} (h : zUw k w I) (hf : ∀ c j : Nat, (c = k ∧ j = 2) ∨ (c = k + 1 ∧ (j = 1 ∨ j = 2)) ∨ c = k + 2 → I' c j = I c j) : zUw k w I' := ⟨zRT_fr h.1 (fun c j q => hf c j (by omega)), (hf k 2 (by omega)).trans h.2⟩
theorem zUw_a {k : Nat} {w : List CuR} {a b d e g : Int} {I I' : ZI} (h : zUw k w I) (hw : w.length < 60) (hT : zRT (k + 1) 60 (min w.length 60 + 1) (upR (cg w) (min w.length 60) a b d e g) I') (h2 : I' k 2 = I k 2) : zUw k (w ++ [cRw a b d e g]) I' := by
  have hm : min w.length 60 = w.length := by omega
  rw [hm] at hT
  unfold zUw
  rw [cLn, show min (w.length + 1) 60 = w.length + 1 by omega]
  obtain ⟨t1, t2, t3, t4⟩ := hT
  refine ⟨⟨t1, t2, t3, fun x y hx hy => (t4 x y hx hy).trans (cg_up hx)⟩, ?_⟩
  have w2 := h.2
  rw [if_neg (by omega)] at w2
  rw [if_neg (by omega)]
  omega
theorem zUw_s {k : Nat} {w x : List CuR} {I : ZI} (h : zUw k w I) (hw : 60 < w.length) : zUw k (w ++ x) I := by
  obtain ⟨⟨t1, t2, t3, t4⟩, h2⟩ := h
  unfold zUw
  have e : min (w ++ x).length 60 = min w.length 60 := by rw [List.length_append]; omega
  rw [e]
  refine ⟨⟨t1, t2, t3, fun x y hx hy => (t4 x y hx hy).trans (cg_l (by omega)).symm⟩, ?_⟩
  rw [if_pos hw] at h2
  rw [if_pos (by rw [List.length_append]; omega)]
  exact h2
theorem zUw_f {k : Nat} {w : List CuR} {r : CuR} {I I' : ZI} (h : zUw k w I) (hw : ¬ w.length < 60) (h2 : I' k 2 = 1) (hf : ∀ c j : Nat, ¬ (c = k ∧ j = 2) → I' c j = I c j) : zUw k (w ++ [r]) I' := by
  obtain ⟨⟨t1, t2, t3, t4⟩, _⟩ := h
  unfold zUw
  have e : min (w ++ [r]).length 60 = min w.length 60 := by rw [cLn]; omega
  rw [e]
  refine ⟨⟨(hf _ _ (by omega)).trans t1, (hf _ _ (by omega)).trans t2, t3, fun x y hx hy => ((hf _ _ (by omega)).trans (t4 x y hx hy)).trans (cg_l (by omega)).symm⟩, ?_⟩
  rw [if_pos (by rw [cLn]; omega)]
  exact h2
theorem zUw_sp {k : Nat} {w : List CuR} {I : ZI} (h : zUw k w I) : (I k 2 = 0 ∧ w.length ≤ 60) ∨ (I k 2 = 1 ∧ 60 < w.length) := by
  have h2 := h.2
  by_cases e : 60 < w.length
  · rw [if_pos e] at h2
    exact Or.inr ⟨h2, e⟩
  · rw [if_neg e] at h2
    exact Or.inl ⟨h2, by omega⟩
theorem zUw_e {k : Nat} {w w' : List CuR} {I : ZI} (h : zUw k w I) (e : w = w') : zUw k w' I := e ▸ h
theorem cuHb_iff {s : BdS} {net l i j c v : Int} (hc : c = cxI (bW s) (bH s) (bD s) l i j) (h : c ≠ -1) (hv : v = bho s c.toNat) : cuHb s net l i j = 1 ↔ v = net := by
  subst hc
  unfold cuHb
  constructor
  · intro q
    split at q
    · rename_i z; rw [hv]; exact z.2
    · omega
  · intro q
    rw [if_pos ⟨h, by rw [← hv]; exact q⟩]
theorem cuHb_m {s : BdS} {net l i j c : Int} (hc : c = cxI (bW s) (bH s) (bD s) l i j) (h : c = -1) : ¬ cuHb s net l i j = 1 := by
  subst hc
  rw [cuHb_n (fun q => q.1 h)]
  decide
theorem cuHl_1 {s : BdS} {net : Int} {l r al n : Nat} (h : al = 1) : cuHl s net l r al n = cuHb s net l n r := if_pos h
theorem cuHl_0 {s : BdS} {net : Int} {l r al n : Nat} (h : al ≠ 1) : cuHl s net l r al n = cuHb s net l r n := if_neg h
theorem cuPl_1 {r al n : Nat} (h : al = 1) : cuPl r al n = 16 * (r : Int) + n := if_pos h
theorem cuPl_0 {r al n : Nat} (h : al ≠ 1) : cuPl r al n = 16 * (n : Int) + r := if_neg h
theorem cuMx_1 {s : BdS} {al : Nat} (h : al = 1) : cuMx s al = bW s := if_pos h
theorem cuMx_0 {s : BdS} {al : Nat} (h : al ≠ 1) : cuMx s al = bH s := if_neg h
theorem cuMl_1 {s : BdS} {al : Nat} (h : al = 1) : cuMl s al = bH s := if_pos h
theorem cuMl_0 {s : BdS} {al : Nat} (h : al ≠ 1) : cuMl s al = bW s := if_neg h
theorem cuPp_c {s : BdS} {l i j : Nat} {c : Int} (hc : c = cxI (bW s) (bH s) (bD s) l i j) (h : c ≠ -1) : cuPp s c.toNat = 16 * (j : Int) + i := by
  unfold cxI at hc
  split at hc
  · rename_i z
    rw [hc, Int.toNat_natCast]
    unfold cuPp
    simp only [Int.toNat_natCast]
    rw [cx_row (by omega) (by omega), cx_col (by omega)]
  · exact absurd hc h
theorem zUw_c {k r N : Nat} {w : List CuR} {f : Nat → List CuR} {I : ZI} (h : zUw k (w ++ cuC f r) I) (hr : r ≤ N) (hs : r = N ∨ 60 < (w ++ cuC f r).length) : zUw k (w ++ cuC f N) I := by
  rcases hs with e | e
  · exact e ▸ h
  · obtain ⟨x, hx⟩ := cuC_le (f := f) hr
    exact zUw_e (zUw_s (x := x) h e) (by rw [hx, List.append_assoc])
theorem cuHo_y {s : BdS} {net : Int} {l j i : Nat} (h1 : cuHb s net l i j = 1) (h2 : cuHb s net ((l : Int) + 1) i j = 1) : cuHo s net l j i = [cRw 2 net l (16 * (j : Int) + i) (16 * (j : Int) + i), cRw 2 net ((l : Int) + 1) (16 * (j : Int) + i) (16 * (j : Int) + i), cRw 3 net l (16 * (j : Int) + i) (16 * (j : Int) + i)] := if_pos ⟨h1, h2⟩
theorem cuHo_n {s : BdS} {net : Int} {l j i : Nat} (h : ¬ (cuHb s net l i j = 1 ∧ cuHb s net ((l : Int) + 1) i j = 1)) : cuHo s net l j i = [] := if_neg h
theorem zUw_b {k : Nat} {w : List CuR} {I : ZI} {v : Int} (h : zUw k w I) (e : v = I k 2) : v = 0 ∨ (v = 1 ∧ 60 < w.length) := by
  rcases zUw_sp h with z | z <;> omega
