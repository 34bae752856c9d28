/-! OBJECTS that a call makes: an object at k, its arrays behind it -/
def zDy (ts : List (Nat × Nat)) (fs : List (Nat × Nat × Nat)) (k : Nat) (R : ZR) (S : ZS) : Prop := 40 ≤ k ∧ k + ts.length ≤ S.2.1 ∧ (∀ i t n : Nat, ts[i]? = some (t, n) → S.1 (k + i) = (t, n)) ∧ ∀ i o f u : Nat, fs[i]? = some (o, f, u) → R (k + o) f = some (k + u)
theorem zD_lt {α : Type} {ts : List α} {i : Nat} {e : α} (h : ts[i]? = some e) : i < ts.length := by
  rcases Nat.lt_or_ge i ts.length with q | q
  · exact q
  · rw [List.getElem?_eq_none q] at h
    cases h
theorem zDX {ts : List (Nat × Nat)} {fs : List (Nat × Nat × Nat)} {k t n : Nat} {R : ZR} {S : ZS} (h : zDy ts fs k R S) (i : Nat) (e : ts[i]? = some (t, n)) : xat S (k + i) t := by
  have h1 := zD_lt e
  have h2 := h.2.2.1 i t n e
  have h3 := h.1
  have h4 := h.2.1
  exact ⟨by show 40 ≤ k + i; omega, by omega, by rw [h2]⟩
theorem zDP {ts : List (Nat × Nat)} {fs : List (Nat × Nat × Nat)} {k t n : Nat} {R : ZR} {S : ZS} (h : zDy ts fs k R S) (i : Nat) (e : ts[i]? = some (t, n)) (hn : Nat.ble n 2147483647 = true) {j : Int} (h0 : 0 ≤ j) (h1 : j < n) : zpl S (k + i) t j := by
  have h2 := zD_lt e
  have h3 := h.2.2.1 i t n e
  have h4 := h.2.1
  have h5 := Nat.le_of_ble_eq_true hn
  exact ⟨by omega, by rw [h3], h0, by rw [h3]; exact h1, by omega⟩
theorem zDR {ts : List (Nat × Nat)} {fs : List (Nat × Nat × Nat)} {k o f u : Nat} {R : ZR} {S : ZS} (h : zDy ts fs k R S) (i : Nat) (e : fs[i]? = some (o, f, u)) : R (k + o) f = some (k + u) := h.2.2.2 i o f u e
/-- the shapes only grow -/
def zSg (S S' : ZS) : Prop := S.2.1 ≤ S'.2.1 ∧ ∀ c, c < S.2.1 → S'.1 c = S.1 c
theorem zSg_r (S : ZS) : zSg S S := ⟨Nat.le_refl _, fun _ _ => rfl⟩
theorem zSg_t {S S1 S2 : ZS} (h : zSg S S1) (g : zSg S1 S2) : zSg S S2 := ⟨Nat.le_trans h.1 g.1, fun c q => (g.2 c (Nat.lt_of_lt_of_le q h.1)).trans (h.2 c q)⟩
theorem zSg_n {S : ZS} {t n : Nat} : zSg S (znS S t n) := ⟨Nat.le_succ _, fun c q => if_neg (Nat.ne_of_lt q)⟩
theorem zSh_gr {S S' : ZS} (h : zSh S) (g : zSg S S') : zSh S' := ⟨Nat.le_trans h.1 g.1, fun k h1 h2 => (g.2 k (Nat.lt_of_lt_of_le (Nat.blt_eq.mp h2) h.1)).trans (h.2 k h1 h2)⟩
theorem zDy_gr {ts : List (Nat × Nat)} {fs : List (Nat × Nat × Nat)} {k : Nat} {R R' : ZR} {S S' : ZS} (h : zDy ts fs k R S) (hr : ∀ c f, k ≤ c → R' c f = R c f) (g : zSg S S') : zDy ts fs k R' S' :=
  ⟨h.1, Nat.le_trans h.2.1 g.1, fun i t n e => (g.2 _ (by have := zD_lt e; have := h.2.1; omega)).trans (h.2.2.1 i t n e), fun i o f u e => (hr _ f (Nat.le_add_right _ _)).trans (h.2.2.2 i o f u e)⟩
/-! the tables of objects -/
def zT17 : List (Nat × Nat) := [(17, 25), (100, 12), (100, 60), (100, 1024), (103, 1024), (103, 1024), (101, 1024), (100, 4), (100, 4), (100, 4), (103, 12), (100, 12), (100, 12288), (101, 12), (100, 12), (100, 12), (101, 1024), (103, 1024), (100, 12)]
def zF17 : List (Nat × Nat × Nat) := [(0, 6, 1), (0, 7, 2), (0, 8, 3), (0, 9, 4), (0, 10, 5), (0, 11, 6), (0, 12, 7), (0, 13, 8), (0, 14, 9), (0, 15, 10), (0, 16, 11), (0, 17, 12), (0, 18, 13), (0, 19, 14), (0, 20, 15), (0, 22, 16), (0, 23, 17), (0, 24, 18)]
def zT18 : List (Nat × Nat) := [(18, 33), (100, 16), (100, 16), (100, 100), (101, 400), (103, 100), (100, 50), (101, 100), (100, 60), (100, 60), (101, 120), (100, 60), (100, 60), (101, 120), (103, 60), (100, 90), (100, 64), (100, 1000), (100, 19520), (100, 19520), (100, 960), (100, 960), (103, 960)]
def zF18 : List (Nat × Nat × Nat) := [(0, 2, 1), (0, 3, 2), (0, 5, 3), (0, 6, 4), (0, 7, 5), (0, 9, 6), (0, 10, 7), (0, 12, 8), (0, 13, 9), (0, 14, 10), (0, 16, 11), (0, 17, 12), (0, 18, 13), (0, 19, 14), (0, 21, 15), (0, 23, 16), (0, 24, 17), (0, 25, 18), (0, 26, 19), (0, 27, 20), (0, 28, 21), (0, 30, 22)]
def zT15 : List (Nat × Nat) := [(15, 19), (103, 60), (100, 60), (100, 60), (101, 60), (101, 60), (101, 60), (101, 60), (101, 60), (100, 60), (100, 40), (100, 60), (100, 60), (100, 60)]
def zF15 : List (Nat × Nat × Nat) := [(0, 3, 1), (0, 4, 2), (0, 5, 3), (0, 6, 4), (0, 7, 5), (0, 8, 6), (0, 9, 7), (0, 10, 8), (0, 11, 9), (0, 12, 10), (0, 13, 11), (0, 14, 12), (0, 15, 13)]
def zT14 : List (Nat × Nat) := [(14, 25), (100, 60), (100, 60), (100, 60), (100, 60), (100, 60), (101, 480), (101, 480), (101, 60), (100, 30), (100, 30), (100, 30), (101, 30), (100, 6300), (100, 6300), (101, 2100), (101, 2100), (100, 180)]
def zF14 : List (Nat × Nat × Nat) := [(0, 3, 1), (0, 4, 2), (0, 5, 3), (0, 6, 4), (0, 7, 5), (0, 8, 6), (0, 9, 7), (0, 10, 8), (0, 12, 9), (0, 13, 10), (0, 14, 11), (0, 15, 12), (0, 18, 13), (0, 20, 14), (0, 21, 15), (0, 22, 16), (0, 24, 17)]
def zT16 : List (Nat × Nat) := [(16, 39), (100, 2), (101, 20), (103, 20), (100, 2), (100, 120), (101, 120), (101, 120), (101, 120), (101, 120), (100, 120), (100, 120), (103, 120), (100, 60), (100, 60), (101, 2048), (100, 3000), (100, 2000), (100, 8), (100, 8), (100, 2400), (100, 2600)]
def zF16 : List (Nat × Nat × Nat) := [(0, 1, 1), (0, 2, 2), (0, 3, 3), (0, 4, 4), (0, 5, 5), (0, 6, 6), (0, 7, 7), (0, 8, 8), (0, 9, 9), (0, 10, 10), (0, 11, 11), (0, 12, 12), (0, 14, 13), (0, 15, 14), (0, 16, 15), (0, 18, 16), (0, 20, 17), (0, 26, 18), (0, 27, 19), (0, 28, 20), (0, 30, 21)]
def zT20 : List (Nat × Nat) := [(20, 31), (100, 4000), (100, 200), (100, 200), (101, 1000), (100, 400), (100, 16000), (100, 200), (100, 200), (100, 2000), (100, 201), (100, 201), (100, 110000)]
def zF20 : List (Nat × Nat × Nat) := [(0, 2, 1), (0, 5, 2), (0, 6, 3), (0, 7, 4), (0, 8, 5), (0, 9, 6), (0, 10, 7), (0, 11, 8), (0, 12, 9), (0, 23, 10), (0, 24, 11), (0, 25, 12)]
def zT2 : List (Nat × Nat) := [(2, 13), (100, 200), (100, 200), (100, 200), (101, 1000), (100, 400), (100, 400), (104, 4000), (104, 26000)]
def zF2 : List (Nat × Nat × Nat) := [(0, 3, 1), (0, 4, 2), (0, 5, 3), (0, 6, 4), (0, 7, 5), (0, 8, 6), (0, 9, 7), (0, 11, 8)]
def zT1 : List (Nat × Nat) := [(1, 19), (7, 3), (100, 360), (100, 60), (100, 60), (7, 3), (100, 240), (100, 1950), (100, 60), (100, 60), (100, 2048), (104, 800)]
def zF1 : List (Nat × Nat × Nat) := [(0, 1, 1), (0, 5, 3), (0, 7, 4), (0, 8, 5), (0, 10, 7), (0, 12, 8), (0, 14, 9), (0, 15, 10), (0, 16, 11), (1, 0, 2), (5, 0, 6)]
def zT8 : List (Nat × Nat) := [(8, 7), (104, 400), (100, 400), (100, 26)]
def zF8 : List (Nat × Nat × Nat) := [(0, 0, 1), (0, 5, 2), (0, 6, 3)]
