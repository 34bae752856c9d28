/-! CUTS: distances, rules, what breaks them -/
def cuG (w : List CuR) : Prop := ∀ i, i < w.length → (0 ≤ cg w i 0 ∧ cg w i 0 ≤ 3) ∧ (0 ≤ cg w i 1 ∧ cg w i 1 ≤ 11) ∧ (0 ≤ cg w i 2 ∧ cg w i 2 ≤ 3) ∧ (0 ≤ cg w i 3 ∧ cg w i 3 ≤ 255) ∧ (0 ≤ cg w i 4 ∧ cg w i 4 ≤ 255) ∧
  (cg w i 0 ≠ 0 → cg w i 4 = cg w i 3) ∧ (cg w i 0 = 0 → (cg w i 3 % 16 < cg w i 4 % 16 ∧ cg w i 3 / 16 = cg w i 4 / 16) ∨ (cg w i 3 % 16 = cg w i 4 % 16 ∧ cg w i 3 / 16 < cg w i 4 / 16)) ∧ (cg w i 0 = 3 → cg w i 2 ≤ 2)
theorem zUw_T {k : Nat} {w : List CuR} {I : ZI} (h : zUw k w I) (hl : w.length ≤ 60) : zRT (k + 1) 60 w.length (cg w) I := by
  have w1 := h.1
  rwa [show min w.length 60 = w.length by omega] at w1
def cuRa (c : Int) : Int := if c = 0 then 100 else if c = 1 then 300 else if c = 2 then 250 else if c = 3 then 150 else 0
theorem cuRa_q : ∀ i : Nat, i < 4 → (xmh.1 3 i).toInt = cuRa (i : Int) := by decide +kernel
theorem zSt_ra {I L : ZI} (h : zSt I L) {i : Nat} (hi : i < 4) : I 3 i = cuRa i := (h 3 (by decide) (by decide) i (by omega)).1.trans (cuRa_q i hi)
theorem cuRa_b {c : Int} : 0 ≤ cuRa c ∧ cuRa c ≤ 300 := by
  unfold cuRa
  split
  · omega
  · split
    · omega
    · split
      · omega
      · split <;> omega
/-- where the line of a shape begins (0) or ends (1), along x (1) or y -/
def cuE (w : List CuR) (i ax e : Nat) : Int := 1000 * (if ax = 1 then cg w i (if e = 1 then 4 else 3) % 16 else cg w i (if e = 1 then 4 else 3) / 16)
theorem cuE_b {w : List CuR} {i ax e : Nat} (h : cuG w) (hi : i < w.length) : 0 ≤ cuE w i ax e ∧ cuE w i ax e ≤ 15000 := by
  have z := h i hi
  have z3 : 0 ≤ cg w i (if e = 1 then 4 else 3) ∧ cg w i (if e = 1 then 4 else 3) ≤ 255 := by
    by_cases q : e = 1
    · rw [if_pos q]; omega
    · rw [if_neg q]; omega
  unfold cuE
  by_cases q : ax = 1
  · rw [if_pos q]; omega
  · rw [if_neg q]; omega
def cuGp (a b c d wd : Int) : Int := max 0 (max (c - b) (a - d) - wd)
theorem cuGp_b {a b c d wd : Int} (h1 : 0 ≤ a ∧ a ≤ 15000) (h2 : 0 ≤ b ∧ b ≤ 15000) (h3 : 0 ≤ c ∧ c ≤ 15000) (h4 : 0 ≤ d ∧ d ≤ 15000) (h5 : 0 ≤ wd) : 0 ≤ cuGp a b c d wd ∧ cuGp a b c d wd ≤ 15000 := by
  unfold cuGp
  omega
def cuGx (w : List CuR) (a b ax : Nat) (wd : Int) : Int := cuGp (cuE w a ax 0) (cuE w a ax 1) (cuE w b ax 0) (cuE w b ax 1) wd
def cuSq (w : List CuR) (a b : Nat) (wd : Int) : Int := cuGx w a b 1 wd * cuGx w a b 1 wd + cuGx w a b 0 wd * cuGx w a b 0 wd
theorem cuGx_b {w : List CuR} {a b ax : Nat} {wd : Int} (h : cuG w) (ha : a < w.length) (hb : b < w.length) (h5 : 0 ≤ wd) : 0 ≤ cuGx w a b ax wd ∧ cuGx w a b ax wd ≤ 15000 := cuGp_b (cuE_b h ha) (cuE_b h ha) (cuE_b h hb) (cuE_b h hb) h5
theorem cuSq_b {w : List CuR} {a b : Nat} {wd : Int} (h : cuG w) (ha : a < w.length) (hb : b < w.length) (h5 : 0 ≤ wd) : 0 ≤ cuSq w a b wd ∧ cuSq w a b wd ≤ 450000000 := by
  have w1 := cuGx_b (ax := 1) h ha hb h5
  have w0 := cuGx_b (ax := 0) h ha hb h5
  have z1 := zmb w1.1 w1.2 w1.1 w1.2
  have z0 := zmb w0.1 w0.2 w0.1 w0.2
  unfold cuSq
  omega
/-- rules -/
def cuIs (t c : Int) : Prop := t = -1 ∨ t = c
def cuTh (rf : Nat → Nat → Int) (r : Nat) (c o : Int) : Prop := (o = -1 ∧ cuIs (rf r 1) c) ∨ (o ≠ -1 ∧ ((cuIs (rf r 1) c ∧ cuIs (rf r 2) o) ∨ (cuIs (rf r 1) o ∧ cuIs (rf r 2) c)))
noncomputable def cuVl (rf : Nat → Nat → Int) (kd c o : Int) : Nat → Int
  | 0 => -1
  | r + 1 => zite (rf r 0 = kd ∧ cuTh rf r c o) (rf r 3) (cuVl rf kd c o r)
def cuRg (nr : Nat) (rf : Nat → Nat → Int) : Prop := ∀ r, r < nr → (0 ≤ rf r 0 ∧ rf r 0 ≤ 4) ∧ (-1 ≤ rf r 1 ∧ rf r 1 ≤ 3) ∧ (-1 ≤ rf r 2 ∧ rf r 2 ≤ 3) ∧ (0 ≤ rf r 3 ∧ rf r 3 ≤ 100000)
theorem cuVl_b {nr : Nat} {rf : Nat → Nat → Int} {kd c o : Int} (h : cuRg nr rf) : ∀ {r : Nat}, r ≤ nr → -1 ≤ cuVl rf kd c o r ∧ cuVl rf kd c o r ≤ 100000
  | 0, _ => by show -1 ≤ (-1 : Int) ∧ (-1 : Int) ≤ 100000; omega
  | r + 1, hr => by
    have ih := cuVl_b (kd := kd) (c := c) (o := o) h (r := r) (by omega)
    have z := h r (by omega)
    have e : cuVl rf kd c o (r + 1) = zite (rf r 0 = kd ∧ cuTh rf r c o) (rf r 3) (cuVl rf kd c o r) := rfl
    rw [e]
    by_cases q : rf r 0 = kd ∧ cuTh rf r c o
    · rw [zite_t q]; omega
    · rw [zite_f q]; exact ih
theorem cuVl_y {rf : Nat → Nat → Int} {kd c o : Int} {r : Nat} (q : rf r 0 = kd ∧ cuTh rf r c o) : cuVl rf kd c o (r + 1) = rf r 3 := zite_t q
theorem cuVl_n {rf : Nat → Nat → Int} {kd c o : Int} {r : Nat} (q : ¬ (rf r 0 = kd ∧ cuTh rf r c o)) : cuVl rf kd c o (r + 1) = cuVl rf kd c o r := zite_f q
/-- pieces that touch -/
def cuTp (w : List CuR) (i : Nat) : Int := cg w i 2 + if cg w i 0 = 3 then 1 else 0
def cuWd (w : List CuR) (a b : Nat) : Int := (if cg w a 0 = 0 then cuRa (cg w a 0) else 0) + if cg w b 0 = 0 then cuRa (cg w b 0) else 0
def cuRc (w : List CuR) (a b : Nat) : Int := (if cg w a 0 = 0 then 0 else cuRa (cg w a 0)) + if cg w b 0 = 0 then 0 else cuRa (cg w b 0)
def cuTo (w : List CuR) (a b : Nat) : Prop := max (cg w a 2) (cg w b 2) ≤ min (cuTp w a) (cuTp w b) ∧ cuSq w a b (cuWd w a b) ≤ cuRc w a b * cuRc w a b
/-- too near; a ring; an end that lies in other copper -/
def cuNr (w : List CuR) (a b : Nat) (v : Int) : Prop := v ≠ -1 ∧ cuSq w a b 0 < (v + cuRa (cg w a 0) + cuRa (cg w b 0)) * (v + cuRa (cg w a 0) + cuRa (cg w b 0))
def cuRn (w : List CuR) (h : Nat) (v : Int) (s : Nat) : Prop := ((cg w s 0 = 2 ∨ cg w s 0 = 1) ∧ cg w s 1 = cg w h 1) ∧ 0 ≤ cuRa (cg w s 0) - cuRa (cg w h 0) - v ∧ cuSq w s h 0 ≤ (cuRa (cg w s 0) - cuRa (cg w h 0) - v) * (cuRa (cg w s 0) - cuRa (cg w h 0) - v)
def cuPg (w : List CuR) (t e s ax : Nat) : Int := cuGp (cuE w t ax e) (cuE w t ax e) (cuE w s ax 0) (cuE w s ax 1) 0
def cuEn (w : List CuR) (t e s : Nat) : Prop := (s ≠ t ∧ cg w s 0 ≠ 3 ∧ cg w s 1 = cg w t 1 ∧ cg w s 2 = cg w t 2) ∧ cuPg w t e s 1 * cuPg w t e s 1 + cuPg w t e s 0 * cuPg w t e s 0 ≤ cuRa (cg w s 0) * cuRa (cg w s 0)
