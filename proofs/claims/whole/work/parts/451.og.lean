/-! OBJECTS of a text: what lies on the sheets -/
noncomputable def oDs (O : OoS) : JdS := (oSt O (ocn O)).1
/-- an object is a drawn sheet -/
def oDr (O : OoS) (j : Int) : Prop := 0 ≤ oSh O j.toNat ∧ dbs (oDs O) (oSh O j.toNat).toNat = (oSh O j.toNat).toNat
/-- a note's name: where it begins, its digits, their number -/
def oFr (O : OoS) (k : Nat) : Nat := if 0 < otl O k 0 ∧ otc O k 0 0 = 94 then 1 else 0
def oDg (O : OoS) (k i : Nat) : Prop := 48 ≤ otc O k 0 i ∧ otc O k 0 i ≤ 57
def oVl (O : OoS) (k a : Nat) : Nat → Int
  | 0 => 0
  | n + 1 => 10 * oVl O k a n + otc O k 0 (a + n) - 48
def oNa (O : OoS) (k a : Nat) : Prop := (a + 1 ≤ otl O k 0 ∧ otl O k 0 ≤ a + 3) ∧ ∀ i, a ≤ i → i < otl O k 0 → oDg O k i
noncomputable def oNi (O : OoS) (k a : Nat) : Int := @ite Int (oNa O k a) (Classical.propDecidable _) (oVl O k a (otl O k 0 - a)) (-1)
noncomputable def oNm (O : OoS) (k : Nat) : Int := oNi O k (oFr O k)
/-- a label's ports, on c copies of its sheet -/
def oPc (d : JdS) (l s : Nat) : Nat → JdS
  | 0 => d
  | c + 1 => if 0 ≤ dpr d (jCp (dbs d) s (dns d) 0 c).toNat then djPs (oPc d l s c) l (jCp (dbs d) s (dns d) 0 c) else oPc d l s c
/-- a note on sheet s -/
noncomputable def oLb (O : OoS) (k : Nat) (d : JdS) (s : Int) : JdS := if dnl d < 60 ∧ oFr O k = 1 then oPc (djLs d s (onm O k 0) (onm O k 1) (oNm O k)) (dnl d) s.toNat (jNc (dbs d) s.toNat (dns d)) else djLs d s (onm O k 0) (onm O k 1) (oNm O k)
noncomputable def oNt (O : OoS) (k : Nat) (d : JdS) (s : Int) : JdS := @ite JdS (oPl O k) (Classical.propDecidable _) (djJs d s (onm O k 0) (onm O k 1)) (if oNm O k = -1 then d else oLb O k d s)
/-- a terminal -/
noncomputable def oTm (d : JdS) (s x y n : Int) : JdS := @ite JdS (jFar x ∧ jFar y) (Classical.propDecidable _) (djTs d s x y n) d
/-- the symbol of a pin -/
def oSy (O : OoS) (k : Nat) : Int := opa O (opa O k).toNat
def oTx (O : OoS) (k i : Nat) : Int := onm O (oSy O k).toNat i + onm O k i
noncomputable def oWi (O : OoS) (k : Nat) (d : JdS) : JdS := djWs d (oSh O (opa O k).toNat) (onm O k 0) (onm O k 1) (onm O k 2) (onm O k 3)
noncomputable def oPi (O : OoS) (k : Nat) (d : JdS) : JdS := @ite JdS (oDr O (opa O (oSy O k).toNat)) (Classical.propDecidable _) (oTm d (oSh O (opa O (oSy O k).toNat).toNat) (oTx O k 0) (oTx O k 1) (oSy O k)) d
/-- object k is drawn -/
noncomputable def oStp (O : OoS) (k : Nat) (d : JdS) : JdS := @ite JdS (okd O k = 7 ∧ oDr O (opa O k)) (Classical.propDecidable _) (oWi O k d) (@ite JdS (okd O k = 6 ∧ oDr O (opa O k)) (Classical.propDecidable _) (oNt O k d (oSh O (opa O k).toNat)) (if okd O k = 4 then oPi O k d else d))
noncomputable def oDt (O : OoS) : Nat → JdS
  | 0 => oDs O
  | k + 1 => oStp O k (oDt O k)
theorem oStp_W {O : OoS} {k : Nat} {d : JdS} (h : okd O k = 7 ∧ oDr O (opa O k)) : oStp O k d = oWi O k d := if_pos h
theorem oStp_N {O : OoS} {k : Nat} {d : JdS} (h : okd O k = 6 ∧ oDr O (opa O k)) : oStp O k d = oNt O k d (oSh O (opa O k).toNat) := (if_neg (fun w => by have := w.1; have := h.1; omega)).trans (if_pos h)
theorem oStp_T {O : OoS} {k : Nat} {d : JdS} (h : okd O k = 4) : oStp O k d = oPi O k d := (if_neg (fun w => by have := w.1; omega)).trans ((if_neg (fun w => by have := w.1; omega)).trans (if_pos h))
theorem oStp_n {O : OoS} {k : Nat} {d : JdS} (h : okd O k ≠ 4) (h2 : (okd O k = 7 ∨ okd O k = 6) → ¬ oDr O (opa O k)) : oStp O k d = d := (if_neg (fun w => h2 (Or.inl w.1) w.2)).trans ((if_neg (fun w => h2 (Or.inr w.1) w.2)).trans (if_neg h))
theorem oPar {O : OoS} {k : Nat} (h : oGd O) (hk : k < ocn O) (h1 : 1 ≤ okd O k) : 0 < k ∧ (0 ≤ opa O k ∧ opa O k < k) ∧ oCan (okd O k) (okd O (opa O k).toNat) := by
  have w := h.2.1 k hk
  have hk0 : 0 < k := by
    rcases Nat.eq_zero_or_pos k with e | e
    · have := w.2.2.1 e
      omega
    · exact e
  have w2 := w.2.2.2 hk0
  exact ⟨hk0, ⟨w2.2.1, w.2.1.2⟩, w2.2.2⟩
theorem oPs_t {O : OoS} {k : Nat} (h : 0 ≤ opa O k) : oPs O k = oSh O (opa O k).toNat := if_pos h
/-! what stays as it is -/
/-- each terminal is on its symbol's sheet -/
def oTi (O : OoS) (d : JdS) : Prop := ∀ p, p < dnt d → (0 ≤ dT d p 3 ∧ dT d p 3 < ocn O) ∧ dT d p 0 = oSh O (opa O (dT d p 3).toNat).toNat
theorem oPc_s {d : JdS} {l s : Nat} : ∀ c, (oPc d l s c).1 = d.1 ∧ (oPc d l s c).2.1 = d.2.1 ∧ (oPc d l s c).2.2.1 = d.2.2.1 ∧ (oPc d l s c).2.2.2.1 = d.2.2.2.1 ∧ (oPc d l s c).2.2.2.2.2 = d.2.2.2.2.2
  | 0 => ⟨rfl, rfl, rfl, rfl, rfl⟩
  | c + 1 => by
    have ih := oPc_s (d := d) (l := l) (s := s) c
    unfold oPc
    split
    · unfold djPs
      split
      · exact ih
      · exact ih
    · exact ih
theorem djWs_s {d : JdS} {a b c e g : Int} : (djWs d a b c e g).1 = d.1 ∧ (djWs d a b c e g).2.2 = d.2.2 := by
  unfold djWs
  split
  · exact ⟨rfl, rfl⟩
  · exact ⟨rfl, rfl⟩
theorem djJs_s {d : JdS} {a b c : Int} : (djJs d a b c).1 = d.1 ∧ (djJs d a b c).2.2.2 = d.2.2.2 := by
  unfold djJs
  split
  · exact ⟨rfl, rfl⟩
  · exact ⟨rfl, rfl⟩
theorem djLs_s {d : JdS} {a b c e : Int} : (djLs d a b c e).1 = d.1 ∧ (djLs d a b c e).2.2.2.2 = d.2.2.2.2 := by
  unfold djLs
  split
  · exact ⟨rfl, rfl⟩
  · exact ⟨rfl, rfl⟩
theorem djTs_s {d : JdS} {a b c e : Int} : (djTs d a b c e).1 = d.1 := by
  unfold djTs
  split
  · rfl
  · rfl
theorem jGd_Ws {d : JdS} {a b c e g : Int} (h : jGd d) (ha : (0 ≤ a ∧ a < dns d ∧ dbs d a.toNat = a) ∧ jFar b ∧ jFar c ∧ jFar e ∧ jFar g) : jGd (djWs d a b c e g) := by
  unfold djWs
  split
  · next q => exact jGd_W h ha q.2
  · exact h
theorem jGd_Js {d : JdS} {a b c : Int} (h : jGd d) (ha : (0 ≤ a ∧ a < dns d) ∧ jFar b ∧ jFar c) : jGd (djJs d a b c) := by
  unfold djJs
  split
  · next q => exact jGd_J h ha q.1
  · exact h
theorem jGd_Ls {d : JdS} {a b c e : Int} (h : jGd d) (ha : (0 ≤ a ∧ a < dns d ∧ dbs d a.toNat = a) ∧ jFar b ∧ jFar c ∧ 0 ≤ e ∧ e < 1000) : jGd (djLs d a b c e) := by
  unfold djLs
  split
  · next q => exact jGd_L h ha q
  · exact h
theorem jGd_Ts {d : JdS} {a b c e : Int} (h : jGd d) (ha : (0 ≤ a ∧ a < dns d ∧ dbs d a.toNat = a) ∧ jFar b ∧ jFar c) : jGd (djTs d a b c e) := by
  unfold djTs
  split
  · next q => exact jGd_T h ha q.1
  · exact h
theorem jGd_Ps {d : JdS} {a b : Int} (h : jGd d) (ha : (0 ≤ a ∧ a < dnl d) ∧ (0 ≤ b ∧ b < dns d) ∧ dL d a.toNat 0 = dbs d b.toNat ∧ 0 ≤ dpr d b.toNat) : jGd (djPs d a b) := by
  unfold djPs
  split
  · next q => exact jGd_P h ha q
  · exact h
/-- the c-th copy of a sheet -/
theorem oCp {d : JdS} {s c : Nat} (h : c < jNc (dbs d) s (dns d)) : zex fun t => t < dns d ∧ dbs d t = s ∧ cc d t = c ∧ jCp (dbs d) s (dns d) 0 c = (t : Nat) := by
  rcases jCp_sp (f := dbs d) (b := ((s : Nat) : Int)) (dns d) 0 c with ⟨-, w⟩ | ⟨u, u1, -, u3, u4, u5⟩
  · rw [Nat.zero_add] at w
    have e : jNc (dbs d) s 0 = 0 := rfl
    omega
  · rw [Nat.zero_add] at u3
    have e : jNc (dbs d) s 0 = 0 := rfl
    have u6 : dbs d u = s := by omega
    refine ⟨u, u3, u6, ?_, u1⟩
    unfold cc
    rw [u6]
    omega
theorem oPc_g {d : JdS} {l s : Nat} (h : jGd d) (hl : l < dnl d) (hs : dL d l 0 = s) : ∀ {c : Nat}, c ≤ jNc (dbs d) s (dns d) → jGd (oPc d l s c)
  | 0, _ => h
  | c + 1, hc => by
    have ih := oPc_g h hl hs (show c ≤ jNc (dbs d) s (dns d) by omega)
    have st := oPc_s (d := d) (l := l) (s := s) c
    obtain ⟨t, h1, h2, h3, h4⟩ := oCp (d := d) (s := s) (c := c) (by omega)
    unfold oPc
    rw [h4, show ((t : Nat) : Int).toNat = t from rfl]
    split
    · next q =>
      refine jGd_Ps ih ⟨⟨by omega, ?_⟩, ⟨by omega, ?_⟩, ?_, ?_⟩
      · show ((l : Nat) : Int) < (((oPc d l s c).2.2.2.1.1 : Nat) : Int)
        rw [st.2.2.2.1]
        show ((l : Nat) : Int) < ((dnl d : Nat) : Int)
        omega
      · show ((t : Nat) : Int) < (((oPc d l s c).1.1 : Nat) : Int)
        rw [st.1]
        show ((t : Nat) : Int) < ((dns d : Nat) : Int)
        omega
      · show (oPc d l s c).2.2.2.1.2 l 0 = (((oPc d l s c).1.2.1 t : Nat) : Int)
        rw [st.2.2.2.1, st.1]
        show dL d l 0 = ((dbs d t : Nat) : Int)
        rw [hs, h2]
      · show 0 ≤ (oPc d l s c).1.2.2 t
        rw [st.1]
        exact q
    · exact ih
theorem oVl_b {O : OoS} {k a n : Nat} (hd : ∀ i, a ≤ i → i < a + n → oDg O k i) : ∀ {m : Nat}, m ≤ n → 0 ≤ oVl O k a m ∧ (m ≤ 3 → oVl O k a m < 1000 ∧ (m ≤ 2 → oVl O k a m < 100 ∧ (m ≤ 1 → oVl O k a m < 10 ∧ (m = 0 → oVl O k a m = 0))))
  | 0, _ => ⟨Int.le_refl 0, fun _ => ⟨by show (0 : Int) < 1000; decide, fun _ => ⟨by show (0 : Int) < 100; decide, fun _ => ⟨by show (0 : Int) < 10; decide, fun _ => rfl⟩⟩⟩⟩
  | m + 1, h => by
    have ih := oVl_b hd (show m ≤ n by omega)
    obtain ⟨w1, w2⟩ := hd (a + m) (by omega) (by omega)
    have e : oVl O k a (m + 1) = 10 * oVl O k a m + otc O k 0 (a + m) - 48 := rfl
    omega
theorem oNi_b {O : OoS} {k a : Nat} : oNi O k a = -1 ∨ (0 ≤ oNi O k a ∧ oNi O k a < 1000) := by
  unfold oNi
  split
  · next q =>
    have w := oVl_b (n := otl O k 0 - a) (fun i h1 h2 => q.2 i h1 (by omega)) (Nat.le_refl _)
    have w1 := q.1
    omega
  · exact Or.inl rfl
theorem oDr_b {O : OoS} {j : Int} (hj : 0 ≤ j ∧ j < ocn O) (h : oDr O j) : 0 ≤ oSh O j.toNat ∧ oSh O j.toNat < dns (oDs O) ∧ dbs (oDs O) (oSh O j.toNat).toNat = oSh O j.toNat := by
  have w := oSh_b (O := O) (j := j.toNat) (k := ocn O) (by omega)
  have w2 : oSh O j.toNat < dns (oDs O) := w.2
  obtain ⟨h1, h2⟩ := h
  omega
/-- drawn so far: good, the sheets as they were, each terminal on its symbol's sheet -/
def oOk (O : OoS) (d : JdS) : Prop := jGd d ∧ d.1 = (oDs O).1 ∧ oTi O d
theorem oOk_b {O : OoS} {d : JdS} {j : Int} (hj : 0 ≤ j ∧ j < ocn O) (h : oDr O j) (hd : oOk O d) : 0 ≤ oSh O j.toNat ∧ oSh O j.toNat < dns d ∧ dbs d (oSh O j.toNat).toNat = oSh O j.toNat := by
  have w := oDr_b hj h
  have e : dns d = dns (oDs O) := congrArg (fun z => z.1) hd.2.1
  have e2 : dbs d = dbs (oDs O) := congrArg (fun z => z.2.1) hd.2.1
  rw [e, e2]
  exact w
theorem oTi_s {O : OoS} {d e : JdS} (h : oTi O d) (hs : e.2.2.2.2.2 = d.2.2.2.2.2) : oTi O e := by
  show ∀ p, p < e.2.2.2.2.2.1 → (0 ≤ e.2.2.2.2.2.2 p 3 ∧ e.2.2.2.2.2.2 p 3 < ocn O) ∧ e.2.2.2.2.2.2 p 0 = oSh O (opa O (e.2.2.2.2.2.2 p 3).toNat).toNat
  rw [hs]
  exact h
theorem oOk_W {O : OoS} {d : JdS} {a b c e g : Int} (h : oOk O d) (ha : (0 ≤ a ∧ a < dns d ∧ dbs d a.toNat = a) ∧ jFar b ∧ jFar c ∧ jFar e ∧ jFar g) : oOk O (djWs d a b c e g) := by
  have w := djWs_s (d := d) (a := a) (b := b) (c := c) (e := e) (g := g)
  exact ⟨jGd_Ws h.1 ha, w.1.trans h.2.1, oTi_s h.2.2 (congrArg (fun z => z.2.2.2) w.2)⟩
theorem oOk_J {O : OoS} {d : JdS} {a b c : Int} (h : oOk O d) (ha : (0 ≤ a ∧ a < dns d) ∧ jFar b ∧ jFar c) : oOk O (djJs d a b c) := by
  have w := djJs_s (d := d) (a := a) (b := b) (c := c)
  exact ⟨jGd_Js h.1 ha, w.1.trans h.2.1, oTi_s h.2.2 (congrArg (fun z => z.2.2) w.2)⟩
theorem oOk_L {O : OoS} {d : JdS} {a b c e : Int} (h : oOk O d) (ha : (0 ≤ a ∧ a < dns d ∧ dbs d a.toNat = a) ∧ jFar b ∧ jFar c ∧ 0 ≤ e ∧ e < 1000) : oOk O (djLs d a b c e) := by
  have w := djLs_s (d := d) (a := a) (b := b) (c := c) (e := e)
  exact ⟨jGd_Ls h.1 ha, w.1.trans h.2.1, oTi_s h.2.2 (congrArg (fun z => z.2) w.2)⟩
theorem oOk_T {O : OoS} {d : JdS} {a b c e : Int} (h : oOk O d) (ha : (0 ≤ a ∧ a < dns d ∧ dbs d a.toNat = a) ∧ jFar b ∧ jFar c) (he : (0 ≤ e ∧ e < ocn O) ∧ a = oSh O (opa O e.toNat).toNat) : oOk O (djTs d a b c e) := by
  refine ⟨jGd_Ts h.1 ha, djTs_s.trans h.2.1, ?_⟩
  unfold djTs
  split
  · intro p hp
    have hp2 : p < dnt d + 1 := hp
    show (0 ≤ upR (dT d) (dnt d) a b c e 0 p 3 ∧ upR (dT d) (dnt d) a b c e 0 p 3 < ocn O) ∧ upR (dT d) (dnt d) a b c e 0 p 0 = oSh O (opa O (upR (dT d) (dnt d) a b c e 0 p 3).toNat).toNat
    by_cases q : p = dnt d
    · rw [q, show upR (dT d) (dnt d) a b c e 0 (dnt d) 3 = e from if_pos rfl, show upR (dT d) (dnt d) a b c e 0 (dnt d) 0 = a from if_pos rfl]
      exact he
    · rw [upR_ne q, upR_ne q]
      exact h.2.2 p (by omega)
  · exact h.2.2
theorem djLs_n {d : JdS} {a b c e : Int} (h : dnl d < 60) : djLs d a b c e = djL d a b c e 0 := if_pos h
theorem oOk_P {O : OoS} {d : JdS} {l s c : Nat} (h : oOk O d) (hl : l < dnl d) (hs : dL d l 0 = s) (hc : c ≤ jNc (dbs d) s (dns d)) : oOk O (oPc d l s c) := by
  have w := oPc_s (d := d) (l := l) (s := s) c
  exact ⟨oPc_g h.1 hl hs hc, w.1.trans h.2.1, oTi_s h.2.2 w.2.2.2.2⟩
theorem oOk_N {O : OoS} {d : JdS} {k : Nat} {s : Int} (h : oOk O d) (hs : 0 ≤ s ∧ s < dns d ∧ dbs d s.toNat = s) (hf : jFar (onm O k 0) ∧ jFar (onm O k 1)) : oOk O (oNt O k d s) := by
  unfold oNt
  split
  · exact oOk_J h ⟨⟨hs.1, hs.2.1⟩, hf⟩
  · split
    · exact h
    · next q =>
      have hn := (oNi_b (O := O) (k := k) (a := oFr O k)).resolve_left q
      have h1 := oOk_L h (a := s) (b := onm O k 0) (c := onm O k 1) (e := oNm O k) ⟨hs, hf.1, hf.2, hn⟩
      unfold oLb
      split
      · next q2 =>
        rw [djLs_n q2.1] at h1 ⊢
        refine oOk_P h1 (Nat.lt_succ_self (dnl d)) ?_ (Nat.le_refl _)
        show upR (dL d) (dnl d) s (onm O k 0) (onm O k 1) (oNm O k) 0 (dnl d) 0 = _
        rw [show upR (dL d) (dnl d) s (onm O k 0) (onm O k 1) (oNm O k) 0 (dnl d) 0 = s from if_pos rfl]
        omega
      · exact h1
theorem jFar_2 {x : Int} (h : -1000000000 ≤ x ∧ x ≤ 1000000000) : jFar x := h
theorem oOk_k {O : OoS} {d : JdS} {k : Nat} (hO : oGd O) (hk : k < ocn O) (h : oOk O d) : oOk O (oStp O k d) := by
  have w := hO.2.1 k hk
  have nm := fun i hi => hO.2.2.1 k i hk hi
  by_cases k7 : okd O k = 7 ∧ oDr O (opa O k)
  · rw [oStp_W k7]
    exact oOk_W h ⟨oOk_b (by have := w.2.2.1; have := w.2.2.2; omega) k7.2 h, nm 0 (by decide), nm 1 (by decide), nm 2 (by decide), nm 3 (by decide)⟩
  · by_cases k6 : okd O k = 6 ∧ oDr O (opa O k)
    · rw [oStp_N k6]
      exact oOk_N h (oOk_b (by have := w.2.2.1; have := w.2.2.2; omega) k6.2 h) ⟨nm 0 (by decide), nm 1 (by decide)⟩
    · by_cases k4 : okd O k = 4
      · rw [oStp_T k4]
        have hk0 : 0 < k := by
          rcases Nat.eq_zero_or_pos k with e | e
          · have := w.2.2.1 e
            omega
          · exact e
        obtain ⟨a1, a2, a3⟩ := w.2.2.2 hk0
        have a4 := a3.2.2.2.1 k4
        have w2 := hO.2.1 (opa O k).toNat (by omega)
        have hu0 : 0 < (opa O k).toNat := by
          rcases Nat.eq_zero_or_pos (opa O k).toNat with e | e
          · have := w2.2.2.1 e
            omega
          · exact e
        obtain ⟨b1, b2, b3⟩ := w2.2.2.2 hu0
        have b4 := b3.2.2.1 a4
        have e5 : oSy O k = opa O (opa O k).toNat := rfl
        have w3 := hO.2.1 (oSy O k).toNat (by omega)
        have hv0 : 0 < (oSy O k).toNat := by
          rcases Nat.eq_zero_or_pos (oSy O k).toNat with e | e
          · have := w3.2.2.1 e
            rw [e5] at this
            omega
          · exact e
        obtain ⟨c1, c2, c3⟩ := w3.2.2.2 hv0
        unfold oPi
        split
        · next q =>
          unfold oTm
          split
          · next f => exact oOk_T h ⟨oOk_b (by omega) q h, f⟩ ⟨by omega, rfl⟩
          · exact h
        · exact h
      · rw [oStp_n k4 (fun w1 w2 => by
          rcases w1 with w1 | w1
          · exact k7 ⟨w1, w2⟩
          · exact k6 ⟨w1, w2⟩)]
        exact h
theorem oDt_k {O : OoS} (hO : oGd O) : ∀ {k : Nat}, k ≤ ocn O → oOk O (oDt O k)
  | 0, _ => ⟨oSt_g hO (Nat.le_refl _), rfl, fun p hp => by
    have e : dnt (oDt O 0) = 0 := congrArg (fun z => z.2.2.2.2.1) (oSt_r (O := O) (ocn O))
    omega⟩
  | k + 1, hk => oOk_k hO (by omega) (oDt_k hO (by omega))
/-- the drawing of a text -/
noncomputable def oD (O : OoS) : JdS := oDt O (ocn O)
