/-! PORTS of a label, by copies and by sheets -/
theorem oPc_f {d : JdS} {l s : Nat} (hp : ∀ q, q < dnp d → dP d q 0 ≠ l) : ∀ c, ∀ q, q < dnp (oPc d l s c) → dP (oPc d l s c) q 0 = l → zex fun c' => c' < c ∧ dP (oPc d l s c) q 1 = jCp (dbs d) s (dns d) 0 c'
  | 0 => fun q hq h => absurd h (hp q hq)
  | c + 1 => by
    have ih := oPc_f (s := s) hp c
    unfold oPc
    split
    · unfold djPs
      split
      · intro q hq h
        have hq2 : q < dnp (oPc d l s c) + 1 := hq
        have h2 : upR (dP (oPc d l s c)) (dnp (oPc d l s c)) l (jCp (dbs d) s (dns d) 0 c) 0 0 0 q 0 = l := h
        show zex fun c' => c' < c + 1 ∧ upR (dP (oPc d l s c)) (dnp (oPc d l s c)) l (jCp (dbs d) s (dns d) 0 c) 0 0 0 q 1 = jCp (dbs d) s (dns d) 0 c'
        by_cases e : q = dnp (oPc d l s c)
        · exact ⟨c, Nat.lt_succ_self c, by rw [e]; exact if_pos rfl⟩
        · rw [upR_ne e] at h2
          obtain ⟨c', c1, c2⟩ := ih q (by omega) h2
          exact ⟨c', by omega, by rw [upR_ne e]; exact c2⟩
      · intro q hq h
        obtain ⟨c', c1, c2⟩ := ih q hq h
        exact ⟨c', by omega, c2⟩
    · intro q hq h
      obtain ⟨c', c1, c2⟩ := ih q hq h
      exact ⟨c', by omega, c2⟩
theorem oPc_u {d : JdS} {l s c : Nat} (hp : ∀ q, q < dnp d → dP d q 0 ≠ l) (hc : c < jNc (dbs d) s (dns d)) : djPu (oPc d l s c) l (jCp (dbs d) s (dns d) 0 c) = djPs (oPc d l s c) l (jCp (dbs d) s (dns d) 0 c) := by
  unfold djPu djPs
  by_cases q : dnp (oPc d l s c) < 30
  · rw [if_pos q, if_pos]
    refine ⟨q, fun q hq w => ?_⟩
    obtain ⟨c', c1, c2⟩ := oPc_f (s := s) hp c q hq w.2
    obtain ⟨t, t1, t2, t3, t4⟩ := oCp hc
    obtain ⟨u, u1, u2, u3, u4⟩ := oCp (d := d) (s := s) (c := c') (by omega)
    have w1 := w.1
    rw [c2, t4, u4] at w1
    have e : u = t := by omega
    rw [e] at u3
    omega
  · rw [if_neg q, if_neg (fun w => q w.1)]
/-- a label's drawing with ports on the copies that lie below sheet t -/
def oPd (d : JdS) (s x y n : Int) (t : Nat) : JdS := oPc (djLs d s x y n) (dnl d) s.toNat (jNc (dbs d) s.toNat t)
theorem oPd_0 {d : JdS} {s x y n : Int} : oPd d s x y n 0 = djLs d s x y n := rfl
theorem oPd_q {d : JdS} {s x y n : Int} (t : Nat) (h : dnl d < 60) : dns (oPd d s x y n t) = dns d ∧ dbs (oPd d s x y n t) = dbs d ∧ dpr (oPd d s x y n t) = dpr d ∧ dnl (oPd d s x y n t) = dnl d + 1 ∧ dL (oPd d s x y n t) (dnl d) 0 = s ∧ dL (oPd d s x y n t) (dnl d) 3 = n := by
  have w := oPc_s (d := djLs d s x y n) (l := dnl d) (s := s.toNat) (jNc (dbs d) s.toNat t)
  have e : (oPd d s x y n t).1 = d.1 := w.1.trans djLs_s.1
  have e2 : (oPd d s x y n t).2.2.2.1 = (dnl d + 1, upR (dL d) (dnl d) s x y n 0) := w.2.2.2.1.trans (by rw [djLs_n h])
  refine ⟨congrArg (fun z => z.1) e, congrArg (fun z => z.2.1) e, congrArg (fun z => z.2.2) e, congrArg (fun z => z.1) e2, ?_, ?_⟩
  · exact (congrArg (fun z => z.2 (dnl d) 0) e2).trans (if_pos rfl)
  · exact (congrArg (fun z => z.2 (dnl d) 3) e2).trans (if_pos rfl)
theorem oPd_n {d : JdS} {s x y n : Int} {t : Nat} (h : ¬ (dbs d t : Int) = s) (hs : 0 ≤ s) : oPd d s x y n (t + 1) = oPd d s x y n t := by
  unfold oPd
  rw [show jNc (dbs d) s.toNat (t + 1) = jNc (dbs d) s.toNat t by
    show jNc (dbs d) s.toNat t + (if (dbs d t : Int) = (s.toNat : Nat) then 1 else 0) = _
    rw [if_neg (by omega)]
    rfl]
theorem oPd_c {d : JdS} {s x y n : Int} {t : Nat} (ht : t < dns d) (h : (dbs d t : Int) = s) : jNc (dbs d) s.toNat (t + 1) = jNc (dbs d) s.toNat t + 1 ∧ jNc (dbs d) s.toNat t < jNc (dbs (djLs d s x y n)) s.toNat (dns (djLs d s x y n)) ∧ jCp (dbs (djLs d s x y n)) s.toNat (dns (djLs d s x y n)) 0 (jNc (dbs d) s.toNat t) = (t : Nat) := by
  have e : (djLs d s x y n).1 = d.1 := djLs_s.1
  have e1 : dbs (djLs d s x y n) = dbs d := congrArg (fun z => z.2.1) e
  have e2 : dns (djLs d s x y n) = dns d := congrArg (fun z => z.1) e
  rw [e1, e2]
  have w : jNc (dbs d) s.toNat (t + 1) = jNc (dbs d) s.toNat t + 1 := by
    show jNc (dbs d) s.toNat t + (if (dbs d t : Int) = (s.toNat : Nat) then 1 else 0) = _
    rw [if_pos (by omega)]
  have w2 : jNc (dbs d) s.toNat (t + 1) ≤ jNc (dbs d) s.toNat (dns d) := jNc_m ht
  refine ⟨w, by omega, ?_⟩
  obtain ⟨u, u1, u2, u3, u4⟩ := oCp (d := d) (s := s.toNat) (c := jNc (dbs d) s.toNat t) (by omega)
  rw [u4]
  have w3 : cc d t = jNc (dbs d) s.toNat t := by
    unfold cc
    rw [show ((dbs d t : Nat) : Int) = (s.toNat : Nat) by omega]
  have w4 := jOn_1 (d := d) (b := (s.toNat : Nat)) (o := jNc (dbs d) s.toNat t) (t := u) (u := t) ⟨u1, by rw [u2], by rw [← u3]; unfold cc; rw [u2]⟩ ⟨ht, by omega, rfl⟩
  rw [w4]
theorem oPd_k {d : JdS} {s x y n : Int} {t : Nat} (ht : t < dns d) (h : (dbs d t : Int) = s) (hp : ¬ 0 ≤ dpr d t) : oPd d s x y n (t + 1) = oPd d s x y n t := by
  obtain ⟨c1, c2, c3⟩ := oPd_c (x := x) (y := y) (n := n) ht h
  have e : (djLs d s x y n).1 = d.1 := djLs_s.1
  have e3 : dpr (djLs d s x y n) = dpr d := congrArg (fun z => z.2.2) e
  unfold oPd
  rw [c1, oPc_n (by rw [c3, e3]; exact hp)]
theorem oPd_p {d : JdS} {s x y n : Int} {t : Nat} (hg : jGd d) (hl : dnl d < 60) (ht : t < dns d) (h : (dbs d t : Int) = s) (hp : 0 ≤ dpr d t) : oPd d s x y n (t + 1) = djPu (oPd d s x y n t) (dnl d) t := by
  obtain ⟨c1, c2, c3⟩ := oPd_c (x := x) (y := y) (n := n) ht h
  have e : (djLs d s x y n).1 = d.1 := djLs_s.1
  have e3 : dpr (djLs d s x y n) = dpr d := congrArg (fun z => z.2.2) e
  have e4 : (djLs d s x y n).2.2.2.2 = d.2.2.2.2 := djLs_s.2
  have hq : ∀ q, q < dnp (djLs d s x y n) → dP (djLs d s x y n) q 0 ≠ dnl d := fun q hq => by
    have w1 : dnp (djLs d s x y n) = dnp d := congrArg (fun z => z.1.1) e4
    have w2 : dP (djLs d s x y n) = dP d := congrArg (fun z => z.1.2) e4
    have w3 := (hg.2.2.2.2.2.1 q (by omega)).1
    rw [w2]
    omega
  have w := oPc_u (d := djLs d s x y n) (l := dnl d) (s := s.toNat) hq c2
  have e9 : oPd d s x y n (t + 1) = djPs (oPc (djLs d s x y n) (dnl d) s.toNat (jNc (dbs d) s.toNat t)) (dnl d) (jCp (dbs (djLs d s x y n)) s.toNat (dns (djLs d s x y n)) 0 (jNc (dbs d) s.toNat t)) := by
    unfold oPd
    rw [c1]
    exact oPc_t (by rw [c3, e3]; exact hp)
  rw [e9, ← w, c3]
  rfl
theorem oPd_e {O : OoS} {k : Nat} {d : JdS} {s : Int} (h : ¬ oPl O k) (h2 : ¬ oNm O k = -1) (h3 : dnl d < 60 ∧ oFr O k = 1) : oNt O k d s = oPd d s (onm O k 0) (onm O k 1) (oNm O k) (dns d) := (if_neg h).trans ((if_neg h2).trans (if_pos h3))
theorem oPd_g {d : JdS} {s x y n : Int} {t : Nat} (hg : jGd d) (hl : dnl d < 60) (hs : 0 ≤ s ∧ s < dns d ∧ dbs d s.toNat = s) (hx : jFar x ∧ jFar y) (hn : 0 ≤ n ∧ n < 1000) (ht : t ≤ dns d) : jGd (oPd d s x y n t) := by
  have g := jGd_Ls hg (a := s) (b := x) (c := y) (e := n) ⟨hs, hx.1, hx.2, hn⟩
  have e : (djLs d s x y n).1 = d.1 := djLs_s.1
  have e1 : dbs (djLs d s x y n) = dbs d := congrArg (fun z => z.2.1) e
  have e2 : dns (djLs d s x y n) = dns d := congrArg (fun z => z.1) e
  refine oPc_g g ?_ ?_ ?_
  · rw [djLs_n hl]
    exact Nat.lt_succ_self (dnl d)
  · rw [djLs_n hl]
    exact (if_pos rfl : upR (dL d) (dnl d) s x y n 0 (dnl d) 0 = s).trans (by omega)
  · rw [e1, e2]
    exact jNc_m ht
/-- nets numbered, or no sheet yet -/
def zJO (q : Nat) (d : JdS) (I : ZI) : Prop := zJN q d I ∨ (dns d = 0 ∧ I q 29 = 0)
theorem zJO_fr {q : Nat} {d : JdS} {I I' : ZI} (h : zJO q d I) (hf : ∀ c j : Nat, (c = q ∧ j = 29) ∨ (q + 18 ≤ c ∧ c ≤ q + 20) → I' c j = I c j) : zJO q d I' := by
  rcases h with h | h
  · exact Or.inl (zJN_fr h hf)
  · exact Or.inr ⟨h.1, (hf q 29 (by omega)).trans h.2⟩
theorem zJO_t {q : Nat} {d : JdS} {I : ZI} (h : zJO q d I) (h1 : 1 ≤ dns d) : zJN q d I := by
  rcases h with h | h
  · exact h
  · have := h.1
    omega
theorem oDs_1 {O : OoS} {j : Nat} (hj : j < ocn O) (h : okd O j = 1) : 1 ≤ dns (oDs O) := by
  have w : dns (oDs O) = min (oSc O (ocn O)) 16 := oSt_n (ocn O)
  have w2 := oSc_m (O := O) (show j + 1 ≤ ocn O by omega)
  rw [oSc_t h] at w2
  omega
theorem oDt_1 {O : OoS} (hG : oGd O) (h : 1 ≤ ocn O) : oDt O 1 = oDs O := by
  have w := (hG.2.1 0 (by omega)).2.2.1 rfl
  show oStp O 0 (oDt O 0) = oDs O
  exact oStp_n (by omega) (fun w1 => by omega)
/-- the sheet of a pin is there -/
theorem oSy_k {O : OoS} {k : Nat} (hG : oGd O) (hk : k < ocn O) (h4 : okd O k = 4) : okd O (opa O (oSy O k).toNat).toNat = 1 := by
  obtain ⟨a0, a1, a2⟩ := oPar hG hk (by omega)
  have a4 := a2.2.2.2.1 h4
  obtain ⟨b0, b1, b2⟩ := oPar hG (k := (opa O k).toNat) (by omega) (by omega)
  have b4 := b2.2.2.1 a4
  have e5 : oSy O k = opa O (opa O k).toNat := rfl
  obtain ⟨c0, c1, c2⟩ := oPar hG (k := (oSy O k).toNat) (by omega) (by rw [e5]; omega)
  exact c2.2.1 (by rw [e5]; exact b4)
/-- a sheet within one that wasn't taken isn't taken -/
theorem oSh_f {O : OoS} {p m : Nat} (hp : p < m) (h1 : okd O p = 1) (h2 : oSh O p = -1) : 16 ≤ oSc O m := by
  have w := oSc_m (O := O) (show p + 1 ≤ m by omega)
  rw [oSc_t h1] at w
  by_cases q : okd O p = 1 ∧ oSc O p < 16
  · rw [oSh_at q] at h2
    omega
  · have : ¬ oSc O p < 16 := fun z => q ⟨h1, z⟩
    omega
/-- the mill of the reference takes a sheet -/
theorem zMH_t {O : OoS} {m : Nat} {I I' : ZI} {p r : Int} (hg : jGd (oSt O m).1) (h : zMH O m (oSt O m).1 I) (hq : okd O m = 1 ∧ oSc O m < 16) (hp : p = oPs O m) (hr : r = oRp O (oSt O m) m) (hn : I' 165 11 = dns (oSt O m).1 + 1) (hs : I' 194 m = dns (oSt O m).1) (h4 : ∀ j : Nat, j < m → I' 194 j = I 194 j) (h5 : I' 196 (dns (oSt O m).1) = p) (h6 : I' 195 (dns (oSt O m).1) = r)
    (h7 : ∀ s : Nat, s < dns (oSt O m).1 → I' 196 s = I 196 s ∧ I' 195 s = I 195 s) : zMH O (m + 1) (oSt O (m + 1)).1 I' := by
  have en := oSt_n (O := O) m
  have e1 : dns (oSt O (m + 1)).1 = dns (oSt O m).1 + 1 := by rw [oSt_t hq]; rfl
  have e2 : dbs (oSt O (m + 1)).1 = upF (dbs (oSt O m).1) (dns (oSt O m).1) (oBn (oSt O m).1 (oRp O (oSt O m) m)) := by rw [oSt_t hq]; rfl
  have e3 : dpr (oSt O (m + 1)).1 = upF (dpr (oSt O m).1) (dns (oSt O m).1) (oPs O m) := by rw [oSt_t hq]; rfl
  refine ⟨by rw [hn, e1]; omega, fun j hj => ?_, fun s hs2 => ?_⟩
  · by_cases e : j = m
    · rw [e, hs, oSh_at hq]
      omega
    · exact (h4 j (by omega)).trans (h.2.1 j (by omega))
  · rw [e2, e3]
    by_cases e : s = dns (oSt O m).1
    · rw [e, upF_at, upF_at, h5, h6, hp, hr]
      refine ⟨rfl, ?_⟩
      have w := oRp_b (O := O) (s := oSt O m) (k := m)
      unfold oBn
      by_cases e9 : oRp O (oSt O m) m = -1
      · rw [if_pos e9, if_pos rfl]
        exact e9
      · rw [if_neg e9, if_neg (by omega)]
        omega
    · rw [upF_ne e, upF_ne e]
      exact ⟨(h7 s (by omega)).1.trans (h.2.2 s (by omega)).1, (h7 s (by omega)).2.trans (h.2.2 s (by omega)).2⟩
theorem zMH_n {O : OoS} {m : Nat} {I : ZI} (h : zMH O m (oSt O m).1 I) (hq : ¬ (okd O m = 1 ∧ oSc O m < 16)) (hs : I 194 m = -1) : zMH O (m + 1) (oSt O (m + 1)).1 I := by
  rw [oSt_f hq]
  refine ⟨h.1, fun j hj => ?_, h.2.2⟩
  by_cases e : j = m
  · rw [e, hs, oSh_no hq]
  · exact h.2.1 j (by omega)
theorem zMH_c {O : OoS} {n : Nat} {d d' : JdS} {I : ZI} (h : zMH O n d I) (e : d'.1 = d.1) : zMH O n d' I := by
  have e1 : dns d' = dns d := congrArg (fun z => z.1) e
  have e2 : dbs d' = dbs d := congrArg (fun z => z.2.1) e
  have e3 : dpr d' = dpr d := congrArg (fun z => z.2.2) e
  unfold zMH
  rw [e1, e2, e3]
  exact h
