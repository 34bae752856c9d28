/-! DRAWINGS of the class: its own numbers -/
/-- which copy of its base a sheet is -/
def cc (d : JdS) (t : Nat) : Nat := jNc (dbs d) (dbs d t) t
def cAt (d : JdS) (t : Nat) (x y : Int) (b : Nat) : Prop := (∃ w, w < dnw d ∧ dW d w 0 = dbs d t ∧ jTh (dW d) w x y ∧ b = 1920 + 16 * w + cc d t) ∨ (∃ l, l < dnl d ∧ dL d l 0 = dbs d t ∧ dL d l 1 = x ∧ dL d l 2 = y ∧ b = 960 + 16 * l + cc d t) ∨
  (∃ p, p < dnt d ∧ dT d p 0 = dbs d t ∧ dT d p 1 = x ∧ dT d p 2 = y ∧ b = 16 * p + cc d t)
def cEt (d : JdS) (t a b : Nat) : Prop := (∃ v w, v < dnw d ∧ w < v ∧ jWw d t v w ∧ a = 1920 + 16 * v + cc d t ∧ b = 1920 + 16 * w + cc d t) ∨
  (∃ l, l < dnl d ∧ dL d l 0 = dbs d t ∧ a = 960 + 16 * l + cc d t ∧ (cAt d t (dL d l 1) (dL d l 2) b ∨ b = jNn t (dL d l 3))) ∨ (∃ p, p < dnt d ∧ dT d p 0 = dbs d t ∧ a = 16 * p + cc d t ∧ cAt d t (dT d p 1) (dT d p 2) b)
def cEp (d : JdS) (q a b : Nat) : Prop := a = 960 + 16 * (dP d q 0).toNat + cc d (dP d q 1).toNat ∧ b = jNn (dpr d (dP d q 1).toNat).toNat (dL d (dP d q 0).toNat 3)
def cE (d : JdS) (a b : Nat) : Prop := (∃ t, t < dns d ∧ cEt d t a b) ∨ ∃ q, q < dnp d ∧ cEp d q a b
/-- from the class's numbers to the other ones, and back -/
noncomputable def cU (d : JdS) (n : Nat) : Nat := if n < 960 then 2560 + 16 * (n / 16) + (jCp (dbs d) (dT d (n / 16) 0) (dns d) 0 (n % 16)).toNat else if n < 1920 then 1600 + 16 * ((n - 960) / 16) + (jCp (dbs d) (dL d ((n - 960) / 16) 0) (dns d) 0 (n % 16)).toNat else if n < 3520 then 16 * ((n - 1920) / 16) + (jCp (dbs d) (dW d ((n - 1920) / 16) 0) (dns d) 0 (n % 16)).toNat else n
def cV (d : JdS) (n : Nat) : Nat := if n < 1600 then 1920 + 16 * (n / 16) + cc d (n % 16) else if n < 2560 then 960 + 16 * ((n - 1600) / 16) + cc d (n % 16) else if n < 3520 then 16 * ((n - 2560) / 16) + cc d (n % 16) else n
theorem cc_16 {d : JdS} (h : jGd d) {t : Nat} (ht : t < dns d) : cc d t < 16 := by
  have w := jNc_le (dbs d) (dbs d t) t
  have g := h.1.1
  unfold cc
  omega
theorem cc_on {d : JdS} {t : Nat} (ht : t < dns d) : jOn d (dbs d t) (cc d t) t := ⟨ht, rfl, rfl⟩
theorem jCp_on {d : JdS} {b : Int} {o t : Nat} (h : jOn d b o t) : (jCp (dbs d) b (dns d) 0 o).toNat = t := by
  rcases jCp_sp (f := dbs d) (b := b) (dns d) 0 o with ⟨w1, w2⟩ | ⟨u, w1, w2, w3, w4, w5⟩
  · rw [Nat.zero_add] at w2
    have e : jNc (dbs d) b 0 = 0 := rfl
    have := jOn_lt h
    omega
  · rw [w1]
    have e : jNc (dbs d) b 0 = 0 := rfl
    exact jOn_1 (o := o) ⟨by show u < dns d; omega, w4, by show jNc (dbs d) b u = o; omega⟩ h
theorem cU_w {d : JdS} (h : jGd d) {w t : Nat} (hw : w < dnw d) (ht : t < dns d) (hs : dW d w 0 = dbs d t) : cU d (1920 + 16 * w + cc d t) = 16 * w + t := by
  have c16 := cc_16 h ht
  have g := h.1.2.1
  unfold cU
  rw [if_neg (by omega), if_neg (by omega), if_pos (by omega), show (1920 + 16 * w + cc d t - 1920) / 16 = w by omega, show (1920 + 16 * w + cc d t) % 16 = cc d t by omega, hs, jCp_on (cc_on ht)]
theorem cU_l {d : JdS} (h : jGd d) {w t : Nat} (hw : w < dnl d) (ht : t < dns d) (hs : dL d w 0 = dbs d t) : cU d (960 + 16 * w + cc d t) = 1600 + 16 * w + t := by
  have c16 := cc_16 h ht
  have g := h.1.2.2.2.1
  unfold cU
  rw [if_neg (by omega), if_pos (by omega), show (960 + 16 * w + cc d t - 960) / 16 = w by omega, show (960 + 16 * w + cc d t) % 16 = cc d t by omega, hs, jCp_on (cc_on ht)]
theorem cU_p {d : JdS} (h : jGd d) {w t : Nat} (hw : w < dnt d) (ht : t < dns d) (hs : dT d w 0 = dbs d t) : cU d (16 * w + cc d t) = 2560 + 16 * w + t := by
  have c16 := cc_16 h ht
  have g := h.1.2.2.2.2.2
  unfold cU
  rw [if_pos (by omega), show (16 * w + cc d t) / 16 = w by omega, show (16 * w + cc d t) % 16 = cc d t by omega, hs, jCp_on (cc_on ht)]
theorem cU_n {d : JdS} {n : Nat} (h : 3520 ≤ n) : cU d n = n := by
  unfold cU
  rw [if_neg (by omega), if_neg (by omega), if_neg (by omega)]
theorem cV_w {d : JdS} {w t : Nat} (hw : w < 100) (ht : t < 16) : cV d (16 * w + t) = 1920 + 16 * w + cc d t := by
  unfold cV
  rw [if_pos (by omega), show (16 * w + t) / 16 = w by omega, show (16 * w + t) % 16 = t by omega]
theorem cV_l {d : JdS} {w t : Nat} (hw : w < 60) (ht : t < 16) : cV d (1600 + 16 * w + t) = 960 + 16 * w + cc d t := by
  unfold cV
  rw [if_neg (by omega), if_pos (by omega), show (1600 + 16 * w + t - 1600) / 16 = w by omega, show (1600 + 16 * w + t) % 16 = t by omega]
theorem cV_p {d : JdS} {w t : Nat} (hw : w < 60) (ht : t < 16) : cV d (2560 + 16 * w + t) = 16 * w + cc d t := by
  unfold cV
  rw [if_neg (by omega), if_neg (by omega), if_pos (by omega), show (2560 + 16 * w + t - 2560) / 16 = w by omega, show (2560 + 16 * w + t) % 16 = t by omega]
theorem cV_n {d : JdS} {n : Nat} (h : 3520 ≤ n) : cV d n = n := by
  unfold cV
  rw [if_neg (by omega), if_neg (by omega), if_neg (by omega)]
theorem cAt_U {d : JdS} (h : jGd d) {t : Nat} (ht : t < dns d) {x y : Int} {b : Nat} (hb : cAt d t x y b) : jAt d t x y (cU d b) := by
  rcases hb with ⟨w, h1, h2, h3, h4⟩ | ⟨l, h1, h2, h3, h4, h5⟩ | ⟨p, h1, h2, h3, h4, h5⟩
  · rw [h4, cU_w h h1 ht h2]; exact Or.inl ⟨w, h1, h2, h3, rfl⟩
  · rw [h5, cU_l h h1 ht h2]; exact Or.inr (Or.inl ⟨l, h1, h2, h3, h4, rfl⟩)
  · rw [h5, cU_p h h1 ht h2]; exact Or.inr (Or.inr ⟨p, h1, h2, h3, h4, rfl⟩)
theorem jAt_V {d : JdS} (h : jGd d) {t : Nat} (ht : t < dns d) {x y : Int} {b : Nat} (hb : jAt d t x y b) : cAt d t x y (cV d b) := by
  have g1 := h.1.1
  have g2 := h.1.2.1
  have g4 := h.1.2.2.2.1
  have g6 := h.1.2.2.2.2.2
  rcases hb with ⟨w, h1, h2, h3, h4⟩ | ⟨l, h1, h2, h3, h4, h5⟩ | ⟨p, h1, h2, h3, h4, h5⟩
  · rw [h4, cV_w (by omega) (by omega)]; exact Or.inl ⟨w, h1, h2, h3, rfl⟩
  · rw [h5, cV_l (by omega) (by omega)]; exact Or.inr (Or.inl ⟨l, h1, h2, h3, h4, rfl⟩)
  · rw [h5, cV_p (by omega) (by omega)]; exact Or.inr (Or.inr ⟨p, h1, h2, h3, h4, rfl⟩)
theorem cE_U {d : JdS} (h : jGd d) {a b : Nat} (hE : cE d a b) : jE d (cU d a) (cU d b) := by
  obtain ⟨⟨g1, g2, g3, g4, g5, g6⟩, gs, gw, gj, gl, gp, gt⟩ := id h
  rcases hE with ⟨t, ht, h1⟩ | ⟨q, hq, h1, h2⟩
  · refine Or.inl ⟨t, ht, ?_⟩
    rcases h1 with ⟨v, w, k1, k2, k3, k4, k5⟩ | ⟨l, k1, k2, k3, k4⟩ | ⟨p, k1, k2, k3, k4⟩
    · rw [k4, k5, cU_w h k1 ht k3.1, cU_w h (by omega) ht k3.2.1]
      exact Or.inl ⟨v, w, k1, k2, k3, rfl, rfl⟩
    · rw [k3, cU_l h k1 ht k2]
      refine Or.inr (Or.inl ⟨l, k1, k2, rfl, ?_⟩)
      rcases k4 with k4 | k4
      · exact Or.inl (cAt_U h ht k4)
      · rw [k4, cU_n (jNn_b (by omega) (gl l k1).2.2.2).1]
        exact Or.inr rfl
    · rw [k3, cU_p h k1 ht k2]
      exact Or.inr (Or.inr ⟨p, k1, k2, rfl, cAt_U h ht k4⟩)
  · refine Or.inr ⟨q, hq, ?_⟩
    obtain ⟨a1, a2, a3, a4⟩ := gp q hq
    have w := (gl (dP d q 0).toNat (by omega)).2.2.2
    have w2 := gs (dP d q 1).toNat (by omega)
    rw [h1, h2, cU_l h (by omega) (by omega) a3, cU_n (jNn_b (by omega) w).1]
    exact ⟨rfl, rfl⟩
theorem jE_V {d : JdS} (h : jGd d) {a b : Nat} (hE : jE d a b) : cE d (cV d a) (cV d b) := by
  obtain ⟨⟨g1, g2, g3, g4, g5, g6⟩, gs, gw, gj, gl, gp, gt⟩ := id h
  rcases hE with ⟨t, ht, h1⟩ | ⟨q, hq, h1, h2⟩
  · refine Or.inl ⟨t, ht, ?_⟩
    rcases h1 with ⟨v, w, k1, k2, k3, k4, k5⟩ | ⟨l, k1, k2, k3, k4⟩ | ⟨p, k1, k2, k3, k4⟩
    · rw [k4, k5, cV_w (by omega) (by omega), cV_w (by omega) (by omega)]
      exact Or.inl ⟨v, w, k1, k2, k3, rfl, rfl⟩
    · rw [k3, cV_l (by omega) (by omega)]
      refine Or.inr (Or.inl ⟨l, k1, k2, rfl, ?_⟩)
      rcases k4 with k4 | k4
      · exact Or.inl (jAt_V h ht k4)
      · rw [k4, cV_n (jNn_b (by omega) (gl l k1).2.2.2).1]
        exact Or.inr rfl
    · rw [k3, cV_p (by omega) (by omega)]
      exact Or.inr (Or.inr ⟨p, k1, k2, rfl, jAt_V h ht k4⟩)
  · refine Or.inr ⟨q, hq, ?_⟩
    obtain ⟨a1, a2, a3, a4⟩ := gp q hq
    have w := (gl (dP d q 0).toNat (by omega)).2.2.2
    have w2 := gs (dP d q 1).toNat (by omega)
    rw [h1, h2, cV_l (by omega) (by omega), cV_n (jNn_b (by omega) w).1]
    exact ⟨rfl, rfl⟩
/-- the same nets by both numbers -/
theorem cS_iff {d : JdS} (h : jGd d) {i i' : Nat} (hv : jV d i) (hv' : jV d i') : jS d i i' ↔ jCl (cE d) i i' := by
  have key : ∀ {i}, jV d i → cU d i = jNd d i ∧ cV d (cU d i) = i := fun {i} hv => by
    have o := jV_sp hv
    have hs := h.1.1
    have ht := h.1.2.2.2.2.2
    have hp := hv.1
    have e : (dbs d (jtt d i) : Int) = dT d (i / 16) 0 := o.2.1
    have e2 : cc d (jtt d i) = i % 16 := by
      unfold cc
      rw [e]
      exact o.2.2
    have hlt : jtt d i < dns d := o.1
    have w := cU_p h (w := i / 16) (t := jtt d i) hp hlt e.symm
    rw [e2, show 16 * (i / 16) + i % 16 = i by omega] at w
    refine ⟨w, ?_⟩
    rw [w, cV_p (by omega) (by omega), e2]
    omega
  have k1 := key hv
  have k2 := key hv'
  unfold jS
  rw [← k1.1, ← k2.1]
  exact (jCl_map (E := cE d) (F := jE d) (u := cU d) (v := cV d) (fun x y q => jCl_e (cE_U h q)) (fun x y q => jCl_e (jE_V h q)) k1.2 k2.2).symm
theorem cE_b {d : JdS} (h : jGd d) {a b : Nat} (hE : cE d a b) : a < 19520 ∧ b < 19520 := by
  obtain ⟨⟨g1, g2, g3, g4, g5, g6⟩, gs, gw, gj, gl, gp, gt⟩ := id h
  have ab : ∀ {t b : Nat} {x y : Int}, t < dns d → cAt d t x y b → b < 19520 := fun {t b x y} ht q => by
    have c16 := cc_16 h ht
    rcases q with ⟨w, h1, h2, h3, h4⟩ | ⟨l, h1, h2, h3, h4, h5⟩ | ⟨p, h1, h2, h3, h4, h5⟩ <;> omega
  rcases hE with ⟨t, ht, h1⟩ | ⟨q, hq, h1, h2⟩
  · have c16 := cc_16 h ht
    rcases h1 with ⟨v, w, k1, k2, k3, k4, k5⟩ | ⟨l, k1, k2, k3, k4⟩ | ⟨p, k1, k2, k3, k4⟩
    · omega
    · refine ⟨by omega, ?_⟩
      rcases k4 with k4 | k4
      · exact ab ht k4
      · rw [k4]
        exact (jNn_b (by omega) (gl l k1).2.2.2).2
    · exact ⟨by omega, ab ht k4⟩
  · obtain ⟨a1, a2, a3, a4⟩ := gp q hq
    have w := (gl (dP d q 0).toNat (by omega)).2.2.2
    have w2 := gs (dP d q 1).toNat (by omega)
    have w3 := jNn_b (t := (dpr d (dP d q 1).toNat).toNat) (by omega) w
    have c16 := cc_16 h (t := (dP d q 1).toNat) (by omega)
    omega
/-- pairs of copies joined -/
def cGc (A B n : Nat) (E F : Nat → Nat → Prop) : Prop := (∀ x y, E x y → F x y) ∧ (∀ x y, F x y → E x y ∨ ∃ c, c < n ∧ x = A + c ∧ y = B + c) ∧ ∀ c, c < n → F (A + c) (B + c)
theorem cGc_0 {A B : Nat} {E : Nat → Nat → Prop} : cGc A B 0 E E := ⟨fun _ _ q => q, fun _ _ q => Or.inl q, fun c q => absurd q (Nat.not_lt_zero c)⟩
theorem cGc_s {A B n : Nat} {E F : Nat → Nat → Prop} (h : cGc A B n E F) : cGc A B (n + 1) E (jAd F (A + n) (B + n)) := ⟨fun x y q => Or.inl (h.1 x y q), fun x y q => by
  rcases q with q | q
  · rcases h.2.1 x y q with w | ⟨c, w⟩
    · exact Or.inl w
    · exact Or.inr ⟨c, by omega, w.2⟩
  · exact Or.inr ⟨n, Nat.lt_succ_self n, q⟩, fun c hc => by
  by_cases e : c = n
  · rw [e]; exact Or.inr ⟨rfl, rfl⟩
  · exact Or.inl (h.2.2 c (by omega))⟩
def zSc (d : JdS) (A B n : Nat) (E : Nat → Nat → Prop) (I : ZI) : Prop := ∃ F, zJF 78 F I ∧ cGc A B n E F
theorem zSc_fr {d : JdS} {A B n : Nat} {E : Nat → Nat → Prop} {I I' : ZI} (h : zSc d A B n E I) (hf : ∀ c j : Nat, c = 78 → I' c j = I c j) : zSc d A B n E I' := by
  obtain ⟨F, h1, h2⟩ := h
  exact ⟨F, zJF_fr h1 hf, h2⟩
/-- the drawing as the class holds it, without its nets -/
def cSR (d : JdS) (ob : Nat → Int) (s y : Nat) : Int := if y = 0 then ob s else if y = 1 then dpr d s else if y = 2 then dbs d s else if y = 3 then cc d s else if y = 4 then (if dbs d s = s then jNc (dbs d) s (dns d) else 1 : Nat) else 0
def zDA (d : JdS) (ob : Nat → Int) (I : ZI) : Prop := zRT 65 16 (dns d) (cSR d ob) I ∧ (∀ t : Nat, t < dns d → I 67 (16 * dbs d t + cc d t) = t) ∧ zRT 68 100 (dnw d) (dW d) I ∧ zRT 70 50 (dnj d) (dJ d) I ∧ zRT 72 60 (dnl d) (dL d) I ∧ zRT 74 30 (dnp d) (dP d) I ∧ zRT 76 60 (dnt d) (dT d) I
theorem zDA_fr {d : JdS} {ob : Nat → Int} {I I' : ZI} (h : zDA d ob I) (hf : ∀ c j : Nat, 65 ≤ c ∧ c ≤ 77 → I' c j = I c j) : zDA d ob I' := by
  obtain ⟨h1, h2, h3, h4, h5, h6, h7⟩ := h
  exact ⟨zRT_fr h1 (fun c j q => hf c j (by omega)), fun t ht => (hf 67 _ (by omega)).trans (h2 t ht), zRT_fr h3 (fun c j q => hf c j (by omega)), zRT_fr h4 (fun c j q => hf c j (by omega)), zRT_fr h5 (fun c j q => hf c j (by omega)), zRT_fr h6 (fun c j q => hf c j (by omega)), zRT_fr h7 (fun c j q => hf c j (by omega))⟩
/-- a pair of things on a base, all copies: joined in the drawing -/
theorem cOn {d : JdS} {b c : Nat} (h : c < jNc (dbs d) b (dns d)) : ∃ t, t < dns d ∧ dbs d t = b ∧ cc d t = c := by
  obtain ⟨t, h1, h2, h3, h4⟩ := jOn_ex (d := d) (b := (b : Int)) (o := c) (Nat.le_refl _) h
  have e : dbs d t = b := by omega
  refine ⟨t, h2, e, ?_⟩
  unfold cc
  rw [e]
  exact h4
theorem cc_lt {d : JdS} {t : Nat} (ht : t < dns d) : cc d t < jNc (dbs d) (dbs d t) (dns d) := jOn_lt (cc_on ht)
/-- the state of the class's joining: what is asked for is joined, and nothing that the drawing doesn't join -/
def zCs (d : JdS) (E D : Nat → Nat → Prop) (I : ZI) : Prop := ∃ F, zJF 78 F I ∧ (∀ x y, E x y → F x y) ∧ (∀ x y, F x y → E x y ∨ jCl (cE d) x y) ∧ ∀ x y, D x y → jCl F x y
theorem zCs_fr {d : JdS} {E D : Nat → Nat → Prop} {I I' : ZI} (h : zCs d E D I) (hf : ∀ c j : Nat, c = 78 → I' c j = I c j) : zCs d E D I' := by
  obtain ⟨F, h1, h2⟩ := h
  exact ⟨F, zJF_fr h1 hf, h2⟩
theorem zCs_0 {d : JdS} {E D : Nat → Nat → Prop} {I : ZI} (h : zJF 78 E I) (hD : ∀ x y, ¬ D x y) : zCs d E D I := ⟨E, h, fun _ _ q => q, fun _ _ q => Or.inl q, fun x y q => absurd q (hD x y)⟩
theorem zCs_n {d : JdS} {E D D' : Nat → Nat → Prop} {I : ZI} (h : zCs d E D I) (hD : ∀ x y, D' x y → jCl D x y) : zCs d E D' I := by
  obtain ⟨F, h1, h2, h3, h4⟩ := h
  exact ⟨F, h1, h2, h3, fun x y q => jCl_m h4 (hD x y q)⟩
theorem zCs_a {d : JdS} {E D D' F : Nat → Nat → Prop} {A B n : Nat} {I : ZI} (h : zSc d A B n F I) (h2 : ∀ x y, E x y → F x y) (h3 : ∀ x y, F x y → E x y ∨ jCl (cE d) x y) (h4 : ∀ x y, D x y → jCl F x y)
    (hs : ∀ c, c < n → jCl (cE d) (A + c) (B + c)) (hD : ∀ x y, D' x y → D x y ∨ ∃ c, c < n ∧ x = A + c ∧ y = B + c) : zCs d E D' I := by
  obtain ⟨G, g1, g2, g3, g4⟩ := h
  refine ⟨G, g1, fun x y q => g2 x y (h2 x y q), fun x y q => ?_, fun x y q => ?_⟩
  · rcases g3 x y q with w | ⟨c, w1, w2, w3⟩
    · exact h3 x y w
    · rw [w2, w3]; exact Or.inr (hs c w1)
  · rcases hD x y q with w | ⟨c, w1, w2, w3⟩
    · exact jCl_m (fun a b k => jCl_e (g2 a b k)) (h4 x y w)
    · rw [w2, w3]; exact jCl_e (g4 c w1)
theorem zCs_1 {d : JdS} {E D D' F : Nat → Nat → Prop} {a b : Nat} {I : ZI} (h : zJF 78 (jAd F a b) I) (h2 : ∀ x y, E x y → F x y) (h3 : ∀ x y, F x y → E x y ∨ jCl (cE d) x y) (h4 : ∀ x y, D x y → jCl F x y)
    (hs : jCl (cE d) a b) (hD : ∀ x y, D' x y → D x y ∨ (x = a ∧ y = b)) : zCs d E D' I :=
  ⟨_, h, fun x y q => Or.inl (h2 x y q), fun x y q => by
    rcases q with q | q
    · exact h3 x y q
    · rw [q.1, q.2]; exact Or.inr hs, fun x y q => by
    rcases hD x y q with w | w
    · exact jAd_l (h4 x y w)
    · rw [w.1, w.2]; exact jAd_r⟩
theorem zCs_t {d : JdS} {E D F D' : Nat → Nat → Prop} {I : ZI} (h2 : ∀ x y, E x y → F x y) (h3 : ∀ x y, F x y → E x y ∨ jCl (cE d) x y) (h4 : ∀ x y, D x y → jCl F x y) (g : zCs d F D' I) : zCs d E (fun x y => D x y ∨ D' x y) I := by
  obtain ⟨G, g1, g2, g3, g4⟩ := g
  exact ⟨G, g1, fun x y q => g2 x y (h2 x y q), fun x y q => by
    rcases g3 x y q with w | w
    · exact h3 x y w
    · exact Or.inr w, fun x y q => by
    rcases q with q | q
    · exact jCl_m (fun a b k => jCl_e (g2 a b k)) (h4 x y q)
    · exact g4 x y q⟩
/-- what each step asks for -/
def dWw (d : JdS) (i j : Nat) (x y : Nat) : Prop := ∃ v w t, v < w ∧ w < dnw d ∧ (v < i ∨ (v = i ∧ w < j)) ∧ t < dns d ∧ dW d v 0 = dbs d t ∧ dW d w 0 = dbs d t ∧ jEn (dW d) w v ∧ x = 1920 + 16 * v + cc d t ∧ y = 1920 + 16 * w + cc d t
def dJj (d : JdS) (i : Nat) (x y : Nat) : Prop := ∃ j v w t, j < i ∧ v < dnw d ∧ w < dnw d ∧ t < dns d ∧ dJ d j 0 = dbs d t ∧ dW d v 0 = dbs d t ∧ dW d w 0 = dbs d t ∧ jTh (dW d) v (dJ d j 1) (dJ d j 2) ∧ jTh (dW d) w (dJ d j 1) (dJ d j 2) ∧ x = 1920 + 16 * v + cc d t ∧ y = 1920 + 16 * w + cc d t
def dTw (d : JdS) (f : Nat → Nat → Int) (nd i j : Nat) (x y : Nat) : Prop := ∃ n w t, (n < i ∨ (n = i ∧ w < j)) ∧ w < dnw d ∧ t < dns d ∧ f n 0 = dbs d t ∧ dW d w 0 = dbs d t ∧ jTh (dW d) w (f n 1) (f n 2) ∧ x = nd + 16 * n + cc d t ∧ y = 1920 + 16 * w + cc d t
def dSp (d : JdS) (f g : Nat → Nat → Int) (nf ng mg i j : Nat) (x y : Nat) : Prop := ∃ n m t, (n < i ∨ (n = i ∧ m < j)) ∧ m < mg ∧ t < dns d ∧ f n 0 = dbs d t ∧ g m 0 = dbs d t ∧ g m 1 = f n 1 ∧ g m 2 = f n 2 ∧ x = nf + 16 * n + cc d t ∧ y = ng + 16 * m + cc d t
def dNm (d : JdS) (i c : Nat) (x y : Nat) : Prop := ∃ l t, (l < i ∨ (l = i ∧ cc d t < c)) ∧ l < dnl d ∧ t < dns d ∧ dL d l 0 = dbs d t ∧ x = 960 + 16 * l + cc d t ∧ y = jNn t (dL d l 3)
def dPp (d : JdS) (i : Nat) (x y : Nat) : Prop := ∃ q, q < i ∧ cEp d q x y
theorem jEn_s {f : Nat → Nat → Int} {v w : Nat} (h : jEn f v w) : jEn f w v := by
  obtain ⟨i, j, h1, h2, h3, h4⟩ := h
  exact ⟨j, i, h2, h1, h3.symm, h4.symm⟩
/-- two wires of one sheet that are joined, either way round -/
theorem cWw {d : JdS} {t v w : Nat} (ht : t < dns d) (hv : v < dnw d) (hw : w < dnw d) (h1 : dW d v 0 = dbs d t) (h2 : dW d w 0 = dbs d t) (h : jEn (dW d) v w ∨ ∃ j, j < dnj d ∧ dJ d j 0 = dbs d t ∧ jTh (dW d) v (dJ d j 1) (dJ d j 2) ∧ jTh (dW d) w (dJ d j 1) (dJ d j 2)) : jCl (cE d) (1920 + 16 * v + cc d t) (1920 + 16 * w + cc d t) := by
  rcases Nat.lt_trichotomy v w with q | q | q
  · refine jCl_s (jCl_e (Or.inl ⟨t, ht, Or.inl ⟨w, v, hw, q, ⟨h2, h1, ?_⟩, rfl, rfl⟩⟩))
    rcases h with h | ⟨j, k1, k2, k3, k4⟩
    · exact Or.inl (jEn_s h)
    · exact Or.inr ⟨j, k1, k2, k4, k3⟩
  · rw [q]; exact jCl_r
  · exact jCl_e (Or.inl ⟨t, ht, Or.inl ⟨v, w, hv, q, ⟨h1, h2, h⟩, rfl, rfl⟩⟩)
/-- all asked for is all that is joined -/
theorem zCs_end {d : JdS} {D : Nat → Nat → Prop} {I : ZI} (hg : jGd d) (h : zCs d (fun _ _ => False) D I) (h1 : ∀ x y, dWw d (dnw d) 0 x y → D x y) (h2 : ∀ x y, dJj d (dnj d) x y → D x y) (h3 : ∀ x y, dTw d (dL d) 960 (dnl d) 0 x y → D x y) (h4 : ∀ x y, dTw d (dT d) 0 (dnt d) 0 x y → D x y)
    (h5 : ∀ x y, dSp d (dL d) (dL d) 960 960 (dnl d) (dnl d) 0 x y → D x y) (h6 : ∀ x y, dSp d (dL d) (dT d) 960 0 (dnt d) (dnl d) 0 x y → D x y) (h7 : ∀ x y, dSp d (dT d) (dT d) 0 0 (dnt d) (dnt d) 0 x y → D x y) (h8 : ∀ x y, dNm d (dnl d) 0 x y → D x y) (h9 : ∀ x y, dPp d (dnp d) x y → D x y) : zJF 78 (cE d) I := by
  obtain ⟨F, ⟨rt, k1, k2, k3⟩, -, k4, k5⟩ := h
  refine ⟨rt, k1, jR_eq k2 (fun x y q => (k4 x y q).resolve_left (fun w => w)) (fun x y q => ?_), fun x y q => cE_b hg q⟩
  rcases q with ⟨t, ht, q⟩ | ⟨p, hp, q⟩
  · rcases q with ⟨v, w, a1, a2, a3, a4, a5⟩ | ⟨l, a1, a2, a3, a4⟩ | ⟨p, a1, a2, a3, a4⟩
    · obtain ⟨b1, b2, b3⟩ := a3
      rw [a4, a5]
      rcases b3 with b3 | ⟨j, c1, c2, c3, c4⟩
      · exact jCl_s (k5 _ _ (h1 _ _ ⟨w, v, t, a2, a1, Or.inl (by omega), ht, b2, b1, b3, rfl, rfl⟩))
      · exact k5 _ _ (h2 _ _ ⟨j, v, w, t, c1, a1, by omega, ht, c2, b1, b2, c3, c4, rfl, rfl⟩)
    · rw [a3]
      rcases a4 with (⟨w, c1, c2, c3, c4⟩ | ⟨m, c1, c2, c3, c4, c5⟩ | ⟨m, c1, c2, c3, c4, c5⟩) | a4
      · rw [c4]; exact k5 _ _ (h3 _ _ ⟨l, w, t, Or.inl a1, c1, ht, a2, c2, c3, rfl, rfl⟩)
      · rw [c5]; exact k5 _ _ (h5 _ _ ⟨l, m, t, Or.inl a1, c1, ht, a2, c2, c3, c4, rfl, rfl⟩)
      · rw [c5]
        have w := k5 _ _ (h6 _ _ ⟨l, m, t, Or.inl a1, c1, ht, a2, c2, c3, c4, rfl, rfl⟩)
        rw [Nat.zero_add] at w
        exact w
      · rw [a4]; exact k5 _ _ (h8 _ _ ⟨l, t, Or.inl a1, a1, ht, a2, rfl, rfl⟩)
    · rw [a3]
      rcases a4 with ⟨w, c1, c2, c3, c4⟩ | ⟨m, c1, c2, c3, c4, c5⟩ | ⟨m, c1, c2, c3, c4, c5⟩
      · rw [c4]
        have k := k5 _ _ (h4 _ _ ⟨p, w, t, Or.inl a1, c1, ht, a2, c2, c3, rfl, rfl⟩)
        rw [Nat.zero_add] at k
        exact k
      · rw [c5]
        have k := k5 _ _ (h6 _ _ ⟨m, p, t, Or.inl c1, a1, ht, c2, a2, c3.symm, c4.symm, rfl, rfl⟩)
        rw [Nat.zero_add] at k
        exact jCl_s k
      · rw [c5]
        have k := k5 _ _ (h7 _ _ ⟨p, m, t, Or.inl a1, c1, ht, a2, c2, c3, c4, rfl, rfl⟩)
        rw [Nat.zero_add, Nat.zero_add] at k
        exact k
  · exact k5 _ _ (h9 _ _ ⟨p, hp, q⟩)
theorem jEn_if {f : Nat → Nat → Int} {v w : Nat} : jEn f v w ↔ ((f v 1 = f w 1 ∧ f v 2 = f w 2) ∨ (f v 1 = f w 3 ∧ f v 2 = f w 4) ∨ (f v 3 = f w 1 ∧ f v 4 = f w 2) ∨ (f v 3 = f w 3 ∧ f v 4 = f w 4)) := by
  constructor
  · rintro ⟨i, j, rfl | rfl, rfl | rfl, h1, h2⟩
    · exact Or.inl ⟨h1, h2⟩
    · exact Or.inr (Or.inl ⟨h1, h2⟩)
    · exact Or.inr (Or.inr (Or.inl ⟨h1, h2⟩))
    · exact Or.inr (Or.inr (Or.inr ⟨h1, h2⟩))
  · rintro (⟨h1, h2⟩ | ⟨h1, h2⟩ | ⟨h1, h2⟩ | ⟨h1, h2⟩)
    · exact ⟨0, 0, Or.inl rfl, Or.inl rfl, h1, h2⟩
    · exact ⟨0, 2, Or.inl rfl, Or.inr rfl, h1, h2⟩
    · exact ⟨2, 0, Or.inr rfl, Or.inl rfl, h1, h2⟩
    · exact ⟨2, 2, Or.inr rfl, Or.inr rfl, h1, h2⟩
theorem dWw_a {d : JdS} {i j b x y : Nat} (hb : dW d i 0 = b) (h : dWw d i (j + 1) x y) : dWw d i j x y ∨ ∃ c, c < jNc (dbs d) b (dns d) ∧ x = 1920 + 16 * i + c ∧ y = 1920 + 16 * j + c := by
  obtain ⟨v, w, t, h1, h2, h3, h4, h5, h6, h7, h8, h9⟩ := h
  by_cases e : v = i ∧ w = j
  · obtain ⟨e1, e2⟩ := e
    subst e1 e2
    have e3 : dbs d t = b := by omega
    have e4 := cc_lt h4
    rw [e3] at e4
    exact Or.inr ⟨cc d t, e4, h8, h9⟩
  · exact Or.inl ⟨v, w, t, h1, h2, by omega, h4, h5, h6, h7, h8, h9⟩
theorem dWw_n {d : JdS} {i j x y : Nat} (hn : ¬ (dW d j 0 = dW d i 0 ∧ jEn (dW d) j i)) (h : dWw d i (j + 1) x y) : dWw d i j x y := by
  obtain ⟨v, w, t, h1, h2, h3, h4, h5, h6, h7, h8, h9⟩ := h
  by_cases e : v = i ∧ w = j
  · obtain ⟨e1, e2⟩ := e
    subst e1 e2
    exact absurd ⟨h6.trans h5.symm, h7⟩ hn
  · exact ⟨v, w, t, h1, h2, by omega, h4, h5, h6, h7, h8, h9⟩
theorem dWw_0 {d : JdS} {i x y : Nat} (h : dWw d i (i + 1) x y) : dWw d i 0 x y := by
  obtain ⟨v, w, t, h1, h2, h3, h4⟩ := h
  exact ⟨v, w, t, h1, h2, by omega, h4⟩
theorem dWw_i {d : JdS} {i x y : Nat} (h : dWw d (i + 1) 0 x y) : dWw d i (dnw d) x y := by
  obtain ⟨v, w, t, h1, h2, h3, h4⟩ := h
  exact ⟨v, w, t, h1, h2, by omega, h4⟩
/-- one junction's wires -/
def dJo (d : JdS) (j : Nat) (x y : Nat) : Prop := ∃ v w t, v < dnw d ∧ w < dnw d ∧ t < dns d ∧ dJ d j 0 = dbs d t ∧ dW d v 0 = dbs d t ∧ dW d w 0 = dbs d t ∧ jTh (dW d) v (dJ d j 1) (dJ d j 2) ∧ jTh (dW d) w (dJ d j 1) (dJ d j 2) ∧ x = 1920 + 16 * v + cc d t ∧ y = 1920 + 16 * w + cc d t
def cTj (d : JdS) (j w : Nat) : Prop := dW d w 0 = dJ d j 0 ∧ jTh (dW d) w (dJ d j 1) (dJ d j 2)
def dJf (d : JdS) (j : Nat) (f : Int) (i : Nat) (x y : Nat) : Prop := ∃ w t, w < i ∧ 0 ≤ f ∧ cTj d j w ∧ t < dns d ∧ dW d w 0 = dbs d t ∧ x = 1920 + 16 * f.toNat + cc d t ∧ y = 1920 + 16 * w + cc d t
theorem dJf_end {d : JdS} {j : Nat} {f : Int} (hf : (f = -1 ∧ ∀ w, w < dnw d → ¬ cTj d j w) ∨ 0 ≤ f) {x y : Nat} (h : dJo d j x y) : jCl (dJf d j f (dnw d)) x y := by
  obtain ⟨v, w, t, h1, h2, h3, h4, h5, h6, h7, h8, h9, h10⟩ := h
  have tv : cTj d j v := ⟨h5.trans h4.symm, h7⟩
  have tw : cTj d j w := ⟨h6.trans h4.symm, h8⟩
  rcases hf with ⟨-, q⟩ | q
  · exact absurd tv (q v h1)
  · rw [h9, h10]
    exact jCl_t (jCl_s (jCl_e ⟨v, t, h1, q, tv, h3, h5, rfl, rfl⟩)) (jCl_e ⟨w, t, h2, q, tw, h3, h6, rfl, rfl⟩)
theorem dJf_a {d : JdS} {j i b x y : Nat} {f : Int} (hb : dW d i 0 = b) (h : dJf d j f (i + 1) x y) : dJf d j f i x y ∨ ∃ c, c < jNc (dbs d) b (dns d) ∧ x = 1920 + 16 * f.toNat + c ∧ y = 1920 + 16 * i + c := by
  obtain ⟨w, t, h1, h2, h3, h4, h5, h6, h7⟩ := h
  by_cases e : w = i
  · subst e
    have e3 : dbs d t = b := by omega
    have e4 := cc_lt h4
    rw [e3] at e4
    exact Or.inr ⟨cc d t, e4, h6, h7⟩
  · exact Or.inl ⟨w, t, by omega, h2, h3, h4, h5, h6, h7⟩
theorem dJf_n {d : JdS} {j i x y : Nat} {f : Int} (hn : ¬ cTj d j i) (h : dJf d j f (i + 1) x y) : dJf d j f i x y := by
  obtain ⟨w, t, h1, h2, h3, h4⟩ := h
  by_cases e : w = i
  · rw [e] at h3; exact absurd h3 hn
  · exact ⟨w, t, by omega, h2, h3, h4⟩
theorem dTw_a {d : JdS} {f : Nat → Nat → Int} {nd i j b x y : Nat} (hb : f i 0 = b) (h : dTw d f nd i (j + 1) x y) : dTw d f nd i j x y ∨ ∃ c, c < jNc (dbs d) b (dns d) ∧ x = nd + 16 * i + c ∧ y = 1920 + 16 * j + c := by
  obtain ⟨n, w, t, h1, h2, h3, h4, h5, h6, h7, h8⟩ := h
  by_cases e : n = i ∧ w = j
  · obtain ⟨e1, e2⟩ := e
    subst e1 e2
    have e3 : dbs d t = b := by omega
    have e4 := cc_lt h3
    rw [e3] at e4
    exact Or.inr ⟨cc d t, e4, h7, h8⟩
  · exact Or.inl ⟨n, w, t, by omega, h2, h3, h4, h5, h6, h7, h8⟩
theorem dTw_n {d : JdS} {f : Nat → Nat → Int} {nd i j x y : Nat} (hn : ¬ (dW d j 0 = f i 0 ∧ jTh (dW d) j (f i 1) (f i 2))) (h : dTw d f nd i (j + 1) x y) : dTw d f nd i j x y := by
  obtain ⟨n, w, t, h1, h2, h3, h4, h5, h6, h7⟩ := h
  by_cases e : n = i ∧ w = j
  · obtain ⟨e1, e2⟩ := e
    subst e1 e2
    exact absurd ⟨h5.trans h4.symm, h6⟩ hn
  · exact ⟨n, w, t, by omega, h2, h3, h4, h5, h6, h7⟩
theorem dTw_i {d : JdS} {f : Nat → Nat → Int} {nd i x y : Nat} (h : dTw d f nd (i + 1) 0 x y) : dTw d f nd i (dnw d) x y := by
  obtain ⟨n, w, t, h1, h2, h3⟩ := h
  exact ⟨n, w, t, by omega, h2, h3⟩
theorem dSp_a {d : JdS} {f g : Nat → Nat → Int} {nf ng mg i j b x y : Nat} (hb : f i 0 = b) (h : dSp d f g nf ng mg i (j + 1) x y) : dSp d f g nf ng mg i j x y ∨ ∃ c, c < jNc (dbs d) b (dns d) ∧ x = nf + 16 * i + c ∧ y = ng + 16 * j + c := by
  obtain ⟨n, w, t, h1, h2, h3, h4, h5, h6, h7, h8, h9⟩ := h
  by_cases e : n = i ∧ w = j
  · obtain ⟨e1, e2⟩ := e
    subst e1 e2
    have e3 : dbs d t = b := by omega
    have e4 := cc_lt h3
    rw [e3] at e4
    exact Or.inr ⟨cc d t, e4, h8, h9⟩
  · exact Or.inl ⟨n, w, t, by omega, h2, h3, h4, h5, h6, h7, h8, h9⟩
theorem dSp_n {d : JdS} {f g : Nat → Nat → Int} {nf ng mg i j x y : Nat} (hn : ¬ (g j 0 = f i 0 ∧ g j 1 = f i 1 ∧ g j 2 = f i 2)) (h : dSp d f g nf ng mg i (j + 1) x y) : dSp d f g nf ng mg i j x y := by
  obtain ⟨n, w, t, h1, h2, h3, h4, h5, h6, h7, h8⟩ := h
  by_cases e : n = i ∧ w = j
  · obtain ⟨e1, e2⟩ := e
    subst e1 e2
    exact absurd ⟨h5.trans h4.symm, h6, h7⟩ hn
  · exact ⟨n, w, t, by omega, h2, h3, h4, h5, h6, h7, h8⟩
theorem dSp_i {d : JdS} {f g : Nat → Nat → Int} {nf ng mg i x y : Nat} (h : dSp d f g nf ng mg (i + 1) 0 x y) : dSp d f g nf ng mg i mg x y := by
  obtain ⟨n, w, t, h1, h2, h3⟩ := h
  exact ⟨n, w, t, by omega, h2, h3⟩
/-- what such a pair of copies is joined by -/
theorem cTw_l {d : JdS} {l w t : Nat} (ht : t < dns d) (hl : l < dnl d) (hw : w < dnw d) (h1 : dL d l 0 = dbs d t) (h2 : dW d w 0 = dbs d t) (h3 : jTh (dW d) w (dL d l 1) (dL d l 2)) : jCl (cE d) (960 + 16 * l + cc d t) (1920 + 16 * w + cc d t) :=
  jCl_e (Or.inl ⟨t, ht, Or.inr (Or.inl ⟨l, hl, h1, rfl, Or.inl (Or.inl ⟨w, hw, h2, h3, rfl⟩)⟩)⟩)
theorem cTw_t {d : JdS} {l w t : Nat} (ht : t < dns d) (hl : l < dnt d) (hw : w < dnw d) (h1 : dT d l 0 = dbs d t) (h2 : dW d w 0 = dbs d t) (h3 : jTh (dW d) w (dT d l 1) (dT d l 2)) : jCl (cE d) (0 + 16 * l + cc d t) (1920 + 16 * w + cc d t) := by
  rw [Nat.zero_add]
  exact jCl_e (Or.inl ⟨t, ht, Or.inr (Or.inr ⟨l, hl, h1, rfl, Or.inl ⟨w, hw, h2, h3, rfl⟩⟩)⟩)
theorem cSp_ll {d : JdS} {l m t : Nat} (ht : t < dns d) (hl : l < dnl d) (hm : m < dnl d) (h1 : dL d l 0 = dbs d t) (h2 : dL d m 0 = dbs d t) (h3 : dL d m 1 = dL d l 1) (h4 : dL d m 2 = dL d l 2) : jCl (cE d) (960 + 16 * l + cc d t) (960 + 16 * m + cc d t) :=
  jCl_e (Or.inl ⟨t, ht, Or.inr (Or.inl ⟨l, hl, h1, rfl, Or.inl (Or.inr (Or.inl ⟨m, hm, h2, h3, h4, rfl⟩))⟩)⟩)
theorem cSp_lt {d : JdS} {l m t : Nat} (ht : t < dns d) (hl : l < dnl d) (hm : m < dnt d) (h1 : dL d l 0 = dbs d t) (h2 : dT d m 0 = dbs d t) (h3 : dT d m 1 = dL d l 1) (h4 : dT d m 2 = dL d l 2) : jCl (cE d) (960 + 16 * l + cc d t) (0 + 16 * m + cc d t) := by
  rw [Nat.zero_add]
  exact jCl_e (Or.inl ⟨t, ht, Or.inr (Or.inl ⟨l, hl, h1, rfl, Or.inl (Or.inr (Or.inr ⟨m, hm, h2, h3, h4, rfl⟩))⟩)⟩)
theorem cSp_tt {d : JdS} {l m t : Nat} (ht : t < dns d) (hl : l < dnt d) (hm : m < dnt d) (h1 : dT d l 0 = dbs d t) (h2 : dT d m 0 = dbs d t) (h3 : dT d m 1 = dT d l 1) (h4 : dT d m 2 = dT d l 2) : jCl (cE d) (0 + 16 * l + cc d t) (0 + 16 * m + cc d t) := by
  rw [Nat.zero_add, Nat.zero_add]
  exact jCl_e (Or.inl ⟨t, ht, Or.inr (Or.inr ⟨l, hl, h1, rfl, Or.inr (Or.inr ⟨m, hm, h2, h3, h4, rfl⟩)⟩)⟩)
theorem dNm_a {d : JdS} {i c t b x y : Nat} (ht : t < dns d) (hc : cc d t = c) (hbt : dbs d t = b) (hb : dL d i 0 = b) (h : dNm d i (c + 1) x y) : dNm d i c x y ∨ (x = 960 + 16 * i + c ∧ y = jNn t (dL d i 3)) := by
  obtain ⟨l, u, h1, h2, h3, h4, h5, h6⟩ := h
  by_cases e : l = i ∧ cc d u = c
  · obtain ⟨e1, e2⟩ := e
    subst e1
    have e3 : u = t := by
      have o1 := cc_on h3
      have o2 := cc_on ht
      rw [show dbs d u = b by omega, e2] at o1
      rw [hbt, hc] at o2
      exact jOn_1 o1 o2
    rw [e3] at h5 h6
    exact Or.inr ⟨by omega, h6⟩
  · exact Or.inl ⟨l, u, by omega, h2, h3, h4, h5, h6⟩
theorem dNm_i {d : JdS} {i b x y : Nat} (hb : dL d i 0 = b) (h : dNm d (i + 1) 0 x y) : dNm d i (jNc (dbs d) b (dns d)) x y := by
  obtain ⟨l, u, h1, h2, h3, h4, h5⟩ := h
  refine ⟨l, u, ?_, h2, h3, h4, h5⟩
  by_cases e : l = i
  · subst e
    have e3 : dbs d u = b := by omega
    have e4 := cc_lt h3
    rw [e3] at e4
    exact Or.inr ⟨rfl, e4⟩
  · exact Or.inl (by omega)
theorem dPp_a {d : JdS} {i a b x y : Nat} (hE : cEp d i a b) (h : dPp d (i + 1) x y) : dPp d i x y ∨ (x = a ∧ y = b) := by
  obtain ⟨q, h1, h2⟩ := h
  by_cases e : q = i
  · subst e
    exact Or.inr ⟨h2.1.trans hE.1.symm, h2.2.trans hE.2.symm⟩
  · exact Or.inl ⟨q, by omega, h2⟩
theorem dJj_s {d : JdS} {i x y : Nat} (h : dJj d (i + 1) x y) : dJj d i x y ∨ dJo d i x y := by
  obtain ⟨j, v, w, t, h1, h2⟩ := h
  by_cases e : j = i
  · rw [e] at h2; exact Or.inr ⟨v, w, t, h2⟩
  · exact Or.inl ⟨j, v, w, t, by omega, h2⟩
/-- nodes of terminals that are joined to others are copies that are there -/
theorem cE_v {d : JdS} (hg : jGd d) {x y : Nat} (h : cE d x y) : (x < 960 → jV d x) ∧ (y < 960 → jV d y) := by
  obtain ⟨⟨g1, g2, g3, g4, g5, g6⟩, gs, gw, gj, gl, gp, gt⟩ := id hg
  have tv : ∀ {t p : Nat}, t < dns d → p < dnt d → dT d p 0 = dbs d t → jV d (16 * p + cc d t) := fun {t p} h1 h2 h3 => by
    have o := cc_on h1
    rw [← h3] at o
    exact (jV_of h2 o (cc_16 hg h1)).1
  have av : ∀ {t : Nat} {a b : Int} {z : Nat}, t < dns d → cAt d t a b z → z < 960 → jV d z := fun {t a b z} ht q hz => by
    rcases q with ⟨w, h1, h2, h3, h4⟩ | ⟨l, h1, h2, h3, h4, h5⟩ | ⟨p, h1, h2, h3, h4, h5⟩
    · omega
    · omega
    · rw [h5]; exact tv ht h1 h2
  rcases h with ⟨t, ht, h1⟩ | ⟨q, hq, h1, h2⟩
  · have c16 := cc_16 hg ht
    rcases h1 with ⟨v, w, k1, k2, k3, k4, k5⟩ | ⟨l, k1, k2, k3, k4⟩ | ⟨p, k1, k2, k3, k4⟩
    · exact ⟨fun q => by omega, fun q => by omega⟩
    · refine ⟨fun q => by omega, fun q => ?_⟩
      rcases k4 with k4 | k4
      · exact av ht k4 q
      · have := (jNn_b (t := t) (by omega) (gl l k1).2.2.2).1
        omega
    · exact ⟨fun _ => by rw [k3]; exact tv ht k1 k2, fun q => av ht k4 q⟩
  · obtain ⟨a1, a2, a3, a4⟩ := gp q hq
    have w := (gl (dP d q 0).toNat (by omega)).2.2.2
    have w2 := gs (dP d q 1).toNat (by omega)
    have w3 := (jNn_b (t := (dpr d (dP d q 1).toNat).toNat) (by omega) w).1
    exact ⟨fun q => by omega, fun q => by omega⟩
theorem cCl_v {d : JdS} (hg : jGd d) {i r : Nat} (h : jCl (cE d) i r) (hne : i ≠ r) (hr : r < 960) : jV d r := by
  refine Classical.byContradiction (fun q => ?_)
  have w := h (fun x => @ite Nat (x < 960 ∧ ¬ jV d x) (Classical.propDecidable _) (x + 1) 0) (fun x y k => by
    have e := cE_v hg k
    show @ite Nat (x < 960 ∧ ¬ jV d x) (Classical.propDecidable _) (x + 1) 0 = @ite Nat (y < 960 ∧ ¬ jV d y) (Classical.propDecidable _) (y + 1) 0
    rw [if_neg (fun z => z.2 (e.1 z.1)), if_neg (fun z => z.2 (e.2 z.1))])
  have w' : @ite Nat (i < 960 ∧ ¬ jV d i) (Classical.propDecidable _) (i + 1) 0 = @ite Nat (r < 960 ∧ ¬ jV d r) (Classical.propDecidable _) (r + 1) 0 := w
  by_cases e : i < 960 ∧ ¬ jV d i
  · rw [if_pos e, if_pos ⟨hr, q⟩] at w'; omega
  · rw [if_neg e, if_pos ⟨hr, q⟩] at w'; omega
/-- nets of the class, as far as numbered -/
def zCn (d : JdS) (n : Nat) (I : ZI) : Prop := I 63 14 = zct (jFst d) n ∧ (∀ i : Nat, i < n → jV d i → I 79 i = jNo d i) ∧ ∀ i : Nat, i < n → jFst d i → I 80 (jNo d i) = -1 - ((i / 16 : Nat) : Int)
theorem zCn_fr {d : JdS} {n : Nat} {I I' : ZI} (h : zCn d n I) (hf : ∀ c j : Nat, (c = 63 ∧ j = 14) ∨ c = 79 ∨ c = 80 → I' c j = I c j) : zCn d n I' :=
  ⟨(hf 63 14 (by omega)).trans h.1, fun i h1 h2 => (hf 79 i (by omega)).trans (h.2.1 i h1 h2), fun i h1 h2 => (hf 80 _ (by omega)).trans (h.2.2 i h1 h2)⟩
theorem zCn_0 {d : JdS} {I : ZI} (h : I 63 14 = 0) : zCn d 0 I := ⟨h, fun i q => absurd q (Nat.not_lt_zero i), fun i q => absurd q (Nat.not_lt_zero i)⟩
theorem zCn_sk {d : JdS} {n m : Nat} {I : ZI} (h : zCn d n I) (hnm : n ≤ m) (hv : ∀ i, n ≤ i → i < m → ¬ jV d i) : zCn d m I := by
  have key : ∀ i, i < m → jV d i → i < n := fun i q1 q2 => Classical.byContradiction (fun q => hv i (by omega) q1 q2)
  exact ⟨h.1.trans (by rw [zct_k hnm (fun i q1 q2 q3 => hv i q1 q2 q3.1)]), fun i q1 q2 => h.2.1 i (key i q1 q2) q2, fun i q1 q2 => h.2.2 i (key i q1 q2.1) q2⟩
/-- a root is a first one -/
theorem cRt {d : JdS} (hg : jGd d) {rt : Nat → Nat} (hR : jR 19520 (cE d) rt) (hU : ∀ n, n < 19520 → rt n ≤ n ∧ rt (rt n) = rt n) {i : Nat} (hv : jV d i) : (rt i = i → jFst d i) ∧ (rt i ≠ i → ¬ jFst d i ∧ jV d (rt i) ∧ rt i < i ∧ jNo d i = jNo d (rt i)) := by
  have hb := jNd_lt hg hv
  have hi : i < 960 := by have := hv.1; have := hg.1.2.2.2.2.2; omega
  have u := hU i (by omega)
  constructor
  · intro e
    refine ⟨hv, fun i' h1 h2 h3 => ?_⟩
    have w := (hR i' i (by omega) (by omega)).2 ((cS_iff hg h2 hv).1 h3)
    have := (hU i' (by omega)).1
    omega
  · intro e
    have hc : jCl (cE d) i (rt i) := (hR i (rt i) (by omega) (by omega)).1 u.2.symm
    have hv2 := cCl_v hg hc (fun q => e q.symm) (by omega)
    have hs : jS d i (rt i) := (cS_iff hg hv hv2).2 hc
    exact ⟨fun q => q.2 (rt i) (by omega) hv2 (jCl_s hs), hv2, by omega, jNo_s hv hv2 hs⟩
theorem zCn_st {d : JdS} {n : Nat} {I I' : ZI} (hg : jGd d) (h : zCn d n I) (hv : jV d n)
    (hn : (jFst d n ∧ I' 63 14 = I 63 14 + 1 ∧ (∀ j : Nat, I' 79 j = if j = n then I 63 14 else I 79 j) ∧ ∀ j : Nat, I' 80 j = if (j : Int) = I 63 14 then -1 - ((n / 16 : Nat) : Int) else I 80 j) ∨ (¬ jFst d n ∧ I' 63 14 = I 63 14 ∧ (∀ j : Nat, I' 79 j = if j = n then (jNo d n : Int) else I 79 j) ∧ ∀ j : Nat, I' 80 j = I 80 j)) : zCn d (n + 1) I' := by
  obtain ⟨h1, h2, h3⟩ := h
  rcases hn with ⟨q1, q2, q3, q4⟩ | ⟨q1, q2, q3, q4⟩
  · have e := jNo_f q1
    refine ⟨by rw [q2, h1, zct_t q1]; rfl, fun i k1 k2 => ?_, fun i k1 k2 => ?_⟩
    · rw [q3]
      by_cases w : i = n
      · rw [if_pos w, w, h1, e]
      · rw [if_neg w]; exact h2 i (by omega) k2
    · rw [q4, h1]
      by_cases w : i = n
      · rw [w, e, if_pos rfl]
      · have lt := jNo_lt k2.1 (n := n) (by omega)
        rw [if_neg (by omega)]
        exact h3 i (by omega) k2
  · refine ⟨by rw [q2, h1, zct_f q1], fun i k1 k2 => ?_, fun i k1 k2 => ?_⟩
    · rw [q3]
      by_cases w : i = n
      · rw [if_pos w, w]
      · rw [if_neg w]; exact h2 i (by omega) k2
    · rw [q4]
      exact h3 i (by
        have : i ≠ n := fun w => q1 (by rw [← w]; exact k2)
        omega) k2
/-! names and remarks, as the class finds them -/
/-- pairs of a net and a name that are there -/
def cQ (d : JdS) (q : Nat) : Prop := jHas d (q / 1000) (q % 1000)
theorem jNm_lo {d : JdS} {n m : Nat} (h : jHas d n m) (hm : m < 1000) : 0 ≤ jNm d n ∧ jNm d n ≤ m ∧ jHas d n (jNm d n).toNat := by
  unfold jNm
  rcases zlow_sp (jHas d n) 1000 with u | ⟨r, r1, r2, r3, r4⟩
  · exact absurd h (u.2 m hm)
  · rw [r2, if_neg (by omega)]
    refine ⟨by omega, ?_, r3⟩
    rcases Nat.lt_or_ge m r with z | z
    · exact absurd h (r4 m z)
    · omega
/-- the rows while the names are taken: b is above all that is taken -/
def cTn (d : JdS) (b : Nat) (nm : Nat → Int) (rm : Nat → Int) (rc : Nat) : Prop := (∀ m, m < zct (jFst d) 960 → ((∃ q, q < b ∧ cQ d q ∧ q / 1000 = m) ∧ nm m = jNm d m) ∨ ((∀ q, q < b → cQ d q → q / 1000 ≠ m) ∧ nm m < 0 ∧ nm m = -1 - (((zlow (fun i => jV d i ∧ jNo d i = m) 960).toNat / 16 : Nat) : Int))) ∧
  rc = zct (jRk d) b ∧ ∀ k, k < rc → ∃ q, q < b ∧ jRk d q ∧ zct (jRk d) q = k ∧ rm k = q
theorem cTn_k {d : JdS} {b c : Nat} {nm rm : Nat → Int} {rc : Nat} (h : cTn d b nm rm rc) (hbc : b ≤ c) (hn : ∀ q, b ≤ q → q < c → ¬ cQ d q) : cTn d c nm rm rc := by
  obtain ⟨h1, h2, h3⟩ := h
  refine ⟨fun m hm => ?_, h2.trans (zct_k hbc (fun i q1 q2 q3 => hn i q1 q2 q3.2)).symm, fun k hk => ?_⟩
  · rcases h1 m hm with ⟨⟨q, q1, q2⟩, q3⟩ | ⟨q1, q2⟩
    · exact Or.inl ⟨⟨q, by omega, q2⟩, q3⟩
    · refine Or.inr ⟨fun q k1 k2 => ?_, q2⟩
      rcases Nat.lt_or_ge q b with z | z
      · exact q1 q z k2
      · exact absurd k2 (hn q z k1)
  · obtain ⟨q, q1, q2⟩ := h3 k hk
    exact ⟨q, by omega, q2⟩
/-- the first of a net: its name -/
theorem cTn_f {d : JdS} {b : Nat} {nm rm : Nat → Int} {rc : Nat} (h : cTn d b nm rm rc) (hq : cQ d b) (hb : b / 1000 < zct (jFst d) 960) (hneg : nm (b / 1000) < 0) : cTn d (b + 1) (upF nm (b / 1000) ((b % 1000 : Nat) : Int)) rm rc := by
  obtain ⟨h1, h2, h3⟩ := h
  have lo := jNm_lo hq (Nat.mod_lt _ (by decide))
  have hno : ∀ q, q < b → cQ d q → q / 1000 ≠ b / 1000 := by
    rcases h1 _ hb with ⟨-, q3⟩ | ⟨q1, -⟩
    · omega
    · exact q1
  have e : jNm d (b / 1000) = ((b % 1000 : Nat) : Int) := by
    by_cases z : (jNm d (b / 1000)).toNat < b % 1000
    · have w := hno (1000 * (b / 1000) + (jNm d (b / 1000)).toNat) (by omega) (by
        unfold cQ
        rw [show (1000 * (b / 1000) + (jNm d (b / 1000)).toNat) / 1000 = b / 1000 by omega, show (1000 * (b / 1000) + (jNm d (b / 1000)).toNat) % 1000 = (jNm d (b / 1000)).toNat by omega]
        exact lo.2.2)
      omega
    · omega
  refine ⟨fun m hm => ?_, h2.trans (zct_f (fun q => q.1 e)).symm, fun k hk => ?_⟩
  · by_cases em : m = b / 1000
    · rw [em, upF_at]
      exact Or.inl ⟨⟨b, Nat.lt_succ_self b, hq, rfl⟩, e.symm⟩
    · rw [upF_ne em]
      rcases h1 m hm with ⟨⟨q, q1, q2⟩, q3⟩ | ⟨q1, q2⟩
      · exact Or.inl ⟨⟨q, by omega, q2⟩, q3⟩
      · refine Or.inr ⟨fun q k1 k2 => ?_, q2⟩
        by_cases z : q = b
        · rw [z]; exact fun k => em k.symm
        · exact q1 q (by omega) k2
  · obtain ⟨q, q1, q2⟩ := h3 k hk
    exact ⟨q, by omega, q2⟩
/-- a further one of a net: a remark -/
theorem cTn_g {d : JdS} {b : Nat} {nm rm : Nat → Int} {rc : Nat} (h : cTn d b nm rm rc) (hq : cQ d b) (hb : b / 1000 < zct (jFst d) 960) (hpos : 0 ≤ nm (b / 1000)) : cTn d (b + 1) nm (upF rm rc b) (rc + 1) ∧ rc = zct (jRk d) b := by
  obtain ⟨h1, h2, h3⟩ := h
  obtain ⟨⟨q0, k1, k2, k3⟩, k4⟩ := (h1 _ hb).resolve_right (fun w => by have := w.2.1; omega)
  have hR : jRk d b := by
    refine ⟨fun e => ?_, hq⟩
    unfold cQ at k2
    rw [k3] at k2
    have lo := jNm_lo k2 (Nat.mod_lt _ (by decide))
    omega
  refine ⟨⟨fun m hm => ?_, by rw [zct_t hR, h2], fun k hk => ?_⟩, h2⟩
  · rcases h1 m hm with ⟨⟨q, q1, q2⟩, q3⟩ | ⟨q1, q2⟩
    · exact Or.inl ⟨⟨q, by omega, q2⟩, q3⟩
    · refine Or.inr ⟨fun q z1 z2 => ?_, q2⟩
      by_cases z : q = b
      · rw [z]
        intro e
        rw [e] at hpos
        have := q2.1
        omega
      · exact q1 q (by omega) z2
  · by_cases e : k = rc
    · exact ⟨b, Nat.lt_succ_self b, hR, by omega, by rw [e, upF_at]⟩
    · obtain ⟨q, q1, q2, q3, q4⟩ := h3 k (by omega)
      exact ⟨q, by omega, q2, q3, by rw [upF_ne e]; exact q4⟩
