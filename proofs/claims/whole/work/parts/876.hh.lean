
/-! THE LAW'S STATE: what is kept, frames -/
theorem aT_fr {x : TpL} {I I' : ZI} (h : aT x I) (hf : ∀ c j : Nat, (c = 40 ∧ (j = 1 ∨ j = 3)) ∨ c = 41 → I' c j = I c j) : aT x I' := ⟨(hf _ _ (by omega)).trans h.1, zTA_fr h.2 (fun c j q => hf c j (by omega))⟩
theorem bT_fr {x : TpL} {I I' : ZI} (h : bT x I) (hf : ∀ c j : Nat, (c = 165 ∧ (j = 0 ∨ j = 2)) ∨ c = 166 → I' c j = I c j) : bT x I' := ⟨(hf _ _ (by omega)).trans h.1, zTB_fr h.2 (fun c j q => hf c j (by omega))⟩
theorem aR_fr {x : RdL} {I L I' L' : ZI} {R R' : ZR} (h : aR x I L R) (hf : ∀ c j : Nat, (c = 40 ∧ j = 7) ∨ (43 ≤ c ∧ c ≤ 60) ∨ (c = 63 ∧ (13 ≤ j ∧ j ≤ 15)) ∨ (65 ≤ c ∧ c ≤ 81) → I' c j = I c j) (hl : ∀ c j : Nat, 43 ≤ c ∧ c ≤ 60 → L' c j = L c j) (hr : R' 40 4 = R 40 4 ∧ R' 40 5 = R 40 5) : aR x I' L' R' := by
  obtain ⟨⟨h1, h2⟩, ⟨k, u, hk, ⟨h3, h4⟩, h5, h6⟩, ⟨ob, h7⟩, h8, h9⟩ := h
  exact ⟨⟨(hf _ _ (by omega)).trans h1, (hf _ _ (by omega)).trans h2⟩, ⟨k, u, hk, ⟨hr.1.trans h3, hr.2.trans h4⟩, zOB_fr h5 (fun c j q => hf c j (by omega)) (fun c j q => hl c j (by omega)), zPG_fr h6 (fun c j q => hf c j (by omega))⟩, ⟨ob, zDA_fr h7 (fun c j q => hf c j (by omega))⟩, zCf_fr h8 (fun c j q => hf c j (by omega)), zCw_fr h9 (fun c j q => hf c j (by omega))⟩
theorem aB_fr {x : BoL} {I L I' L' : ZI} (h : aB x I L) (hf : ∀ c j : Nat, 82 ≤ c ∧ c ≤ 97 → I' c j = I c j) (hl : ∀ c j : Nat, c = 82 → L' c j = L c j) : aB x I' L' := ⟨fun q => zBA_fr (h.1 q) hf hl, (hf _ _ (by omega)).trans h.2.1, ⟨(hf _ _ (by omega)).trans h.2.2.1.1, (hf _ _ (by omega)).trans h.2.2.1.2⟩, fun q => (hf _ _ (by omega)).trans (h.2.2.2 q)⟩
theorem aB_y {x : BoL} {I L : ZI} (hb : x.1 ≠ 0) (h : zBA x.1 x.2.1 I L) : aB x I L := ⟨fun _ => h, h.1.1, ⟨h.2.2.2.1.1, h.2.2.2.2.1.1⟩, fun q => absurd q hb⟩
theorem aU_fr {x : RuL} {I I' : ZI} (h : aU x I) (hf : ∀ c j : Nat, (c = 104 ∧ (j = 1 ∨ j = 2)) ∨ c = 105 → I' c j = I c j) : aU x I' := zRT_fr h (fun c j q => hf c j (by omega))
theorem bU_fr {x : RuL} {I I' : ZI} (h : bU x I) (hf : ∀ c j : Nat, (c = 165 ∧ j = 24) ∨ (204 ≤ c ∧ c ≤ 207) → I' c j = I c j) : bU x I' := zMR_fr h hf
theorem aC_fr {x : CuL} {I I' : ZI} {R R' : ZR} (h : aC x I R) (hf : ∀ c j : Nat, (c = 40 ∧ j = 14) ∨ ((c = 106 ∨ c = 118) ∧ j ≠ 17 ∧ j ≠ 18) ∨ (107 ≤ c ∧ c ≤ 115) ∨ (119 ≤ c ∧ c ≤ 127) → I' c j = I c j) (hr : R' 40 12 = R 40 12 ∧ R' 40 13 = R 40 13) : aC x I' R' := by
  obtain ⟨h1, ⟨k, u, hk, ⟨h3, h4⟩, h5, h6⟩, ⟨h7, h8⟩, h9, h10⟩ := h
  exact ⟨(hf _ _ (by omega)).trans h1, ⟨k, u, hk, ⟨hr.1.trans h3, hr.2.trans h4⟩, (hf _ _ (by omega)).trans h5, fun q => zUC_fr (h6 q) (fun c j y => hf c j (by omega))⟩, ⟨(hf _ _ (by omega)).trans h7, (hf _ _ (by omega)).trans h8⟩, (hf _ _ (by omega)).trans h9, (hf _ _ (by omega)).trans h10⟩
theorem aS_fr {x : ScL} {I L I' L' : ZI} {R R' : ZR} (h : aS x I L R) (hf : ∀ c j : Nat, scK c j → I' c j = I c j) (hl : ∀ c j : Nat, c = 139 ∨ c = 140 ∨ c = 142 ∨ c = 143 → L' c j = L c j) (hr : R' 40 15 = R 40 15 ∧ R' 40 16 = R 40 16 ∧ R' 138 0 = R 138 0) : aS x I' L' R' := scA_fr h hf hl hr
theorem bS_fr {x : ScL} {I L I' L' : ZI} (h : bS x I L) (hf : ∀ c j : Nat, (c = 234 ∧ (j = 1 ∨ j = 3 ∨ j = 28 ∨ j = 30 ∨ j = 32 ∨ j = 36 ∨ j = 38 ∨ (46 ≤ j ∧ j ≤ 48))) ∨ (238 ≤ c ∧ c ≤ 246) ∨ c = 254 ∨ c = 255 → I' c j = I c j) (hl : ∀ c j : Nat, c = 251 ∨ c = 252 ∨ c = 253 → L' c j = L c j) : bS x I' L' := scB_fr h hf hl
theorem aX_fr {x : StL} {I I' : ZI} (h : aX x I) (hf : ∀ c j : Nat, (c = 145 ∧ (j = 1 ∨ j = 5 ∨ j = 9 ∨ j = 10 ∨ j = 11)) ∨ (146 ≤ c ∧ c ≤ 152) → I' c j = I c j) : aX x I' := zCL_fr h hf
theorem bX_fr {x : StL} {I I' : ZI} (h : bX x I) (hf : ∀ c j : Nat, (c = 268 ∧ (j = 2 ∨ j = 5)) ∨ c = 270 ∨ (c = 165 ∧ j = 49) → I' c j = I c j) : bX x I' := ⟨zML_fr h.1 (fun c j q => hf c j (by omega)), (hf _ _ (by omega)).trans h.2⟩
theorem aE_fr {x : ReL} {I I' : ZI} (h : aE x I) (hf : ∀ c j : Nat, (c = 154 ∧ (j = 0 ∨ j = 6)) ∨ (155 ≤ c ∧ c ≤ 159) → I' c j = I c j) : aE x I' := ⟨zRA_fr h.1 (fun c j q => hf c j (by omega)), fun r p q1 q2 => (hf _ _ (by omega)).trans (h.2.1 r p q1 q2), fun r q => (hf _ _ (by omega)).trans (h.2.2.1 r q), (hf _ _ (by omega)).trans h.2.2.2⟩
theorem bE_fr {x : ReL} {I I' : ZI} (h : bE x I) (hf : ∀ c j : Nat, (c = 280 ∧ (j = 2 ∨ j = 8 ∨ j = 21 ∨ j = 22 ∨ j = 24)) ∨ c = 281 ∨ c = 287 ∨ c = 288 ∨ c = 289 ∨ c = 290 ∨ c = 291 ∨ c = 292 ∨ c = 295 ∨ c = 296 → I' c j = I c j) : bE x I' := by
  obtain ⟨⟨h1, h2, h3⟩, h4, h5, h6, ⟨h7, h8⟩, h9, h10⟩ := h
  have hn : ∀ r, r < x.1.1 → x.1.2.2 r ≤ 512 := fun r hr => (h1.2.2.2.2 r hr).1.2.1
  exact ⟨⟨zRB_fr h1 ((hf _ _ (by omega)).trans h1.2.2.1) (fun c j q => hf c j (by omega)), zRC_fr h2 hn (fun c j q => hf c j (by omega)), (hf _ _ (by omega)).trans h3⟩, fun r p q1 q2 => (hf _ _ (by omega)).trans (h4 r p q1 q2), fun r q => (hf _ _ (by omega)).trans (h5 r q), fun r q1 q2 => ⟨(hf _ _ (by omega)).trans (h6 r q1 q2).1, fun p q3 => (hf _ _ (by omega)).trans ((h6 r q1 q2).2 p q3)⟩, ⟨(hf _ _ (by omega)).trans h7, (hf _ _ (by omega)).trans h8⟩, by rw [hf _ _ (by omega)]; exact h9, by rw [hf _ _ (by omega)]; exact h10⟩
/-- an empty drawing -/
def lwO : OoS := (0, fun _ => 0, fun _ => 0, fun _ _ => 0, fun _ _ => 0, fun _ _ _ => 0)
/-- what is kept of the state alone -/
def iT (x : TpL) : Prop := (0 ≤ x.1 ∧ x.1 ≤ 5) ∧ tGb x.2
def iR (x : RdL) : Prop := (x.1 ≤ 24 ∧ x.2.1 ≤ 4 ∧ 0 ≤ x.2.2.2.1 ∧ x.2.2.2.1 ≤ 1) ∧ (oGd x.2.2.1 ∧ oNg x.2.2.1 ∧ oZe x.2.2.1 ∧ jGd (oD x.2.2.1) ∧ x.2.2.2.2.length ≤ 26000) ∧ (x.2.1 = 0 → x.2.2.1 = lwO ∧ x.2.2.2.2 = []) ∧ (x.2.1 ≠ 0 → ocn x.2.2.1 ≠ 0 ∧ ∃ dp : Nat → Nat, x.2.2.2.2 = wPg x.2.2.1 dp x.2.2.2.1 ∧ wPre x.2.2.1 dp ∧ (∀ m y, m ≤ ocn x.2.2.1 → y ≤ 200 → (wWr x.2.2.1 dp x.2.2.2.1 m y).length + 2900 ≤ 110000) ∧ ∀ j, j < ocn x.2.2.1 → okd x.2.2.1 j = 9 → otl x.2.2.1 j 0 ≤ 2000)
def iB (x : BoL) : Prop := x.1 ≤ 6 ∧ (x.1 = 0 → bnn x.2.1 = 0) ∧ (x.1 ≠ 0 → (bGd x.2.1 ∧ gB5 x.2.1) ∧ (jGd x.2.2.1 ∧ ∀ y, y < 960 → bnd x.2.1 y = bDj x.2.2.1 y) ∧ (∀ c, c < 1024 → bhi x.2.1 c ≤ 240 * x.2.2.2) ∧ ∀ m, m < bnn x.2.1 → 0 ≤ bN x.2.1 m 4 ∧ bN x.2.1 m 4 ≤ (1200 * x.2.2.2 : Nat))
def iU (x : RuL) : Prop := cuRg x.1 x.2
def iC (x : CuL) : Prop := (x.1 ≤ 10 ∧ x.2.2.2.2.1 ≤ 6 ∧ (x.1 = 0 → x.2.2.2.2.1 = 0) ∧ (x.2.2.2.2.2 = 0 ∨ x.2.2.2.2.2 = 1)) ∧ (x.1 ≠ 0 → 1 ≤ x.2.2.2.2.1 ∧ cuG x.2.1 ∧ x.2.1.length ≤ 60 ∧ cuPq x.2.1 x.2.2.1 ∧ cuHc x.2.1 ≤ 20 ∧ (cuAA x.2.1 x.2.2.1).length ≤ 40)
def iS (x : ScL) : Prop := scV x.1 ∧ scDb x.1 x.2.1
def iX (x : StL) : Prop := (x.2.1 ≤ 1 ∧ x.2.2 ≤ 16) ∧ ∀ m, m ≤ x.1.2.1 → stM4 x.1.1 (stN x.1.1 m).2
def iE (x : ReL) : Prop := x.1.1 ≤ 10 ∧ (∀ r p : Nat, r < x.1.1 → p < 16 → -1 ≤ x.2.1 r p ∧ x.2.1 r p ≤ 3) ∧ (∀ r : Nat, r < x.1.1 → x.2.2.1 r = 0 ∨ x.2.2.1 r = 1) ∧ 0 ≤ x.2.2.2 ∧ x.2.2.2 ≤ 60
def lwI (σ : LwS) : Prop := iT σ.1 ∧ iR σ.2.1 ∧ iB σ.2.2.1 ∧ iU σ.2.2.2.1 ∧ iC σ.2.2.2.2.1 ∧ iS σ.2.2.2.2.2.1 ∧ iX σ.2.2.2.2.2.2.1 ∧ iE σ.2.2.2.2.2.2.2
/-- both sides -/
def lwA (σ : LwS) (I L : ZI) (R : ZR) (_ : ZS) : Prop := lwI σ ∧ (zRs R ∧ zSt I L) ∧ aT σ.1 I ∧ aR σ.2.1 I L R ∧ aB σ.2.2.1 I L ∧ aU σ.2.2.2.1 I ∧ aC σ.2.2.2.2.1 I R ∧ aS σ.2.2.2.2.2.1 I L R ∧ aX σ.2.2.2.2.2.2.1 I ∧ aE σ.2.2.2.2.2.2.2 I
def lwRm (σ : LwS) (S : ZS) : Prop := S.2.1 ≤ 302 + 23 * σ.2.1.2.1 + 19 * σ.2.2.1.1 + 54 * σ.2.2.2.2.1.1 ∧ S.2.2 ≤ 500000 + 44429 * σ.2.1.2.1 + 18613 * σ.2.2.1.1 + 32451 * σ.2.2.2.2.1.1
def lwB (σ : LwS) (I L : ZI) (R : ZR) (S : ZS) : Prop := lwI σ ∧ (zRs R ∧ lwRm σ S ∧ lwD R) ∧ bT σ.1 I ∧ bR σ.2.1 I L R S ∧ bB σ.2.2.1 I L R S ∧ bU σ.2.2.2.1 I ∧ bC σ.2.2.2.2.1 I L R S ∧ bS σ.2.2.2.2.2.1 I L ∧ bX σ.2.2.2.2.2.2.1 I ∧ bE σ.2.2.2.2.2.2.2 I
theorem lw_kA (σ σ2 : LwS) (I L : ZI) (R : ZR) (S : ZS) (I' L' : ZI) (R' : ZR) (S' : ZS) (h : lwA σ I L R S) (g : lwB σ2 I' L' R' S') (f : zfB I L R S I' L' R' S') : lwA σ I' L' R' S' := by
  obtain ⟨h0, ⟨h1, h2⟩, h3, h4, h5, h6, h7, h8, h9, h10⟩ := h
  have fI : ∀ c j : Nat, c < 165 → I' c j = I c j := fun c j q => (f.2 c j q).1
  have fL : ∀ c j : Nat, c < 165 → L' c j = L c j := fun c j q => (f.2 c j q).2.1
  have fR : ∀ c j : Nat, c < 165 → R' c j = R c j := fun c j q => (f.2 c j q).2.2
  exact ⟨h0, ⟨g.2.1.1, zStf h2 (fun c j q1 q2 => ⟨fI c j (by omega), fL c j (by omega)⟩)⟩, aT_fr h3 (fun c j q => fI c j (by omega)), aR_fr h4 (fun c j q => fI c j (by omega)) (fun c j q => fL c j (by omega)) ⟨fR _ _ (by omega), fR _ _ (by omega)⟩, aB_fr h5 (fun c j q => fI c j (by omega)) (fun c j q => fL c j (by omega)), aU_fr h6 (fun c j q => fI c j (by omega)), aC_fr h7 (fun c j q => fI c j (by omega)) ⟨fR _ _ (by omega), fR _ _ (by omega)⟩, aS_fr h8 (fun c j q => fI c j (by unfold scK at q; omega)) (fun c j q => fL c j (by omega)) ⟨fR _ _ (by omega), fR _ _ (by omega), fR _ _ (by omega)⟩, aX_fr h9 (fun c j q => fI c j (by omega)), aE_fr h10 (fun c j q => fI c j (by omega))⟩
theorem lw_room (σ : LwS) (I L : ZI) (R : ZR) (S : ZS) (h : lwB σ I L R S) : S.2.1 ≤ 600000 ∧ S.2.2 ≤ 7302250 := by
  have z := h.2.1.2.1
  unfold lwRm at z
  have z1 := h.1.2.1.1.2.1
  have z2 := h.1.2.2.1.1
  have z3 := h.1.2.2.2.2.1.1.1
  omega

theorem bR_fr {x : RdL} {I L I' L' : ZI} {R R' : ZR} {S S' : ZS} (h : bR x I L R S) (hS : zSg S S') (hf : ∀ c j : Nat, (c = 165 ∧ 4 ≤ j ∧ j ≤ 6) ∨ ((c = 168 ∨ c = 181) ∧ (j = 1 ∨ j = 4 ∨ j = 26 ∨ j = 27)) ∨ (170 ≤ c ∧ c ≤ 180) ∨ (183 ≤ c ∧ c ≤ 193) → I' c j = I c j) (hl : ∀ c j : Nat, c = 172 ∨ c = 185 → L' c j = L c j) (hr : R' 165 7 = R 165 7) (hd : ∀ q : Nat, R 165 7 = some q → 302 ≤ q → q + 23 ≤ S.2.1 → (∀ c j : Nat, q ≤ c ∧ c ≤ q + 22 ∧ ¬ (c = q ∧ j = 0) → I' c j = I c j) ∧ (∀ c j : Nat, q ≤ c ∧ c ≤ q + 22 → L' c j = L c j ∧ R' c j = R c j)) : bR x I' L' R' S' := by
  obtain ⟨⟨⟨h1, h2⟩, h3, h4⟩, h5, h6⟩ := h
  refine ⟨⟨⟨(hf _ _ (by omega)).trans h1, (hf _ _ (by omega)).trans h2⟩, (hf _ _ (by omega)).trans h3, (hf _ _ (by omega)).trans h4⟩, fun q => ⟨(hf _ _ (by omega)).trans (h5 q).1, hr.trans (h5 q).2⟩, fun y => ?_⟩
  obtain ⟨g1, g2, g3, q, g4, g5, g6, g7, g8⟩ := h6 y
  have hq : q + 23 ≤ S.2.1 := g5.2.1
  obtain ⟨d1, d2⟩ := hd q g4 g6 hq
  exact ⟨(hf _ _ (by omega)).trans g1, fun z => ⟨zOM_fr (g2 z).1 (fun c j w => hf c j (by omega)) (fun c j w => hl c j (by omega)), zOU_fr (g2 z).2.1 (fun c j w => hf c j (by omega)), zPS_fr (g2 z).2.2 (fun c j w => hf c j (by omega))⟩, fun z => ⟨zOM_fr (g3 z).1 (fun c j w => hf c j (by omega)) (fun c j w => hl c j (by omega)), zOU_fr (g3 z).2.1 (fun c j w => hf c j (by omega)), zPS_fr (g3 z).2.2 (fun c j w => hf c j (by omega))⟩,
    q, hr.trans g4, zDy_g2 g5 hS (by decide) (fun c f w1 w2 => (d2 c f ⟨w1, by have : c < q + 23 := w2; omega⟩).2), g6, zNJ_fr g7 (fun c j w => d1 c j (by omega)) (fun c j w => (d2 c j (by omega)).1), zJO_fr g8 (fun c j w => d1 c j (by omega))⟩
