/-! za -/
def T_Y_lay : ZT := fun args I L R S Q => ∃ (tp : List Int) (a : Int), args = [zvr 165, zvi a] ∧ (zSh S) ∧ (zRs R) ∧ (zTB tp I) ∧ (tp.length + 4 ≤ 4000) ∧ (r32 a) ∧ ∀ (I' : ZI), (zTB (tp ++ wB a) I') → (∀ c j : Nat, ¬ (c = 165 ∧ j = 2) → ¬ c = 166 → I' c j = I c j) → Q none I' L R S
theorem sn_Y_lay : ZSnd 1 21 34 T_Y_lay := ZSnd.of (zT21_34 0) (by
  rintro args I L R S Q hz ⟨tp, a, rfl, hS, hR, hTB, hl, hr, hQ⟩
  have ht0 := hTB.1
  refine And.intro rfl ?_
  refine And.intro (zRb rfl) (zbf rfl ?_)
  refine And.intro (zA_165 hS) (zrdR (v := some 166) (zR_165_1 hR) ?_)
  refine And.intro (zA_165 hS) (zrd (v := (tp.length)) ht0 ?_)
  have b17 : (zshr a 24) = a / 16777216 := zshr_d _ (by omega) 24 (by decide)
  have b21 : (zand (zshr a 24) 255) = (zshr a 24) % 256 := zand255 _
  refine And.intro ⟨(zx0 rfl), (zP_166 hS (by omega) (by omega))⟩ ⟨_, (zWi zr_and), ?_⟩
  refine And.intro (zA_165 hS) (zrd (v := (tp.length)) ht0 ?_)
  refine And.intro (zA_165 hS) ⟨_, (zWi (by omega)), ?_⟩
  refine And.intro (zRb rfl) (zbf rfl ?_)
  refine And.intro (zA_165 hS) (zrdR (v := some 166) (zR_165_1 hR) ?_)
  refine And.intro (zA_165 hS) (zrd (v := ((tp.length) + 1)) rfl ?_)
  have b17b : (zshr a (24 + (-8))) = a / 65536 := zshr_d _ (by omega) 16 (by decide)
  have b21b : (zand (zshr a (24 + (-8))) 255) = (zshr a (24 + (-8))) % 256 := zand255 _
  refine And.intro ⟨(zx0 rfl), (zP_166 hS (by omega) (by omega))⟩ ⟨_, (zWi zr_and), ?_⟩
  refine And.intro (zA_165 hS) (zrd (v := ((tp.length) + 1)) rfl ?_)
  refine And.intro (zA_165 hS) ⟨_, (zWi (by omega)), ?_⟩
  refine And.intro (zRb rfl) (zbf rfl ?_)
  refine And.intro (zA_165 hS) (zrdR (v := some 166) (zR_165_1 hR) ?_)
  refine And.intro (zA_165 hS) (zrd (v := (((tp.length) + 1) + 1)) rfl ?_)
  have b17bb : (zshr a ((24 + (-8)) + (-8))) = a / 256 := zshr_d _ (by omega) 8 (by decide)
  have b21bb : (zand (zshr a ((24 + (-8)) + (-8))) 255) = (zshr a ((24 + (-8)) + (-8))) % 256 := zand255 _
  refine And.intro ⟨(zx0 rfl), (zP_166 hS (by omega) (by omega))⟩ ⟨_, (zWi zr_and), ?_⟩
  refine And.intro (zA_165 hS) (zrd (v := (((tp.length) + 1) + 1)) rfl ?_)
  refine And.intro (zA_165 hS) ⟨_, (zWi (by omega)), ?_⟩
  refine And.intro (zRb rfl) (zbf rfl ?_)
  refine And.intro (zA_165 hS) (zrdR (v := some 166) (zR_165_1 hR) ?_)
  refine And.intro (zA_165 hS) (zrd (v := ((((tp.length) + 1) + 1) + 1)) rfl ?_)
  have b17bbb : (zshr a (((24 + (-8)) + (-8)) + (-8))) = a / 1 := zshr_d _ (by omega) 0 (by decide)
  have b21bbb : (zand (zshr a (((24 + (-8)) + (-8)) + (-8))) 255) = (zshr a (((24 + (-8)) + (-8)) + (-8))) % 256 := zand255 _
  refine And.intro ⟨(zx0 rfl), (zP_166 hS (by omega) (by omega))⟩ ⟨_, (zWi zr_and), ?_⟩
  refine And.intro (zA_165 hS) (zrd (v := ((((tp.length) + 1) + 1) + 1)) rfl ?_)
  refine And.intro (zA_165 hS) ⟨_, (zWi (by omega)), ?_⟩
  refine And.intro (zRb rfl) (zbt rfl ?_)
  refine hQ _ ?_ (fun c j h0 h1 => (zxcj h0 (zxu h1 (zxcj h0 (zxu h1 (zxcj h0 (zxu h1 (zxcj h0 (zxu h1 rfl)))))))))
  · rw [wB_4]
    have e24 : zand (zshr a 24) 255 = a / 16777216 % 256 := (zand255 _).trans (by rw [show zshr a 24 = a / 16777216 from zshr_d a hr 24 (by decide)])
    have e16 : zand (zshr a (24 + -8)) 255 = a / 65536 % 256 := (zand255 _).trans (by rw [show zshr a (24 + -8) = a / 65536 from zshr_d a hr 16 (by decide)])
    have e8 : zand (zshr a (24 + -8 + -8)) 255 = a / 256 % 256 := (zand255 _).trans (by rw [show zshr a (24 + -8 + -8) = a / 256 from zshr_d a hr 8 (by decide)])
    have e0 : zand (zshr a (24 + -8 + -8 + -8)) 255 = a % 256 := (zand255 _).trans (by rw [show zshr a (24 + -8 + -8 + -8) = a / 1 from zshr_d a hr 0 (by decide), Int.ediv_one])
    rw [e24, e16, e8, e0]
    have s1 := zTB_1 (u := a / 16777216 % 256) (I' := xu (xu I 166 tp.length (a / 16777216 % 256)) 165 2 (tp.length + 1)) hTB zxe (zxu (by decide) zxe) (fun j hj => zxu (by decide) (zxs (by omega) rfl))
    have s2 := zTB_1 (u := a / 65536 % 256) (I' := xu (xu (xu (xu I 166 tp.length (a / 16777216 % 256)) 165 2 (tp.length + 1)) 166 (tp.length + 1) (a / 65536 % 256)) 165 2 (tp.length + 1 + 1)) s1 (zxe.trans (by rw [wLn]; rfl)) (zxu (by decide) (by rw [wLn]; exact zxe)) (fun j hj => zxu (by decide) (zxs (by rw [wLn] at hj; omega) rfl))
    have s3 := zTB_1 (u := a / 256 % 256) (I' := xu (xu (xu (xu (xu (xu I 166 tp.length (a / 16777216 % 256)) 165 2 (tp.length + 1)) 166 (tp.length + 1) (a / 65536 % 256)) 165 2 (tp.length + 1 + 1)) 166 (tp.length + 1 + 1) (a / 256 % 256)) 165 2 (tp.length + 1 + 1 + 1)) s2 (zxe.trans (by rw [wLn, wLn]; rfl)) (zxu (by decide) (by rw [wLn, wLn]; exact zxe)) (fun j hj => zxu (by decide) (zxs (by rw [wLn, wLn] at hj; omega) rfl))
    exact zTB_1 (u := a % 256) s3 (by rw [wLn, wLn, wLn]; first | exact zxe.trans rfl | exact zxe.trans (by omega)) (by rw [wLn, wLn, wLn]; first | exact zxu (by decide) zxe | exact zxu (by decide) (zxe' (by omega))) (fun j hj => zxu (by decide) (zxs (by rw [wLn, wLn, wLn] at hj; omega) rfl)))
def T_Y_fedF : ZT := fun args I L R S Q => ∃ (tp : List Int) (a : Int) (b : Int) (d : Int) (e : Int) (f : Int), args = [zvr 165, zvi a, zvi b, zvi d, zvi e, zvi f] ∧ (zSh S) ∧ (zRs R) ∧ (zTB tp I) ∧ (tGb tp) ∧ (r32 a ∧ r32 b ∧ r32 d ∧ r32 e ∧ r32 f) ∧ (4000 < tp.length + 20) ∧ ∀ (I' : ZI), (I' 165 0 = 1) → (∀ c j : Nat, ¬ (c = 165 ∧ j = 0) → I' c j = I c j) → Q (some (zvi (0))) I' L R S
theorem sn_Y_fedF : ZSnd 2 21 21 T_Y_fedF := ZSnd.of (zT21_21 1) (by
  rintro args I L R S Q hz ⟨tp, a, b, d, e, f, rfl, hS, hR, hTB, hg, hr, hl, hQ⟩
  have ht0 := hTB.1
  have hg1 := hg.1
  refine And.intro rfl ?_
  refine And.intro (zA_165 hS) (zrd (v := (tp.length)) ht0 ?_)
  refine And.intro ⟨(by omega), (zRb rfl)⟩ ⟨(fun h11 => False.elim (by omega)), fun h11 => ?_⟩
  refine And.intro (zA_165 hS) (Exists.intro _ (And.intro (zinl_ok (zT21_48 0)) (And.intro rfl ?_)))
  refine And.intro (zA_165 hS) ⟨_, (zWi (zRb rfl)), ?_⟩
  refine And.intro (zRb rfl) (zbf rfl ?_)
  refine And.intro (Or.inr rfl) ?_
  refine And.intro (zRb rfl) (zbf rfl ?_)
  refine And.intro (Or.inl rfl) ?_
  refine hQ _ zxe (fun c j h0 => (zxcj h0 rfl)))
def T_Y_fed : ZT := fun args I L R S Q => ∃ (tp : List Int) (a : Int) (b : Int) (d : Int) (e : Int) (f : Int), args = [zvr 165, zvi a, zvi b, zvi d, zvi e, zvi f] ∧ (zSh S) ∧ (zRs R) ∧ (zTB tp I) ∧ (tGb tp) ∧ (r32 a ∧ r32 b ∧ r32 d ∧ r32 e ∧ r32 f) ∧ (tp.length + 20 ≤ 4000) ∧ ∀ (I' : ZI), (I' 165 0 = 0) → (zTB (((((tp ++ wB a) ++ wB b) ++ wB d) ++ wB e) ++ wB f) I') → (∀ c j : Nat, ¬ (c = 165 ∧ j = 0) → ¬ (c = 165 ∧ j = 2) → ¬ c = 166 → I' c j = I c j) → Q (some (zvi (1))) I' L R S
theorem sn_Y_fed : ZSnd 2 21 21 T_Y_fed := ZSnd.of (zT21_21 1) (by
  rintro args I L R S Q hz ⟨tp, a, b, d, e, f, rfl, hS, hR, hTB, hg, hr, hl, hQ⟩
  have ht0 := hTB.1
  refine And.intro rfl ?_
  refine And.intro (zA_165 hS) (zrd (v := (tp.length)) ht0 ?_)
  refine And.intro ⟨(by omega), (zRb rfl)⟩ ⟨fun h11 => ?_, (fun h11 => False.elim (by omega))⟩
  refine And.intro (zA_165 hS) (Exists.intro _ (And.intro (zinl_ok (zT21_48 0)) (And.intro rfl ?_)))
  refine And.intro (zA_165 hS) ⟨_, (zWi (zRb rfl)), ?_⟩
  refine And.intro (zRb rfl) (zbt rfl ?_)
  refine And.intro (Or.inl rfl) ?_
  refine And.intro (zRb rfl) (zbt rfl ?_)
  refine And.intro (zA_165 hS) ⟨_, sn_Y_lay.up (by decide), ?_⟩
  refine ⟨tp, (a : Int), rfl, hS, hR, (zTB_fr hTB (fun c j h => zxcj (by omega) rfl)), (by first | omega | (simp only [List.length_append, wB_l]; omega)), (by omega), ?_⟩
  intro I29o p29hT2 p29bfr
  refine And.intro (zA_165 hS) ⟨_, sn_Y_lay.up (by decide), ?_⟩
  refine ⟨(tp ++ wB a), (b : Int), rfl, hS, hR, p29hT2, (by first | omega | (simp only [List.length_append, wB_l]; omega)), (by omega), ?_⟩
  intro I34o p34hT2 p34bfr
  refine And.intro (zA_165 hS) ⟨_, sn_Y_lay.up (by decide), ?_⟩
  refine ⟨((tp ++ wB a) ++ wB b), (d : Int), rfl, hS, hR, p34hT2, (by first | omega | (simp only [List.length_append, wB_l]; omega)), (by omega), ?_⟩
  intro I39o p39hT2 p39bfr
  refine And.intro (zA_165 hS) ⟨_, sn_Y_lay.up (by decide), ?_⟩
  refine ⟨(((tp ++ wB a) ++ wB b) ++ wB d), (e : Int), rfl, hS, hR, p39hT2, (by first | omega | (simp only [List.length_append, wB_l]; omega)), (by omega), ?_⟩
  intro I45o p45hT2 p45bfr
  refine And.intro (zA_165 hS) ⟨_, sn_Y_lay.up (by decide), ?_⟩
  refine ⟨((((tp ++ wB a) ++ wB b) ++ wB d) ++ wB e), (f : Int), rfl, hS, hR, p45hT2, (by first | omega | (simp only [List.length_append, wB_l]; omega)), (by omega), ?_⟩
  intro I51o p51hT2 p51bfr
  refine And.intro (Or.inr rfl) ?_
  refine hQ _ ((p51bfr 165 0 (by omega) (by omega)).trans ((p45bfr 165 0 (by omega) (by omega)).trans ((p39bfr 165 0 (by omega) (by omega)).trans ((p34bfr 165 0 (by omega) (by omega)).trans ((p29bfr 165 0 (by omega) (by omega)).trans zxe))))) p51hT2 (fun c j h0 h1 h2 => ((p51bfr c j h1 h2).trans ((p45bfr c j h1 h2).trans ((p39bfr c j h1 h2).trans ((p34bfr c j h1 h2).trans ((p29bfr c j h1 h2).trans (zxcj h0 rfl))))))))
def T_Y_endN : ZT := fun args I L R S Q => ∃ (tp : List Int) (n : Int), args = [zvr 165, zvi n] ∧ (zSh S) ∧ (zRs R) ∧ (zTB tp I) ∧ (tGb tp) ∧ (r32 n) ∧ (n < 0 ∨ tp.length < n) ∧ ∀ (I' : ZI), (I' 165 0 = 2) → (∀ c j : Nat, ¬ (c = 165 ∧ j = 0) → I' c j = I c j) → Q (some (zvi (0))) I' L R S
theorem sn_Y_endN : ZSnd 2 21 16 T_Y_endN := ZSnd.of (zT21_16 1) (by
  rintro args I L R S Q hz ⟨tp, n, rfl, hS, hR, hTB, hg, hn, hb, hQ⟩
  have ht0 := hTB.1
  have hg1 := hg.1
  refine And.intro rfl ?_
  refine And.intro (by omega) ⟨fun h2 => ?_, fun h2 => ?_⟩
  · refine And.intro (zA_165 hS) (Exists.intro _ (And.intro (zinl_ok (zT21_48 0)) (And.intro rfl ?_)))
    refine And.intro (zA_165 hS) ⟨_, (zWi (zRb rfl)), ?_⟩
    refine And.intro (zRb rfl) (zbf rfl ?_)
    refine And.intro (Or.inr rfl) ?_
    refine And.intro (zRb rfl) (zbf rfl ?_)
    refine And.intro (Or.inl rfl) ?_
    refine hQ _ zxe (fun c j h0 => (zxcj h0 rfl))
  · refine And.intro (zA_165 hS) (zrd (v := (tp.length)) ht0 ?_)
    refine And.intro ⟨(by omega), (by omega)⟩ ⟨fun h10 => ?_, fun h10 => ?_⟩
    · exact False.elim (by omega)
    · refine And.intro (zA_165 hS) (Exists.intro _ (And.intro (zinl_ok (zT21_48 0)) (And.intro rfl ?_)))
      refine And.intro (zA_165 hS) ⟨_, (zWi (zRb rfl)), ?_⟩
      refine And.intro (zRb rfl) (zbf rfl ?_)
      refine And.intro (Or.inr rfl) ?_
      refine And.intro (zRb rfl) (zbf rfl ?_)
      refine And.intro (Or.inl rfl) ?_
      refine hQ _ zxe (fun c j h0 => (zxcj h0 rfl)))
def T_Y_end : ZT := fun args I L R S Q => ∃ (tp : List Int) (n : Int), args = [zvr 165, zvi n] ∧ (zSh S) ∧ (zRs R) ∧ (zTB tp I) ∧ (tGb tp) ∧ (0 ≤ n ∧ n ≤ tp.length) ∧ ∀ (I' : ZI), (I' 165 0 = 0) → (zTB (tp.take n.toNat) I') → (∀ c j : Nat, ¬ (c = 165 ∧ j = 0) → ¬ (c = 165 ∧ j = 2) → I' c j = I c j) → Q (some (zvi (1))) I' L R S
theorem sn_Y_end : ZSnd 2 21 16 T_Y_end := ZSnd.of (zT21_16 1) (by
  rintro args I L R S Q hz ⟨tp, n, rfl, hS, hR, hTB, hg, hb, hQ⟩
  have ht0 := hTB.1
  have hg1 := hg.1
  refine And.intro rfl ?_
  refine And.intro (by omega) ⟨(fun h2 => False.elim (by omega)), fun h2 => ?_⟩
  refine And.intro (zA_165 hS) (zrd (v := (tp.length)) ht0 ?_)
  refine And.intro ⟨(by omega), (by omega)⟩ ⟨fun h10 => ?_, (fun h10 => False.elim (by omega))⟩
  refine And.intro (zA_165 hS) (Exists.intro _ (And.intro (zinl_ok (zT21_48 0)) (And.intro rfl ?_)))
  refine And.intro (zA_165 hS) ⟨_, (zWi (zRb rfl)), ?_⟩
  refine And.intro (zRb rfl) (zbt rfl ?_)
  refine And.intro (Or.inl rfl) ?_
  refine And.intro (zRb rfl) (zbt rfl ?_)
  refine And.intro (zA_165 hS) ⟨_, (zWi (by omega)), ?_⟩
  refine And.intro (Or.inr rfl) ?_
  refine hQ _ (zxs (by decide) zxe) (zTB_tk hTB (by omega) (zxe.trans (by omega)) (fun j => zxu (by decide) (zxu (by decide) rfl))) (fun c j h0 h1 => (zxcj h1 (zxcj h0 rfl))))
def T_Z_lay : ZT := fun args I L R S Q => ∃ (tp : List Int) (a : Int), args = [zvr 40, zvi a] ∧ (zSh S) ∧ (zRs R) ∧ (zTA tp I) ∧ (tp.length + 4 ≤ 4000) ∧ (r32 a) ∧ ∀ (I' : ZI), (zTA (tp ++ wB a) I') → (∀ c j : Nat, ¬ (c = 40 ∧ j = 1) → ¬ c = 41 → I' c j = I c j) → Q none I' L R S
theorem sn_Z_lay : ZSnd 1 11 21 T_Z_lay := ZSnd.of (zT11_21 0) (by
  rintro args I L R S Q hz ⟨tp, a, rfl, hS, hR, hTA, hl, hr, hQ⟩
  have ht0 := hTA.1
  refine And.intro rfl ?_
  refine And.intro (zRb rfl) (zbf rfl ?_)
  refine And.intro (zA_40 hS) (zrd (v := (tp.length)) ht0 ?_)
  refine And.intro ⟨(by omega), (zRb rfl)⟩ ⟨(fun h14 => False.elim (by omega)), fun h14 => ?_⟩
  refine And.intro (zA_40 hS) (zrdR (v := some 41) (zR_40_0 hR) ?_)
  refine And.intro (zA_40 hS) (zrd (v := (tp.length)) ht0 ?_)
  have b27 : (zushr a 24) = a % 4294967296 / 16777216 := zushr_d _ 24 (by decide) (by decide)
  refine And.intro ⟨(zx0 rfl), Or.inl ⟨(zP_41 hS (by omega) (by omega)), zi2b_r.1, zi2b_r.2⟩⟩ ?_
  refine And.intro (zA_40 hS) (zrd (v := (tp.length)) ht0 ?_)
  refine And.intro (zA_40 hS) ⟨_, (zWi (by omega)), ?_⟩
  refine And.intro (zRb rfl) (zbf rfl ?_)
  refine And.intro (zA_40 hS) (zrd (v := ((tp.length) + 1)) rfl ?_)
  refine And.intro ⟨(by omega), (zRb rfl)⟩ ⟨(fun h14b => False.elim (by omega)), fun h14b => ?_⟩
  refine And.intro (zA_40 hS) (zrdR (v := some 41) (zR_40_0 hR) ?_)
  refine And.intro (zA_40 hS) (zrd (v := ((tp.length) + 1)) rfl ?_)
  have b27b : (zushr a (24 + (-8))) = a % 4294967296 / 65536 := zushr_d _ 16 (by decide) (by decide)
  refine And.intro ⟨(zx0 rfl), Or.inl ⟨(zP_41 hS (by omega) (by omega)), zi2b_r.1, zi2b_r.2⟩⟩ ?_
  refine And.intro (zA_40 hS) (zrd (v := ((tp.length) + 1)) rfl ?_)
  refine And.intro (zA_40 hS) ⟨_, (zWi (by omega)), ?_⟩
  refine And.intro (zRb rfl) (zbf rfl ?_)
  refine And.intro (zA_40 hS) (zrd (v := (((tp.length) + 1) + 1)) rfl ?_)
  refine And.intro ⟨(by omega), (zRb rfl)⟩ ⟨(fun h14bb => False.elim (by omega)), fun h14bb => ?_⟩
  refine And.intro (zA_40 hS) (zrdR (v := some 41) (zR_40_0 hR) ?_)
  refine And.intro (zA_40 hS) (zrd (v := (((tp.length) + 1) + 1)) rfl ?_)
  have b27bb : (zushr a ((24 + (-8)) + (-8))) = a % 4294967296 / 256 := zushr_d _ 8 (by decide) (by decide)
  refine And.intro ⟨(zx0 rfl), Or.inl ⟨(zP_41 hS (by omega) (by omega)), zi2b_r.1, zi2b_r.2⟩⟩ ?_
  refine And.intro (zA_40 hS) (zrd (v := (((tp.length) + 1) + 1)) rfl ?_)
  refine And.intro (zA_40 hS) ⟨_, (zWi (by omega)), ?_⟩
  refine And.intro (zRb rfl) (zbf rfl ?_)
  refine And.intro (zA_40 hS) (zrd (v := ((((tp.length) + 1) + 1) + 1)) rfl ?_)
  refine And.intro ⟨(by omega), (zRb rfl)⟩ ⟨(fun h14bbb => False.elim (by omega)), fun h14bbb => ?_⟩
  refine And.intro (zA_40 hS) (zrdR (v := some 41) (zR_40_0 hR) ?_)
  refine And.intro (zA_40 hS) (zrd (v := ((((tp.length) + 1) + 1) + 1)) rfl ?_)
  have b27bbb : (zushr a (((24 + (-8)) + (-8)) + (-8))) = zn a := zushr0 _
  refine And.intro ⟨(zx0 rfl), Or.inl ⟨(zP_41 hS (by omega) (by omega)), zi2b_r.1, zi2b_r.2⟩⟩ ?_
  refine And.intro (zA_40 hS) (zrd (v := ((((tp.length) + 1) + 1) + 1)) rfl ?_)
  refine And.intro (zA_40 hS) ⟨_, (zWi (by omega)), ?_⟩
  refine And.intro (zRb rfl) (zbt rfl ?_)
  refine hQ _ ?_ (fun c j h0 h1 => (zxcj h0 (zxu h1 (zxcj h0 (zxu h1 (zxcj h0 (zxu h1 (zxcj h0 (zxu h1 rfl)))))))))
  · rw [wB_4]
    have e24 : zi2b (zushr a 24) = sgB (a / 16777216 % 256) := (zi2b_b _).trans (by rw [show zushr a 24 = a % 4294967296 / 16777216 from zushr_d a 24 (by decide) (by decide)]; exact congrArg sgB (sgB_u (k := 16777216) (by decide)))
    have e16 : zi2b (zushr a (24 + -8)) = sgB (a / 65536 % 256) := (zi2b_b _).trans (by rw [show zushr a (24 + -8) = a % 4294967296 / 65536 from zushr_d a 16 (by decide) (by decide)]; exact congrArg sgB (sgB_u (k := 65536) (by decide)))
    have e8 : zi2b (zushr a (24 + -8 + -8)) = sgB (a / 256 % 256) := (zi2b_b _).trans (by rw [show zushr a (24 + -8 + -8) = a % 4294967296 / 256 from zushr_d a 8 (by decide) (by decide)]; exact congrArg sgB (sgB_u (k := 256) (by decide)))
    have e0 : zi2b (zushr a (24 + -8 + -8 + -8)) = sgB (a % 256) := (zi2b_b _).trans (congrArg sgB (by rw [show zushr a (24 + -8 + -8 + -8) = zn a from zushr0 _, zn_m]))
    rw [e24, e16, e8, e0]
    have s1 := zTA_1 (u := a / 16777216 % 256) (I' := xu (xu I 41 tp.length (sgB (a / 16777216 % 256))) 40 1 (tp.length + 1)) hTA zxe (zxu (by decide) zxe) (fun j hj => zxu (by decide) (zxs (by omega) rfl))
    have s2 := zTA_1 (u := a / 65536 % 256) (I' := xu (xu (xu (xu I 41 tp.length (sgB (a / 16777216 % 256))) 40 1 (tp.length + 1)) 41 (tp.length + 1) (sgB (a / 65536 % 256))) 40 1 (tp.length + 1 + 1)) s1 (zxe.trans (by rw [wLn]; rfl)) (zxu (by decide) (by rw [wLn]; exact zxe)) (fun j hj => zxu (by decide) (zxs (by rw [wLn] at hj; omega) rfl))
    have s3 := zTA_1 (u := a / 256 % 256) (I' := xu (xu (xu (xu (xu (xu I 41 tp.length (sgB (a / 16777216 % 256))) 40 1 (tp.length + 1)) 41 (tp.length + 1) (sgB (a / 65536 % 256))) 40 1 (tp.length + 1 + 1)) 41 (tp.length + 1 + 1) (sgB (a / 256 % 256))) 40 1 (tp.length + 1 + 1 + 1)) s2 (zxe.trans (by rw [wLn, wLn]; rfl)) (zxu (by decide) (by rw [wLn, wLn]; exact zxe)) (fun j hj => zxu (by decide) (zxs (by rw [wLn, wLn] at hj; omega) rfl))
    exact zTA_1 (u := a % 256) s3 (by rw [wLn, wLn, wLn]; first | exact zxe.trans rfl | exact zxe.trans (by omega)) (by rw [wLn, wLn, wLn]; first | exact zxu (by decide) zxe | exact zxu (by decide) (zxe' (by omega))) (fun j hj => zxu (by decide) (zxs (by rw [wLn, wLn, wLn] at hj; omega) rfl)))
def T_Z_fedF : ZT := fun args I L R S Q => ∃ (tp : List Int) (a : Int) (b : Int) (d : Int) (e : Int) (f : Int), args = [zvr 40, zvi a, zvi b, zvi d, zvi e, zvi f] ∧ (zSh S) ∧ (zRs R) ∧ (zTA tp I) ∧ (tGb tp) ∧ (r32 a ∧ r32 b ∧ r32 d ∧ r32 e ∧ r32 f) ∧ (4000 < tp.length + 20) ∧ ∀ (I' : ZI), (I' 40 3 = 1) → (∀ c j : Nat, ¬ (c = 40 ∧ j = 3) → I' c j = I c j) → Q (some (zvi (0))) I' L R S
theorem sn_Z_fedF : ZSnd 3 11 20 T_Z_fedF := ZSnd.of (zT11_20 2) (by
  rintro args I L R S Q hz ⟨tp, a, b, d, e, f, rfl, hS, hR, hTA, hg, hr, hl, hQ⟩
  have ht0 := hTA.1
  have hg1 := hg.1
  refine And.intro rfl ?_
  refine And.intro (zA_40 hS) (zrd (v := (tp.length)) ht0 ?_)
  refine And.intro ⟨(by omega), (zRb rfl)⟩ ⟨(fun h10 => False.elim (by omega)), fun h10 => ?_⟩
  refine And.intro (zA_40 hS) (Exists.intro _ (And.intro (zinl_ok (zT11_22 1)) (And.intro rfl ?_)))
  refine And.intro (zA_40 hS) (Exists.intro _ (And.intro (zinl_ok (zT11_1 0)) (And.intro rfl ?_)))
  refine And.intro (zRb rfl) (zbf rfl ?_)
  refine And.intro (zA_40 hS) ⟨_, (zWi (zRb rfl)), ?_⟩
  refine And.intro (zRb rfl) (zbf rfl ?_)
  refine And.intro ⟨(zRb rfl), (zRb rfl)⟩ (zbt rfl ?_)
  refine And.intro (Or.inl rfl) ?_
  refine And.intro (Or.inl rfl) ?_
  refine hQ _ (by first | exact zxe | exact zxe.trans (by omega)) (fun c j h0 => (zxcj h0 rfl)))
def T_Z_fed : ZT := fun args I L R S Q => ∃ (tp : List Int) (a : Int) (b : Int) (d : Int) (e : Int) (f : Int), args = [zvr 40, zvi a, zvi b, zvi d, zvi e, zvi f] ∧ (zSh S) ∧ (zRs R) ∧ (zTA tp I) ∧ (tGb tp) ∧ (r32 a ∧ r32 b ∧ r32 d ∧ r32 e ∧ r32 f) ∧ (tp.length + 20 ≤ 4000) ∧ ∀ (I' : ZI), (I' 40 3 = 0) → (zTA (((((tp ++ wB a) ++ wB b) ++ wB d) ++ wB e) ++ wB f) I') → (∀ c j : Nat, ¬ (c = 40 ∧ j = 1) → ¬ (c = 40 ∧ j = 3) → ¬ c = 41 → I' c j = I c j) → Q (some (zvi (1))) I' L R S
theorem sn_Z_fed : ZSnd 3 11 20 T_Z_fed := ZSnd.of (zT11_20 2) (by
  rintro args I L R S Q hz ⟨tp, a, b, d, e, f, rfl, hS, hR, hTA, hg, hr, hl, hQ⟩
  have ht0 := hTA.1
  refine And.intro rfl ?_
  refine And.intro (zA_40 hS) (zrd (v := (tp.length)) ht0 ?_)
  refine And.intro ⟨(by omega), (zRb rfl)⟩ ⟨fun h10 => ?_, (fun h10 => False.elim (by omega))⟩
  refine And.intro (zA_40 hS) ⟨_, sn_Z_lay.up (by decide), ?_⟩
  refine ⟨tp, (a : Int), rfl, hS, hR, (by first | exact (zTA_fr hTA (fun c j h => rfl)) | (clear hQ; grind [xu])), (by first | omega | (simp only [List.length_append, wB_l]; omega)), (by omega), ?_⟩
  intro I21o p21hT2 p21bfr
  refine And.intro (zA_40 hS) ⟨_, sn_Z_lay.up (by decide), ?_⟩
  refine ⟨(tp ++ wB a), (b : Int), rfl, hS, hR, p21hT2, (by first | omega | (simp only [List.length_append, wB_l]; omega)), (by omega), ?_⟩
  intro I26o p26hT2 p26bfr
  refine And.intro (zA_40 hS) ⟨_, sn_Z_lay.up (by decide), ?_⟩
  refine ⟨((tp ++ wB a) ++ wB b), (d : Int), rfl, hS, hR, p26hT2, (by first | omega | (simp only [List.length_append, wB_l]; omega)), (by omega), ?_⟩
  intro I31o p31hT2 p31bfr
  refine And.intro (zA_40 hS) ⟨_, sn_Z_lay.up (by decide), ?_⟩
  refine ⟨(((tp ++ wB a) ++ wB b) ++ wB d), (e : Int), rfl, hS, hR, p31hT2, (by first | omega | (simp only [List.length_append, wB_l]; omega)), (by omega), ?_⟩
  intro I37o p37hT2 p37bfr
  refine And.intro (zA_40 hS) ⟨_, sn_Z_lay.up (by decide), ?_⟩
  refine ⟨((((tp ++ wB a) ++ wB b) ++ wB d) ++ wB e), (f : Int), rfl, hS, hR, p37hT2, (by first | omega | (simp only [List.length_append, wB_l]; omega)), (by omega), ?_⟩
  intro I43o p43hT2 p43bfr
  refine And.intro (zA_40 hS) (Exists.intro _ (And.intro (zinl_ok (zT11_22 1)) (And.intro rfl ?_)))
  refine And.intro (zA_40 hS) (Exists.intro _ (And.intro (zinl_ok (zT11_1 0)) (And.intro rfl ?_)))
  refine And.intro (zRb rfl) (zbt rfl ?_)
  refine And.intro (zA_40 hS) ⟨_, (zWi (zRb rfl)), ?_⟩
  refine And.intro (zRb rfl) (zbt rfl ?_)
  refine And.intro ⟨(zRb rfl), (zRb rfl)⟩ (zbf rfl ?_)
  refine And.intro (Or.inr rfl) ?_
  refine And.intro (Or.inr rfl) ?_
  refine hQ _ (by first | exact zxe | exact zxe.trans (by omega)) (zTA_fr p43hT2 (fun c j h => zxcj (by omega) rfl)) (fun c j h0 h1 h2 => (zxcj h1 ((p43bfr c j h0 h2).trans ((p37bfr c j h0 h2).trans ((p31bfr c j h0 h2).trans ((p26bfr c j h0 h2).trans ((p21bfr c j h0 h2).trans rfl))))))))
def T_Z_endN : ZT := fun args I L R S Q => ∃ (tp : List Int) (n : Int), args = [zvr 40, zvi n] ∧ (zSh S) ∧ (zRs R) ∧ (zTA tp I) ∧ (tGb tp) ∧ (r32 n) ∧ (n < 0 ∨ tp.length < n) ∧ ∀ (I' : ZI), (I' 40 3 = 2) → (∀ c j : Nat, ¬ (c = 40 ∧ j = 3) → I' c j = I c j) → Q (some (zvi (0))) I' L R S
theorem sn_Z_endN : ZSnd 3 11 15 T_Z_endN := ZSnd.of (zT11_15 2) (by
  rintro args I L R S Q hz ⟨tp, n, rfl, hS, hR, hTA, hg, hn, hb, hQ⟩
  have ht0 := hTA.1
  have hg1 := hg.1
  refine And.intro rfl ?_
  refine And.intro (by omega) ⟨fun h1 => ?_, fun h1 => ?_⟩
  · refine And.intro (zA_40 hS) (Exists.intro _ (And.intro (zinl_ok (zT11_22 1)) (And.intro rfl ?_)))
    refine And.intro (zA_40 hS) (Exists.intro _ (And.intro (zinl_ok (zT11_1 0)) (And.intro rfl ?_)))
    refine And.intro (zRb rfl) (zbf rfl ?_)
    refine And.intro (zA_40 hS) ⟨_, (zWi (zRb rfl)), ?_⟩
    refine And.intro (zRb rfl) (zbf rfl ?_)
    refine And.intro ⟨(zRb rfl), (zRb rfl)⟩ (zbt rfl ?_)
    refine And.intro (Or.inl rfl) ?_
    refine And.intro (Or.inl rfl) ?_
    refine hQ _ (by first | exact zxe | exact zxe.trans (by omega)) (fun c j h0 => (zxcj h0 rfl))
  · refine And.intro (zA_40 hS) (zrd (v := (tp.length)) ht0 ?_)
    refine And.intro ⟨(by omega), (by omega)⟩ ⟨fun h9 => ?_, fun h9 => ?_⟩
    · exact False.elim (by omega)
    · refine And.intro (zA_40 hS) (Exists.intro _ (And.intro (zinl_ok (zT11_22 1)) (And.intro rfl ?_)))
      refine And.intro (zA_40 hS) (Exists.intro _ (And.intro (zinl_ok (zT11_1 0)) (And.intro rfl ?_)))
      refine And.intro (zRb rfl) (zbf rfl ?_)
      refine And.intro (zA_40 hS) ⟨_, (zWi (zRb rfl)), ?_⟩
      refine And.intro (zRb rfl) (zbf rfl ?_)
      refine And.intro ⟨(zRb rfl), (zRb rfl)⟩ (zbt rfl ?_)
      refine And.intro (Or.inl rfl) ?_
      refine And.intro (Or.inl rfl) ?_
      refine hQ _ (by first | exact zxe | exact zxe.trans (by omega)) (fun c j h0 => (zxcj h0 rfl)))
def T_Z_end : ZT := fun args I L R S Q => ∃ (tp : List Int) (n : Int), args = [zvr 40, zvi n] ∧ (zSh S) ∧ (zRs R) ∧ (zTA tp I) ∧ (tGb tp) ∧ (0 ≤ n ∧ n ≤ tp.length) ∧ ∀ (I' : ZI), (I' 40 3 = 0) → (zTA (tp.take n.toNat) I') → (∀ c j : Nat, ¬ (c = 40 ∧ j = 1) → ¬ (c = 40 ∧ j = 3) → I' c j = I c j) → Q (some (zvi (1))) I' L R S
theorem sn_Z_end : ZSnd 3 11 15 T_Z_end := ZSnd.of (zT11_15 2) (by
  rintro args I L R S Q hz ⟨tp, n, rfl, hS, hR, hTA, hg, hb, hQ⟩
  have ht0 := hTA.1
  have hg1 := hg.1
  refine And.intro rfl ?_
  refine And.intro (by omega) ⟨(fun h1 => False.elim (by omega)), fun h1 => ?_⟩
  refine And.intro (zA_40 hS) (zrd (v := (tp.length)) ht0 ?_)
  refine And.intro ⟨(by omega), (by omega)⟩ ⟨fun h9 => ?_, (fun h9 => False.elim (by omega))⟩
  refine And.intro (zA_40 hS) ⟨_, (zWi (by omega)), ?_⟩
  refine And.intro (zA_40 hS) (Exists.intro _ (And.intro (zinl_ok (zT11_22 1)) (And.intro rfl ?_)))
  refine And.intro (zA_40 hS) (Exists.intro _ (And.intro (zinl_ok (zT11_1 0)) (And.intro rfl ?_)))
  refine And.intro (zRb rfl) (zbt rfl ?_)
  refine And.intro (zA_40 hS) ⟨_, (zWi (zRb rfl)), ?_⟩
  refine And.intro (zRb rfl) (zbt rfl ?_)
  refine And.intro ⟨(zRb rfl), (zRb rfl)⟩ (zbf rfl ?_)
  refine And.intro (Or.inr rfl) ?_
  refine And.intro (Or.inr rfl) ?_
  refine hQ _ (by first | exact zxe | exact zxe.trans (by omega)) (zTA_tk hTA (by omega) (zxs (by decide) (zxe.trans (by omega))) (fun j => zxu (by decide) (zxu (by decide) rfl))) (fun c j h0 h1 => (zxcj h1 (zxcj h0 rfl))))
def T_Z_txt : ZT := fun args I L R S Q => ∃ (tp : List Int) (r : Int) (r_ : Nat), args = [zvr 40, zvi r] ∧ (zSh S) ∧ (zRs R) ∧ (zTA tp I) ∧ (tGb tp) ∧ (r = r_ ∧ r_ ≤ 4000) ∧ ∀ (v : Int) (I' : ZI), (v = ((tTk tp r_).length : Nat)) → (∀ p : Nat, p < (tTk tp r_).length → I' 42 p = tC (tTk tp r_) p) → (zTA [] I') → (∀ c j : Nat, ¬ (c = 40 ∧ j = 1) → ¬ c = 42 → I' c j = I c j) → Q (some (zvi (v))) I' L R S
theorem sn_Z_txt : ZSnd 1 11 51 T_Z_txt := ZSnd.loops (zT11_51 0) (by
  rintro args I L R S Q hz ⟨tp, r, r_, rfl, hS, hR, hTA, hg, hr, hQ⟩
  have ht0 := hTA.1
  have hg1 := hg.1
  refine ⟨[4], fun nM tM lsM stM I1 L1 R1 S1 => match tM with
      | 4 => ∃ (i : Nat) (m : Int), nM = ((4001 - i), 0, 0) ∧ lsM = [some (zvr (40)), some (zvi (r_)), some (zvi (m)), some (zvi (i)), none] ∧ stM = [] ∧ L1 = L ∧ R1 = R ∧ S1 = S ∧ (i ≤ tp.length) ∧ (m = (tF tp i).length) ∧ (m ≤ r_) ∧ (∀ p : Nat, p < (tF tp i).length → I1 42 p = wAt (tF tp i) p) ∧ (∀ c j : Nat, ¬ c = 42 → I1 c j = I c j)
      | _ => False, rfl, ?_, ⟨?_, True.intro⟩⟩
  · refine ⟨((4001 - (0 : Nat)), 0, 0), [some (zvr (40)), some (zvi (r_)), some (zvi ((0 : Int))), some (zvi ((0 : Nat))), none], ⟨rfl, (congrArg (fun z => some (zvi z)) (by omega)), rfl, rfl, rfl⟩, 0, 0, rfl, rfl, rfl, rfl, rfl, rfl, (by omega), rfl, (by omega), (fun p h => absurd h (Nat.not_lt_zero p)), (fun c j h0 => rfl)⟩
  · rintro nM lsM stM I1 L1 R1 S1 hz1 ⟨i, m, rfl, rfl, rfl, rfl, rfl, rfl, hi, hml, hfl, hx, fr⟩
    have ht1 : I1 40 1 = tp.length := (fr 40 1 (by omega)).trans ht0
    have hgi := fun (h : i < tp.length) => hg.2 i h
    have hai := fun (h : i < tp.length) => (fr 41 i (by omega)).trans (hTA.2 i h)
    refine And.intro (zA_40 hS) (zrd (v := (tp.length)) ht1 ?_)
    refine And.intro ⟨(by omega), (by omega)⟩ ⟨fun h9 => ?_, fun h9 => ?_⟩
    · refine And.intro (zA_40 hS) ⟨_, (zWi (zRb rfl)), ?_⟩
      refine hQ _ _ ?_ ?_ ⟨zxe, fun i h => absurd h (Nat.not_lt_zero i)⟩ (fun c j h0 h1 => (zxcj h0 ((fr c j h1).trans rfl)))
      · have hE : tTk tp r_ = tF tp i := (by
          by_cases q : i = tp.length
          · subst q; exact tTk_a (by omega)
          · exact tTk_f (by omega) (by omega))
        rw [hE]
        exact hml
      · have hE : tTk tp r_ = tF tp i := (by
          by_cases q : i = tp.length
          · subst q; exact tTk_a (by omega)
          · exact tTk_f (by omega) (by omega))
        rw [hE]
        intro p hp
        exact (zxu (by decide) (hx p hp)).trans (tC_a hp).symm
    · refine And.intro ⟨(by omega), (by omega)⟩ ⟨fun h14 => ?_, fun h14 => ?_⟩
      · refine And.intro (zA_40 hS) ⟨_, (zWi (zRb rfl)), ?_⟩
        refine hQ _ _ ?_ ?_ ⟨zxe, fun i h => absurd h (Nat.not_lt_zero i)⟩ (fun c j h0 h1 => (zxcj h0 ((fr c j h1).trans rfl)))
        · have hE : tTk tp r_ = tF tp i := (by
            by_cases q : i = tp.length
            · subst q; exact tTk_a (by omega)
            · exact tTk_f (by omega) (by omega))
          rw [hE]
          exact hml
        · have hE : tTk tp r_ = tF tp i := (by
            by_cases q : i = tp.length
            · subst q; exact tTk_a (by omega)
            · exact tTk_f (by omega) (by omega))
          rw [hE]
          intro p hp
          exact (zxu (by decide) (hx p hp)).trans (tC_a hp).symm
      · refine And.intro (zA_40 hS) (zrdR (v := some 41) (zR_40_0 hR) ?_)
        refine And.intro (Or.inl (zP_41 hS (by omega) (by omega))) (fun v22 e22 r22 => ?_)
        have f22 : v22 = sgB (wAt tp i) := (e22.trans ((congrArg (I1 41) (by omega)).trans (hai (by omega))))
        have f22b : (v22 = wAt tp i ∧ wAt tp i < 128) ∨ (v22 < 0 ∧ 128 ≤ wAt tp i) := (by have z := hgi (by omega); have z2 := f22; unfold sgB at z2; by_cases q : wAt tp i < 128; (rw [if_pos q] at z2; exact Or.inl ⟨z2, q⟩); (rw [if_neg q] at z2; exact Or.inr ⟨by omega, by omega⟩))
        refine And.intro ⟨r22, (zRb rfl)⟩ ⟨fun h29 => ?_, fun h29 => ?_⟩
        · have t29 : wAt tp i = 10 ∨ (32 ≤ wAt tp i ∧ wAt tp i ≤ 126) := (by omega)
          refine And.intro (zA_40 hS) (zrdR (v := some 42) (zR_40_2 hR) ?_)
          have m53 : (zi2c v22) = v22 := zi2c_g (by omega)
          refine And.intro ⟨(zx0 rfl), (zP_42 hS (by omega) (by omega)), (by omega), (by omega)⟩ ?_
          refine ⟨((4001 - (i + 1)), 0, 0), zlt6 (by omega), [some (zvr (40)), some (zvi (r_)), some (zvi ((m + 1))), some (zvi ((i + 1))), none], ⟨rfl, rfl, rfl, rfl, rfl⟩, (i + 1), (m + 1), rfl, rfl, rfl, rfl, rfl, rfl, (by omega), (by first | (rw [tF_y t29, wLn]; omega) | (rw [tF_y t43, wLn]; omega) | (rw [tF_n t36]; exact hml) | (rw [tF_n t43]; exact hml)), (by omega), ?_, (fun c j h0 => (zxu h0 ((fr c j h0).trans rfl)))⟩
          · first
            | (rw [tF_n t36]; exact hx)
            | (rw [tF_n t43]; exact hx)
            | (have hyy : wAt tp i = 10 ∨ (32 ≤ wAt tp i ∧ wAt tp i ≤ 126) := by first | exact t29 | exact t43
               rw [tF_y hyy, wLn]
               intro p hp
               by_cases q : p = (tF tp i).length
               · rw [q, wAt_e]
                 exact (zxe' (by omega)).trans (by omega)
               · rw [wAt_l (by omega)]
                 exact zxs (by omega) (hx p (by omega)))
        · refine And.intro ⟨r22, (zRb rfl)⟩ ⟨fun h36 => ?_, fun h36 => ?_⟩
          · have t36 : ¬ (wAt tp i = 10 ∨ (32 ≤ wAt tp i ∧ wAt tp i ≤ 126)) := (by omega)
            refine ⟨((4001 - (i + 1)), 0, 0), zlt6 (by omega), [some (zvr (40)), some (zvi (r_)), some (zvi (m)), some (zvi ((i + 1))), none], ⟨rfl, rfl, rfl, rfl, rfl⟩, (i + 1), m, rfl, rfl, rfl, rfl, rfl, rfl, (by omega), (by first | (rw [tF_y t29, wLn]; omega) | (rw [tF_y t43, wLn]; omega) | (rw [tF_n t36]; exact hml) | (rw [tF_n t43]; exact hml)), (by omega), ?_, (fun c j h0 => ((fr c j h0).trans rfl))⟩
            · first
              | (rw [tF_n t36]; exact hx)
              | (rw [tF_n t43]; exact hx)
              | (have hyy : wAt tp i = 10 ∨ (32 ≤ wAt tp i ∧ wAt tp i ≤ 126) := by first | exact t29 | exact t43
                 rw [tF_y hyy, wLn]
                 intro p hp
                 by_cases q : p = (tF tp i).length
                 · rw [q, wAt_e]
                   exact (zxe' (by omega)).trans (by omega)
                 · rw [wAt_l (by omega)]
                   exact zxs (by omega) (hx p (by omega)))
          · refine And.intro ⟨r22, (zRb rfl)⟩ ⟨fun h43 => ?_, fun h43 => ?_⟩
            · have t43 : ¬ (wAt tp i = 10 ∨ (32 ≤ wAt tp i ∧ wAt tp i ≤ 126)) := (by omega)
              refine ⟨((4001 - (i + 1)), 0, 0), zlt6 (by omega), [some (zvr (40)), some (zvi (r_)), some (zvi (m)), some (zvi ((i + 1))), none], ⟨rfl, rfl, rfl, rfl, rfl⟩, (i + 1), m, rfl, rfl, rfl, rfl, rfl, rfl, (by omega), (by first | (rw [tF_y t29, wLn]; omega) | (rw [tF_y t43, wLn]; omega) | (rw [tF_n t36]; exact hml) | (rw [tF_n t43]; exact hml)), (by omega), ?_, (fun c j h0 => ((fr c j h0).trans rfl))⟩
              · first
                | (rw [tF_n t36]; exact hx)
                | (rw [tF_n t43]; exact hx)
                | (have hyy : wAt tp i = 10 ∨ (32 ≤ wAt tp i ∧ wAt tp i ≤ 126) := by first | exact t29 | exact t43
                   rw [tF_y hyy, wLn]
                   intro p hp
                   by_cases q : p = (tF tp i).length
                   · rw [q, wAt_e]
                     exact (zxe' (by omega)).trans (by omega)
                   · rw [wAt_l (by omega)]
                     exact zxs (by omega) (hx p (by omega)))
            · have t43 : wAt tp i = 10 ∨ (32 ≤ wAt tp i ∧ wAt tp i ≤ 126) := (by omega)
              refine And.intro (zA_40 hS) (zrdR (v := some 42) (zR_40_2 hR) ?_)
              have m53 : (zi2c v22) = v22 := zi2c_g (by omega)
              refine And.intro ⟨(zx0 rfl), (zP_42 hS (by omega) (by omega)), (by omega), (by omega)⟩ ?_
              refine ⟨((4001 - (i + 1)), 0, 0), zlt6 (by omega), [some (zvr (40)), some (zvi (r_)), some (zvi ((m + 1))), some (zvi ((i + 1))), none], ⟨rfl, rfl, rfl, rfl, rfl⟩, (i + 1), (m + 1), rfl, rfl, rfl, rfl, rfl, rfl, (by omega), (by first | (rw [tF_y t29, wLn]; omega) | (rw [tF_y t43, wLn]; omega) | (rw [tF_n t36]; exact hml) | (rw [tF_n t43]; exact hml)), (by omega), ?_, (fun c j h0 => (zxu h0 ((fr c j h0).trans rfl)))⟩
              · first
                | (rw [tF_n t36]; exact hx)
                | (rw [tF_n t43]; exact hx)
                | (have hyy : wAt tp i = 10 ∨ (32 ≤ wAt tp i ∧ wAt tp i ≤ 126) := by first | exact t29 | exact t43
                   rw [tF_y hyy, wLn]
                   intro p hp
                   by_cases q : p = (tF tp i).length
                   · rw [q, wAt_e]
                     exact (zxe' (by omega)).trans (by omega)
                   · rw [wAt_l (by omega)]
                     exact zxs (by omega) (hx p (by omega))))
