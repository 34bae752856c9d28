/-! gb4 -/
theorem zxe' {α : Type} {f : Nat → Nat → α} {k j b : Nat} {w : α} (h : b = j) : xu f k j w k b = w := by rw [h]; exact zxe
def T_G_join : ZT := fun args I L R S Q => ∃ (k : Nat) (s : BdS) (n : Nat) (x : Int) (y : Int) (c : Nat) (rr : Int) (hb_ : Nat) (a : Int), args = [zvr k, zvi x, zvi y, zvi rr] ∧ (zDy zT17 zF17 k R S) ∧ (zBB k n s I L) ∧ (bGz s) ∧ (x = n ∧ n < bnn s) ∧ (y = c ∧ c < 1024) ∧ (0 ≤ bDn s n rr c) ∧ (rr = 0 ∨ rr = 1) ∧ (∀ j : Nat, j < 1024 → I (k + 17) j = bTn s n j) ∧ (∀ d : Nat, d < bK s → L (k + 16) d = bDn s n rr d) ∧ (bwl s n = zct (bTr s n) (bK s)) ∧ (∀ m, m < bnn s → bwl s m ≤ 1024) ∧ (∀ c, c < 1024 → -1 ≤ bho s c ∧ bho s c < bnn s) ∧ ((∀ c, c < 1024 → bhi s c ≤ hb_) ∧ hb_ ≤ 900000) ∧ (∀ m, m < bnn s → 0 ≤ bN s m 4 ∧ bN s m 4 ≤ 2000000000) ∧ (∀ d, bDn s n rr d ≤ 2000000000) ∧ (L (k + 13) n = a ∧ 0 ≤ a ∧ a ≤ 1000000000000) ∧ ∀ (I' : ZI) (L' : ZI), (zBB k n (bJn s n rr c) I' L') → (∀ j : Nat, j < 1024 → I' (k + 17) j = bTn (bJn s n rr c) n j) → (L' (k + 13) n = a + bDn s n rr c) → (∀ c j : Nat, ¬ c = k + 3 → ¬ c = k + 10 → ¬ c = k + 11 → ¬ c = k + 12 → ¬ c = k + 14 → ¬ c = k + 17 → I' c j = I c j) → (∀ c j : Nat, ¬ c = k + 6 → ¬ (c = k + 13 ∧ j = n) → L' c j = L c j) → Q none I' L' R S
theorem sn_G_join : ZSnd 5 17 15 T_G_join := ZSnd.loops (zT17_15 4) (by
  rintro args I L R S Q hz ⟨k, s, n, x, y, c, rr, hb_, a, rfl, hd, hBB, hGz, hxn, hyc, hD, hrr, htr, hdd, hct, hwl, hho, hhb, hrp, hdm, hca, hQ⟩
  have h5 := hd.1
  obtain ⟨⟨hbw, hbh, hbd, hbs, hbn⟩, hcl, hco, hpc, hne, hpi⟩ := id hBB
  obtain ⟨⟨⟨gW1, gW2⟩, ⟨gH1, gH2⟩, ⟨gD1, gD2⟩, gB9⟩, ⟨gnp, gnn⟩, gco⟩ := id hGz
  obtain ⟨m1, m2, hKe⟩ := gWH hGz
  have hKd : bK s = bW s * bH s * bD s := rfl
  have hPl := bPl_sp gB9 hD
  have hLe := bPl_le gB9 hD
  have hno := hPl.2
  have hf9 : ∀ j, j ≤ bPl s n rr c → bPth s n rr c j < bK s := fun j hj => (bPth_sp gB9 hD j (fun i hi => hno i (by omega))).1
  have hdc := hdm c
  have hcK : c < bK s := bDi_lt gB9 hD
  have hxn0 : x.toNat = n := by have := hxn.1; omega
  have htx := bWx_p s n (bPth s n rr c) (bPl s n rr c)
  have htw := bWx_w s n (bPth s n rr c) (bPl s n rr c)
  have hho2 : ∀ e, e < 1024 → -1 ≤ bho (bWx s n (bPth s n rr c) (bPl s n rr c)) e ∧ bho (bWx s n (bPth s n rr c) (bPl s n rr c)) e < bnn s := by rw [htx.2.2.1]; exact hho
  refine ⟨[26, 67, 152, 201], fun nM tM lsM stM I1 L1 R1 S1 => match tM with
      | 26 => ∃ (g : Nat), nM = (4, (1025 - g), 0) ∧ lsM = [some (zvr (k)), some (zvi (n)), some (zvi (c)), some (zvi (rr)), some (zvi (bwl s n)), some (zvi (bPth s n rr c g)), none, none, none] ∧ stM = [] ∧ R1 = R ∧ S1 = S ∧ (g ≤ bPl s n rr c) ∧ (zBB k n (bWx s n (bPth s n rr c) g) I1 L1) ∧ (∀ j : Nat, j < 1024 → I1 (k + 17) j = zite (bTp s n (bPth s n rr c) g j) 1 0) ∧ (L1 (k + 13) n = a + bDn s n rr c) ∧ (∀ c j : Nat, ¬ c = k + 11 → ¬ c = k + 12 → ¬ c = k + 17 → I1 c j = I c j) ∧ (∀ c j : Nat, ¬ (c = k + 13 ∧ j = n) → L1 c j = L c j)
      | 67 => ∃ (m : Nat), nM = (3, (1025 - m), 0) ∧ lsM = [some (zvr (k)), some (zvi (n)), some (zvi (c)), some (zvi (rr)), some (zvi (bwl s n)), none, some (zvi (bRm (bWx s n (bPth s n rr c) (bPl s n rr c)) n (bPth s n rr c) m)), some (zvi (bwl s n + m)), none] ∧ stM = [] ∧ R1 = R ∧ S1 = S ∧ (m ≤ bPl s n rr c) ∧ (zBB k n (bs_hi (bWx s n (bPth s n rr c) (bPl s n rr c)) (bHx (bWx s n (bPth s n rr c) (bPl s n rr c)) n (bPth s n rr c) m)) I1 L1) ∧ (∀ j : Nat, j < 1024 → I1 (k + 17) j = zite (bTp s n (bPth s n rr c) (bPl s n rr c) j) 1 0) ∧ (L1 (k + 13) n = a + bDn s n rr c) ∧ (∀ c j : Nat, ¬ c = k + 11 → ¬ c = k + 12 → ¬ c = k + 17 → I1 c j = I c j) ∧ (∀ c j : Nat, ¬ c = k + 6 → ¬ (c = k + 13 ∧ j = n) → L1 c j = L c j)
      | 152 => ∃ (o : Nat), nM = (2, (13 - o), 0) ∧ lsM = [some (zvr (k)), some (zvi (n)), some (zvi (c)), some (zvi (rr)), some (zvi (bwl s n)), none, some (zvi (bRm (bWx s n (bPth s n rr c) (bPl s n rr c)) n (bPth s n rr c) (bPl s n rr c))), some (zvi (o)), none] ∧ stM = [] ∧ R1 = R ∧ S1 = S ∧ (o ≤ bnn s) ∧ (zBB k n (bRp (bs_hi (bWx s n (bPth s n rr c) (bPl s n rr c)) (bHx (bWx s n (bPth s n rr c) (bPl s n rr c)) n (bPth s n rr c) (bPl s n rr c))) (bRm (bWx s n (bPth s n rr c) (bPl s n rr c)) n (bPth s n rr c) (bPl s n rr c)) o) I1 L1) ∧ (∀ j : Nat, j < 1024 → I1 (k + 17) j = zite (bTp s n (bPth s n rr c) (bPl s n rr c) j) 1 0) ∧ (L1 (k + 13) n = a + bDn s n rr c) ∧ (∀ c j : Nat, ¬ c = k + 3 → ¬ c = k + 10 → ¬ c = k + 11 → ¬ c = k + 12 → ¬ c = k + 14 → ¬ c = k + 17 → I1 c j = I c j) ∧ (∀ c j : Nat, ¬ c = k + 6 → ¬ (c = k + 13 ∧ j = n) → L1 c j = L c j)
      | 201 => ∃ (m : Nat), nM = (1, (1025 - m), 0) ∧ lsM = [some (zvr (k)), some (zvi (n)), none, none, some (zvi (bwl s n)), none, none, some (zvi (bwl s n + m)), none] ∧ stM = [] ∧ R1 = R ∧ S1 = S ∧ (m ≤ bPl s n rr c) ∧ (zBB k n (bJ2 s n (bPth s n rr c) (bPl s n rr c) m) I1 L1) ∧ (∀ j : Nat, j < 1024 → I1 (k + 17) j = zite (bTp s n (bPth s n rr c) (bPl s n rr c) j) 1 0) ∧ (L1 (k + 13) n = a + bDn s n rr c) ∧ (∀ c j : Nat, ¬ c = k + 3 → ¬ c = k + 10 → ¬ c = k + 11 → ¬ c = k + 12 → ¬ c = k + 14 → ¬ c = k + 17 → I1 c j = I c j) ∧ (∀ c j : Nat, ¬ c = k + 6 → ¬ (c = k + 13 ∧ j = n) → L1 c j = L c j)
      | _ => False, rfl, ?_, ⟨?_, ?_, ?_, ?_, True.intro⟩⟩
  · refine And.intro (zDX hd 0 rfl) (zrdR (v := some (k + 13)) (zDR hd 12 rfl) ?_)
    refine And.intro (zDP hd 13 rfl rfl (by omega) (by omega)) (fun v6 e6 r6 => ?_)
    have f6 : v6 = a := (e6.trans ((congrArg (L (k + 13)) (by omega)).trans hca.1))
    have f6b : 0 ≤ v6 ∧ v6 ≤ 1000000000000 := (by have := hca.2; omega)
    refine And.intro (zDX hd 0 rfl) (zrdR (v := some (k + 16)) (zDR hd 15 rfl) ?_)
    refine And.intro (zDP hd 16 rfl rfl (by omega) (by omega)) (fun v12 e12 r12 => ?_)
    have f12 : v12 = bDn s n rr c := (e12.trans ((congrArg (L (k + 16)) (by omega)).trans (hdd c hcK)))
    have f12b : 0 ≤ v12 ∧ v12 ≤ 2000000000 := (by omega)
    refine And.intro ⟨(by show 40 ≤ _; omega), (zDP hd 13 rfl rfl (by omega) (by omega))⟩ ⟨_, zW6i (by omega), ?_⟩
    refine And.intro (zDX hd 0 rfl) (zrdR (v := some (k + 11)) (zDR hd 10 rfl) ?_)
    refine And.intro (zDP hd 11 rfl rfl (by omega) (by omega)) (fun v20 e20 r20 => ?_)
    have f20 : v20 = bwl s n := (e20.trans ((congrArg (I (k + 11)) (by omega)).trans (hne n hxn.2).2.1))
    refine ⟨(4, (1025 - (0 : Nat)), 0), [some (zvr (k)), some (zvi (n)), some (zvi (c)), some (zvi (rr)), some (zvi (bwl s n)), some (zvi (bPth s n rr c (0 : Nat))), none, none, none], ⟨rfl, (congrArg (fun z => some (zvi z)) (by omega)), (congrArg (fun z => some (zvi z)) (by omega)), rfl, (congrArg (fun z => some (zvi z)) (by omega)), (congrArg (fun z => some (zvi z)) (by show y = _; exact hyc.1)), rfl⟩, 0, rfl, rfl, rfl, rfl, rfl, (by omega), (zBB_i hBB (fun c j w => rfl) (fun c j w => zxcj (by omega) rfl) hxn.2), (by rw [bTp_0]; exact htr), ((zxe' (by omega)).trans (by omega)), (fun c j h0 h1 h2 => rfl), (fun c j h0 => (zxcj (by omega) rfl))⟩
  · rintro nM lsM stM I1 L1 R1 S1 hz1 ⟨g, rfl, rfl, rfl, rfl, rfl, hg, hB1, ht1, hca1, fr, frL⟩
    have hfk := hf9 g hg
    have hwx := bWx_w s n (bPth s n rr c) g
    have hpx := bWx_p s n (bPth s n rr c) g
    have hpk := bPth_sp gB9 hD g (fun j hj => hno j (by omega))
    refine And.intro (zDX hd 0 rfl) (zrdR (v := some (k + 17)) (zDR hd 16 rfl) ?_)
    refine And.intro (Or.inr (zDP hd 17 rfl rfl (by omega) (by omega))) (fun v32 e32 r32 => ?_)
    have f32 : v32 = zite (bTp s n (bPth s n rr c) g (bPth s n rr c g)) 1 0 := (e32.trans ((congrArg (I1 (k + 17)) (by omega)).trans (ht1 (bPth s n rr c g) (by omega))))
    refine And.intro r32 ⟨fun h33 => ?_, fun h33 => ?_⟩
    · have t33 : bTr s n (bPth s n rr c g) := (Classical.byContradiction (fun w => by have e : zite (bTp s n (bPth s n rr c) g (bPth s n rr c g)) (1 : Int) 0 = 0 := (zite_f (fun z => by rcases z with z | z; exact w z; obtain ⟨j, j1, j2⟩ := z; exact bPth_ne gB9 hD j1 (by omega) j2)); omega))
      have t33b : g = bPl s n rr c := (by rcases Nat.lt_or_ge g (bPl s n rr c) with w | w; exact absurd t33 (hno g w); omega)
      refine ⟨(3, (1025 - (0 : Nat)), 0), zlt6 (by omega), [some (zvr (k)), some (zvi (n)), some (zvi (c)), some (zvi (rr)), some (zvi (bwl s n)), none, some (zvi (bRm (bWx s n (bPth s n rr c) (bPl s n rr c)) n (bPth s n rr c) (0 : Nat))), some (zvi (bwl s n + (0 : Nat))), none], ⟨rfl, rfl, rfl, rfl, rfl, (congrArg (fun z => some (zvi z)) rfl), (congrArg (fun z => some (zvi z)) (by omega)), rfl⟩, 0, rfl, rfl, rfl, rfl, rfl, (by omega), (by rw [← t33b]; exact hB1), (by rw [← t33b]; exact ht1), (by first | exact hca1 | (clear hQ; grind [xu])), (fun c j h0 h1 h2 => ((fr c j (by omega) (by omega) (by omega)).trans rfl)), (fun c j h0 h1 => ((frL c j (by omega)).trans rfl))⟩
    · have t33 : ¬ bTr s n (bPth s n rr c g) := (fun w => by have e : zite (bTp s n (bPth s n rr c) g (bPth s n rr c g)) (1 : Int) 0 = 1 := (zite_t (Or.inl w)); omega)
      have t33b : g + 1 ≤ bPl s n rr c := (by rcases Nat.lt_or_ge g (bPl s n rr c) with w | w; exact w; exfalso; exact t33 (by rw [show g = bPl s n rr c by omega]; exact hPl.1))
      refine And.intro (zDX hd 0 rfl) ⟨_, sn_G_back.up (by decide), ?_⟩
      refine ⟨k, _, (bWx s n (bPth s n rr c) g), s, n, (n : Int), ((bPth s n rr c g) : Int), (bPth s n rr c g), rr, hb_, rfl, hd, hB1, (bGz_x hGz hpx), ⟨hpx.1, hpx.2.2.2.2.2.2.2.2.2.2.1, hpx.2.2.1, hpx.2.2.2.2.1⟩, (by omega), (by omega), (by omega), hpk.2.1, t33, (by first | exact hrr | (clear hQ; grind [xu])), (by first | exact hdd | exact (fun d h1 => ((frL (k + 16) _ (by omega)).trans rfl).trans (hdd d h1)) | (clear hQ; grind [xu])), ⟨fun d hd => by rw [hpx.2.2.2.2.1]; exact hhb.1 d (by omega), by have := hhb.2; omega⟩, (by first | exact hdm | (clear hQ; grind [xu])), ?_⟩
      intro v41o p41hv p41bhv2
      have g41 : v41o = bPth s n rr c (g + 1) := (by show v41o = (((bBk s n rr (bPth s n rr c g)).toNat : Nat) : Int); rw [← p41hv]; omega)
      refine And.intro (zDX hd 0 rfl) ⟨_, sn_G_come.up (by decide), ?_⟩
      refine ⟨k, _, (bWx s n (bPth s n rr c) g), n, (n : Int), ((bPth s n rr c g) : Int), (bPth s n rr c g), rfl, hd, hB1, (bGz_x hGz hpx), ⟨rfl, by rw [hpx.2.2.2.2.2.2.2.2.1]; omega⟩, (by omega), (fun m hm => by rw [hpx.2.2.2.2.2.2.2.2.1] at hm; by_cases e : m = n; rw [e, hwx.1]; omega; rw [(hwx.2.2.2 m e).1]; exact hwl m hm), (by rw [hwx.1]; omega), ?_⟩
      intro I50o p50hBB2 p50bht1 p50bbfr
      refine ⟨(4, (1025 - (g + 1)), 0), zlt6 (by omega), [some (zvr (k)), some (zvi (n)), some (zvi (c)), some (zvi (rr)), some (zvi (bwl s n)), some (zvi (bPth s n rr c (g + 1))), none, none, none], ⟨rfl, rfl, rfl, rfl, rfl, (congrArg (fun z => some (zvi z)) g41), rfl⟩, (g + 1), rfl, rfl, rfl, rfl, rfl, (by omega), p50hBB2, ?_, (by first | exact hca1 | (clear hQ; grind [xu])), (fun c j h0 h1 h2 => ((p50bbfr c j (by omega) (by omega) (by omega)).trans ((fr c j (by omega) (by omega) (by omega)).trans rfl))), (fun c j h0 => ((frL c j (by omega)).trans rfl))⟩
      · intro j hj
        rw [bTp_s, p50bht1]
        by_cases e : j = bPth s n rr c g
        · rw [e, upF_at]; exact (zite_t (Or.inr rfl)).symm
        · rw [upF_ne e, ht1 j hj]
          by_cases e3 : bTp s n (bPth s n rr c) g j
          · rw [zite_t e3, zite_t (Or.inl e3)]
          · rw [zite_f e3, zite_f (fun w => by rcases w with w | w; exact e3 w; exact e w)]
  · rintro nM lsM stM I1 L1 R1 S1 hz1 ⟨m, rfl, rfl, rfl, rfl, rfl, hm, hB2, ht1, hca1, fr, frL⟩
    have hfm := hf9 m hm
    have hhx := fun e he => bHx_b (s := (bWx s n (bPth s n rr c) (bPl s n rr c))) (n := (n : Int)) (f := (bPth s n rr c)) (c := e) (hb := hb_) (by rw [htx.2.2.2.2.1]; exact hhb.1 e he) m
    have hrm := (bRm_b (s := (bWx s n (bPth s n rr c) (bPl s n rr c))) (n := (n : Int)) (f := (bPth s n rr c)) gnn hho2 m (fun j hj => by have := hf9 j (by omega); omega)).1
    have h2m : 2 ^ bnn s ≤ 2 ^ 12 := Nat.pow_le_pow_right (by decide) gnn
    have hhm := hho (bPth s n rr c m) (by omega)
    have hhxm := hhx (bPth s n rr c m) (by omega)
    refine And.intro (zDX hd 0 rfl) (zrdR (v := some (k + 11)) (zDR hd 10 rfl) ?_)
    refine And.intro (zDP hd 11 rfl rfl (by omega) (by omega)) (fun v74 e74 r74 => ?_)
    have f74 : v74 = bwl s n + bPl s n rr c := (e74.trans ((congrArg (I1 (k + 11)) (by omega)).trans ((hB2.2.2.2.2.1 n (by show n < bnn (bWx _ _ _ _); rw [htx.2.2.2.2.2.2.2.2.1]; exact hxn.2)).2.1.trans (by show ((bwl (bWx _ _ _ _) n : Nat) : Int) = _; rw [htw.1]; omega))))
    refine And.intro ⟨(by omega), r74⟩ ⟨fun h75 => ?_, fun h75 => ?_⟩
    · refine ⟨(2, (13 - (0 : Nat)), 0), zlt6 (by omega), [some (zvr (k)), some (zvi (n)), some (zvi (c)), some (zvi (rr)), some (zvi (bwl s n)), none, some (zvi (bRm (bWx s n (bPth s n rr c) (bPl s n rr c)) n (bPth s n rr c) (bPl s n rr c))), some (zvi ((0 : Nat))), none], ⟨rfl, rfl, rfl, rfl, rfl, (congrArg (fun z => some (zvi z)) (by rw [show m = bPl s n rr c by omega])), rfl, rfl⟩, 0, rfl, rfl, rfl, rfl, rfl, (by omega), (by obtain rfl : m = bPl s n rr c := (by omega); exact hB2), (by first | exact ht1 | exact (fun j h1 => rfl.trans (ht1 j h1)) | (clear hQ; grind [xu])), (by first | exact hca1 | (clear hQ; grind [xu])), (fun c j h0 h1 h2 h3 h4 h5 => ((fr c j (by omega) (by omega) (by omega)).trans rfl)), (fun c j h0 h1 => ((frL c j (by omega) (by omega)).trans rfl))⟩
    · refine And.intro (zDX hd 0 rfl) (zrdR (v := some (k + 12)) (zDR hd 11 rfl) ?_)
      refine And.intro (zDP hd 12 rfl rfl (by omega) (by omega)) (fun v90 e90 r90 => ?_)
      have f90 : v90 = bPth s n rr c m := (e90.trans ((congrArg (I1 (k + 12)) (by omega)).trans (((hB2.2.2.2.2.1 n (by show n < bnn (bWx _ _ _ _); rw [htx.2.2.2.2.2.2.2.2.1]; exact hxn.2)).2.2.2.2 (bwl s n + m) (by show _ < bwl (bWx _ _ _ _) n; rw [htw.1]; omega)).trans (by show ((bwy (bWx _ _ _ _) n _ : Nat) : Int) = _; rw [htw.2.2.1 m (by omega)]))))
      have f90b : 0 ≤ v90 ∧ v90 ≤ 1023 := (by omega)
      refine And.intro (zDX hd 0 rfl) (zrdR (v := some (k + 3)) (zDR hd 2 rfl) ?_)
      refine And.intro (zDP hd 3 rfl rfl (by omega) (by omega)) (fun v99 e99 r99 => ?_)
      have f99 : v99 = bho s (bPth s n rr c m) := (e99.trans ((congrArg (I1 (k + 3)) (by omega)).trans ((hB2.2.1 (bPth s n rr c m) (by omega)).1.trans (by show bho (bWx _ _ _ _) _ = _; rw [htx.2.2.1]))))
      refine And.intro ⟨r99, (zRb rfl)⟩ ⟨fun h101 => ?_, fun h101 => ?_⟩
      · refine ⟨(3, (1025 - (m + 1)), 0), zlt6 (by omega), [some (zvr (k)), some (zvi (n)), some (zvi (c)), some (zvi (rr)), some (zvi (bwl s n)), none, some (zvi (bRm (bWx s n (bPth s n rr c) (bPl s n rr c)) n (bPth s n rr c) (m + 1))), some (zvi (bwl s n + (m + 1))), none], ⟨rfl, rfl, rfl, rfl, rfl, (congrArg (fun z => some (zvi z)) (by
  have e0 : bho (bWx s n (bPth s n rr c) (bPl s n rr c)) (bPth s n rr c m) = bho s (bPth s n rr c m) := congrFun htx.2.2.1 _
  show _ = zite (bHl (bWx s n (bPth s n rr c) (bPl s n rr c)) n (bPth s n rr c m)) (zmk (bRm (bWx s n (bPth s n rr c) (bPl s n rr c)) n (bPth s n rr c) m) (bho (bWx s n (bPth s n rr c) (bPl s n rr c)) (bPth s n rr c m))) (bRm (bWx s n (bPth s n rr c) (bPl s n rr c)) n (bPth s n rr c) m)
  first
  | (rw [zite_f (show ¬ (bHl (bWx s n (bPth s n rr c) (bPl s n rr c)) n (bPth s n rr c m)) from fun w => by have w1 := w.1; have w2 := w.2; omega)])
  | (rw [zite_t (show bHl (bWx s n (bPth s n rr c) (bPl s n rr c)) n (bPth s n rr c m) from And.intro (by omega) (by omega)), e0, ← f127]; rfl))), (congrArg (fun z => some (zvi z)) (by omega)), rfl⟩, (m + 1), rfl, rfl, rfl, rfl, rfl, (by omega), ?_, (by first | exact ht1 | exact (fun j h1 => rfl.trans (ht1 j h1)) | (clear hQ; grind [xu])), (by first | exact hca1 | (clear hQ; grind [xu])), (fun c j h0 h1 h2 => ((fr c j (by omega) (by omega) (by omega)).trans rfl)), (fun c j h0 h1 => ((frL c j (by omega) (by omega)).trans rfl))⟩
        · have e0 : bho (bWx s n (bPth s n rr c) (bPl s n rr c)) (bPth s n rr c m) = bho s (bPth s n rr c m) := congrFun htx.2.2.1 _
          have e1 : bHx (bWx s n (bPth s n rr c) (bPl s n rr c)) n (bPth s n rr c) (m + 1) = zite (bHl (bWx s n (bPth s n rr c) (bPl s n rr c)) n (bPth s n rr c m)) (upF (bHx (bWx s n (bPth s n rr c) (bPl s n rr c)) n (bPth s n rr c) m) (bPth s n rr c m) (bHx (bWx s n (bPth s n rr c) (bPl s n rr c)) n (bPth s n rr c) m (bPth s n rr c m) + 1)) (bHx (bWx s n (bPth s n rr c) (bPl s n rr c)) n (bPth s n rr c) m) := rfl
          rw [e1]
          first
          | (rw [zite_f (show ¬ (bHl (bWx s n (bPth s n rr c) (bPl s n rr c)) n (bPth s n rr c m)) from fun w => by have w1 := w.1; have w2 := w.2; omega)]
             exact hB2)
          | (rw [zite_t (show bHl (bWx s n (bPth s n rr c) (bPl s n rr c)) n (bPth s n rr c m) from And.intro (by omega) (by omega))]
             refine zBB_hi (s := bs_hi (bWx s n (bPth s n rr c) (bPl s n rr c)) (bHx (bWx s n (bPth s n rr c) (bPl s n rr c)) n (bPth s n rr c) m)) (f := upF (bHx (bWx s n (bPth s n rr c) (bPl s n rr c)) n (bPth s n rr c) m) (bPth s n rr c m) (bHx (bWx s n (bPth s n rr c) (bPl s n rr c)) n (bPth s n rr c) m (bPth s n rr c m) + 1)) hB2 (fun d hd => ?_) (fun c j w => rfl) (fun c j w => zxu (by omega) rfl)
             rw [show (v90 : Int).toNat = bPth s n rr c m by omega]
             by_cases e : d = bPth s n rr c m
             · rw [e, upF_at]
               exact zxe.trans (by omega)
             · rw [upF_ne e]
               exact zxs e (hB2.2.1 d hd).2.2.2)
      · refine And.intro (zDX hd 0 rfl) (zrdR (v := some (k + 3)) (zDR hd 2 rfl) ?_)
        refine And.intro (zDP hd 3 rfl rfl (by omega) (by omega)) (fun v110 e110 r110 => ?_)
        have f110 : v110 = bho s (bPth s n rr c m) := (e110.trans ((congrArg (I1 (k + 3)) (by omega)).trans ((hB2.2.1 (bPth s n rr c m) (by omega)).1.trans (by show bho (bWx _ _ _ _) _ = _; rw [htx.2.2.1]))))
        refine And.intro ⟨r110, (by omega)⟩ ⟨fun h112 => ?_, fun h112 => ?_⟩
        · refine And.intro (zDX hd 0 rfl) (zrdR (v := some (k + 3)) (zDR hd 2 rfl) ?_)
          refine And.intro (zDP hd 3 rfl rfl (by omega) (by omega)) (fun v127 e127 r127 => ?_)
          have f127 : v127 = bho s (bPth s n rr c m) := (e127.trans ((congrArg (I1 (k + 3)) (by omega)).trans ((hB2.2.1 (bPth s n rr c m) (by omega)).1.trans (by show bho (bWx _ _ _ _) _ = _; rw [htx.2.2.1]))))
          refine And.intro (zDX hd 0 rfl) (zrdR (v := some (k + 6)) (zDR hd 5 rfl) ?_)
          refine And.intro (zDP hd 6 rfl rfl (by omega) (by omega)) (fun v139 e139 r139 => ?_)
          have f139 : v139 = bHx (bWx s n (bPth s n rr c) (bPl s n rr c)) n (bPth s n rr c) m (bPth s n rr c m) := (e139.trans ((congrArg (L1 (k + 6)) (by omega)).trans (hB2.2.1 (bPth s n rr c m) (by omega)).2.2.2))
          have f139b : 0 ≤ v139 ∧ v139 ≤ 1000000 := (by have := hhb.2; omega)
          refine And.intro ⟨(by show 40 ≤ _; omega), (zDP hd 6 rfl rfl (by omega) (by omega))⟩ ⟨_, zW6i (by omega), ?_⟩
          refine ⟨(3, (1025 - (m + 1)), 0), zlt6 (by omega), [some (zvr (k)), some (zvi (n)), some (zvi (c)), some (zvi (rr)), some (zvi (bwl s n)), none, some (zvi (bRm (bWx s n (bPth s n rr c) (bPl s n rr c)) n (bPth s n rr c) (m + 1))), some (zvi (bwl s n + (m + 1))), none], ⟨rfl, rfl, rfl, rfl, rfl, (congrArg (fun z => some (zvi z)) (by
  have e0 : bho (bWx s n (bPth s n rr c) (bPl s n rr c)) (bPth s n rr c m) = bho s (bPth s n rr c m) := congrFun htx.2.2.1 _
  show _ = zite (bHl (bWx s n (bPth s n rr c) (bPl s n rr c)) n (bPth s n rr c m)) (zmk (bRm (bWx s n (bPth s n rr c) (bPl s n rr c)) n (bPth s n rr c) m) (bho (bWx s n (bPth s n rr c) (bPl s n rr c)) (bPth s n rr c m))) (bRm (bWx s n (bPth s n rr c) (bPl s n rr c)) n (bPth s n rr c) m)
  first
  | (rw [zite_f (show ¬ (bHl (bWx s n (bPth s n rr c) (bPl s n rr c)) n (bPth s n rr c m)) from fun w => by have w1 := w.1; have w2 := w.2; omega)])
  | (rw [zite_t (show bHl (bWx s n (bPth s n rr c) (bPl s n rr c)) n (bPth s n rr c m) from And.intro (by omega) (by omega)), e0, ← f127]; rfl))), (congrArg (fun z => some (zvi z)) (by omega)), rfl⟩, (m + 1), rfl, rfl, rfl, rfl, rfl, (by omega), ?_, (by first | exact ht1 | exact (fun j h1 => rfl.trans (ht1 j h1)) | (clear hQ; grind [xu])), (by first | exact hca1 | (clear hQ; grind [xu])), (fun c j h0 h1 h2 => ((fr c j (by omega) (by omega) (by omega)).trans rfl)), (fun c j h0 h1 => (zxu h0 ((frL c j (by omega) (by omega)).trans rfl)))⟩
          · have e0 : bho (bWx s n (bPth s n rr c) (bPl s n rr c)) (bPth s n rr c m) = bho s (bPth s n rr c m) := congrFun htx.2.2.1 _
            have e1 : bHx (bWx s n (bPth s n rr c) (bPl s n rr c)) n (bPth s n rr c) (m + 1) = zite (bHl (bWx s n (bPth s n rr c) (bPl s n rr c)) n (bPth s n rr c m)) (upF (bHx (bWx s n (bPth s n rr c) (bPl s n rr c)) n (bPth s n rr c) m) (bPth s n rr c m) (bHx (bWx s n (bPth s n rr c) (bPl s n rr c)) n (bPth s n rr c) m (bPth s n rr c m) + 1)) (bHx (bWx s n (bPth s n rr c) (bPl s n rr c)) n (bPth s n rr c) m) := rfl
            rw [e1]
            first
            | (rw [zite_f (show ¬ (bHl (bWx s n (bPth s n rr c) (bPl s n rr c)) n (bPth s n rr c m)) from fun w => by have w1 := w.1; have w2 := w.2; omega)]
               exact hB2)
            | (rw [zite_t (show bHl (bWx s n (bPth s n rr c) (bPl s n rr c)) n (bPth s n rr c m) from And.intro (by omega) (by omega))]
               refine zBB_hi (s := bs_hi (bWx s n (bPth s n rr c) (bPl s n rr c)) (bHx (bWx s n (bPth s n rr c) (bPl s n rr c)) n (bPth s n rr c) m)) (f := upF (bHx (bWx s n (bPth s n rr c) (bPl s n rr c)) n (bPth s n rr c) m) (bPth s n rr c m) (bHx (bWx s n (bPth s n rr c) (bPl s n rr c)) n (bPth s n rr c) m (bPth s n rr c m) + 1)) hB2 (fun d hd => ?_) (fun c j w => rfl) (fun c j w => zxu (by omega) rfl)
               rw [show (v90 : Int).toNat = bPth s n rr c m by omega]
               by_cases e : d = bPth s n rr c m
               · rw [e, upF_at]
                 exact zxe.trans (by omega)
               · rw [upF_ne e]
                 exact zxs e (hB2.2.1 d hd).2.2.2)
        · refine ⟨(3, (1025 - (m + 1)), 0), zlt6 (by omega), [some (zvr (k)), some (zvi (n)), some (zvi (c)), some (zvi (rr)), some (zvi (bwl s n)), none, some (zvi (bRm (bWx s n (bPth s n rr c) (bPl s n rr c)) n (bPth s n rr c) (m + 1))), some (zvi (bwl s n + (m + 1))), none], ⟨rfl, rfl, rfl, rfl, rfl, (congrArg (fun z => some (zvi z)) (by
  have e0 : bho (bWx s n (bPth s n rr c) (bPl s n rr c)) (bPth s n rr c m) = bho s (bPth s n rr c m) := congrFun htx.2.2.1 _
  show _ = zite (bHl (bWx s n (bPth s n rr c) (bPl s n rr c)) n (bPth s n rr c m)) (zmk (bRm (bWx s n (bPth s n rr c) (bPl s n rr c)) n (bPth s n rr c) m) (bho (bWx s n (bPth s n rr c) (bPl s n rr c)) (bPth s n rr c m))) (bRm (bWx s n (bPth s n rr c) (bPl s n rr c)) n (bPth s n rr c) m)
  first
  | (rw [zite_f (show ¬ (bHl (bWx s n (bPth s n rr c) (bPl s n rr c)) n (bPth s n rr c m)) from fun w => by have w1 := w.1; have w2 := w.2; omega)])
  | (rw [zite_t (show bHl (bWx s n (bPth s n rr c) (bPl s n rr c)) n (bPth s n rr c m) from And.intro (by omega) (by omega)), e0, ← f127]; rfl))), (congrArg (fun z => some (zvi z)) (by omega)), rfl⟩, (m + 1), rfl, rfl, rfl, rfl, rfl, (by omega), ?_, (by first | exact ht1 | exact (fun j h1 => rfl.trans (ht1 j h1)) | (clear hQ; grind [xu])), (by first | exact hca1 | (clear hQ; grind [xu])), (fun c j h0 h1 h2 => ((fr c j (by omega) (by omega) (by omega)).trans rfl)), (fun c j h0 h1 => ((frL c j (by omega) (by omega)).trans rfl))⟩
          · have e0 : bho (bWx s n (bPth s n rr c) (bPl s n rr c)) (bPth s n rr c m) = bho s (bPth s n rr c m) := congrFun htx.2.2.1 _
            have e1 : bHx (bWx s n (bPth s n rr c) (bPl s n rr c)) n (bPth s n rr c) (m + 1) = zite (bHl (bWx s n (bPth s n rr c) (bPl s n rr c)) n (bPth s n rr c m)) (upF (bHx (bWx s n (bPth s n rr c) (bPl s n rr c)) n (bPth s n rr c) m) (bPth s n rr c m) (bHx (bWx s n (bPth s n rr c) (bPl s n rr c)) n (bPth s n rr c) m (bPth s n rr c m) + 1)) (bHx (bWx s n (bPth s n rr c) (bPl s n rr c)) n (bPth s n rr c) m) := rfl
            rw [e1]
            first
            | (rw [zite_f (show ¬ (bHl (bWx s n (bPth s n rr c) (bPl s n rr c)) n (bPth s n rr c m)) from fun w => by have w1 := w.1; have w2 := w.2; omega)]
               exact hB2)
            | (rw [zite_t (show bHl (bWx s n (bPth s n rr c) (bPl s n rr c)) n (bPth s n rr c m) from And.intro (by omega) (by omega))]
               refine zBB_hi (s := bs_hi (bWx s n (bPth s n rr c) (bPl s n rr c)) (bHx (bWx s n (bPth s n rr c) (bPl s n rr c)) n (bPth s n rr c) m)) (f := upF (bHx (bWx s n (bPth s n rr c) (bPl s n rr c)) n (bPth s n rr c) m) (bPth s n rr c m) (bHx (bWx s n (bPth s n rr c) (bPl s n rr c)) n (bPth s n rr c) m (bPth s n rr c m) + 1)) hB2 (fun d hd => ?_) (fun c j w => rfl) (fun c j w => zxu (by omega) rfl)
               rw [show (v90 : Int).toNat = bPth s n rr c m by omega]
               by_cases e : d = bPth s n rr c m
               · rw [e, upF_at]
                 exact zxe.trans (by omega)
               · rw [upF_ne e]
                 exact zxs e (hB2.2.1 d hd).2.2.2)
  · rintro nM lsM stM I1 L1 R1 S1 hz1 ⟨o, rfl, rfl, rfl, rfl, rfl, ho, hB3, ht1, hca1, fr, frL⟩
    have hrm := (bRm_b (s := (bWx s n (bPth s n rr c) (bPl s n rr c))) (n := (n : Int)) (f := (bPth s n rr c)) gnn hho2 (bPl s n rr c) (fun j hj => by have := hf9 j (by omega); omega)).1
    have h2m : 2 ^ bnn s ≤ 2 ^ 12 := Nat.pow_le_pow_right (by decide) gnn
    have hrq := bRp_p (bs_hi (bWx s n (bPth s n rr c) (bPl s n rr c)) (bHx (bWx s n (bPth s n rr c) (bPl s n rr c)) n (bPth s n rr c) (bPl s n rr c))) (bRm (bWx s n (bPth s n rr c) (bPl s n rr c)) n (bPth s n rr c) (bPl s n rr c)) o
    have hnn9 : bnn (bRp (bs_hi (bWx s n (bPth s n rr c) (bPl s n rr c)) (bHx (bWx s n (bPth s n rr c) (bPl s n rr c)) n (bPth s n rr c) (bPl s n rr c))) (bRm (bWx s n (bPth s n rr c) (bPl s n rr c)) n (bPth s n rr c) (bPl s n rr c)) o) = bnn s := hrq.2.2.2.2.2.2.2.1.trans htx.2.2.2.2.2.2.2.2.1
    refine And.intro (zDX hd 0 rfl) (zrd (v := (bnn s)) ((fr k 5 (by omega) (by omega) (by omega) (by omega) (by omega) (by omega)).trans hbn) ?_)
    refine And.intro ⟨(by omega), (by omega)⟩ ⟨fun h158 => ?_, fun h158 => ?_⟩
    · refine ⟨(1, (1025 - (0 : Nat)), 0), zlt6 (by omega), [some (zvr (k)), some (zvi (n)), none, none, some (zvi (bwl s n)), none, none, some (zvi (bwl s n + (0 : Nat))), none], ⟨rfl, rfl, rfl, (congrArg (fun z => some (zvi z)) (by omega)), rfl⟩, 0, rfl, rfl, rfl, rfl, rfl, (by omega), ?_, (by first | exact ht1 | exact (fun j h1 => rfl.trans (ht1 j h1)) | (clear hQ; grind [xu])), (by first | exact hca1 | (clear hQ; grind [xu])), (fun c j h0 h1 h2 h3 h4 h5 => ((fr c j (by omega) (by omega) (by omega) (by omega) (by omega) (by omega)).trans rfl)), (fun c j h0 h1 => ((frL c j (by omega) (by omega)).trans rfl))⟩
      · have e0 : bJ2 s n (bPth s n rr c) (bPl s n rr c) 0 = bJ1 s n (bPth s n rr c) (bPl s n rr c) := by
          unfold bJ2
          refine Eq.trans (congrArg (bs_ho _) (funext (fun q => zite_f (fun w => ?_)))) rfl
          obtain ⟨j, j1, j2⟩ := w
          exact absurd j1 (Nat.not_lt_zero j)
        have e1 : bJ1 s n (bPth s n rr c) (bPl s n rr c) = bRp (bs_hi (bWx s n (bPth s n rr c) (bPl s n rr c)) (bHx (bWx s n (bPth s n rr c) (bPl s n rr c)) n (bPth s n rr c) (bPl s n rr c))) (bRm (bWx s n (bPth s n rr c) (bPl s n rr c)) n (bPth s n rr c) (bPl s n rr c)) o := by
          have w := gRp_top (u := (bs_hi (bWx s n (bPth s n rr c) (bPl s n rr c)) (bHx (bWx s n (bPth s n rr c) (bPl s n rr c)) n (bPth s n rr c) (bPl s n rr c)))) (V := (bRm (bWx s n (bPth s n rr c) (bPl s n rr c)) n (bPth s n rr c) (bPl s n rr c))) (m := o) (fun i h1 h2 => bBit_no (m := bnn s) hrm gnn (by omega) (by omega)) (12 - o) (by omega)
          rw [show o + (12 - o) = 12 by omega] at w
          exact w
        rw [e0, e1]
        exact hB3
    · have b167 : (zand (zshr (bRm (bWx s n (bPth s n rr c) (bPl s n rr c)) n (bPth s n rr c) (bPl s n rr c)) o) 1) = (zshr (bRm (bWx s n (bPth s n rr c) (bPl s n rr c)) n (bPth s n rr c) (bPl s n rr c)) o) % 2 := zand1 _
      refine And.intro zr_and ⟨fun h168 => ?_, fun h168 => ?_⟩
      · have t168 : bBit (bRm (bWx s n (bPth s n rr c) (bPl s n rr c)) n (bPth s n rr c) (bPl s n rr c)) o := (by show zand _ 1 ≠ 0; omega)
        refine And.intro (zDX hd 0 rfl) ⟨_, sn_G_let.up (by decide), ?_⟩
        refine ⟨k, _, (bRp (bs_hi (bWx s n (bPth s n rr c) (bPl s n rr c)) (bHx (bWx s n (bPth s n rr c) (bPl s n rr c)) n (bPth s n rr c) (bPl s n rr c))) (bRm (bWx s n (bPth s n rr c) (bPl s n rr c)) n (bPth s n rr c) (bPl s n rr c)) o), o, (o : Int), rfl, hd, hB3, (bGz_x (bGz_x hGz htx) ⟨hrq.1, hrq.2.1, hrq.2.2.1, hrq.2.2.2.1, hrq.2.2.2.2.1, hrq.2.2.2.2.2.1, hrq.2.2.2.2.2.1, hrq.2.2.2.2.2.2.1, hrq.2.2.2.2.2.2.2.1, hrq.2.2.2.2.2.2.2.2.1, hrq.2.2.2.2.2.2.2.2.2.1, hrq.2.2.2.2.2.2.2.2.2.2⟩), ⟨rfl, by rw [hnn9]; omega⟩, ?_⟩
        intro I177o p177hBB2 p177bfr
        refine And.intro (zDX hd 0 rfl) (zrdR (v := some (k + 14)) (zDR hd 13 rfl) ?_)
        refine And.intro (zDP hd 14 rfl rfl (by omega) (by omega)) (fun v187 e187 r187 => ?_)
        have f187 : v187 = bN (bs_hi (bWx s n (bPth s n rr c) (bPl s n rr c)) (bHx (bWx s n (bPth s n rr c) (bPl s n rr c)) n (bPth s n rr c) (bPl s n rr c))) o 4 := (e187.trans ((congrArg (I177o (k + 14)) (by omega)).trans ((p177bfr (k + 14) o (by omega) (by omega) (by omega)).trans ((hB3.2.2.2.2.1 o (by rw [hnn9]; omega)).2.2.1.trans ((bRp_N (bs_hi (bWx s n (bPth s n rr c) (bPl s n rr c)) (bHx (bWx s n (bPth s n rr c) (bPl s n rr c)) n (bPth s n rr c) (bPl s n rr c))) (bRm (bWx s n (bPth s n rr c) (bPl s n rr c)) n (bPth s n rr c) (bPl s n rr c)) (Nat.le_refl o)).1 4)))))
        have f187b : 0 ≤ v187 ∧ v187 ≤ 2000000000 := (by have e9 : bN (bs_hi (bWx s n (bPth s n rr c) (bPl s n rr c)) (bHx (bWx s n (bPth s n rr c) (bPl s n rr c)) n (bPth s n rr c) (bPl s n rr c))) o 4 = bN s o 4 := (congrFun (congrFun htx.2.2.2.2.2.2.2.2.2.1 o) 4); have := hrp o (by omega); omega)
        refine And.intro ⟨(by show 40 ≤ _; omega), (zDP hd 14 rfl rfl (by omega) (by omega))⟩ ⟨_, (zWi (by omega)), ?_⟩
        refine ⟨(2, (13 - (o + 1)), 0), zlt6 (by omega), [some (zvr (k)), some (zvi (n)), some (zvi (c)), some (zvi (rr)), some (zvi (bwl s n)), none, some (zvi (bRm (bWx s n (bPth s n rr c) (bPl s n rr c)) n (bPth s n rr c) (bPl s n rr c))), some (zvi ((o + 1))), none], ⟨rfl, rfl, rfl, rfl, rfl, rfl, rfl, rfl⟩, (o + 1), rfl, rfl, rfl, rfl, rfl, (by omega), ?_, (by first | exact ht1 | exact (fun j h1 => (zxu (by omega) ((p177bfr (k + 17) _ (by omega) (by omega) (by omega)).trans rfl)).trans (ht1 j h1)) | (clear hQ; grind [xu])), (by first | exact hca1 | (clear hQ; grind [xu])), (fun c j h0 h1 h2 h3 h4 h5 => (zxu h4 ((p177bfr c j (by omega) (by omega) (by omega)).trans ((fr c j (by omega) (by omega) (by omega) (by omega) (by omega) (by omega)).trans rfl)))), (fun c j h0 h1 => ((frL c j (by omega) (by omega)).trans rfl))⟩
        · have e1 : bRp (bs_hi (bWx s n (bPth s n rr c) (bPl s n rr c)) (bHx (bWx s n (bPth s n rr c) (bPl s n rr c)) n (bPth s n rr c) (bPl s n rr c))) (bRm (bWx s n (bPth s n rr c) (bPl s n rr c)) n (bPth s n rr c) (bPl s n rr c)) (o + 1) = zite (bBit (bRm (bWx s n (bPth s n rr c) (bPl s n rr c)) n (bPth s n rr c) (bPl s n rr c)) o) (bRo (bRp (bs_hi (bWx s n (bPth s n rr c) (bPl s n rr c)) (bHx (bWx s n (bPth s n rr c) (bPl s n rr c)) n (bPth s n rr c) (bPl s n rr c))) (bRm (bWx s n (bPth s n rr c) (bPl s n rr c)) n (bPth s n rr c) (bPl s n rr c)) o) o) (bRp (bs_hi (bWx s n (bPth s n rr c) (bPl s n rr c)) (bHx (bWx s n (bPth s n rr c) (bPl s n rr c)) n (bPth s n rr c) (bPl s n rr c))) (bRm (bWx s n (bPth s n rr c) (bPl s n rr c)) n (bPth s n rr c) (bPl s n rr c)) o) := rfl
          rw [e1]
          first
          | (rw [zite_f t168]
             exact hB3)
          | (rw [zite_t t168]
             refine zBB_ro p177hBB2 (by rw [hnn9]; omega) (fun m => ?_) (fun c j w => zxu (by omega) rfl) (fun c j w => rfl)
             by_cases e : m = o
             · rw [if_pos e, show m = ((o : Int)).toNat by omega]
               refine zxe.trans ?_
               rw [f187, (bRp_N (bs_hi (bWx s n (bPth s n rr c) (bPl s n rr c)) (bHx (bWx s n (bPth s n rr c) (bPl s n rr c)) n (bPth s n rr c) (bPl s n rr c))) (bRm (bWx s n (bPth s n rr c) (bPl s n rr c)) n (bPth s n rr c) (bPl s n rr c)) (Nat.le_refl o)).1 4]
             · rw [if_neg e]
               exact zxs (by omega) rfl)
      · have t168 : ¬ bBit (bRm (bWx s n (bPth s n rr c) (bPl s n rr c)) n (bPth s n rr c) (bPl s n rr c)) o := (fun w => by have w2 : zand (zshr (bRm (bWx s n (bPth s n rr c) (bPl s n rr c)) n (bPth s n rr c) (bPl s n rr c)) o) 1 ≠ 0 := w; omega)
        refine ⟨(2, (13 - (o + 1)), 0), zlt6 (by omega), [some (zvr (k)), some (zvi (n)), some (zvi (c)), some (zvi (rr)), some (zvi (bwl s n)), none, some (zvi (bRm (bWx s n (bPth s n rr c) (bPl s n rr c)) n (bPth s n rr c) (bPl s n rr c))), some (zvi ((o + 1))), none], ⟨rfl, rfl, rfl, rfl, rfl, rfl, rfl, rfl⟩, (o + 1), rfl, rfl, rfl, rfl, rfl, (by omega), ?_, (by first | exact ht1 | exact (fun j h1 => rfl.trans (ht1 j h1)) | (clear hQ; grind [xu])), (by first | exact hca1 | (clear hQ; grind [xu])), (fun c j h0 h1 h2 h3 h4 h5 => ((fr c j (by omega) (by omega) (by omega) (by omega) (by omega) (by omega)).trans rfl)), (fun c j h0 h1 => ((frL c j (by omega) (by omega)).trans rfl))⟩
        · have e1 : bRp (bs_hi (bWx s n (bPth s n rr c) (bPl s n rr c)) (bHx (bWx s n (bPth s n rr c) (bPl s n rr c)) n (bPth s n rr c) (bPl s n rr c))) (bRm (bWx s n (bPth s n rr c) (bPl s n rr c)) n (bPth s n rr c) (bPl s n rr c)) (o + 1) = zite (bBit (bRm (bWx s n (bPth s n rr c) (bPl s n rr c)) n (bPth s n rr c) (bPl s n rr c)) o) (bRo (bRp (bs_hi (bWx s n (bPth s n rr c) (bPl s n rr c)) (bHx (bWx s n (bPth s n rr c) (bPl s n rr c)) n (bPth s n rr c) (bPl s n rr c))) (bRm (bWx s n (bPth s n rr c) (bPl s n rr c)) n (bPth s n rr c) (bPl s n rr c)) o) o) (bRp (bs_hi (bWx s n (bPth s n rr c) (bPl s n rr c)) (bHx (bWx s n (bPth s n rr c) (bPl s n rr c)) n (bPth s n rr c) (bPl s n rr c))) (bRm (bWx s n (bPth s n rr c) (bPl s n rr c)) n (bPth s n rr c) (bPl s n rr c)) o) := rfl
          rw [e1]
          first
          | (rw [zite_f t168]
             exact hB3)
          | (rw [zite_t t168]
             refine zBB_ro p177hBB2 (by rw [hnn9]; omega) (fun m => ?_) (fun c j w => zxu (by omega) rfl) (fun c j w => rfl)
             by_cases e : m = o
             · rw [if_pos e, show m = ((o : Int)).toNat by omega]
               refine zxe.trans ?_
               rw [f187, (bRp_N (bs_hi (bWx s n (bPth s n rr c) (bPl s n rr c)) (bHx (bWx s n (bPth s n rr c) (bPl s n rr c)) n (bPth s n rr c) (bPl s n rr c))) (bRm (bWx s n (bPth s n rr c) (bPl s n rr c)) n (bPth s n rr c) (bPl s n rr c)) (Nat.le_refl o)).1 4]
             · rw [if_neg e]
               exact zxs (by omega) rfl)
  · rintro nM lsM stM I1 L1 R1 S1 hz1 ⟨m, rfl, rfl, rfl, rfl, rfl, hm, hB2, ht1, hca1, fr, frL⟩
    have hj1 := (bJ1_p (k := bPl s n rr c) (f := bPth s n rr c) gnn hxn.2 hho (fun j hj => by have := hf9 j (by omega); omega))
    have hfm := hf9 m hm
    refine And.intro (zDX hd 0 rfl) (zrdR (v := some (k + 11)) (zDR hd 10 rfl) ?_)
    refine And.intro (zDP hd 11 rfl rfl (by omega) (by omega)) (fun v208 e208 r208 => ?_)
    have f208 : v208 = bwl s n + bPl s n rr c := (e208.trans ((congrArg (I1 (k + 11)) (by omega)).trans ((hB2.2.2.2.2.1 n (by show n < bnn (bJ1 _ _ _ _); rw [hj1.2.1]; exact hxn.2)).2.1.trans (by show ((bwl (bJ1 _ _ _ _) n : Nat) : Int) = _; rw [hj1.2.2.2.2.2.2.1]; omega))))
    refine And.intro ⟨(by omega), r208⟩ ⟨fun h209 => ?_, fun h209 => ?_⟩
    · refine hQ _ _ ?_ ?_ (by first | exact hca1 | (clear hQ; grind [xu])) (fun c j h0 h1 h2 h3 h4 h5 => ((fr c j (by omega) (by omega) (by omega) (by omega) (by omega) (by omega)).trans rfl)) (fun c j h0 h1 => ((frL c j (by omega) (by omega)).trans rfl))
      · obtain rfl : m = bPl s n rr c := (by omega)
        exact hB2
      · intro j hj
        unfold bTn
        rw [show bTr (bJn s n rr c) n = bTp s n (bPth s n rr c) (bPl s n rr c) from hj1.2.2.2.2.2.2.2.2.2]
        exact ht1 j hj
    · refine And.intro (zDX hd 0 rfl) (zrdR (v := some (k + 3)) (zDR hd 2 rfl) ?_)
      refine And.intro (zDX hd 0 rfl) (zrdR (v := some (k + 12)) (zDR hd 11 rfl) ?_)
      refine And.intro (zDP hd 12 rfl rfl (by omega) (by omega)) (fun v228 e228 r228 => ?_)
      have f228 : v228 = bPth s n rr c m := (e228.trans ((congrArg (I1 (k + 12)) (by omega)).trans (((hB2.2.2.2.2.1 n (by show n < bnn (bJ1 _ _ _ _); rw [hj1.2.1]; exact hxn.2)).2.2.2.2 (bwl s n + m) (by show _ < bwl (bJ1 _ _ _ _) n; rw [hj1.2.2.2.2.2.2.1]; omega)).trans (by show ((bwy (bJ1 _ _ _ _) n _ : Nat) : Int) = _; rw [hj1.2.2.2.2.2.2.2.2.1 m (by omega)]))))
      have f228b : 0 ≤ v228 ∧ v228 ≤ 1023 := (by omega)
      refine And.intro ⟨(by show 40 ≤ _; omega), (zDP hd 3 rfl rfl (by omega) (by omega))⟩ ⟨_, (zWi (by omega)), ?_⟩
      refine ⟨(1, (1025 - (m + 1)), 0), zlt6 (by omega), [some (zvr (k)), some (zvi (n)), none, none, some (zvi (bwl s n)), none, none, some (zvi (bwl s n + (m + 1))), none], ⟨rfl, rfl, rfl, (congrArg (fun z => some (zvi z)) (by omega)), rfl⟩, (m + 1), rfl, rfl, rfl, rfl, rfl, (by omega), ?_, (by first | exact ht1 | exact (fun j h1 => (zxu (by omega) rfl).trans (ht1 j h1)) | (clear hQ; grind [xu])), (by first | exact hca1 | (clear hQ; grind [xu])), (fun c j h0 h1 h2 h3 h4 h5 => (zxu h0 ((fr c j (by omega) (by omega) (by omega) (by omega) (by omega) (by omega)).trans rfl))), (fun c j h0 h1 => ((frL c j (by omega) (by omega)).trans rfl))⟩
      · refine zBB_ho (s := bJ2 s n (bPth s n rr c) (bPl s n rr c) m) (f := fun q => zite (zex (fun j => j < m + 1 ∧ bPth s n rr c j = q)) (n : Int) (bho (bJ1 s n (bPth s n rr c) (bPl s n rr c)) q)) hB2 (fun q hq => ?_) (fun q j w => zxu (by omega) rfl) (fun q j w => rfl)
        have w : I1 (k + 3) q = zite (zex (fun j => j < m ∧ bPth s n rr c j = q)) (n : Int) (bho (bJ1 s n (bPth s n rr c) (bPl s n rr c)) q) := (hB2.2.1 q hq).1
        by_cases e : q = v228.toNat
        · have e2 : bPth s n rr c m = q := by omega
          have hz2 : zex (fun j => j < m + 1 ∧ bPth s n rr c j = q) := Exists.intro m ⟨Nat.lt_succ_self m, e2⟩
          rw [zite_t hz2, e]
          exact zxe
        · refine zxs e (w.trans ?_)
          by_cases e3 : zex (fun j => j < m ∧ bPth s n rr c j = q)
          · obtain ⟨j, j1, j2⟩ := id e3
            have hz2 : zex (fun j => j < m + 1 ∧ bPth s n rr c j = q) := Exists.intro j ⟨by omega, j2⟩
            rw [zite_t e3, zite_t hz2]
          · rw [zite_f e3, zite_f (fun k => e3 (by
              obtain ⟨j, j1, j2⟩ := k
              have : j ≠ m := fun h => e (by rw [← j2, h]; omega)
              exact Exists.intro j ⟨by omega, j2⟩))])
