/-! cd4 -/
def T_C_num : ZT := fun args I L R S Q => ∃ (d : JdS) (ob : Nat → Int), args = [zvr 63] ∧ (zSh S) ∧ (zRs R) ∧ (zDA d ob I) ∧ (jGd d) ∧ (zJF 78 (cE d) I) ∧ ∀ (I' : ZI), (zCn d 960 I') → (zJF 78 (cE d) I') → (∀ c j : Nat, ¬ (c = 63 ∧ j = 14) → ¬ c = 78 → ¬ c = 79 → ¬ c = 80 → I' c j = I c j) → Q none I' L R S
theorem sn_C_num : ZSnd 3 3 32 T_C_num := ZSnd.loops (zT3_32 2) (by
  rintro args I L R S Q hz ⟨d, ob, rfl, hS, hR, hDA, hJG, hJF, hQ⟩
  obtain ⟨hSR, hCS, hWR, hJR, hLR, hPR, hTR⟩ := id hDA
  obtain ⟨⟨g1, g2, g3, g4, g5, g6⟩, gs, gw, gj, gl, gp, gt⟩ := id hJG
  obtain ⟨c1_, c2_, c3_, c4_⟩ := id hSR
  obtain ⟨w1_, w2_, w3_, w4_⟩ := id hWR
  obtain ⟨j1_, j2_, j3_, j4_⟩ := id hJR
  obtain ⟨l1_, l2_, l3_, l4_⟩ := id hLR
  obtain ⟨p1_, p2_, p3_, p4_⟩ := id hPR
  obtain ⟨t1_, t2_, t3_, t4_⟩ := id hTR
  obtain ⟨rt, hU, hRr, hE⟩ := id hJF
  refine ⟨[7, 20], fun nM tM lsM stM I1 L1 R1 S1 => match tM with
      | 7 => ∃ (p : Nat), nM = ((61 - p), 20, 0) ∧ lsM = [some (zvr (63)), some (zvi (p)), none, none, none] ∧ stM = [] ∧ L1 = L ∧ R1 = R ∧ S1 = S ∧ (p ≤ dnt d) ∧ (zUF 78 19520 rt I1) ∧ (zCn d (16 * p) I1) ∧ (∀ c j : Nat, ¬ (c = 63 ∧ j = 14) → ¬ c = 78 → ¬ c = 79 → ¬ c = 80 → I1 c j = I c j)
      | 20 => ∃ (p : Nat) (c : Nat), nM = ((61 - p), (17 - c), 0) ∧ lsM = [some (zvr (63)), some (zvi (p)), some (zvi (c)), none, none] ∧ stM = [] ∧ L1 = L ∧ R1 = R ∧ S1 = S ∧ (p < dnt d ∧ c ≤ jNc (dbs d) (dT d p 0) (dns d) ∧ c ≤ 16) ∧ (zUF 78 19520 rt I1) ∧ (zCn d (16 * p + c) I1) ∧ (∀ c j : Nat, ¬ (c = 63 ∧ j = 14) → ¬ c = 78 → ¬ c = 79 → ¬ c = 80 → I1 c j = I c j)
      | _ => False, rfl, ?_, ⟨?_, ?_, True.intro⟩⟩
  · refine And.intro (zA_63 hS) ⟨_, (zWi (zRb rfl)), ?_⟩
    refine ⟨((61 - (0 : Nat)), 20, 0), [some (zvr (63)), some (zvi ((0 : Nat))), none, none, none], ⟨rfl, rfl, rfl⟩, 0, rfl, rfl, rfl, rfl, rfl, rfl, (by omega), (zUF_fr hU (fun c j h => zxcj (by omega) rfl)), (zCn_0 zxe), (fun c j h0 h1 h2 h3 => (zxcj h0 rfl))⟩
  · rintro nM lsM stM I1 L1 R1 S1 hz1 ⟨p, rfl, rfl, rfl, rfl, rfl, rfl, hp, hU1, hCn, fr⟩
    refine And.intro (zA_63 hS) (zrdR (v := some 76) (zR_63_8 hR) ?_)
    refine And.intro (zA_76 hS) (zrd (v := (dnt d)) ((fr 76 2 (by omega) (by omega) (by omega) (by omega)).trans t2_) ?_)
    refine And.intro ⟨(by omega), (by omega)⟩ ⟨fun h15 => ?_, fun h15 => ?_⟩
    · refine hQ _ (zCn_sk hCn (by omega) (fun i h1 h2 hv => by have w := hv.1; omega)) ⟨rt, hU1, hRr, hE⟩ (fun c j h0 h1 h2 h3 => ((fr c j (by omega) (by omega) (by omega) (by omega)).trans rfl))
    · refine ⟨((61 - p), (17 - (0 : Nat)), 0), zlt6 (by omega), [some (zvr (63)), some (zvi (p)), some (zvi ((0 : Nat))), none, none], ⟨rfl, rfl, rfl, rfl⟩, p, 0, rfl, rfl, rfl, rfl, rfl, rfl, (by omega), hU1, hCn, (fun c j h0 h1 h2 h3 => ((fr c j (by omega) (by omega) (by omega) (by omega)).trans rfl))⟩
  · rintro nM lsM stM I1 L1 R1 S1 hz1 ⟨p, c, rfl, rfl, rfl, rfl, rfl, rfl, hp, hU1, hCn, fr⟩
    have hle := jNc_le (dbs d) (dT d p 0) (dns d)
    have hzc := zct_le (jFst d) (16 * p + c)
    have hNc := hCn.1
    refine And.intro (zA_63 hS) (zrdR (v := some 76) (zR_63_8 hR) ?_)
    refine And.intro (zA_76 hS) ⟨_, sn_A_at.up (by decide), ?_⟩
    refine ⟨_, _, _, (dT d), p, 0, (p : Int), (0 : Int), rfl, hS, hR, (zRw_76 hR hS), (by first | exact (zRT_fr hTR (fun c j h => ((fr c j (by omega) (by omega) (by omega) (by omega)).trans rfl))) | (clear hQ; grind [xu])), (by omega), (by omega), ?_⟩
    intro v28o p28hv p28bhr
    have g28 : 0 ≤ v28o ∧ v28o + 1 ≤ dns d := (by have := (gt p (by omega)).1; omega)
    refine And.intro (zA_63 hS) (Exists.intro _ (And.intro (zinl_ok (zT3_5 1)) (And.intro rfl ?_)))
    refine And.intro (zA_63 hS) (zrdR (v := some 65) (zR_63_2 hR) ?_)
    refine And.intro (zA_65 hS) ⟨_, sn_A_at.up (by decide), ?_⟩
    refine ⟨_, _, _, (cSR d ob), (dT d p 0).toNat, 4, (v28o : Int), (4 : Int), rfl, hS, hR, (zRw_65 hR hS), (by first | exact (zRT_fr hSR (fun c j h => ((fr c j (by omega) (by omega) (by omega) (by omega)).trans rfl))) | (clear hQ; grind [xu])), (by omega), (by omega), ?_⟩
    intro v6_31o p6_31hv p6_31bhr
    have g6_31 : v6_31o = jNc (dbs d) (dT d p 0) (dns d) := (p6_31hv.trans (by have q := (gt p (by omega)).1; show cSR d ob (dT d p 0).toNat 4 = _; unfold cSR; rw [if_neg (by decide), if_neg (by decide), if_neg (by decide), if_neg (by decide), if_pos rfl, if_pos (by omega), show (((dT d p 0).toNat : Nat) : Int) = dT d p 0 by omega]))
    refine And.intro ⟨(by omega), (by omega)⟩ ⟨fun h34 => ?_, fun h34 => ?_⟩
    · refine ⟨((61 - (p + 1)), 20, 0), zlt6 (by omega), [some (zvr (63)), some (zvi ((p + 1))), none, none, none], ⟨rfl, rfl, rfl⟩, (p + 1), rfl, rfl, rfl, rfl, rfl, rfl, (by omega), (by first | exact (zUF_fr hU1 (fun c j h => rfl)) | (clear hQ; grind [xu])), (by obtain rfl : c = jNc (dbs d) (dT d p 0) (dns d) := (by omega); refine zCn_sk hCn (by omega) (fun i h1 h2 hv => ?_); have w := hv.2; rw [show i / 16 = p by omega] at w; omega), (fun c j h0 h1 h2 h3 => ((fr c j (by omega) (by omega) (by omega) (by omega)).trans rfl))⟩
    · refine And.intro (zA_63 hS) ⟨_, sn_C_root.up (by decide), ?_⟩
      refine ⟨rt, (((p * 16) + c) : Int), (16 * p + c), rfl, hS, hR, hU1, ⟨by omega, by omega⟩, ?_⟩
      intro v46o I46o p46hv p46bhv2 p46bbhU2 p46bbbfr
      have g46 : (rt (16 * p + c) = 16 * p + c → jFst d (16 * p + c)) ∧ (rt (16 * p + c) ≠ 16 * p + c → ¬ jFst d (16 * p + c) ∧ jV d (rt (16 * p + c)) ∧ rt (16 * p + c) < 16 * p + c ∧ jNo d (16 * p + c) = jNo d (rt (16 * p + c))) := (cRt hJG hRr (fun n hn => ⟨(hU1 n hn).2.2.1, zUF_rt hU1 hn⟩) (by have e1 : (16 * p + c) / 16 = p := (by omega); have e2 : (16 * p + c) % 16 = c := (by omega); unfold jV; rw [e1, e2]; exact ⟨by omega, by omega⟩ : jV d (16 * p + c)))
      refine And.intro ⟨(by omega), (by omega)⟩ ⟨fun h54 => ?_, fun h54 => ?_⟩
      · refine And.intro (zA_63 hS) (zrdR (v := some 79) (zR_63_10 hR) ?_)
        refine And.intro (zA_63 hS) (zrdR (v := some 79) (zR_63_10 hR) ?_)
        refine And.intro (zP_79 hS (by omega) (by omega)) (fun v103 e103 r103 => ?_)
        have f103 : v103 = jNo d (rt (16 * p + c)) := (e103.trans ((p46bbbfr 79 _ (by omega)).trans ((congrArg (I1 79) (by omega)).trans (hCn.2.1 (rt (16 * p + c)) (by have := (g46.2 (by omega)).2.2.1; omega) (g46.2 (by omega)).2.1))))
        refine And.intro ⟨(zx0 rfl), (zP_79 hS (by omega) (by omega))⟩ ⟨_, (zWi r103), ?_⟩
        refine ⟨((61 - p), (17 - (c + 1)), 0), zlt6 (by omega), [some (zvr (63)), some (zvi (p)), some (zvi ((c + 1))), none, none], ⟨rfl, rfl, rfl, rfl⟩, p, (c + 1), rfl, rfl, rfl, rfl, rfl, rfl, (by omega), (zUF_fr p46bbhU2 (fun c j h => by first | exact zxcj (by omega) (zxu (by omega) (zxu (by omega) rfl)) | exact zxu (by omega) rfl)), ?_, (fun c j h0 h1 h2 h3 => (zxu h2 ((p46bbbfr c j (by omega)).trans ((fr c j (by omega) (by omega) (by omega) (by omega)).trans rfl))))⟩
        · first
          | (have hf := g46.1 (by omega)
             refine zCn_st (n := 16 * p + c) hJG (zCn_fr hCn (fun c j h => p46bbbfr c j (by omega))) (by have e1 : (16 * p + c) / 16 = p := (by omega); have e2 : (16 * p + c) % 16 = c := (by omega); unfold jV; rw [e1, e2]; exact ⟨by omega, by omega⟩ : jV d (16 * p + c)) (Or.inl ⟨hf, ?_, fun j => ?_, fun j => ?_⟩)
             · rw [p46bbbfr 63 14 (by omega)]; exact zxe.trans (by omega)
             · refine zxu (by omega) ?_
               rw [p46bbbfr 63 14 (by omega)]
               by_cases e : j = 16 * p + c
               · rw [if_pos e]; exact (zxe' (by omega)).trans (by omega)
               · rw [if_neg e]; exact zxs (by omega) (zxu (by omega) rfl)
             · refine zxu (by omega) (zxu (by omega) ?_)
               rw [p46bbbfr 63 14 (by omega), show (16 * p + c) / 16 = p by omega]
               by_cases e : (j : Int) = I1 63 14
               · rw [if_pos e]; exact (zxe' (by omega)).trans (by omega)
               · rw [if_neg e]; exact zxs (by omega) rfl)
          | (have hf := g46.2 (by omega)
             refine zCn_st (n := 16 * p + c) hJG (zCn_fr hCn (fun c j h => p46bbbfr c j (by omega))) (by have e1 : (16 * p + c) / 16 = p := (by omega); have e2 : (16 * p + c) % 16 = c := (by omega); unfold jV; rw [e1, e2]; exact ⟨by omega, by omega⟩ : jV d (16 * p + c)) (Or.inr ⟨hf.1, zxu (by omega) rfl, fun j => ?_, fun j => zxu (by omega) rfl⟩)
             by_cases e : j = 16 * p + c
             · rw [if_pos e]; exact (zxe' (by omega)).trans (by rw [hf.2.2.2]; omega)
             · rw [if_neg e]; exact zxs (by omega) rfl)
      · refine And.intro (zA_63 hS) (zrdR (v := some 80) (zR_63_11 hR) ?_)
        refine And.intro (zA_63 hS) (fun v62 e62 r62 => ?_)
        have f62 : v62 = zct (jFst d) (16 * p + c) := (e62.trans ((p46bbbfr 63 14 (by omega)).trans hNc))
        refine And.intro ⟨(zx0 rfl), (zP_80 hS (by omega) (by omega))⟩ ⟨_, (zWi (by omega)), ?_⟩
        refine And.intro (zA_63 hS) (zrdR (v := some 79) (zR_63_10 hR) ?_)
        refine And.intro (zA_63 hS) (fun v75 e75 r75 => ?_)
        have f75 : v75 = zct (jFst d) (16 * p + c) := (e75.trans (zxu (by omega) ((p46bbbfr 63 14 (by omega)).trans hNc)))
        refine And.intro ⟨(zx0 rfl), (zP_79 hS (by omega) (by omega))⟩ ⟨_, (zWi r75), ?_⟩
        refine And.intro (zA_63 hS) (fun v81 e81 r81 => ?_)
        have f81 : v81 = zct (jFst d) (16 * p + c) := (e81.trans (zxu (by omega) (zxu (by omega) ((p46bbbfr 63 14 (by omega)).trans hNc))))
        refine And.intro (zA_63 hS) ⟨_, (zWi (by omega)), ?_⟩
        refine ⟨((61 - p), (17 - (c + 1)), 0), zlt6 (by omega), [some (zvr (63)), some (zvi (p)), some (zvi ((c + 1))), none, none], ⟨rfl, rfl, rfl, rfl⟩, p, (c + 1), rfl, rfl, rfl, rfl, rfl, rfl, (by omega), (zUF_fr p46bbhU2 (fun c j h => by first | exact zxcj (by omega) (zxu (by omega) (zxu (by omega) rfl)) | exact zxu (by omega) rfl)), ?_, (fun c j h0 h1 h2 h3 => (zxcj h0 (zxu h2 (zxu h3 ((p46bbbfr c j (by omega)).trans ((fr c j (by omega) (by omega) (by omega) (by omega)).trans rfl))))))⟩
        · first
          | (have hf := g46.1 (by omega)
             refine zCn_st (n := 16 * p + c) hJG (zCn_fr hCn (fun c j h => p46bbbfr c j (by omega))) (by have e1 : (16 * p + c) / 16 = p := (by omega); have e2 : (16 * p + c) % 16 = c := (by omega); unfold jV; rw [e1, e2]; exact ⟨by omega, by omega⟩ : jV d (16 * p + c)) (Or.inl ⟨hf, ?_, fun j => ?_, fun j => ?_⟩)
             · rw [p46bbbfr 63 14 (by omega)]; exact zxe.trans (by omega)
             · refine zxu (by omega) ?_
               rw [p46bbbfr 63 14 (by omega)]
               by_cases e : j = 16 * p + c
               · rw [if_pos e]; exact (zxe' (by omega)).trans (by omega)
               · rw [if_neg e]; exact zxs (by omega) (zxu (by omega) rfl)
             · refine zxu (by omega) (zxu (by omega) ?_)
               rw [p46bbbfr 63 14 (by omega), show (16 * p + c) / 16 = p by omega]
               by_cases e : (j : Int) = I1 63 14
               · rw [if_pos e]; exact (zxe' (by omega)).trans (by omega)
               · rw [if_neg e]; exact zxs (by omega) rfl)
          | (have hf := g46.2 (by omega)
             refine zCn_st (n := 16 * p + c) hJG (zCn_fr hCn (fun c j h => p46bbbfr c j (by omega))) (by have e1 : (16 * p + c) / 16 = p := (by omega); have e2 : (16 * p + c) % 16 = c := (by omega); unfold jV; rw [e1, e2]; exact ⟨by omega, by omega⟩ : jV d (16 * p + c)) (Or.inr ⟨hf.1, zxu (by omega) rfl, fun j => ?_, fun j => zxu (by omega) rfl⟩)
             by_cases e : j = 16 * p + c
             · rw [if_pos e]; exact (zxe' (by omega)).trans (by rw [hf.2.2.2]; omega)
             · rw [if_neg e]; exact zxs (by omega) rfl))
def T_C_netOf : ZT := fun args I L R S Q => ∃ (d : JdS) (ob : Nat → Int) (x : Int) (y : Int), args = [zvr 63, zvi x, zvi y] ∧ (zSh S) ∧ (zRs R) ∧ (zDA d ob I) ∧ (jGd d) ∧ (zCn d 960 I) ∧ (r32 x ∧ r32 y) ∧ ∀ (v : Int), (v = jOf d x y) → Q (some (zvi (v))) I L R S
theorem sn_C_netOf : ZSnd 3 3 31 T_C_netOf := ZSnd.of (zT3_31 2) (by
  rintro args I L R S Q hz ⟨d, ob, x, y, rfl, hS, hR, hDA, hJG, hCn, hr, hQ⟩
  obtain ⟨hSR, hCS, hWR, hJR, hLR, hPR, hTR⟩ := id hDA
  obtain ⟨⟨g1, g2, g3, g4, g5, g6⟩, gs, gw, gj, gl, gp, gt⟩ := id hJG
  obtain ⟨c1_, c2_, c3_, c4_⟩ := id hSR
  obtain ⟨w1_, w2_, w3_, w4_⟩ := id hWR
  obtain ⟨j1_, j2_, j3_, j4_⟩ := id hJR
  obtain ⟨l1_, l2_, l3_, l4_⟩ := id hLR
  obtain ⟨p1_, p2_, p3_, p4_⟩ := id hPR
  obtain ⟨t1_, t2_, t3_, t4_⟩ := id hTR
  refine And.intro rfl ?_
  refine And.intro (by omega) ⟨fun h1 => ?_, fun h1 => ?_⟩
  · refine And.intro (zRb rfl) (zbt rfl ?_)
    refine hQ _ ?_
    · unfold jOf
      first
      | (rw [if_neg (by omega)])
      | (have hle := jNc_le (dbs d) (dT d x.toNat 0) (dns d)
         rw [if_pos ⟨by omega, by omega, by omega⟩]
         have hV : jV d (16 * x.toNat + y.toNat) := by
           have e1 : (16 * x.toNat + y.toNat) / 16 = x.toNat := (by omega)
           have e2 : (16 * x.toNat + y.toNat) % 16 = y.toNat := (by omega)
           unfold jV
           rw [e1, e2]
           exact ⟨by omega, by omega⟩
         exact e56.trans ((congrArg (I 79) (by omega)).trans (hCn.2.1 (16 * x.toNat + y.toNat) (by omega) hV)))
  · refine And.intro (zA_63 hS) (zrdR (v := some 76) (zR_63_8 hR) ?_)
    refine And.intro (zA_76 hS) (zrd (v := (dnt d)) t2_ ?_)
    refine And.intro ⟨(by omega), (by omega)⟩ ⟨fun h12 => ?_, fun h12 => ?_⟩
    · refine And.intro (zRb rfl) (zbt rfl ?_)
      refine hQ _ ?_
      · unfold jOf
        first
        | (rw [if_neg (by omega)])
        | (have hle := jNc_le (dbs d) (dT d x.toNat 0) (dns d)
           rw [if_pos ⟨by omega, by omega, by omega⟩]
           have hV : jV d (16 * x.toNat + y.toNat) := by
             have e1 : (16 * x.toNat + y.toNat) / 16 = x.toNat := (by omega)
             have e2 : (16 * x.toNat + y.toNat) % 16 = y.toNat := (by omega)
             unfold jV
             rw [e1, e2]
             exact ⟨by omega, by omega⟩
           exact e56.trans ((congrArg (I 79) (by omega)).trans (hCn.2.1 (16 * x.toNat + y.toNat) (by omega) hV)))
    · refine And.intro (zRb rfl) (zbf rfl ?_)
      refine And.intro (by omega) ⟨fun h26 => ?_, fun h26 => ?_⟩
      · refine hQ _ ?_
        · unfold jOf
          first
          | (rw [if_neg (by omega)])
          | (have hle := jNc_le (dbs d) (dT d x.toNat 0) (dns d)
             rw [if_pos ⟨by omega, by omega, by omega⟩]
             have hV : jV d (16 * x.toNat + y.toNat) := by
               have e1 : (16 * x.toNat + y.toNat) / 16 = x.toNat := (by omega)
               have e2 : (16 * x.toNat + y.toNat) % 16 = y.toNat := (by omega)
               unfold jV
               rw [e1, e2]
               exact ⟨by omega, by omega⟩
             exact e56.trans ((congrArg (I 79) (by omega)).trans (hCn.2.1 (16 * x.toNat + y.toNat) (by omega) hV)))
      · refine And.intro (zA_63 hS) (zrdR (v := some 76) (zR_63_8 hR) ?_)
        refine And.intro (zA_76 hS) ⟨_, sn_A_at.up (by decide), ?_⟩
        refine ⟨_, _, _, (dT d), x.toNat, 0, (x : Int), (0 : Int), rfl, hS, hR, (zRw_76 hR hS), (by first | exact (zRT_fr hTR (fun c j h => rfl)) | (clear hQ; grind [xu])), (by omega), (by omega), ?_⟩
        intro v37o p37hv p37bhr
        have g37 : 0 ≤ v37o ∧ v37o + 1 ≤ dns d := (by have := (gt x.toNat (by omega)).1; omega)
        refine And.intro (zA_63 hS) (Exists.intro _ (And.intro (zinl_ok (zT3_5 1)) (And.intro rfl ?_)))
        refine And.intro (zA_63 hS) (zrdR (v := some 65) (zR_63_2 hR) ?_)
        refine And.intro (zA_65 hS) ⟨_, sn_A_at.up (by decide), ?_⟩
        refine ⟨_, _, _, (cSR d ob), (dT d x.toNat 0).toNat, 4, (v37o : Int), (4 : Int), rfl, hS, hR, (zRw_65 hR hS), (by first | exact (zRT_fr hSR (fun c j h => rfl)) | (clear hQ; grind [xu])), (by omega), (by omega), ?_⟩
        intro v6_40o p6_40hv p6_40bhr
        have g6_40 : v6_40o = jNc (dbs d) (dT d x.toNat 0) (dns d) := (p6_40hv.trans (by have q := (gt x.toNat (by omega)).1; show cSR d ob (dT d x.toNat 0).toNat 4 = _; unfold cSR; rw [if_neg (by decide), if_neg (by decide), if_neg (by decide), if_neg (by decide), if_pos rfl, if_pos (by omega), show (((dT d x.toNat 0).toNat : Nat) : Int) = dT d x.toNat 0 by omega]))
        have g6_40b : 0 ≤ v6_40o ∧ v6_40o ≤ 16 := (by have hle := jNc_le (dbs d) (dT d x.toNat 0) (dns d); omega)
        refine And.intro ⟨(by omega), (by omega)⟩ ⟨fun h43 => ?_, fun h43 => ?_⟩
        · refine hQ _ ?_
          · unfold jOf
            first
            | (rw [if_neg (by omega)])
            | (have hle := jNc_le (dbs d) (dT d x.toNat 0) (dns d)
               rw [if_pos ⟨by omega, by omega, by omega⟩]
               have hV : jV d (16 * x.toNat + y.toNat) := by
                 have e1 : (16 * x.toNat + y.toNat) / 16 = x.toNat := (by omega)
                 have e2 : (16 * x.toNat + y.toNat) % 16 = y.toNat := (by omega)
                 unfold jV
                 rw [e1, e2]
                 exact ⟨by omega, by omega⟩
               exact e56.trans ((congrArg (I 79) (by omega)).trans (hCn.2.1 (16 * x.toNat + y.toNat) (by omega) hV)))
        · refine And.intro (zA_63 hS) (zrdR (v := some 79) (zR_63_10 hR) ?_)
          refine And.intro (zP_79 hS (by omega) (by omega)) (fun v56 e56 r56 => ?_)
          refine hQ _ ?_
          · unfold jOf
            first
            | (rw [if_neg (by omega)])
            | (have hle := jNc_le (dbs d) (dT d x.toNat 0) (dns d)
               rw [if_pos ⟨by omega, by omega, by omega⟩]
               have hV : jV d (16 * x.toNat + y.toNat) := by
                 have e1 : (16 * x.toNat + y.toNat) / 16 = x.toNat := (by omega)
                 have e2 : (16 * x.toNat + y.toNat) % 16 = y.toNat := (by omega)
                 unfold jV
                 rw [e1, e2]
                 exact ⟨by omega, by omega⟩
               exact e56.trans ((congrArg (I 79) (by omega)).trans (hCn.2.1 (16 * x.toNat + y.toNat) (by omega) hV))))
