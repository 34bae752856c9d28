/-! zf -/
def T_Y_feedN : ZT := fun args I L R S Q => ∃ (n : Nat) (s : BdS), args = [zvr 165, zvi n] ∧ (zSh S) ∧ (zRs R) ∧ (bGd s) ∧ (zPB s I) ∧ (n < bnn s) ∧ ∀ (I' : ZI), (I' 268 3 = gaN s n (bnp s)) → (zGa s n (bnp s) 269 I') → (∀ c j : Nat, ¬ (c = 268 ∧ j = 3) → ¬ c = 269 → I' c j = I c j) → Q none I' L R S
theorem sn_Y_feedN : ZSnd 1 21 22 T_Y_feedN := ZSnd.loops (zT21_22 0) (by
  rintro args I L R S Q hz ⟨n, s, rfl, hS, hR, hGd, hPB, hn, hQ⟩
  obtain ⟨⟨⟨gW1, gW2⟩, ⟨gH1, gH2⟩, ⟨gD1, gD2⟩, gB9⟩, ⟨gnp, gnn⟩, gc, gp, gn, gco, gnd, gun⟩ := id hGd
  have hn15 := hPB.1
  refine ⟨[10], fun nM tM lsM stM I1 L1 R1 S1 => match tM with
      | 10 => ∃ (p : Nat), nM = ((41 - p), 0, 0) ∧ lsM = [some (zvr (165)), some (zvi (n)), some (zvi (p))] ∧ stM = [] ∧ L1 = L ∧ R1 = R ∧ S1 = S ∧ (p ≤ bnp s) ∧ (I1 268 3 = gaN s n p) ∧ (zGa s n p 269 I1) ∧ (∀ c j : Nat, ¬ (c = 268 ∧ j = 3) → ¬ c = 269 → I1 c j = I c j)
      | _ => False, rfl, ?_, ⟨?_, True.intro⟩⟩
  · refine And.intro (zA_165 hS) (zrdR (v := some 268) (zR_165_48 hR) ?_)
    refine And.intro (zA_268 hS) ⟨_, (zWi (zRb rfl)), ?_⟩
    refine ⟨((41 - (0 : Nat)), 0, 0), [some (zvr (165)), some (zvi (n)), some (zvi ((0 : Nat)))], ⟨rfl, rfl, rfl, rfl⟩, 0, rfl, rfl, rfl, rfl, rfl, rfl, (by omega), zxe, zGa_0, (fun c j h0 h1 => (zxcj h0 rfl))⟩
  · rintro nM lsM stM I1 L1 R1 S1 hz1 ⟨p, rfl, rfl, rfl, rfl, rfl, rfl, hp, hf3, hGa, fr⟩
    have hPB1 : zPB s I1 := (zPB_fr hPB (fun c j h => fr c j (by omega) (by omega)))
    have hn151 := hPB1.1
    have h20 := gaN_le hGd hn hp
    refine And.intro (zA_165 hS) (zrd (v := (bnp s)) hn151 ?_)
    refine And.intro ⟨(by omega), (by omega)⟩ ⟨fun h15 => ?_, fun h15 => ?_⟩
    · refine hQ _ (by have e9 : p = bnp s := (by omega); subst e9; exact hf3) (by have e9 : p = bnp s := (by omega); subst e9; exact hGa) (fun c j h0 h1 => ((fr c j h0 h1).trans rfl))
    · refine And.intro (zA_165 hS) (zrdR (v := some 202) (zR_165_21 hR) ?_)
      refine And.intro (zP_202 hS (by omega) (by omega)) (fun v23 e23 r23 => ?_)
      have f23 : v23 = I1 202 p := (e23.trans (congrArg (I1 202) (by omega)))
      refine And.intro ⟨r23, (by omega)⟩ ⟨fun h25 => ?_, fun h25 => ?_⟩
      · have t25 : p + 1 ≤ bnp s := (by omega)
        have t25b : bP s p 3 = n := (by have z9 := (hPB1.2.2.1 p (by omega)).1.2.2; omega)
        have t25bb : gaN s n p + 4 ≤ 20 := (gaN_lt hGd hn (by omega) t25b)
        have t25bbb : (I1 197 p = bP s p 0 ∧ I1 198 p = bP s p 1) ∧ 0 ≤ bP s p 0 ∧ bP s p 0 ≤ 60 ∧ 0 ≤ bP s p 1 ∧ bP s p 1 ≤ 16 := (by have z9 := (hPB1.2.2.1 p (by omega)).1; have z8 := gp p (by omega); exact ⟨⟨z9.1, z9.2.1⟩, by omega, by omega, by omega, by omega⟩)
        have t25bbbb : ((0 ≤ I1 199 p ∧ I1 199 p < bD s) ∧ (0 ≤ I1 200 p ∧ I1 200 p < bW s) ∧ (0 ≤ I1 201 p ∧ I1 201 p < bH s)) ∧ (((bP s p 2).toNat / bW s / bH s : Nat) : Int) = I1 199 p ∧ cuPp s (bP s p 2).toNat = 16 * I1 201 p + I1 200 p := (gaB_m hGd (by omega) (hPB1.2.2.1 p (by omega)).2)
        refine And.intro (zA_165 hS) (zrdR (v := some 268) (zR_165_48 hR) ?_)
        refine And.intro (zA_268 hS) (zrdR (v := some 269) (zR_268_4 hR) ?_)
        refine And.intro (zA_165 hS) (zrdR (v := some 268) (zR_165_48 hR) ?_)
        refine And.intro (zA_268 hS) (zrd (v := (gaN s n p)) hf3 ?_)
        refine And.intro (zA_165 hS) (zrdR (v := some 197) (zR_165_16 hR) ?_)
        refine And.intro (zP_197 hS (by omega) (by omega)) (fun v50 e50 r50 => ?_)
        have f50 : v50 = I1 197 p := (e50.trans ((rfl).trans (congrArg (I1 197) (by omega))))
        refine And.intro ⟨(zx0 rfl), (zP_269 hS (by omega) (by omega))⟩ ⟨_, (zWi r50), ?_⟩
        refine And.intro (zA_165 hS) (zrdR (v := some 268) (zR_165_48 hR) ?_)
        refine And.intro (zA_268 hS) (zrdR (v := some 269) (zR_268_4 hR) ?_)
        refine And.intro (zA_165 hS) (zrdR (v := some 268) (zR_165_48 hR) ?_)
        refine And.intro (zA_268 hS) (zrd (v := (gaN s n p)) hf3 ?_)
        refine And.intro (zA_165 hS) (zrdR (v := some 198) (zR_165_17 hR) ?_)
        refine And.intro (zP_198 hS (by omega) (by omega)) (fun v73 e73 r73 => ?_)
        have f73 : v73 = I1 198 p := (e73.trans (((zxu (by omega) rfl)).trans (congrArg (I1 198) (by omega))))
        refine And.intro ⟨(zx0 rfl), (zP_269 hS (by omega) (by omega))⟩ ⟨_, (zWi r73), ?_⟩
        refine And.intro (zA_165 hS) (zrdR (v := some 268) (zR_165_48 hR) ?_)
        refine And.intro (zA_268 hS) (zrdR (v := some 269) (zR_268_4 hR) ?_)
        refine And.intro (zA_165 hS) (zrdR (v := some 268) (zR_165_48 hR) ?_)
        refine And.intro (zA_268 hS) (zrd (v := (gaN s n p)) hf3 ?_)
        refine And.intro (zA_165 hS) (zrdR (v := some 199) (zR_165_18 hR) ?_)
        refine And.intro (zP_199 hS (by omega) (by omega)) (fun v96 e96 r96 => ?_)
        have f96 : v96 = I1 199 p := (e96.trans (((zxu (by omega) (zxu (by omega) rfl))).trans (congrArg (I1 199) (by omega))))
        refine And.intro ⟨(zx0 rfl), (zP_269 hS (by omega) (by omega))⟩ ⟨_, (zWi r96), ?_⟩
        refine And.intro (zA_165 hS) (zrdR (v := some 268) (zR_165_48 hR) ?_)
        refine And.intro (zA_268 hS) (zrdR (v := some 269) (zR_268_4 hR) ?_)
        refine And.intro (zA_165 hS) (zrdR (v := some 268) (zR_165_48 hR) ?_)
        refine And.intro (zA_268 hS) (zrd (v := (gaN s n p)) hf3 ?_)
        refine And.intro (zA_165 hS) (zrdR (v := some 201) (zR_165_20 hR) ?_)
        refine And.intro (zP_201 hS (by omega) (by omega)) (fun v121 e121 r121 => ?_)
        have f121 : v121 = I1 201 p := (e121.trans (((zxu (by omega) (zxu (by omega) (zxu (by omega) rfl)))).trans (congrArg (I1 201) (by omega))))
        refine And.intro (zA_165 hS) (zrdR (v := some 200) (zR_165_19 hR) ?_)
        refine And.intro (zP_200 hS (by omega) (by omega)) (fun v128 e128 r128 => ?_)
        have f128 : v128 = I1 200 p := (e128.trans (((zxu (by omega) (zxu (by omega) (zxu (by omega) rfl)))).trans (congrArg (I1 200) (by omega))))
        refine And.intro ⟨(zx0 rfl), (zP_269 hS (by omega) (by omega))⟩ ⟨_, (zWi (by omega)), ?_⟩
        refine And.intro (zA_165 hS) (zrdR (v := some 268) (zR_165_48 hR) ?_)
        refine And.intro (zA_268 hS) (zrd (v := (gaN s n p)) hf3 ?_)
        refine And.intro (zA_268 hS) ⟨_, (zWi (by omega)), ?_⟩
        refine ⟨((41 - (p + 1)), 0, 0), zlt6 (by omega), [some (zvr (165)), some (zvi (n)), some (zvi ((p + 1)))], ⟨rfl, rfl, rfl, rfl⟩, (p + 1), rfl, rfl, rfl, rfl, rfl, rfl, (by omega), ?_, ?_, (fun c j h0 h1 => (zxcj h0 (zxu h1 (zxu h1 (zxu h1 (zxu h1 ((fr c j h0 h1).trans rfl)))))))⟩
        · first
          | (rw [gaN_n t25b]; exact hf3)
          | (rw [gaN_y t25b]
             exact zxe.trans (by omega))
        · first
          | exact zGa_n hGa t25b
          | (refine zGa_y hGa t25b (fun i hi => ?_) ?_ ?_ ?_ ?_
             · repeat (first | exact rfl | refine zxcj (by omega) ?_ | refine zxs (by omega) ?_)
             · refine zxu (by omega) ?_
               repeat (first | exact (zxe' (by omega)).trans (f50.trans t25bbb.1.1) | refine zxs (by omega) ?_)
             · refine zxu (by omega) ?_
               repeat (first | exact (zxe' (by omega)).trans (f73.trans t25bbb.1.2) | refine zxs (by omega) ?_)
             · refine zxu (by omega) ?_
               repeat (first | exact (zxe' (by omega)).trans (f96.trans t25bbbb.2.1.symm) | refine zxs (by omega) ?_)
             · refine zxu (by omega) ((zxe' (by omega)).trans ?_)
               have z9 := t25bbbb.2.2
               omega)
      · have t25 : p + 1 ≤ bnp s := (by omega)
        have t25b : ¬ bP s p 3 = n := (by have z9 := (hPB1.2.2.1 p (by omega)).1.2.2; omega)
        refine ⟨((41 - (p + 1)), 0, 0), zlt6 (by omega), [some (zvr (165)), some (zvi (n)), some (zvi ((p + 1)))], ⟨rfl, rfl, rfl, rfl⟩, (p + 1), rfl, rfl, rfl, rfl, rfl, rfl, (by omega), ?_, ?_, (fun c j h0 h1 => ((fr c j h0 h1).trans rfl))⟩
        · first
          | (rw [gaN_n t25b]; exact hf3)
          | (rw [gaN_y t25b]
             exact zxe.trans (by omega))
        · first
          | exact zGa_n hGa t25b
          | (refine zGa_y hGa t25b (fun i hi => ?_) ?_ ?_ ?_ ?_
             · repeat (first | exact rfl | refine zxcj (by omega) ?_ | refine zxs (by omega) ?_)
             · refine zxu (by omega) ?_
               repeat (first | exact (zxe' (by omega)).trans (f50.trans t25bbb.1.1) | refine zxs (by omega) ?_)
             · refine zxu (by omega) ?_
               repeat (first | exact (zxe' (by omega)).trans (f73.trans t25bbb.1.2) | refine zxs (by omega) ?_)
             · refine zxu (by omega) ?_
               repeat (first | exact (zxe' (by omega)).trans (f96.trans t25bbbb.2.1.symm) | refine zxs (by omega) ?_)
             · refine zxu (by omega) ((zxe' (by omega)).trans ?_)
               have z9 := t25bbbb.2.2
               omega))
