/-! cu8 -/
def T_U_alc : ZT := fun args I L R S Q => ∃ (k : Nat) (w : List CuR) (pc : Nat) (n : Int), args = [zvr k, zvi n] ∧ (zSh S) ∧ (zRs R) ∧ (zDy zT1 zF1 k R S) ∧ (k = 106 ∨ k = 118) ∧ (zUa k w pc I) ∧ ((cuAA w pc).length ≤ 40) ∧ (r32 n) ∧ ∀ (v : Int), (v = cuAc w pc n) → Q (some (zvi (v))) I L R S
theorem sn_U_alc : ZSnd 2 1 5 T_U_alc := ZSnd.loops (zT1_5 1) (by
  rintro args I L R S Q hz ⟨k, w, pc, n, rfl, hS, hR, hD, hk, hUa, hl40, hn, hQ⟩
  have hk106 : 106 ≤ k := by omega
  have hk118 : k ≤ 118 := by omega
  have hTA := hUa
  have hNA := hUa.2.1
  refine ⟨[4], fun nM tM lsM stM I1 L1 R1 S1 => match tM with
      | 4 => ∃ (m : Nat), nM = ((61 - m), 0, 0) ∧ lsM = [some (zvr (k)), some (zvi (n)), some (zvi (zct (cuQA w pc n) m)), some (zvi (m))] ∧ stM = [] ∧ I1 = I ∧ L1 = L ∧ R1 = R ∧ S1 = S ∧ (m ≤ (cuAA w pc).length)
      | _ => False, rfl, ?_, ⟨?_, True.intro⟩⟩
  · refine ⟨((61 - (0 : Nat)), 0, 0), [some (zvr (k)), some (zvi (n)), some (zvi (zct (cuQA w pc n) (0 : Nat))), some (zvi ((0 : Nat)))], ⟨rfl, rfl, (congrArg (fun z => some (zvi z)) rfl), rfl, rfl⟩, 0, rfl, rfl, rfl, rfl, rfl, rfl, rfl, (by clear hQ; grind [xu])⟩
  · rintro nM lsM stM I1 L1 R1 S1 hz1 ⟨m, rfl, rfl, rfl, rfl, rfl, rfl, rfl, hm⟩
    have hz1 := zct_le (cuQA w pc n) m
    refine And.intro (zDX hD 0 rfl) (zrdR (v := some (k + 5)) (zDR hD 3 rfl) ?_)
    refine And.intro (zDX hD 5 rfl) (zrd (v := ((cuAA w pc).length)) hNA ?_)
    refine And.intro ⟨(by omega), (by omega)⟩ ⟨fun h12 => ?_, fun h12 => ?_⟩
    · refine hQ _ (by have e : m = (cuAA w pc).length := (by omega); subst e; exact congrArg Nat.cast cuQA_c)
    · have t12 : m + 1 ≤ (cuAA w pc).length := (by omega)
      refine And.intro (zDX hD 0 rfl) (zrdR (v := some (k + 5)) (zDR hD 3 rfl) ?_)
      refine And.intro (zDX hD 5 rfl) ⟨_, sn_A_at.up (by decide), ?_⟩
      refine ⟨(k + 5), 40, (cuAA w pc).length, (cg (cuAA w pc)), m, 0, (m : Int), (0 : Int), rfl, hS, hR, (zRw_1_5 hD), (by first | exact (zRT_fr hTA (fun c j h => rfl)) | (clear hQ; grind [xu])), (by omega), (by omega), ?_⟩
      intro v21o p21hv p21bhr
      refine And.intro ⟨(by omega), (by omega)⟩ ⟨fun h25 => ?_, fun h25 => ?_⟩
      · refine ⟨((61 - (m + 1)), 0, 0), zlt6 (by omega), [some (zvr (k)), some (zvi (n)), some (zvi (zct (cuQA w pc n) (m + 1))), some (zvi ((m + 1)))], ⟨rfl, rfl, (congrArg (fun z => some (zvi z)) (by first | (rw [zct_t (show cuQA w pc n m by unfold cuQA; omega)]; rfl) | (rw [zct_f (show ¬ cuQA w pc n m by unfold cuQA; omega)]))), rfl, rfl⟩, (m + 1), rfl, rfl, rfl, rfl, rfl, rfl, rfl, (by first | exact hm | (clear hQ; grind [xu]))⟩
      · refine ⟨((61 - (m + 1)), 0, 0), zlt6 (by omega), [some (zvr (k)), some (zvi (n)), some (zvi (zct (cuQA w pc n) (m + 1))), some (zvi ((m + 1)))], ⟨rfl, rfl, (congrArg (fun z => some (zvi z)) (by first | (rw [zct_t (show cuQA w pc n m by unfold cuQA; omega)]; rfl) | (rw [zct_f (show ¬ cuQA w pc n m by unfold cuQA; omega)]))), rfl, rfl⟩, (m + 1), rfl, rfl, rfl, rfl, rfl, rfl, rfl, (by first | exact hm | (clear hQ; grind [xu]))⟩)
def T_U_ale : ZT := fun args I L R S Q => ∃ (k : Nat) (w : List CuR) (pc : Nat) (n : Int) (a : Int) (b : Int), args = [zvr k, zvi n, zvi a, zvi b] ∧ (zSh S) ∧ (zRs R) ∧ (zDy zT1 zF1 k R S) ∧ (k = 106 ∨ k = 118) ∧ (zUa k w pc I) ∧ ((cuAA w pc).length ≤ 40) ∧ (r32 n ∧ r32 a ∧ r32 b) ∧ ∀ (v : Int), (v = cuAe w pc n a b) → Q (some (zvi (v))) I L R S
theorem sn_U_ale : ZSnd 2 1 6 T_U_ale := ZSnd.loops (zT1_6 1) (by
  rintro args I L R S Q hz ⟨k, w, pc, n, a, b, rfl, hS, hR, hD, hk, hUa, hl40, hn, hQ⟩
  have hk106 : 106 ≤ k := by omega
  have hk118 : k ≤ 118 := by omega
  have hTA := hUa
  have hNA := hUa.2.1
  refine ⟨[6], fun nM tM lsM stM I1 L1 R1 S1 => match tM with
      | 6 => ∃ (m : Nat) (le : Int), nM = ((61 - m), 0, 0) ∧ lsM = [some (zvr (k)), some (zvi (n)), some (zvi (a)), some (zvi (b)), some (zvi (le)), some (zvi (m))] ∧ stM = [] ∧ I1 = I ∧ L1 = L ∧ R1 = R ∧ S1 = S ∧ (m ≤ (cuAA w pc).length) ∧ (le = a - zct (cuQA w pc n) m ∧ (0 ≤ a → 0 ≤ le) ∧ (a < 0 → m = 0))
      | _ => False, rfl, ?_, ⟨?_, True.intro⟩⟩
  · refine ⟨((61 - (0 : Nat)), 0, 0), [some (zvr (k)), some (zvi (n)), some (zvi (a)), some (zvi (b)), some (zvi (a)), some (zvi ((0 : Nat)))], ⟨rfl, rfl, rfl, rfl, rfl, rfl, rfl⟩, 0, a, rfl, rfl, rfl, rfl, rfl, rfl, rfl, (by clear hQ; grind [xu]), (by have e : zct (cuQA w pc n) 0 = 0 := rfl; omega)⟩
  · rintro nM lsM stM I1 L1 R1 S1 hz1 ⟨m, le, rfl, rfl, rfl, rfl, rfl, rfl, rfl, hm, hle⟩
    have hz1 := zct_le (cuQA w pc n) m
    refine And.intro (zDX hD 0 rfl) (zrdR (v := some (k + 5)) (zDR hD 3 rfl) ?_)
    refine And.intro (zDX hD 5 rfl) (zrd (v := ((cuAA w pc).length)) hNA ?_)
    refine And.intro ⟨(by omega), (by omega)⟩ ⟨fun h15 => ?_, fun h15 => ?_⟩
    · refine hQ _ ?_
      · first
        | exact (p59hv.trans (cuAe_y (k := a) (by omega) t33 (by omega) (by omega)).symm)
        | exact (cuAe_n (Or.inr (Or.inr (by omega)))).symm
        | exact (cuAe_n (Or.inl (by omega))).symm
        | (have e : m = (cuAA w pc).length := (by omega)
           rw [e] at hle
           by_cases q : a < 0
           · exact (cuAe_n (Or.inl q)).symm
           · exact (cuAe_n (Or.inr (Or.inl (by omega)))).symm)
    · refine And.intro (by omega) ⟨fun h19 => ?_, fun h19 => ?_⟩
      · refine hQ _ ?_
        · first
          | exact (p59hv.trans (cuAe_y (k := a) (by omega) t33 (by omega) (by omega)).symm)
          | exact (cuAe_n (Or.inr (Or.inr (by omega)))).symm
          | exact (cuAe_n (Or.inl (by omega))).symm
          | (have e : m = (cuAA w pc).length := (by omega)
             rw [e] at hle
             by_cases q : a < 0
             · exact (cuAe_n (Or.inl q)).symm
             · exact (cuAe_n (Or.inr (Or.inl (by omega)))).symm)
      · refine And.intro (zDX hD 0 rfl) (zrdR (v := some (k + 5)) (zDR hD 3 rfl) ?_)
        refine And.intro (zDX hD 5 rfl) ⟨_, sn_A_at.up (by decide), ?_⟩
        refine ⟨(k + 5), 40, (cuAA w pc).length, (cg (cuAA w pc)), m, 0, (m : Int), (0 : Int), rfl, hS, hR, (zRw_1_5 hD), (by first | exact (zRT_fr hTA (fun c j h => rfl)) | (clear hQ; grind [xu])), (by omega), (by omega), ?_⟩
        intro v29o p29hv p29bhr
        refine And.intro ⟨(by omega), (by omega)⟩ ⟨fun h33 => ?_, fun h33 => ?_⟩
        · have t33 : ¬ cuQA w pc n m := (by unfold cuQA; omega)
          refine ⟨((61 - (m + 1)), 0, 0), zlt6 (by omega), [some (zvr (k)), some (zvi (n)), some (zvi (a)), some (zvi (b)), some (zvi (le)), some (zvi ((m + 1)))], ⟨rfl, rfl, rfl, rfl, rfl, rfl, rfl⟩, (m + 1), le, rfl, rfl, rfl, rfl, rfl, rfl, rfl, (by first | exact hm | (clear hQ; grind [xu])), (by first | (rw [zct_t t33]; omega) | (rw [zct_f t33]; omega))⟩
        · have t33 : cuQA w pc n m := (by unfold cuQA; omega)
          refine And.intro (by omega) ⟨fun h38 => ?_, fun h38 => ?_⟩
          · refine ⟨((61 - (m + 1)), 0, 0), zlt6 (by omega), [some (zvr (k)), some (zvi (n)), some (zvi (a)), some (zvi (b)), some (zvi ((le + (-1)))), some (zvi ((m + 1)))], ⟨rfl, rfl, rfl, rfl, rfl, rfl, rfl⟩, (m + 1), (le + (-1)), rfl, rfl, rfl, rfl, rfl, rfl, rfl, (by first | exact hm | (clear hQ; grind [xu])), (by first | (rw [zct_t t33]; omega) | (rw [zct_f t33]; omega))⟩
          · refine And.intro (by omega) ⟨fun h42 => ?_, fun h42 => ?_⟩
            · refine And.intro (zDX hD 0 rfl) (zrdR (v := some (k + 5)) (zDR hD 3 rfl) ?_)
              refine And.intro (zDX hD 5 rfl) ⟨_, sn_A_at.up (by decide), ?_⟩
              refine ⟨(k + 5), 40, (cuAA w pc).length, (cg (cuAA w pc)), m, (1 + b.toNat), (m : Int), ((1 + b) : Int), rfl, hS, hR, (zRw_1_5 hD), (by first | exact (zRT_fr hTA (fun c j h => rfl)) | (clear hQ; grind [xu])), (by omega), (by omega), ?_⟩
              intro v59o p59hv p59bhr
              refine hQ _ ?_
              · first
                | exact (p59hv.trans (cuAe_y (k := a) (by omega) t33 (by omega) (by omega)).symm)
                | exact (cuAe_n (Or.inr (Or.inr (by omega)))).symm
                | exact (cuAe_n (Or.inl (by omega))).symm
                | (have e : m = (cuAA w pc).length := (by omega)
                   rw [e] at hle
                   by_cases q : a < 0
                   · exact (cuAe_n (Or.inl q)).symm
                   · exact (cuAe_n (Or.inr (Or.inl (by omega)))).symm)
            · refine And.intro ⟨(by omega), (zRb rfl)⟩ ⟨fun h47 => ?_, fun h47 => ?_⟩
              · refine hQ _ ?_
                · first
                  | exact (p59hv.trans (cuAe_y (k := a) (by omega) t33 (by omega) (by omega)).symm)
                  | exact (cuAe_n (Or.inr (Or.inr (by omega)))).symm
                  | exact (cuAe_n (Or.inl (by omega))).symm
                  | (have e : m = (cuAA w pc).length := (by omega)
                     rw [e] at hle
                     by_cases q : a < 0
                     · exact (cuAe_n (Or.inl q)).symm
                     · exact (cuAe_n (Or.inr (Or.inl (by omega)))).symm)
              · refine And.intro (zDX hD 0 rfl) (zrdR (v := some (k + 5)) (zDR hD 3 rfl) ?_)
                refine And.intro (zDX hD 5 rfl) ⟨_, sn_A_at.up (by decide), ?_⟩
                refine ⟨(k + 5), 40, (cuAA w pc).length, (cg (cuAA w pc)), m, (1 + b.toNat), (m : Int), ((1 + b) : Int), rfl, hS, hR, (zRw_1_5 hD), (by first | exact (zRT_fr hTA (fun c j h => rfl)) | (clear hQ; grind [xu])), (by omega), (by omega), ?_⟩
                intro v59o p59hv p59bhr
                refine hQ _ ?_
                · first
                  | exact (p59hv.trans (cuAe_y (k := a) (by omega) t33 (by omega) (by omega)).symm)
                  | exact (cuAe_n (Or.inr (Or.inr (by omega)))).symm
                  | exact (cuAe_n (Or.inl (by omega))).symm
                  | (have e : m = (cuAA w pc).length := (by omega)
                     rw [e] at hle
                     by_cases q : a < 0
                     · exact (cuAe_n (Or.inl q)).symm
                     · exact (cuAe_n (Or.inr (Or.inl (by omega)))).symm))
def T_U_cpo : ZT := fun args I L R S Q => ∃ (k : Nat) (w : List CuR) (a : Int), args = [zvr k, zvi a] ∧ (zSh S) ∧ (zRs R) ∧ (zDy zT1 zF1 k R S) ∧ (k = 106 ∨ k = 118) ∧ (w.length ≤ 60) ∧ (zUp k w I) ∧ (r32 a) ∧ ∀ (v : Int), (v = if 0 ≤ a ∧ a < cuNp w then (cuNm w a.toNat : Int) else -1) → Q (some (zvi (v))) I L R S
theorem sn_U_cpo : ZSnd 1 1 8 T_U_cpo := ZSnd.of (zT1_8 0) (by
  rintro args I L R S Q hz ⟨k, w, a, rfl, hS, hR, hD, hk, hl, hUp, hr, hQ⟩
  have hk106 : 106 ≤ k := by omega
  have hk118 : k ≤ 118 := by omega
  have hnp : cuNp w ≤ 60 := Nat.le_trans (zct_le _ _) hl
  obtain ⟨u1, u2, u3⟩ := id hUp
  refine And.intro rfl ?_
  refine And.intro (by omega) ⟨fun h1 => ?_, fun h1 => ?_⟩
  · refine hQ _ (by first | (rw [if_pos (by omega)]; omega) | (rw [if_neg (by omega)]))
  · refine And.intro (zDX hD 0 rfl) (zrd (v := (cuNp w)) u1 ?_)
    refine And.intro ⟨(by omega), (by omega)⟩ ⟨fun h9 => ?_, fun h9 => ?_⟩
    · refine hQ _ (by first | (rw [if_pos (by omega)]; omega) | (rw [if_neg (by omega)]))
    · refine And.intro (zDX hD 0 rfl) (zrdR (v := some (k + 4)) (zDR hD 2 rfl) ?_)
      refine And.intro (zDP hD 4 rfl rfl (by omega) (by omega)) (fun v17 e17 r17 => ?_)
      have f17 : v17 = cuNm w a.toNat := (e17.trans (u3 a.toNat (by omega)))
      refine hQ _ (by first | (rw [if_pos (by omega)]; omega) | (rw [if_neg (by omega)])))
def T_U_shr : ZT := fun args I L R S Q => ∃ (k : Nat) (w : List CuR) (pc : Nat), args = [zvr k] ∧ (zSh S) ∧ (zRs R) ∧ (zDy zT1 zF1 k R S) ∧ (k = 106 ∨ k = 118) ∧ (zUw k w I) ∧ (w.length ≤ 60) ∧ (cuG w) ∧ (I k 4 = pc) ∧ (cuPq w pc) ∧ (zUp k w I) ∧ ∀ (I' : ZI), (I' k 9 = cuSc w pc) → (∀ c j : Nat, ¬ (c = k ∧ j = 9) → I' c j = I c j) → Q none I' L R S
theorem sn_U_shr : ZSnd 3 1 10 T_U_shr := ZSnd.loops (zT1_10 2) (by
  rintro args I L R S Q hz ⟨k, w, pc, rfl, hS, hR, hD, hk, hW, hl, hG, hpc, hpq, hUp, hQ⟩
  have hk106 : 106 ≤ k := by omega
  have hk118 : k ≤ 118 := by omega
  have hT1 := zUw_T hW hl
  have hN := hT1.2.1
  obtain ⟨hp40, hpw, hp1⟩ := id hpq
  have hnp : cuNp w ≤ 60 := Nat.le_trans (zct_le _ _) hl
  have hpp := cuPq_p hpq
  obtain ⟨u1, u2, u3⟩ := id hUp
  refine ⟨[7, 22], fun nM tM lsM stM I1 L1 R1 S1 => match tM with
      | 7 => ∃ (c : Nat), nM = ((61 - c), 100, 0) ∧ lsM = [some (zvr (k)), some (zvi (c)), none, none, none] ∧ stM = [] ∧ L1 = L ∧ R1 = R ∧ S1 = S ∧ (c ≤ cuNp w) ∧ (I1 k 9 = zct (cuSx w pc) c) ∧ (∀ c j : Nat, ¬ (c = k ∧ j = 9) → I1 c j = I c j)
      | 22 => ∃ (c : Nat) (m : Nat) (nt : Int) (u : Int), nM = ((61 - c), (61 - m), 0) ∧ lsM = [some (zvr (k)), some (zvi (c)), some (zvi (nt)), some (zvi (u)), some (zvi (m))] ∧ stM = [] ∧ L1 = L ∧ R1 = R ∧ S1 = S ∧ (c < cuNp w) ∧ (m ≤ pc) ∧ (I1 k 9 = zct (cuSx w pc) c) ∧ ((-1 ≤ nt ∧ nt ≤ 11) ∧ (u = 0 ∨ u = 1)) ∧ (cuSy w c m nt u) ∧ (∀ c j : Nat, ¬ (c = k ∧ j = 9) → I1 c j = I c j)
      | _ => False, rfl, ?_, ⟨?_, ?_, True.intro⟩⟩
  · refine And.intro (zDX hD 0 rfl) ⟨_, (zWi (zRb rfl)), ?_⟩
    refine ⟨((61 - (0 : Nat)), 100, 0), [some (zvr (k)), some (zvi ((0 : Nat))), none, none, none], ⟨rfl, rfl, rfl⟩, 0, rfl, rfl, rfl, rfl, rfl, rfl, (by omega), zxe, (fun c j h0 => (zxcj h0 rfl))⟩
  · rintro nM lsM stM I1 L1 R1 S1 hz1 ⟨c, rfl, rfl, rfl, rfl, rfl, rfl, hc, h9, fr⟩
    have hz1 := zct_le (cuSx w pc) c
    refine And.intro (zDX hD 0 rfl) (zrd (v := (cuNp w)) ((fr k 6 (by omega)).trans u1) ?_)
    refine And.intro ⟨(by omega), (by omega)⟩ ⟨fun h12 => ?_, fun h12 => ?_⟩
    · refine hQ _ (by have e : c = cuNp w := (by omega); subst e; exact h9) (fun c j h0 => ((fr c j h0).trans rfl))
    · refine ⟨((61 - c), (61 - (0 : Nat)), 0), zlt6 (by omega), [some (zvr (k)), some (zvi (c)), some (zvi (((-1) : Int))), some (zvi ((0 : Int))), some (zvi ((0 : Nat)))], ⟨rfl, rfl, (congrArg (fun z => some (zvi z)) (by omega)), rfl, rfl, rfl⟩, c, 0, (-1), 0, rfl, rfl, rfl, rfl, rfl, rfl, (by omega), (by omega), h9, (by clear hQ; grind [xu]), cuSy_0, (fun c j h0 => ((fr c j h0).trans rfl))⟩
  · rintro nM lsM stM I1 L1 R1 S1 hz1 ⟨c, m, nt, u, rfl, rfl, rfl, rfl, rfl, rfl, hc, hm, h9, hnt, hy, fr⟩
    have hz1 := zct_le (cuSx w pc) c
    refine And.intro (zDX hD 0 rfl) (zrd (v := pc) ((fr k 4 (by omega)).trans hpc) ?_)
    refine And.intro ⟨(by omega), (by omega)⟩ ⟨fun h28 => ?_, fun h28 => ?_⟩
    · refine And.intro (by omega) ⟨fun h81 => ?_, fun h81 => ?_⟩
      · refine ⟨((61 - (c + 1)), 100, 0), zlt6 (by omega), [some (zvr (k)), some (zvi ((c + 1))), none, none, none], ⟨rfl, rfl, rfl⟩, (c + 1), rfl, rfl, rfl, rfl, rfl, rfl, (by omega), ?_, (fun c j h0 => ((fr c j h0).trans rfl))⟩
        · have e : m = pc := (by omega)
          subst e
          rcases cuSy_e hy with z | z
          · first
            | (rw [zct_t z.2]; exact zxe.trans (by omega))
            | (exfalso; have := z.1; omega)
          · first
            | (exfalso; have := z.1; omega)
            | (rw [zct_f z.2]; exact h9)
      · refine And.intro (zDX hD 0 rfl) (zrd (v := (zct (cuSx w pc) c)) h9 ?_)
        refine And.intro (zDX hD 0 rfl) ⟨_, (zWi (by omega)), ?_⟩
        refine ⟨((61 - (c + 1)), 100, 0), zlt6 (by omega), [some (zvr (k)), some (zvi ((c + 1))), none, none, none], ⟨rfl, rfl, rfl⟩, (c + 1), rfl, rfl, rfl, rfl, rfl, rfl, (by omega), ?_, (fun c j h0 => (zxcj h0 ((fr c j h0).trans rfl)))⟩
        · have e : m = pc := (by omega)
          subst e
          rcases cuSy_e hy with z | z
          · first
            | (rw [zct_t z.2]; exact zxe.trans (by omega))
            | (exfalso; have := z.1; omega)
          · first
            | (exfalso; have := z.1; omega)
            | (rw [zct_f z.2]; exact h9)
    · have t28 : m + 1 ≤ pc := (by omega)
      refine And.intro (zDX hD 0 rfl) (zrdR (v := some (k + 4)) (zDR hD 2 rfl) ?_)
      refine And.intro (zDP hD 4 rfl rfl (by omega) (by omega)) (fun v37 e37 r37 => ?_)
      have f37 : v37 = cuNm w m := (e37.trans ((fr (k + 4) _ (by omega)).trans ((congrArg (I (k + 4)) (by omega)).trans (u3 m (by omega)))))
      refine And.intro ⟨r37, (by omega)⟩ ⟨fun h39 => ?_, fun h39 => ?_⟩
      · refine ⟨((61 - c), (61 - (m + 1)), 0), zlt6 (by omega), [some (zvr (k)), some (zvi (c)), some (zvi (nt)), some (zvi (u)), some (zvi ((m + 1)))], ⟨rfl, rfl, rfl, rfl, rfl, rfl⟩, c, (m + 1), nt, u, rfl, rfl, rfl, rfl, rfl, rfl, (by omega), (by omega), (Eq.trans (b := ((zct (cuSx w pc) c) : Int)) h9 (by omega)), (by omega), ?_, (fun c j h0 => ((fr c j h0).trans rfl))⟩
        · first
          | exact cuSy_n hy (by omega)
          | (rw [p70hv]
             have hg := hG m (by omega)
             exact cuSy_y hy (by omega) (by omega) (by omega))
      · refine And.intro (by omega) ⟨fun h43 => ?_, fun h43 => ?_⟩
        · refine And.intro (zDX hD 0 rfl) ⟨_, sn_U_nos.up (by decide), ?_⟩
          refine ⟨_, w, (m : Int), m, rfl, hS, hR, hD, (by first | exact hk | (clear hQ; grind [xu])), (by first | exact (zUw_fr hW (fun c j h => ((fr c j (by omega)).trans rfl))) | (clear hQ; grind [xu])), (by omega), (by first | exact hG | (clear hQ; grind [xu])), (by omega), ?_⟩
          intro v70o p70hv p70bhv2
          refine ⟨((61 - c), (61 - (m + 1)), 0), zlt6 (by omega), [some (zvr (k)), some (zvi (c)), some (zvi (v70o)), some (zvi ((1 : Int))), some (zvi ((m + 1)))], ⟨rfl, rfl, rfl, rfl, rfl, rfl⟩, c, (m + 1), v70o, 1, rfl, rfl, rfl, rfl, rfl, rfl, (by omega), (by omega), (Eq.trans (b := ((zct (cuSx w pc) c) : Int)) h9 (by omega)), (by omega), ?_, (fun c j h0 => ((fr c j h0).trans rfl))⟩
          · first
            | exact cuSy_n hy (by omega)
            | (rw [p70hv]
               have hg := hG m (by omega)
               exact cuSy_y hy (by omega) (by omega) (by omega))
        · refine And.intro ⟨(by omega), (zRb rfl)⟩ ⟨fun h48 => ?_, fun h48 => ?_⟩
          · refine And.intro (zDX hD 0 rfl) ⟨_, sn_U_nos.up (by decide), ?_⟩
            refine ⟨_, w, (m : Int), m, rfl, hS, hR, hD, (by first | exact hk | (clear hQ; grind [xu])), (by first | exact (zUw_fr hW (fun c j h => ((fr c j (by omega)).trans rfl))) | (clear hQ; grind [xu])), (by omega), (by first | exact hG | (clear hQ; grind [xu])), (by omega), ?_⟩
            intro v70o p70hv p70bhv2
            refine ⟨((61 - c), (61 - (m + 1)), 0), zlt6 (by omega), [some (zvr (k)), some (zvi (c)), some (zvi (v70o)), some (zvi ((0 : Int))), some (zvi ((m + 1)))], ⟨rfl, rfl, rfl, rfl, rfl, rfl⟩, c, (m + 1), v70o, 0, rfl, rfl, rfl, rfl, rfl, rfl, (by omega), (by omega), (Eq.trans (b := ((zct (cuSx w pc) c) : Int)) h9 (by omega)), (by omega), ?_, (fun c j h0 => ((fr c j h0).trans rfl))⟩
            · first
              | exact cuSy_n hy (by omega)
              | (rw [p70hv]
                 have hg := hG m (by omega)
                 exact cuSy_y hy (by omega) (by omega) (by omega))
          · refine And.intro (zDX hD 0 rfl) ⟨_, sn_U_nos.up (by decide), ?_⟩
            refine ⟨_, w, (m : Int), m, rfl, hS, hR, hD, (by first | exact hk | (clear hQ; grind [xu])), (by first | exact (zUw_fr hW (fun c j h => ((fr c j (by omega)).trans rfl))) | (clear hQ; grind [xu])), (by omega), (by first | exact hG | (clear hQ; grind [xu])), (by omega), ?_⟩
            intro v55o p55hv p55bhv2
            refine And.intro ⟨(by omega), (by omega)⟩ ⟨fun h58 => ?_, fun h58 => ?_⟩
            · refine And.intro (zDX hD 0 rfl) ⟨_, sn_U_nos.up (by decide), ?_⟩
              refine ⟨_, w, (m : Int), m, rfl, hS, hR, hD, (by first | exact hk | (clear hQ; grind [xu])), (by first | exact (zUw_fr hW (fun c j h => ((fr c j (by omega)).trans rfl))) | (clear hQ; grind [xu])), (by omega), (by first | exact hG | (clear hQ; grind [xu])), (by omega), ?_⟩
              intro v70o p70hv p70bhv2
              refine ⟨((61 - c), (61 - (m + 1)), 0), zlt6 (by omega), [some (zvr (k)), some (zvi (c)), some (zvi (v70o)), some (zvi ((0 : Int))), some (zvi ((m + 1)))], ⟨rfl, rfl, rfl, rfl, rfl, rfl⟩, c, (m + 1), v70o, 0, rfl, rfl, rfl, rfl, rfl, rfl, (by omega), (by omega), (Eq.trans (b := ((zct (cuSx w pc) c) : Int)) h9 (by omega)), (by omega), ?_, (fun c j h0 => ((fr c j h0).trans rfl))⟩
              · first
                | exact cuSy_n hy (by omega)
                | (rw [p70hv]
                   have hg := hG m (by omega)
                   exact cuSy_y hy (by omega) (by omega) (by omega))
            · refine And.intro (zDX hD 0 rfl) ⟨_, sn_U_nos.up (by decide), ?_⟩
              refine ⟨_, w, (m : Int), m, rfl, hS, hR, hD, (by first | exact hk | (clear hQ; grind [xu])), (by first | exact (zUw_fr hW (fun c j h => ((fr c j (by omega)).trans rfl))) | (clear hQ; grind [xu])), (by omega), (by first | exact hG | (clear hQ; grind [xu])), (by omega), ?_⟩
              intro v70o p70hv p70bhv2
              refine ⟨((61 - c), (61 - (m + 1)), 0), zlt6 (by omega), [some (zvr (k)), some (zvi (c)), some (zvi (v70o)), some (zvi ((1 : Int))), some (zvi ((m + 1)))], ⟨rfl, rfl, rfl, rfl, rfl, rfl⟩, c, (m + 1), v70o, 1, rfl, rfl, rfl, rfl, rfl, rfl, (by omega), (by omega), (Eq.trans (b := ((zct (cuSx w pc) c) : Int)) h9 (by omega)), (by omega), ?_, (fun c j h0 => ((fr c j h0).trans rfl))⟩
              · first
                | exact cuSy_n hy (by omega)
                | (rw [p70hv]
                   have hg := hG m (by omega)
                   exact cuSy_y hy (by omega) (by omega) (by omega)))
def T_U_exa : ZT := fun args I L R S Q => ∃ (k : Nat) (a : Int) (b : Int) (c : Int) (d : Int), args = [zvr k] ∧ (zSh S) ∧ (zRs R) ∧ (zDy zT1 zF1 k R S) ∧ (k = 106 ∨ k = 118) ∧ (I k 3 = a ∧ (a = 0 ∨ a = 1)) ∧ (I (k + 5) 2 = b) ∧ (I k 9 = c) ∧ (I k 11 = d) ∧ (r32 b ∧ r32 c ∧ r32 d) ∧ ∀ (v : Int), (v = if a = 1 ∧ b = 0 ∧ c = 0 ∧ d = 0 then 1 else 0) → Q (some (zvi (v))) I L R S
theorem sn_U_exa : ZSnd 1 1 30 T_U_exa := ZSnd.of (zT1_30 0) (by
  rintro args I L R S Q hz ⟨k, a, b, c, d, rfl, hS, hR, hD, hk, ha, hb, hc, hd, hr, hQ⟩
  have hk106 : 106 ≤ k := by omega
  have hk118 : k ≤ 118 := by omega
  have ha1 := ha.1
  have ha2 := ha.2
  refine And.intro rfl ?_
  refine And.intro (zDX hD 0 rfl) (zrd (v := a) ha1 ?_)
  refine And.intro (by omega) ⟨fun h4 => ?_, fun h4 => ?_⟩
  · refine And.intro (Or.inl rfl) ?_
    refine hQ _ (by first | rw [if_pos (by omega)] | rw [if_neg (by omega)])
  · refine And.intro (zDX hD 0 rfl) (zrdR (v := some (k + 5)) (zDR hD 3 rfl) ?_)
    refine And.intro (zDX hD 5 rfl) (zrd (v := b) hb ?_)
    refine And.intro (by omega) ⟨fun h14 => ?_, fun h14 => ?_⟩
    · refine And.intro (Or.inl rfl) ?_
      refine hQ _ (by first | rw [if_pos (by omega)] | rw [if_neg (by omega)])
    · refine And.intro (zDX hD 0 rfl) (zrd (v := c) hc ?_)
      refine And.intro (by omega) ⟨fun h21 => ?_, fun h21 => ?_⟩
      · refine And.intro (Or.inl rfl) ?_
        refine hQ _ (by first | rw [if_pos (by omega)] | rw [if_neg (by omega)])
      · refine And.intro (zDX hD 0 rfl) (zrd (v := d) hd ?_)
        refine And.intro (by omega) ⟨fun h28 => ?_, fun h28 => ?_⟩
        · refine And.intro (Or.inl rfl) ?_
          refine hQ _ (by first | rw [if_pos (by omega)] | rw [if_neg (by omega)])
        · refine And.intro (Or.inr rfl) ?_
          refine hQ _ (by first | rw [if_pos (by omega)] | rw [if_neg (by omega)]))
