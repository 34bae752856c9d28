/-! yw0 -/
def T_G_op2 : ZT := fun args I L R S Q => ∃ (k : Nat) (s : BdS) (n : Int), args = [zvr k, zvi n] ∧ (zDy zT17 zF17 k R S) ∧ (zBB k (-1) s I L) ∧ (bGd s) ∧ (n = 0) ∧ ∀ (v : Int) (I' : ZI), ((v = -1 ∧ bOpn s (bnn s) = 0) ∨ ((0 ≤ v ∧ v ≤ 12) ∧ 0 < bOpn s (bnn s))) → (∀ c j : Nat, ¬ (c = k ∧ j = 0) → I' c j = I c j) → Q (some (zvi (v))) I' L R S
theorem sn_G_op2 : ZSnd 2 17 22 T_G_op2 := ZSnd.loops (zT17_22 1) (by
  rintro args I L R S Q hz ⟨k, s, n, rfl, hd, hBB, hGd, ha, hQ⟩
  have hGz := bGd_z hGd
  have h5 := hd.1
  obtain ⟨⟨hbw, hbh, hbd, hbs, hbn⟩, hcl, hco, hpc, hne, hpi⟩ := id hBB
  obtain ⟨⟨⟨gW1, gW2⟩, ⟨gH1, gH2⟩, ⟨gD1, gD2⟩, gB9⟩, ⟨gnp, gnn⟩, gco⟩ := id hGz
  obtain ⟨m1, m2, hKe⟩ := gWH hGz
  have hKd : bK s = bW s * bH s * bD s := rfl
  refine ⟨[9], fun nM tM lsM stM I1 L1 R1 S1 => match tM with
      | 9 => ∃ (j : Nat), nM = ((13 - j), 0, 0) ∧ lsM = [some (zvr (k)), some (zvi (n)), some (zvi (0)), some (zvi (j))] ∧ stM = [] ∧ L1 = L ∧ R1 = R ∧ S1 = S ∧ (j ≤ bnn s) ∧ (bOpn s j = 0) ∧ (∀ c j : Nat, ¬ (c = k ∧ j = 0) → I1 c j = I c j)
      | _ => False, rfl, ?_, ⟨?_, True.intro⟩⟩
  · refine And.intro (zDX hd 0 rfl) ⟨_, (zWi (zRb rfl)), ?_⟩
    refine ⟨((13 - (0 : Nat)), 0, 0), [some (zvr (k)), some (zvi (n)), some (zvi (0)), some (zvi ((0 : Nat)))], ⟨rfl, rfl, (congrArg (fun z => some (zvi z)) (by omega)), rfl, rfl⟩, 0, rfl, rfl, rfl, rfl, rfl, rfl, (by omega), rfl, (fun c j h0 => (zxcj h0 rfl))⟩
  · rintro nM lsM stM I1 L1 R1 S1 hz1 ⟨j, rfl, rfl, rfl, rfl, rfl, rfl, hj, hz, fr⟩
    refine And.intro (zDX hd 0 rfl) (zrd (v := (bnn s)) ((fr k 5 (by omega)).trans hbn) ?_)
    refine And.intro ⟨(by omega), (by omega)⟩ ⟨fun h14 => ?_, fun h14 => ?_⟩
    · refine hQ _ _ ?_ (fun c j h0 => ((fr c j h0).trans rfl))
      · first
        | (refine Or.inl ⟨rfl, ?_⟩
           obtain rfl : j = bnn s := (by omega)
           exact hz)
        | (refine Or.inr ⟨⟨by omega, by omega⟩, ?_⟩
           have w : bOpn s (j + 1) ≤ bOpn s (bnn s) := bOpn_mo (by omega)
           have hsx : bOpn s (j + 1) = bOpn s j + (if 0 < bN s j 1 ∧ bN s j 2 ≠ 1 then 1 else 0) := rfl
           rcases p23hv with w2 | w2
           · rw [if_pos w2.2] at hsx
             omega
           · exfalso; omega)
    · refine And.intro (by omega) ⟨(fun h18 => False.elim (by omega)), fun h18 => ?_⟩
      refine And.intro (zDX hd 0 rfl) ⟨_, sn_G_open.up (by decide), ?_⟩
      refine ⟨k, (-1), s, j, (j : Int), rfl, hd, (by first | exact (zBB_fr hBB (fun c j h => ((fr c j (by omega)).trans rfl)) (fun c j h => rfl)) | (clear hQ; grind [xu])), (by first | exact hGd | (clear hQ; grind [xu])), ⟨rfl, by omega⟩, ?_⟩
      intro v23o p23hv
      refine And.intro (by omega) ⟨fun h26 => ?_, fun h26 => ?_⟩
      · refine And.intro (zRb rfl) (zbf rfl ?_)
        refine hQ _ _ ?_ (fun c j h0 => ((fr c j h0).trans rfl))
        · first
          | (refine Or.inl ⟨rfl, ?_⟩
             obtain rfl : j = bnn s := (by omega)
             exact hz)
          | (refine Or.inr ⟨⟨by omega, by omega⟩, ?_⟩
             have w : bOpn s (j + 1) ≤ bOpn s (bnn s) := bOpn_mo (by omega)
             have hsx : bOpn s (j + 1) = bOpn s j + (if 0 < bN s j 1 ∧ bN s j 2 ≠ 1 then 1 else 0) := rfl
             rcases p23hv with w2 | w2
             · rw [if_pos w2.2] at hsx
               omega
             · exfalso; omega)
      · refine ⟨((13 - (j + 1)), 0, 0), zlt6 (by omega), [some (zvr (k)), some (zvi (n)), some (zvi (0)), some (zvi ((j + 1)))], ⟨rfl, rfl, rfl, rfl, rfl⟩, (j + 1), rfl, rfl, rfl, rfl, rfl, rfl, (by omega), ?_, (fun c j h0 => ((fr c j h0).trans rfl))⟩
        · have hsx : bOpn s (j + 1) = bOpn s j + (if 0 < bN s j 1 ∧ bN s j 2 ≠ 1 then 1 else 0) := rfl
          rcases p23hv with w | w
          · exfalso; omega
          · rw [hsx, if_neg w.2, hz])
