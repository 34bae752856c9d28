/-! sto2 -/
def T_A_redo0 : ZT := fun args I L R S Q => ∃ (x : Int) (a : Nat) (s : StS) (g : Nat → Int) (z : Nat), args = [zvr 145, zvi x] ∧ (zSh S) ∧ (zRs R) ∧ (∀ j : Nat, j < 400 → I 146 j = g j) ∧ (x = a) ∧ (I 145 1 = z) ∧ (z ≤ 400 ∧ a ≤ z) ∧ (z = a ∨ (stOk g a s ∧ z < a + stSz g a)) ∧ Q (some (zvi (-1))) I L R S
theorem sn_A_redo0 : ZSnd 3 10 19 T_A_redo0 := ZSnd.of (zT10_19 2) (by
  rintro args I L R S Q hz ⟨x, a, s, g, z, rfl, hS, hR, hlg, hx, hzl, hz4, hok, hQ⟩
  have hsz : z = a ∨ ((g a = 1 ∧ stSz g a = 2 + (g (a + 1)).toNat ∧ 0 ≤ g (a + 1) ∧ g (a + 1) ≤ 24) ∨ (g a = 2 ∧ stSz g a = 2) ∨ (g a = 3 ∧ stSz g a = 1) ∨ (g a = 4 ∧ stSz g a = 2) ∨ (g a = 5 ∧ stSz g a = 1)) := by
    rcases hok with q | q
    · exact Or.inl q
    · right
      rcases stSz_k q.1 with w | w | w | w | w
      · left
        refine ⟨w.1, w.2, ?_⟩
        rcases q.1.2 with u | u | u | u | u <;> omega
      · exact Or.inr (Or.inl w)
      · exact Or.inr (Or.inr (Or.inl w))
      · exact Or.inr (Or.inr (Or.inr (Or.inl w)))
      · exact Or.inr (Or.inr (Or.inr (Or.inr w)))
  have hok2 : z = a ∨ z < a + stSz g a := by rcases hok with q | q; exact Or.inl q; exact Or.inr q.2
  refine And.intro rfl ?_
  refine And.intro (zA_145 hS) (Exists.intro _ (And.intro (zinl_ok (zT10_17 1)) (And.intro rfl ?_)))
  refine And.intro (by omega) ⟨(fun h1_2 => False.elim (by omega)), fun h1_2 => ?_⟩
  refine And.intro (zA_145 hS) (zrd (v := z) hzl ?_)
  refine And.intro ⟨(by omega), (by omega)⟩ ⟨fun h9_2 => ?_, fun h9_2 => ?_⟩
  · refine And.intro (zA_145 hS) (zrdR (v := some 146) (zR_145_0 hR) ?_)
    refine And.intro (zP_146 hS (by omega) (by omega)) (fun v19_2 e19_2 r19_2 => ?_)
    have f19_2 : v19_2 = g a := (e19_2.trans ((congrArg (I 146) (by omega)).trans (hlg a (by omega))))
    refine And.intro r19_2 (And.intro (And.intro (fun h20_2 => ?_) (And.intro (fun h20_2 => ?_) (And.intro (fun h20_2 => ?_) (And.intro (fun h20_2 => ?_) (And.intro (fun h20_2 => ?_) True.intro))))) (fun h20_2 => ?_))
    · refine And.intro (zA_145 hS) (zrd (v := z) hzl ?_)
      refine And.intro ⟨(by omega), (by omega)⟩ ⟨fun h63_2 => ?_, fun h63_2 => ?_⟩
      · refine And.intro ⟨(zRb rfl), (zRb rfl)⟩ (zbt rfl ?_)
        refine hQ 
      · refine And.intro (zA_145 hS) (zrdR (v := some 146) (zR_145_0 hR) ?_)
        refine And.intro (zP_146 hS (by omega) (by omega)) (fun v74_2 e74_2 r74_2 => ?_)
        have f74_2 : v74_2 = g (a + 1) := (e74_2.trans ((congrArg (I 146) (by omega)).trans (hlg (a + 1) (by omega))))
        refine And.intro ⟨(by omega), (zRb rfl)⟩ ⟨fun h8 => ?_, fun h8 => ?_⟩
        · refine hQ 
        · refine And.intro (zA_145 hS) (zrd (v := z) hzl ?_)
          refine And.intro ⟨(by omega), (by omega)⟩ ⟨fun h18 => ?_, fun h18 => ?_⟩
          · exact False.elim (by omega)
          · refine hQ 
    · refine And.intro ⟨(zRb rfl), (zRb rfl)⟩ (zbf rfl ?_)
      refine And.intro (zA_145 hS) (zrd (v := z) hzl ?_)
      refine And.intro ⟨(by omega), (by omega)⟩ ⟨fun h18 => ?_, fun h18 => ?_⟩
      · exact False.elim (by omega)
      · refine hQ 
    · refine And.intro ⟨(zRb rfl), (zRb rfl)⟩ (zbf rfl ?_)
      refine And.intro (zA_145 hS) (zrd (v := z) hzl ?_)
      refine And.intro ⟨(by omega), (by omega)⟩ ⟨fun h18 => ?_, (fun h18 => False.elim (by omega))⟩
      exact False.elim (by omega)
    · refine And.intro ⟨(zRb rfl), (zRb rfl)⟩ (zbf rfl ?_)
      refine And.intro (zA_145 hS) (zrd (v := z) hzl ?_)
      refine And.intro ⟨(by omega), (by omega)⟩ ⟨fun h18 => ?_, fun h18 => ?_⟩
      · exact False.elim (by omega)
      · refine hQ 
    · refine And.intro ⟨(zRb rfl), (zRb rfl)⟩ (zbf rfl ?_)
      refine And.intro (zA_145 hS) (zrd (v := z) hzl ?_)
      refine And.intro ⟨(by omega), (by omega)⟩ ⟨fun h18 => ?_, (fun h18 => False.elim (by omega))⟩
      exact False.elim (by omega)
    · refine And.intro ⟨(zRb rfl), (zRb rfl)⟩ (zbt rfl ?_)
      refine hQ 
  · refine And.intro ⟨(zRb rfl), (zRb rfl)⟩ (zbt rfl ?_)
    refine hQ )
def T_A_reopen : ZT := fun args I L R S Q => ∃ (g : Nat → Int) (m : Nat) (s : StS) (z : Nat) (cr : Nat) (cn : Nat), args = [zvr 145] ∧ (zSh S) ∧ (zRs R) ∧ (zCL g m s z cr cn I) ∧ ∀ (v : Int) (z2 : Nat) (I' : ZI), ((cr = 0 ∧ v = -3 ∧ z2 = z) ∨ (cr = 1 ∧ v = sV s ∧ z2 = (stN g m).1)) → (zCL g m s z2 0 cn I') → (∀ c j : Nat, ¬ c = 147 → ¬ c = 148 → ¬ c = 149 → ¬ c = 150 → ¬ c = 151 → ¬ c = 152 → ¬ (c = 145 ∧ j = 5) → ¬ (c = 145 ∧ j = 9) → ¬ (c = 145 ∧ j = 1) → ¬ (c = 145 ∧ j = 10) → I' c j = I c j) → Q (some (zvi (v))) I' L R S
theorem sn_A_reopen : ZSnd 4 10 18 T_A_reopen := ZSnd.loops (zT10_18 3) (by
  rintro args I L R S Q hz ⟨g, m, s, z, cr, cn, rfl, hS, hR, hCL, hQ⟩
  obtain ⟨hzl, hcr, hcn, hlg, ⟨hc1, hc16, hsm, hLg⟩, h6⟩ := id hCL
  have hz40 := hLg.2.2.1
  have hGm := stN_G hLg.1
  have hm4 : m ≤ 400 := by have w := stN_1 g (Nat.zero_le m); have := hLg.2.1; have := hLg.2.2.1; omega
  refine ⟨[45], fun nM tM lsM stM I1 L1 R1 S1 => match tM with
      | 45 => ∃ (w : Int) (a : Int) (n : Nat), nM = ((401 - n), 0, 0) ∧ lsM = [some (zvr (145)), some (zvi (w)), some (zvi (a)), some (zvi (n))] ∧ stM = [] ∧ L1 = L ∧ R1 = R ∧ S1 = S ∧ (cr = 1) ∧ (n ≤ m + 1) ∧ (r32 w ∧ r32 a) ∧ ((n ≤ m ∧ a = (stN g n).1) ∨ (n = m + 1 ∧ a = -1 ∧ w = (stN g m).1)) ∧ (zCS (stN g (min n m)).2 I1) ∧ (zCY g (stN g (min n m)).2 I1) ∧ (I1 145 10 = 0) ∧ (∀ c j : Nat, ¬ c = 147 → ¬ c = 148 → ¬ c = 149 → ¬ c = 150 → ¬ c = 151 → ¬ c = 152 → ¬ (c = 145 ∧ j = 5) → ¬ (c = 145 ∧ j = 9) → ¬ (c = 145 ∧ j = 10) → I1 c j = I c j)
      | _ => False, rfl, ?_, ⟨?_, True.intro⟩⟩
  · refine And.intro (zA_145 hS) (zrd (v := cr) hcr ?_)
    refine And.intro (by omega) ⟨fun h4 => ?_, fun h4 => ?_⟩
    · refine And.intro ⟨(zA_145 hS), (Or.inl rfl)⟩ ?_
      refine And.intro (zA_145 hS) ⟨_, (zWi (zRb rfl)), ?_⟩
      refine And.intro (zA_145 hS) ⟨_, (zWi (zRb rfl)), ?_⟩
      refine And.intro (zA_145 hS) (zrdR (v := some 151) (zR_145_7 hR) ?_)
      refine And.intro ⟨(zx0 rfl), (zP_151 hS (by omega) (by omega))⟩ ⟨_, (zWi (zRb rfl)), ?_⟩
      refine And.intro (zA_145 hS) (zrdR (v := some 152) (zR_145_8 hR) ?_)
      refine And.intro ⟨(zx0 rfl), Or.inr ⟨(zP_152 hS (by omega) (by omega)), (Or.inl rfl)⟩⟩ ?_
      refine ⟨((401 - (0 : Nat)), 0, 0), [some (zvr (145)), some (zvi ((0 : Int))), some (zvi ((0 : Int))), some (zvi ((0 : Nat)))], ⟨rfl, rfl, rfl, rfl, rfl⟩, 0, 0, 0, rfl, rfl, rfl, rfl, rfl, rfl, (by omega), (by omega), ⟨zRb rfl, zRb rfl⟩, (Or.inl ⟨Nat.zero_le _, rfl⟩), ?_, ?_, rfl, (fun c j h0 h1 h2 h3 h4 h5 h6 h7 h8 => (zxu h5 (zxu h4 (zxcj h7 (zxcj h6 (zxcj h8 rfl))))))⟩
      · rw [show min 0 m = 0 by omega]
        refine ⟨rfl, rfl, fun b hb => absurd hb (Nat.not_lt_zero b), fun v hv => ?_⟩
        obtain rfl : v = 0 := Nat.le_zero.mp hv
        exact ⟨rfl, rfl, fun k hk => absurd hk (Nat.not_lt_zero k)⟩
      · rw [show min 0 m = 0 by omega]
        exact fun b i hb => absurd hb (Nat.not_lt_zero b)
    · refine hQ _ z _ (Or.inl ⟨by omega, rfl, rfl⟩) (by obtain rfl : cr = 0 := (by omega); exact hCL) (fun c j h0 h1 h2 h3 h4 h5 h6 h7 h8 h9 => rfl)
  · rintro nM lsM stM I1 L1 R1 S1 hz1 ⟨w, a, n, rfl, rfl, rfl, rfl, rfl, rfl, hc1r, hn, hrw, ha, hst, hcy, hcr0, fr⟩
    have hs1 : (stN g (n + 1)).1 = (stN g n).1 + stSz g (stN g n).1 := rfl
    refine And.intro ⟨(by omega), (zRb rfl)⟩ ⟨fun h49 => ?_, fun h49 => ?_⟩
    · refine And.intro (zA_145 hS) ⟨_, (zWi (by omega)), ?_⟩
      refine And.intro (zA_145 hS) (fun v77 e77 r77 => ?_)
      refine hQ _ (stN g m).1 _ ?_ ?_ (fun c j h0 h1 h2 h3 h4 h5 h6 h7 h8 h9 => (zxcj h8 ((fr c j (by omega) (by omega) (by omega) (by omega) (by omega) (by omega) (by omega) (by omega) (by omega)).trans rfl)))
      · obtain rfl : n = m + 1 := by omega
        rw [show min (m + 1) m = m by omega] at hst
        refine Or.inr ⟨hc1r, ?_, rfl⟩
        rw [hsm, e77]
        exact hst.2.1
      · obtain rfl : n = m + 1 := by omega
        rw [show min (m + 1) m = m by omega] at hst hcy
        refine ⟨(show w = _ by omega), hcr0, (fr 145 11 (by omega) (by omega) (by omega) (by omega) (by omega) (by omega) (by omega) (by omega) (by omega)).trans hcn, fun j hj => (fr 146 j (by omega) (by omega) (by omega) (by omega) (by omega) (by omega) (by omega) (by omega) (by omega)).trans (hlg j hj), ⟨Nat.zero_le _, hc16, hsm, hLg.1, Nat.le_refl _, hGm.2, Or.inl rfl⟩, fun _ => ⟨rfl, ?_, ?_⟩⟩
        · rw [hsm]
          exact zCS_fr hst (fun c j h => zxcj (by omega) rfl)
        · rw [hsm]
          exact zCY_fr hcy (fun c j h => zxcj (by omega) rfl)
    · refine And.intro ⟨(by omega), (zRb rfl)⟩ ⟨fun h54 => ?_, fun h54 => ?_⟩
      · refine And.intro (zA_145 hS) ⟨_, (zWi (by omega)), ?_⟩
        refine And.intro (zA_145 hS) (fun v77 e77 r77 => ?_)
        refine hQ _ (stN g m).1 _ ?_ ?_ (fun c j h0 h1 h2 h3 h4 h5 h6 h7 h8 h9 => (zxcj h8 ((fr c j (by omega) (by omega) (by omega) (by omega) (by omega) (by omega) (by omega) (by omega) (by omega)).trans rfl)))
        · obtain rfl : n = m + 1 := by omega
          rw [show min (m + 1) m = m by omega] at hst
          refine Or.inr ⟨hc1r, ?_, rfl⟩
          rw [hsm, e77]
          exact hst.2.1
        · obtain rfl : n = m + 1 := by omega
          rw [show min (m + 1) m = m by omega] at hst hcy
          refine ⟨(show w = _ by omega), hcr0, (fr 145 11 (by omega) (by omega) (by omega) (by omega) (by omega) (by omega) (by omega) (by omega) (by omega)).trans hcn, fun j hj => (fr 146 j (by omega) (by omega) (by omega) (by omega) (by omega) (by omega) (by omega) (by omega) (by omega)).trans (hlg j hj), ⟨Nat.zero_le _, hc16, hsm, hLg.1, Nat.le_refl _, hGm.2, Or.inl rfl⟩, fun _ => ⟨rfl, ?_, ?_⟩⟩
          · rw [hsm]
            exact zCS_fr hst (fun c j h => zxcj (by omega) rfl)
          · rw [hsm]
            exact zCY_fr hcy (fun c j h => zxcj (by omega) rfl)
      · rcases (Nat.lt_or_ge n m) with hnm | hnm
        · refine And.intro (zA_145 hS) ⟨_, sn_A_redo.up (by decide), ?_⟩
          refine ⟨(a : Int), (stN g n).1, (stN g n).2, g, z, rfl, hS, hR, (stN_G (fun i hi => hLg.1 i (by omega))).1, (by have q := hst; rw [show min n m = n by omega] at q; exact q), (by have q := hcy; rw [show min n m = n by omega] at q; exact q), (by first | exact hlg | exact (fun j h1 => ((fr 146 _ (by omega) (by omega) (by omega) (by omega) (by omega) (by omega) (by omega) (by omega) (by omega)).trans rfl).trans (hlg j h1)) | (clear hQ; grind [xu])), (by omega), ((fr 145 1 (by omega) (by omega) (by omega) (by omega) (by omega) (by omega) (by omega) (by omega) (by omega)).trans hzl), (by first | exact hLg.1 n hnm | (obtain rfl : n = m := (by omega); rcases hLg.2.2.2 with q | q; exact Or.inl q.symm; exact Or.inr q)), ⟨by have w := stN_1 g (show n + 1 ≤ m from hnm); have := hLg.2.1; omega, hLg.2.2.1⟩, ?_⟩
          intro v61o I61o p61hv p61bhST2 p61bbhCY2 p61bbbfr
          refine ⟨((401 - (n + 1)), 0, 0), zlt6 (by omega), [some (zvr (145)), some (zvi (a)), some (zvi (v61o)), some (zvi ((n + 1)))], ⟨rfl, rfl, rfl, rfl, rfl⟩, a, v61o, (n + 1), rfl, rfl, rfl, rfl, rfl, rfl, (by omega), (by omega), ?_, ?_, ?_, ?_, ((p61bbbfr 145 10 (by omega) (by omega) (by omega) (by omega) (by omega) (by omega) (by omega) (by omega)).trans hcr0), (fun c j h0 h1 h2 h3 h4 h5 h6 h7 h8 => ((p61bbbfr c j (by omega) (by omega) (by omega) (by omega) (by omega) (by omega) (by omega) (by omega)).trans ((fr c j (by omega) (by omega) (by omega) (by omega) (by omega) (by omega) (by omega) (by omega) (by omega)).trans rfl)))⟩
          · have := hGm.2
            have := hLg.2.1
            have := hLg.2.2.1
            first
            | (refine ⟨by omega, ?_⟩
               rw [p61hv]
               have w := stN_1 g (show n + 1 ≤ m from hnm)
               have w2 : (stN g (n + 1)).1 = (stN g n).1 + stSz g (stN g n).1 := rfl
               omega)
            | omega
          · first
            | exact Or.inl ⟨by omega, by rw [p61hv]; omega⟩
            | (right
               obtain rfl : n = m := by omega
               omega)
          · first
            | (rw [show min (n + 1) m = n + 1 by omega]
               exact p61bhST2)
            | (rw [show min (n + 1) m = min n m by omega]
               exact hst)
          · first
            | (rw [show min (n + 1) m = n + 1 by omega]
               exact p61bbhCY2)
            | (rw [show min (n + 1) m = min n m by omega]
               exact hcy)
        · refine And.intro (zA_145 hS) ⟨_, sn_A_redo0.up (by decide), ?_⟩
          refine ⟨(a : Int), (stN g n).1, (stN g n).2, g, z, rfl, hS, hR, (by first | exact hlg | exact (fun j h1 => ((fr 146 _ (by omega) (by omega) (by omega) (by omega) (by omega) (by omega) (by omega) (by omega) (by omega)).trans rfl).trans (hlg j h1)) | (clear hQ; grind [xu])), (by omega), ((fr 145 1 (by omega) (by omega) (by omega) (by omega) (by omega) (by omega) (by omega) (by omega) (by omega)).trans hzl), (by obtain rfl : n = m := (by omega); exact ⟨hLg.2.2.1, hLg.2.1⟩), (by first | exact hLg.1 n hnm | (obtain rfl : n = m := (by omega); rcases hLg.2.2.2 with q | q; exact Or.inl q.symm; exact Or.inr q)), ?_⟩
          refine ⟨((401 - (n + 1)), 0, 0), zlt6 (by omega), [some (zvr (145)), some (zvi (a)), some (zvi ((-1 : Int))), some (zvi ((n + 1)))], ⟨rfl, rfl, rfl, rfl, rfl⟩, a, -1, (n + 1), rfl, rfl, rfl, rfl, rfl, rfl, (by omega), (by omega), ?_, ?_, ?_, ?_, hcr0, (fun c j h0 h1 h2 h3 h4 h5 h6 h7 h8 => ((fr c j (by omega) (by omega) (by omega) (by omega) (by omega) (by omega) (by omega) (by omega) (by omega)).trans rfl))⟩
          · have := hGm.2
            have := hLg.2.1
            have := hLg.2.2.1
            first
            | (refine ⟨by omega, ?_⟩
               rw [p61hv]
               have w := stN_1 g (show n + 1 ≤ m from hnm)
               have w2 : (stN g (n + 1)).1 = (stN g n).1 + stSz g (stN g n).1 := rfl
               omega)
            | omega
          · first
            | exact Or.inl ⟨by omega, by rw [p61hv]; omega⟩
            | (right
               obtain rfl : n = m := by omega
               omega)
          · first
            | (rw [show min (n + 1) m = n + 1 by omega]
               exact p61bhST2)
            | (rw [show min (n + 1) m = min n m by omega]
               exact hst)
          · first
            | (rw [show min (n + 1) m = n + 1 by omega]
               exact p61bbhCY2)
            | (rw [show min (n + 1) m = min n m by omega]
               exact hcy))
def T_A_lose : ZT := fun args I L R S Q => ∃ (g : Nat → Int) (m : Nat) (s : StS) (z : Nat) (cr : Nat) (cn : Nat) (k : Int), args = [zvr 145, zvi k] ∧ (zSh S) ∧ (zRs R) ∧ (zCL g m s z cr cn I) ∧ (r32 k) ∧ ∀ (v : Int) (I' : ZI), (v = stCv z cr cn k) → (if stCv z cr cn k = 0 then zex (fun m' => zCL g m' (stN g m').2 k.toNat 1 (cn + 1) I') else zCL g m s z cr cn I') → (∀ c j : Nat, ¬ (c = 145 ∧ j = 1) → ¬ (c = 145 ∧ j = 10) → ¬ (c = 145 ∧ j = 11) → I' c j = I c j) → Q (some (zvi (v))) I' L R S
theorem sn_A_lose : ZSnd 1 10 13 T_A_lose := ZSnd.of (zT10_13 0) (by
  rintro args I L R S Q hz ⟨g, m, s, z, cr, cn, k, rfl, hS, hR, hCL, rk, hQ⟩
  obtain ⟨hzl, hcr, hcn, hlg, ⟨hc1, hc16, hsm, hLg⟩, h6⟩ := id hCL
  have hz40 := hLg.2.2.1
  refine And.intro rfl ?_
  refine And.intro (zA_145 hS) (zrd (v := cr) hcr ?_)
  refine And.intro (by omega) ⟨fun h4 => ?_, fun h4 => ?_⟩
  · refine And.intro (by omega) ⟨fun h11 => ?_, fun h11 => ?_⟩
    · refine hQ _ _ ?_ ?_ (fun c j h0 h1 h2 => rfl)
      · unfold stCv
        first
        | rw [if_pos (by omega)]
        | rw [if_neg (by omega), if_pos (by omega)]
        | rw [if_neg (by omega), if_neg (by omega), if_pos (by omega)]
        | rw [if_neg (by omega), if_neg (by omega), if_neg (by omega)]
      · first
        | (have e : stCv z cr cn k = -3 := if_pos (by omega)
           rw [if_neg (by rw [e]; decide)]
           exact hCL)
        | (have e : stCv z cr cn k = -2 := (if_neg (by omega)).trans (if_pos (by omega))
           rw [if_neg (by rw [e]; decide)]
           exact hCL)
        | (have e : stCv z cr cn k = -1 := (if_neg (by omega)).trans ((if_neg (by omega)).trans (if_pos (by omega)))
           rw [if_neg (by rw [e]; decide)]
           exact hCL)
        | (have e : stCv z cr cn k = 0 := (if_neg (by omega)).trans ((if_neg (by omega)).trans (if_neg (by omega)))
           rw [if_pos e]
           obtain ⟨q, hq⟩ := stLg_cut (z' := k.toNat) hLg (by omega)
           exact Exists.intro q ⟨(show k = ((k.toNat : Nat) : Int) by omega), rfl, (show (cn : Int) + 1 = ((cn + 1 : Nat) : Int) by omega), hlg, ⟨Nat.le_refl _, by omega, rfl, hq⟩, fun h => absurd h (by decide)⟩)
    · refine And.intro (zA_145 hS) (zrd (v := z) hzl ?_)
      refine And.intro ⟨(by omega), (by omega)⟩ ⟨fun h19 => ?_, fun h19 => ?_⟩
      · refine And.intro (zA_145 hS) (zrd (v := cn) hcn ?_)
        refine And.intro ⟨(by omega), (zRb rfl)⟩ ⟨fun h31 => ?_, fun h31 => ?_⟩
        · refine And.intro (zA_145 hS) (zrd (v := cn) hcn ?_)
          refine And.intro (zA_145 hS) ⟨_, (zWi (by omega)), ?_⟩
          refine And.intro ⟨(zA_145 hS), (Or.inr rfl)⟩ ?_
          refine And.intro (zA_145 hS) ⟨_, (zWi (by omega)), ?_⟩
          refine hQ _ _ ?_ ?_ (fun c j h0 h1 h2 => (zxcj h0 (zxcj h1 (zxcj h2 rfl))))
          · unfold stCv
            first
            | rw [if_pos (by omega)]
            | rw [if_neg (by omega), if_pos (by omega)]
            | rw [if_neg (by omega), if_neg (by omega), if_pos (by omega)]
            | rw [if_neg (by omega), if_neg (by omega), if_neg (by omega)]
          · first
            | (have e : stCv z cr cn k = -3 := if_pos (by omega)
               rw [if_neg (by rw [e]; decide)]
               exact hCL)
            | (have e : stCv z cr cn k = -2 := (if_neg (by omega)).trans (if_pos (by omega))
               rw [if_neg (by rw [e]; decide)]
               exact hCL)
            | (have e : stCv z cr cn k = -1 := (if_neg (by omega)).trans ((if_neg (by omega)).trans (if_pos (by omega)))
               rw [if_neg (by rw [e]; decide)]
               exact hCL)
            | (have e : stCv z cr cn k = 0 := (if_neg (by omega)).trans ((if_neg (by omega)).trans (if_neg (by omega)))
               rw [if_pos e]
               obtain ⟨q, hq⟩ := stLg_cut (z' := k.toNat) hLg (by omega)
               exact Exists.intro q ⟨(show k = ((k.toNat : Nat) : Int) by omega), rfl, (show (cn : Int) + 1 = ((cn + 1 : Nat) : Int) by omega), hlg, ⟨Nat.le_refl _, by omega, rfl, hq⟩, fun h => absurd h (by decide)⟩)
        · refine hQ _ _ ?_ ?_ (fun c j h0 h1 h2 => rfl)
          · unfold stCv
            first
            | rw [if_pos (by omega)]
            | rw [if_neg (by omega), if_pos (by omega)]
            | rw [if_neg (by omega), if_neg (by omega), if_pos (by omega)]
            | rw [if_neg (by omega), if_neg (by omega), if_neg (by omega)]
          · first
            | (have e : stCv z cr cn k = -3 := if_pos (by omega)
               rw [if_neg (by rw [e]; decide)]
               exact hCL)
            | (have e : stCv z cr cn k = -2 := (if_neg (by omega)).trans (if_pos (by omega))
               rw [if_neg (by rw [e]; decide)]
               exact hCL)
            | (have e : stCv z cr cn k = -1 := (if_neg (by omega)).trans ((if_neg (by omega)).trans (if_pos (by omega)))
               rw [if_neg (by rw [e]; decide)]
               exact hCL)
            | (have e : stCv z cr cn k = 0 := (if_neg (by omega)).trans ((if_neg (by omega)).trans (if_neg (by omega)))
               rw [if_pos e]
               obtain ⟨q, hq⟩ := stLg_cut (z' := k.toNat) hLg (by omega)
               exact Exists.intro q ⟨(show k = ((k.toNat : Nat) : Int) by omega), rfl, (show (cn : Int) + 1 = ((cn + 1 : Nat) : Int) by omega), hlg, ⟨Nat.le_refl _, by omega, rfl, hq⟩, fun h => absurd h (by decide)⟩)
      · refine hQ _ _ ?_ ?_ (fun c j h0 h1 h2 => rfl)
        · unfold stCv
          first
          | rw [if_pos (by omega)]
          | rw [if_neg (by omega), if_pos (by omega)]
          | rw [if_neg (by omega), if_neg (by omega), if_pos (by omega)]
          | rw [if_neg (by omega), if_neg (by omega), if_neg (by omega)]
        · first
          | (have e : stCv z cr cn k = -3 := if_pos (by omega)
             rw [if_neg (by rw [e]; decide)]
             exact hCL)
          | (have e : stCv z cr cn k = -2 := (if_neg (by omega)).trans (if_pos (by omega))
             rw [if_neg (by rw [e]; decide)]
             exact hCL)
          | (have e : stCv z cr cn k = -1 := (if_neg (by omega)).trans ((if_neg (by omega)).trans (if_pos (by omega)))
             rw [if_neg (by rw [e]; decide)]
             exact hCL)
          | (have e : stCv z cr cn k = 0 := (if_neg (by omega)).trans ((if_neg (by omega)).trans (if_neg (by omega)))
             rw [if_pos e]
             obtain ⟨q, hq⟩ := stLg_cut (z' := k.toNat) hLg (by omega)
             exact Exists.intro q ⟨(show k = ((k.toNat : Nat) : Int) by omega), rfl, (show (cn : Int) + 1 = ((cn + 1 : Nat) : Int) by omega), hlg, ⟨Nat.le_refl _, by omega, rfl, hq⟩, fun h => absurd h (by decide)⟩)
  · refine hQ _ _ ?_ ?_ (fun c j h0 h1 h2 => rfl)
    · unfold stCv
      first
      | rw [if_pos (by omega)]
      | rw [if_neg (by omega), if_pos (by omega)]
      | rw [if_neg (by omega), if_neg (by omega), if_pos (by omega)]
      | rw [if_neg (by omega), if_neg (by omega), if_neg (by omega)]
    · first
      | (have e : stCv z cr cn k = -3 := if_pos (by omega)
         rw [if_neg (by rw [e]; decide)]
         exact hCL)
      | (have e : stCv z cr cn k = -2 := (if_neg (by omega)).trans (if_pos (by omega))
         rw [if_neg (by rw [e]; decide)]
         exact hCL)
      | (have e : stCv z cr cn k = -1 := (if_neg (by omega)).trans ((if_neg (by omega)).trans (if_pos (by omega)))
         rw [if_neg (by rw [e]; decide)]
         exact hCL)
      | (have e : stCv z cr cn k = 0 := (if_neg (by omega)).trans ((if_neg (by omega)).trans (if_neg (by omega)))
         rw [if_pos e]
         obtain ⟨q, hq⟩ := stLg_cut (z' := k.toNat) hLg (by omega)
         exact Exists.intro q ⟨(show k = ((k.toNat : Nat) : Int) by omega), rfl, (show (cn : Int) + 1 = ((cn + 1 : Nat) : Int) by omega), hlg, ⟨Nat.le_refl _, by omega, rfl, hq⟩, fun h => absurd h (by decide)⟩))
def T_A_byte : ZT := fun args I L R S Q => ∃ (g : Nat → Int) (m : Nat) (s : StS) (z : Nat) (cr : Nat) (cn : Nat) (e : Int) (i : Int), args = [zvr 145, zvi e, zvi i] ∧ (zSh S) ∧ (zRs R) ∧ (zCL g m s z cr cn I) ∧ (r32 e ∧ r32 i) ∧ ∀ (v : Int), (v = stQ g s cr e i) → Q (some (zvi (v))) I L R S
theorem sn_A_byte : ZSnd 2 10 3 T_A_byte := ZSnd.loops (zT10_3 1) (by
  rintro args I L R S Q hz ⟨g, m, s, z, cr, cn, e, i, rfl, hS, hR, hCL, re, hQ⟩
  obtain ⟨hzl, hcr, hcn, hlg, ⟨hc1, hc16, hsm, hLg⟩, h6⟩ := id hCL
  have hz40 := hLg.2.2.1
  have hGm := stN_G hLg.1
  refine ⟨[26], fun nM tM lsM stM I1 L1 R1 S1 => match tM with
      | 26 => ∃ (x : Int) (k : Nat) (q : Nat), nM = ((9 - k), 0, 0) ∧ lsM = [some (zvr (145)), some (zvi (q)), some (zvi (i)), some (zvi (x)), some (zvi (k)), none] ∧ stM = [] ∧ I1 = I ∧ L1 = L ∧ R1 = R ∧ S1 = S ∧ (cr = 0) ∧ (e = q ∧ 0 ≤ i) ∧ (q ≤ sV s) ∧ (q < sV s) ∧ (k ≤ sC s q) ∧ (0 ≤ x ∧ x ≤ i) ∧ (stQ g s cr e i = stOut g s q (sC s q - k) k x)
      | _ => False, rfl, ?_, ⟨?_, True.intro⟩⟩
  · refine And.intro (zA_145 hS) (zrd (v := cr) hcr ?_)
    refine And.intro (by omega) ⟨fun h4 => ?_, fun h4 => ?_⟩
    · refine hQ _ ?_
      · first
        | (refine (hQ9.trans ?_).symm
           rw [show sC s q - k = sC s q - (k + 1) + 1 by omega]
           refine (if_pos (by omega)).trans ?_
           exact f73.symm)
        | (refine (hQ9.trans ?_).symm
           rw [show sC s q - k = 0 by omega]
           rfl)
        | (unfold stQ
           rw [if_neg (by omega)])
    · refine And.intro (zA_145 hS) (Exists.intro _ (And.intro (zinl_ok (zT10_10 0)) (And.intro rfl ?_)))
      refine And.intro (by omega) ⟨fun h1_9 => ?_, fun h1_9 => ?_⟩
      · refine And.intro (Or.inl rfl) ?_
        refine And.intro (zRb rfl) (zbt rfl ?_)
        refine hQ _ ?_
        · first
          | (refine (hQ9.trans ?_).symm
             rw [show sC s q - k = sC s q - (k + 1) + 1 by omega]
             refine (if_pos (by omega)).trans ?_
             exact f73.symm)
          | (refine (hQ9.trans ?_).symm
             rw [show sC s q - k = 0 by omega]
             rfl)
          | (unfold stQ
             rw [if_neg (by omega)])
      · refine And.intro (zA_145 hS) (fun v6_9 e6_9 r6_9 => ?_)
        have f6_9 : v6_9 = sV s := (e6_9.trans (h6 (by omega)).2.1.2.1)
        refine And.intro ⟨(by omega), r6_9⟩ ⟨fun h9_9 => ?_, fun h9_9 => ?_⟩
        · refine And.intro (Or.inl rfl) ?_
          refine And.intro (zRb rfl) (zbt rfl ?_)
          refine hQ _ ?_
          · first
            | (refine (hQ9.trans ?_).symm
               rw [show sC s q - k = sC s q - (k + 1) + 1 by omega]
               refine (if_pos (by omega)).trans ?_
               exact f73.symm)
            | (refine (hQ9.trans ?_).symm
               rw [show sC s q - k = 0 by omega]
               rfl)
            | (unfold stQ
               rw [if_neg (by omega)])
        · refine And.intro (Or.inr rfl) ?_
          refine And.intro (zRb rfl) (zbf rfl ?_)
          refine And.intro (by omega) ⟨fun h16 => ?_, fun h16 => ?_⟩
          · refine ⟨((9 - (0 : Nat)), 0, 0), [some (zvr (145)), some (zvi (e.toNat)), some (zvi (i)), some (zvi (i)), some (zvi ((0 : Nat))), none], ⟨rfl, (congrArg (fun z => some (zvi z)) (by omega)), rfl, rfl, rfl, rfl⟩, i, 0, e.toNat, rfl, rfl, rfl, rfl, rfl, rfl, rfl, (by omega), (by omega), (by omega), (by omega), (by omega), (by omega), ?_⟩
            · unfold stQ
              rw [if_pos (by omega), Nat.sub_zero]
          · refine hQ _ ?_
            · first
              | (refine (hQ9.trans ?_).symm
                 rw [show sC s q - k = sC s q - (k + 1) + 1 by omega]
                 refine (if_pos (by omega)).trans ?_
                 exact f73.symm)
              | (refine (hQ9.trans ?_).symm
                 rw [show sC s q - k = 0 by omega]
                 rfl)
              | (unfold stQ
                 rw [if_neg (by omega)])
  · rintro nM lsM stM I1 L1 R1 S1 hz1 ⟨x, k, q, rfl, rfl, rfl, rfl, rfl, rfl, rfl, hcr0, hq0, hq, hq9, hk, hx, hQ9⟩
    obtain ⟨he, hST, hCY⟩ := h6 hcr0
    have hG : stG z s := by have w := (stN_G hLg.1).1; rw [← hsm, he] at w; exact w
    obtain ⟨g1, g2, g3, g4⟩ := id hG
    obtain ⟨hsb, hsv, hsl, hsc⟩ := id hST
    have gq := g3 q hq
    have sq := hsc q hq
    refine And.intro (zA_145 hS) (zrdR (v := some 151) (zR_145_7 hR) ?_)
    refine And.intro (zP_151 hS (by omega) (by omega)) (fun v33 e33 r33 => ?_)
    have f33 : v33 = sC s q := (e33.trans sq.1)
    have f33b : v33 ≤ 8 := (by have := gq.1; omega)
    refine And.intro ⟨(by omega), r33⟩ ⟨fun h34 => ?_, fun h34 => ?_⟩
    · refine hQ _ ?_
      · first
        | (refine (hQ9.trans ?_).symm
           rw [show sC s q - k = sC s q - (k + 1) + 1 by omega]
           refine (if_pos (by omega)).trans ?_
           exact f73.symm)
        | (refine (hQ9.trans ?_).symm
           rw [show sC s q - k = 0 by omega]
           rfl)
        | (unfold stQ
           rw [if_neg (by omega)])
    · refine And.intro (zA_145 hS) (zrdR (v := some 150) (zR_145_6 hR) ?_)
      refine And.intro (zP_150 hS (by omega) (by omega)) (fun v48 e48 r48 => ?_)
      have f48 : v48 = sR s q k := (e48.trans ((congrArg (I1 150) (by omega)).trans (sq.2.2 k (by omega))))
      have f48b : v48 < sB s := (by have := gq.2.2 k (by omega); omega)
      have f48bb : v48 ≤ 23 := (by omega)
      refine And.intro (zA_145 hS) (zrdR (v := some 148) (zR_145_3 hR) ?_)
      refine And.intro (zP_148 hS (by omega) (by omega)) (fun v58 e58 r58 => ?_)
      have f58 : v58 = sL s (sR s q k) := (e58.trans ((congrArg (I1 148) (by omega)).trans (hsl (sR s q k) (gq.2.2 k (by omega))).1))
      have f58b : v58 ≤ 24 := (by have := (g4 _ (gq.2.2 k (by omega))).1; omega)
      refine And.intro ⟨(by omega), r58⟩ ⟨fun h59 => ?_, fun h59 => ?_⟩
      · refine And.intro (zA_145 hS) (zrdR (v := some 148) (zR_145_3 hR) ?_)
        refine And.intro (zP_148 hS (by omega) (by omega)) (fun v82 e82 r82 => ?_)
        have f82 : v82 = sL s (sR s q k) := (e82.trans ((congrArg (I1 148) (by omega)).trans (hsl (sR s q k) (gq.2.2 k (by omega))).1))
        refine ⟨((9 - (k + 1)), 0, 0), zlt6 (by omega), [some (zvr (145)), some (zvi (q)), some (zvi (i)), some (zvi ((x - v82))), some (zvi ((k + 1))), none], ⟨rfl, rfl, rfl, rfl, rfl, rfl⟩, (x - v82), (k + 1), q, rfl, rfl, rfl, rfl, rfl, rfl, rfl, (by omega), (by omega), (by omega), (by omega), (by omega), (by omega), ?_⟩
        · refine hQ9.trans ?_
          rw [show sC s q - k = sC s q - (k + 1) + 1 by omega]
          refine (if_neg (by omega)).trans ?_
          rw [f82]
      · refine And.intro (zA_145 hS) (zrdR (v := some 147) (zR_145_2 hR) ?_)
        refine And.intro (zP_147 hS (by omega) (by omega)) (fun v73 e73 r73 => ?_)
        have f73 : v73 = g (sF s (sR s q k) + x.toNat) := (e73.trans ((congrArg (I1 147) (by omega)).trans (hCY (sR s q k) x.toNat (gq.2.2 k (by omega)) (by omega))))
        refine hQ _ ?_
        · first
          | (refine (hQ9.trans ?_).symm
             rw [show sC s q - k = sC s q - (k + 1) + 1 by omega]
             refine (if_pos (by omega)).trans ?_
             exact f73.symm)
          | (refine (hQ9.trans ?_).symm
             rw [show sC s q - k = 0 by omega]
             rfl)
          | (unfold stQ
             rw [if_neg (by omega)]))
def T_A_rec : ZT := fun args I L R S Q => ∃ (g : Nat → Int) (m : Nat) (s : StS) (z : Nat) (cn : Nat) (kd : Int) (w : Int), args = [zvr 145, zvi kd, zvi w] ∧ (zSh S) ∧ (zRs R) ∧ (zCL g m s z 0 cn I) ∧ (stOk (lg2 g z kd w) z s) ∧ (stSz (lg2 g z kd w) z = if w = -1 then 1 else 2) ∧ (r32 kd ∧ r32 w) ∧ ∀ (I' : ZI), (zCL (lg2 g z kd w) (m + 1) (stAct (lg2 g z kd w) z s) (z + stSz (lg2 g z kd w) z) 0 cn I') → (∀ c j : Nat, ¬ c = 146 → ¬ c = 147 → ¬ c = 148 → ¬ c = 149 → ¬ c = 150 → ¬ c = 151 → ¬ c = 152 → ¬ (c = 145 ∧ j = 5) → ¬ (c = 145 ∧ j = 9) → ¬ (c = 145 ∧ j = 1) → I' c j = I c j) → Q none I' L R S
theorem sn_A_rec : ZSnd 4 10 15 T_A_rec := ZSnd.of (zT10_15 3) (by
  rintro args I L R S Q hz ⟨g, m, s, z, cn, kd, w, rfl, hS, hR, hCL, hok, hsz, rk, hQ⟩
  obtain ⟨hzl, hcr, hcn, hlg, ⟨hc1, hc16, hsm, hLg⟩, h6⟩ := id hCL
  have hz40 := hLg.2.2.1
  obtain ⟨he, hST, hCY⟩ := h6 rfl
  have hG : stG z s := by have w := (stN_G hLg.1).1; rw [← hsm, he] at w; exact w
  obtain ⟨g1, g2, g3, g4⟩ := id hG
  obtain ⟨hsb, hsv, hsl, hsc⟩ := id hST
  obtain ⟨y, hy⟩ : ∃ y, y = stSz (lg2 g z kd w) z := ⟨_, rfl⟩
  have hb9 : z + y ≤ 400 := by rw [hy]; exact hok.1
  have hy1 : 1 ≤ y := by rw [hy]; exact stSz_1 _ _
  refine And.intro rfl ?_
  refine And.intro (zA_145 hS) (zrd (v := z) hzl ?_)
  refine And.intro (zA_145 hS) (Exists.intro _ (And.intro (zinl_ok (zT10_1 2)) (And.intro rfl ?_)))
  refine And.intro (zA_145 hS) (zrd (v := z) hzl ?_)
  refine And.intro ⟨(by omega), (zRb rfl)⟩ ⟨(fun h7_7 => False.elim (by omega)), fun h7_7 => ?_⟩
  refine And.intro (zA_145 hS) (zrdR (v := some 146) (zR_145_0 hR) ?_)
  refine And.intro (zA_145 hS) (zrd (v := z) hzl ?_)
  refine And.intro ⟨(zx0 rfl), (zP_146 hS (by omega) (by omega))⟩ ⟨_, (zWi (by omega)), ?_⟩
  refine And.intro (zA_145 hS) (zrd (v := z) hzl ?_)
  refine And.intro (zA_145 hS) ⟨_, (zWi (by omega)), ?_⟩
  refine And.intro ⟨(by omega), (zRb rfl)⟩ ⟨fun h12 => ?_, fun h12 => ?_⟩
  · have t12 : y = 1 := (by rw [hy, hsz, if_pos (by omega)])
    refine And.intro (zA_145 hS) ⟨_, sn_A_redo.up (by decide), ?_⟩
    refine ⟨(z : Int), z, s, (lg2 g z kd w), (z + y), rfl, hS, hR, hG, (by first | exact (zCS_fr hST (fun c j h => (zxcj (by omega) (zxcj (by omega) rfl)))) | (clear hQ; grind [xu])), (zCY_lo (zCY_fr hCY (fun c j h => by have := h; exact (zxcj (by omega) (zxcj (by omega) (by first | exact rfl | exact (zxcj (by omega) (zxcj (by omega) rfl))))))) hG lg2_lo), (fun j hj => by
  unfold lg2
  by_cases e : j = z
  · subst e
    rw [if_pos rfl]
    first
    | exact zxu (by decide) (zxs (by omega) (zxu (by decide) zxe))
    | exact zxu (by decide) zxe
  · rw [if_neg e]
    by_cases e2 : j = z + 1 ∧ w ≠ -1
    · rw [if_pos e2]
      first
      | (rw [show j = ((z : Int) + 1).toNat by omega]; exact zxu (by decide) zxe)
      | (exfalso; omega)
    · rw [if_neg e2]
      first
      | exact zxu (by decide) (zxs (by omega) (zxu (by decide) (zxs (by omega) (hlg j hj))))
      | exact zxu (by decide) (zxs (by omega) (hlg j hj))), (by omega), (by first | (show ((z : Int) + 1 + 1) = ((z + y : Nat) : Int); omega) | (show ((z : Int) + 1) = ((z + y : Nat) : Int); omega)), hok, ⟨by rw [hy]; exact Nat.le_refl _, hb9⟩, ?_⟩
    intro v22o I22o p22hv p22bhST2 p22bbhCY2 p22bbbfr
    refine hQ _ ?_ (fun c j h0 h1 h2 h3 h4 h5 h6 h7 h8 h9 => ((p22bbbfr c j (by omega) (by omega) (by omega) (by omega) (by omega) (by omega) (by omega) (by omega)).trans (zxcj h9 (zxu h0 rfl))))
    · have e10 : I22o 145 1 = ((z + y : Nat) : Int) := by
        refine (p22bbbfr 145 1 (by omega) (by omega) (by omega) (by omega) (by omega) (by omega) (by omega) (by omega)).trans ?_
        first
        | (show ((z : Int) + 1 + 1) = ((z + y : Nat) : Int); omega)
        | (show ((z : Int) + 1) = ((z + y : Nat) : Int); omega)
      refine zCL_add hCL lg2_lo hok rfl (e10.trans (by rw [hy])) (p22bbbfr 145 10 (by omega) (by omega) (by omega) (by omega) (by omega) (by omega) (by omega) (by omega)) (p22bbbfr 145 11 (by omega) (by omega) (by omega) (by omega) (by omega) (by omega) (by omega) (by omega)) (fun j hj => (p22bbbfr 146 j (by omega) (by omega) (by omega) (by omega) (by omega) (by omega) (by omega) (by omega)).trans ?_) p22bhST2 p22bbhCY2
      unfold lg2
      by_cases e : j = z
      · subst e
        rw [if_pos rfl]
        first
        | exact zxu (by decide) (zxs (by omega) (zxu (by decide) zxe))
        | exact zxu (by decide) zxe
      · rw [if_neg e]
        by_cases e2 : j = z + 1 ∧ w ≠ -1
        · rw [if_pos e2]
          first
          | (rw [show j = ((z : Int) + 1).toNat by omega]; exact zxu (by decide) zxe)
          | (exfalso; omega)
        · rw [if_neg e2]
          first
          | exact zxu (by decide) (zxs (by omega) (zxu (by decide) (zxs (by omega) (hlg j hj))))
          | exact zxu (by decide) (zxs (by omega) (hlg j hj))
  · have t12 : y = 2 := (by rw [hy, hsz, if_neg (by omega)])
    refine And.intro (zA_145 hS) (Exists.intro _ (And.intro (zinl_ok (zT10_1 2)) (And.intro rfl ?_)))
    refine And.intro (zA_145 hS) (zrd (v := (z + 1)) rfl ?_)
    refine And.intro ⟨(by omega), (zRb rfl)⟩ ⟨(fun h7_17 => False.elim (by omega)), fun h7_17 => ?_⟩
    refine And.intro (zA_145 hS) (zrdR (v := some 146) (zR_145_0 hR) ?_)
    refine And.intro (zA_145 hS) (zrd (v := (z + 1)) rfl ?_)
    refine And.intro ⟨(zx0 rfl), (zP_146 hS (by omega) (by omega))⟩ ⟨_, (zWi (by omega)), ?_⟩
    refine And.intro (zA_145 hS) (zrd (v := (z + 1)) rfl ?_)
    refine And.intro (zA_145 hS) ⟨_, (zWi (by omega)), ?_⟩
    refine And.intro (zA_145 hS) ⟨_, sn_A_redo.up (by decide), ?_⟩
    refine ⟨(z : Int), z, s, (lg2 g z kd w), (z + y), rfl, hS, hR, hG, (by first | exact (zCS_fr hST (fun c j h => (zxcj (by omega) (zxcj (by omega) (zxcj (by omega) (zxcj (by omega) rfl)))))) | (clear hQ; grind [xu])), (zCY_lo (zCY_fr hCY (fun c j h => by have := h; exact (zxcj (by omega) (zxcj (by omega) (by first | exact rfl | exact (zxcj (by omega) (zxcj (by omega) rfl))))))) hG lg2_lo), (fun j hj => by
  unfold lg2
  by_cases e : j = z
  · subst e
    rw [if_pos rfl]
    first
    | exact zxu (by decide) (zxs (by omega) (zxu (by decide) zxe))
    | exact zxu (by decide) zxe
  · rw [if_neg e]
    by_cases e2 : j = z + 1 ∧ w ≠ -1
    · rw [if_pos e2]
      first
      | (rw [show j = ((z : Int) + 1).toNat by omega]; exact zxu (by decide) zxe)
      | (exfalso; omega)
    · rw [if_neg e2]
      first
      | exact zxu (by decide) (zxs (by omega) (zxu (by decide) (zxs (by omega) (hlg j hj))))
      | exact zxu (by decide) (zxs (by omega) (hlg j hj))), (by omega), (by first | (show ((z : Int) + 1 + 1) = ((z + y : Nat) : Int); omega) | (show ((z : Int) + 1) = ((z + y : Nat) : Int); omega)), hok, ⟨by rw [hy]; exact Nat.le_refl _, hb9⟩, ?_⟩
    intro v22o I22o p22hv p22bhST2 p22bbhCY2 p22bbbfr
    refine hQ _ ?_ (fun c j h0 h1 h2 h3 h4 h5 h6 h7 h8 h9 => ((p22bbbfr c j (by omega) (by omega) (by omega) (by omega) (by omega) (by omega) (by omega) (by omega)).trans (zxcj h9 (zxu h0 (zxcj h9 (zxu h0 rfl))))))
    · have e10 : I22o 145 1 = ((z + y : Nat) : Int) := by
        refine (p22bbbfr 145 1 (by omega) (by omega) (by omega) (by omega) (by omega) (by omega) (by omega) (by omega)).trans ?_
        first
        | (show ((z : Int) + 1 + 1) = ((z + y : Nat) : Int); omega)
        | (show ((z : Int) + 1) = ((z + y : Nat) : Int); omega)
      refine zCL_add hCL lg2_lo hok rfl (e10.trans (by rw [hy])) (p22bbbfr 145 10 (by omega) (by omega) (by omega) (by omega) (by omega) (by omega) (by omega) (by omega)) (p22bbbfr 145 11 (by omega) (by omega) (by omega) (by omega) (by omega) (by omega) (by omega) (by omega)) (fun j hj => (p22bbbfr 146 j (by omega) (by omega) (by omega) (by omega) (by omega) (by omega) (by omega) (by omega)).trans ?_) p22bhST2 p22bbhCY2
      unfold lg2
      by_cases e : j = z
      · subst e
        rw [if_pos rfl]
        first
        | exact zxu (by decide) (zxs (by omega) (zxu (by decide) zxe))
        | exact zxu (by decide) zxe
      · rw [if_neg e]
        by_cases e2 : j = z + 1 ∧ w ≠ -1
        · rw [if_pos e2]
          first
          | (rw [show j = ((z : Int) + 1).toNat by omega]; exact zxu (by decide) zxe)
          | (exfalso; omega)
        · rw [if_neg e2]
          first
          | exact zxu (by decide) (zxs (by omega) (zxu (by decide) (zxs (by omega) (hlg j hj))))
          | exact zxu (by decide) (zxs (by omega) (hlg j hj)))
