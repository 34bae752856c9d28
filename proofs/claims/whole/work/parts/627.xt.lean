/-! xt -/
def T_X_nea : ZT := fun args I L R S Q => ∃ (k : Nat) (w : List CuR), args = [zvr k] ∧ (zSh S) ∧ (zRs R) ∧ (zDy zT16 zF16 k R S) ∧ (zDh k w I L) ∧ (w.length ≤ 60) ∧ (cuG w) ∧ (I k 13 = cuHc w) ∧ (∀ p : Nat, p < cuHc w → I (k + 13) p = p) ∧ (8 < cuHc w) ∧ ∀ (I' : ZI), (∀ p : Nat, p < cuHc w → I' (k + 14) p = cuOr w p) → (∀ c j : Nat, ¬ c = k + 13 → ¬ c = k + 14 → I' c j = I c j) → Q none I' L R S
theorem sn_X_nea : ZSnd 4 16 20 T_X_nea := ZSnd.loops (zT16_20 3) (by
  rintro args I L R S Q hz ⟨k, w, rfl, hS, hR, hd, hDh, hl, hG, h13, hrow0, h8, hQ⟩
  have hk5 := hd.1
  obtain ⟨⟨hh4, hh1⟩, hhi⟩ := id hDh
  have hc60 := cuHc_l hl
  refine ⟨[4, 17], fun nM tM lsM stM I1 L1 R1 S1 => match tM with
      | 4 => ∃ (f : Int) (i : Nat), nM = ((61 - i), 99, 0) ∧ lsM = [some (zvr (k)), some (zvi (f)), some (zvi (i)), none, none] ∧ stM = [] ∧ L1 = L ∧ R1 = R ∧ S1 = S ∧ (i ≤ cuHc w) ∧ (f = (cuMn w (cuHc w) i).1) ∧ (f = -1 ∨ (0 ≤ f ∧ f < cuHc w)) ∧ (zVr (cuHc w) (cuMn w (cuHc w) i).2 (I1 (k + 13))) ∧ (∀ p : Nat, p < i → I1 (k + 14) p = (cuMn w (cuHc w) (p + 1)).1) ∧ (∀ c j : Nat, ¬ c = k + 13 → ¬ c = k + 14 → I1 c j = I c j)
      | 17 => ∃ (f : Int) (i : Nat) (r : Int) (n : Nat), nM = ((61 - i), (61 - n), 0) ∧ lsM = [some (zvr (k)), some (zvi (f)), some (zvi (i)), some (zvi (r)), some (zvi (n))] ∧ stM = [] ∧ L1 = L ∧ R1 = R ∧ S1 = S ∧ (i < cuHc w) ∧ (n ≤ cuHc w) ∧ (f = (cuMn w (cuHc w) i).1) ∧ (f = -1 ∨ (0 ≤ f ∧ f < cuHc w)) ∧ (r = cuMg (cuMn w (cuHc w) i).2 (cuWy w (cuMn w (cuHc w) i).1) n) ∧ (r = -1 ∨ (0 ≤ r ∧ r < n)) ∧ (zVr (cuHc w) (cuMn w (cuHc w) i).2 (I1 (k + 13))) ∧ (∀ p : Nat, p < i → I1 (k + 14) p = (cuMn w (cuHc w) (p + 1)).1) ∧ (∀ c j : Nat, ¬ c = k + 13 → ¬ c = k + 14 → I1 c j = I c j)
      | _ => False, rfl, ?_, ⟨?_, ?_, True.intro⟩⟩
  · refine ⟨((61 - (0 : Nat)), 99, 0), [some (zvr (k)), some (zvi (((-1) : Int))), some (zvi ((0 : Nat))), none, none], ⟨rfl, (congrArg (fun z => some (zvi z)) (by omega)), rfl, rfl⟩, (-1), 0, rfl, rfl, rfl, rfl, rfl, rfl, (by omega), rfl, (by clear hQ; grind [xu]), (zVr_0 hrow0), (fun p h => absurd h (Nat.not_lt_zero p)), (fun c j h0 h1 => rfl)⟩
  · rintro nM lsM stM I1 L1 R1 S1 hz1 ⟨f, i, rfl, rfl, rfl, rfl, rfl, rfl, hi, hf, hf2, hrow, ho, fr⟩
    refine And.intro (zDX hd 0 rfl) (zrd (v := (cuHc w)) ((fr k 13 (by omega) (by omega)).trans h13) ?_)
    refine And.intro ⟨(by omega), (by omega)⟩ ⟨fun h9 => ?_, fun h9 => ?_⟩
    · refine hQ _ (fun p hp => by unfold cuOr; rw [if_neg (by omega)]; exact ho p (by omega)) (fun c j h0 h1 => ((fr c j h0 h1).trans rfl))
    · refine ⟨((61 - i), (61 - (0 : Nat)), 0), zlt6 (by omega), [some (zvr (k)), some (zvi (f)), some (zvi (i)), some (zvi (((-1) : Int))), some (zvi ((0 : Nat)))], ⟨rfl, rfl, rfl, (congrArg (fun z => some (zvi z)) (by omega)), rfl, rfl⟩, f, i, (-1), 0, rfl, rfl, rfl, rfl, rfl, rfl, (by omega), (by omega), hf, (by first | exact hf2 | (clear hQ; grind [xu])), rfl, (by clear hQ; grind [xu]), hrow, ho, (fun c j h0 h1 => ((fr c j h0 h1).trans rfl))⟩
  · rintro nM lsM stM I1 L1 R1 S1 hz1 ⟨f, i, r, n, rfl, rfl, rfl, rfl, rfl, rfl, hi, hn, hf, hf2, hr, hr2, hrow, ho, fr⟩
    have hrb := cuMg_b (U := (cuMn w (cuHc w) i).2) (g := (cuWy w (cuMn w (cuHc w) i).1)) n
    have hib := (cuMn_b (w := w) (N := cuHc w) (i := i + 1) (by omega)).2 (by omega)
    have hie : (cuMn w (cuHc w) (i + 1)).1 = cuMg (cuMn w (cuHc w) i).2 (cuWy w (cuMn w (cuHc w) i).1) (cuHc w) := rfl
    refine And.intro (zDX hd 0 rfl) (zrd (v := (cuHc w)) ((fr k 13 (by omega) (by omega)).trans h13) ?_)
    refine And.intro ⟨(by omega), (by omega)⟩ ⟨fun h23 => ?_, fun h23 => ?_⟩
    · have t23 : r = cuMg (cuMn w (cuHc w) i).2 (cuWy w (cuMn w (cuHc w) i).1) (cuHc w) ∧ 0 ≤ r := (by have e : n = cuHc w := (by omega); have z := hr; rw [e] at z; exact ⟨z, by rw [hie, ← z] at hib; exact hib.1⟩)
      have t23b : I1 (k + 13) r.toNat = r.toNat := (zVr_u hrow (by omega) (by rcases hrb with z | z; (exfalso; omega); (rw [hr]; exact z.2.2)))
      refine And.intro (zDX hd 0 rfl) (zrdR (v := some (k + 14)) (zDR hd 13 rfl) ?_)
      refine And.intro (zDX hd 0 rfl) (zrdR (v := some (k + 13)) (zDR hd 12 rfl) ?_)
      refine And.intro (zDP hd 13 rfl rfl (by omega) (by omega)) (fun v91 e91 r91 => ?_)
      have f91 : v91 = I1 (k + 13) r.toNat := (e91.trans (congrArg (I1 (k + 13)) (show _ = r.toNat by omega)))
      have f91b : -1 ≤ v91 ∧ v91 ≤ 59 := (by have z := zVr_v hrow (show r.toNat < cuHc w by omega); omega)
      refine And.intro ⟨(by show 40 ≤ _; omega), (zDP hd 14 rfl rfl (by omega) (by omega))⟩ ⟨_, (zWi r91), ?_⟩
      refine And.intro (zDX hd 0 rfl) (zrdR (v := some (k + 13)) (zDR hd 12 rfl) ?_)
      refine And.intro (zDP hd 13 rfl rfl (by omega) (by omega)) (fun v98 e98 r98 => ?_)
      have f98 : v98 = I1 (k + 13) r.toNat := (by refine Eq.trans e98 ?_; repeat (first | exact congrArg (I1 (k + 13)) (show _ = r.toNat by omega) | refine zxu (by omega) ?_))
      have f98b : v98 = r := (by omega)
      refine And.intro (zDX hd 0 rfl) (zrdR (v := some (k + 13)) (zDR hd 12 rfl) ?_)
      refine And.intro ⟨(by show 40 ≤ _; omega), (zDP hd 13 rfl rfl (by omega) (by omega))⟩ ⟨_, (zWi (zRb rfl)), ?_⟩
      refine ⟨((61 - (i + 1)), 99, 0), zlt6 (by omega), [some (zvr (k)), some (zvi (r)), some (zvi ((i + 1))), none, none], ⟨rfl, (congrArg (fun z => some (zvi z)) (by omega)), rfl, rfl⟩, r, (i + 1), rfl, rfl, rfl, rfl, rfl, rfl, (by omega), t23.1, (by first | exact hf2 | (clear hQ; grind [xu])), (by show zVr (cuHc w) (fun x : Nat => (cuMn w (cuHc w) i).2 x ∨ (x : Int) = cuMg (cuMn w (cuHc w) i).2 (cuWy w (cuMn w (cuHc w) i).1) (cuHc w)) _; rw [← t23.1]; exact zVr_s hrow t23.2 (zxe' (by omega)) (fun x hx => zxs (by omega) (zxu (by omega) rfl))), ?_, (fun c j h0 h1 => (zxu h0 (zxu h1 ((fr c j h0 h1).trans rfl))))⟩
      · intro p hp
        by_cases e : p = i
        · subst e
          refine zxu (by omega) ((zxe' (by omega)).trans ?_)
          rw [hie, ← t23.1]
          omega
        · exact zxu (by omega) (zxs (by omega) (ho p (by omega)))
    · refine And.intro (zDX hd 0 rfl) (zrdR (v := some (k + 13)) (zDR hd 12 rfl) ?_)
      refine And.intro (zDP hd 13 rfl rfl (by omega) (by omega)) (fun v32 e32 r32 => ?_)
      have f32 : v32 = I1 (k + 13) n := (e32.trans (congrArg (I1 (k + 13)) (show _ = n by omega)))
      have f32b : -1 ≤ v32 ∧ v32 ≤ 59 := (by have z := zVr_v hrow (show n < cuHc w by omega); omega)
      refine And.intro ⟨r32, (zRb rfl)⟩ ⟨fun h34 => ?_, fun h34 => ?_⟩
      · have t34 : ¬ (cuMn w (cuHc w) i).2 n := (zVr_n hrow (by omega) (by omega))
        have t34b : I1 (k + 13) n = n := (zVr_u hrow (by omega) t34)
        refine And.intro ⟨(by omega), (zRb rfl)⟩ ⟨fun h42 => ?_, fun h42 => ?_⟩
        · refine ⟨((61 - i), (61 - (n + 1)), 0), zlt6 (by omega), [some (zvr (k)), some (zvi (f)), some (zvi (i)), some (zvi (n)), some (zvi ((n + 1)))], ⟨rfl, rfl, rfl, rfl, rfl, rfl⟩, f, i, n, (n + 1), rfl, rfl, rfl, rfl, rfl, rfl, (by omega), (by omega), hf, (by first | exact hf2 | (clear hQ; grind [xu])), ?_, (by first | exact hr2 | (clear hQ; grind [xu])), hrow, ho, (fun c j h0 h1 => ((fr c j h0 h1).trans rfl))⟩
          · first
            | exact hr.trans (cuMg_n (fun q => q.1 t34)).symm
            | exact Eq.symm (cuMg_y ⟨t34, Or.inl (by omega)⟩)
            | exact Eq.symm (cuMg_y ⟨t34, Or.inr (by rw [← hr, ← hf, ← p54hv, ← p65hv]; omega)⟩)
            | (rw [cuMg_n]
               · exact hr
               · rintro ⟨_, q | q⟩
                 · omega
                 · rw [← hr, ← hf, ← p54hv, ← p65hv] at q; omega)
        · have t42 : I1 (k + 13) r.toNat = r.toNat := (zVr_u hrow (by omega) (by rcases hrb with z | z; (exfalso; omega); (rw [hr]; exact z.2.2)))
          refine And.intro (zDX hd 0 rfl) (zrdR (v := some (k + 13)) (zDR hd 12 rfl) ?_)
          refine And.intro (zDP hd 13 rfl rfl (by omega) (by omega)) (fun v53 e53 r53 => ?_)
          have f53 : v53 = I1 (k + 13) n := (e53.trans (congrArg (I1 (k + 13)) (show _ = n by omega)))
          have f53b : -1 ≤ v53 ∧ v53 ≤ 59 := (by have z := zVr_v hrow (show n < cuHc w by omega); omega)
          refine And.intro (zDX hd 0 rfl) ⟨_, sn_X_way.up (by decide), ?_⟩
          refine ⟨_, w, f, (v53 : Int), n, rfl, hS, hR, hd, (by first | exact (zDh_fr hDh (fun c j h => ((fr c j (by omega) (by omega)).trans rfl)) (fun c j h => rfl)) | (clear hQ; grind [xu])), (by omega), (by clear hQ; grind [xu]), (by omega), (by first | exact hG | (clear hQ; grind [xu])), ?_⟩
          intro v54o p54hv p54bhv2
          refine And.intro (zDX hd 0 rfl) (zrdR (v := some (k + 13)) (zDR hd 12 rfl) ?_)
          refine And.intro (zDP hd 13 rfl rfl (by omega) (by omega)) (fun v64 e64 r64 => ?_)
          have f64 : v64 = I1 (k + 13) r.toNat := (e64.trans (congrArg (I1 (k + 13)) (show _ = r.toNat by omega)))
          have f64b : -1 ≤ v64 ∧ v64 ≤ 59 := (by have z := zVr_v hrow (show r.toNat < cuHc w by omega); omega)
          refine And.intro (zDX hd 0 rfl) ⟨_, sn_X_way.up (by decide), ?_⟩
          refine ⟨_, w, f, (v64 : Int), r.toNat, rfl, hS, hR, hd, (by first | exact (zDh_fr hDh (fun c j h => ((fr c j (by omega) (by omega)).trans rfl)) (fun c j h => rfl)) | (clear hQ; grind [xu])), (by omega), (by clear hQ; grind [xu]), (by omega), (by first | exact hG | (clear hQ; grind [xu])), ?_⟩
          intro v65o p65hv p65bhv2
          refine ⟨_, _, ⟨zW6i (by omega), zW6i (by omega)⟩, fun z68 c68 => ?_⟩
          refine And.intro c68.2.2 ⟨fun h69 => ?_, fun h69 => ?_⟩
          · refine ⟨((61 - i), (61 - (n + 1)), 0), zlt6 (by omega), [some (zvr (k)), some (zvi (f)), some (zvi (i)), some (zvi (r)), some (zvi ((n + 1)))], ⟨rfl, rfl, rfl, rfl, rfl, rfl⟩, f, i, r, (n + 1), rfl, rfl, rfl, rfl, rfl, rfl, (by omega), (by omega), hf, (by first | exact hf2 | (clear hQ; grind [xu])), ?_, (by first | exact hr2 | (clear hQ; grind [xu])), hrow, ho, (fun c j h0 h1 => ((fr c j h0 h1).trans rfl))⟩
            · first
              | exact hr.trans (cuMg_n (fun q => q.1 t34)).symm
              | exact Eq.symm (cuMg_y ⟨t34, Or.inl (by omega)⟩)
              | exact Eq.symm (cuMg_y ⟨t34, Or.inr (by rw [← hr, ← hf, ← p54hv, ← p65hv]; omega)⟩)
              | (rw [cuMg_n]
                 · exact hr
                 · rintro ⟨_, q | q⟩
                   · omega
                   · rw [← hr, ← hf, ← p54hv, ← p65hv] at q; omega)
          · refine ⟨((61 - i), (61 - (n + 1)), 0), zlt6 (by omega), [some (zvr (k)), some (zvi (f)), some (zvi (i)), some (zvi (n)), some (zvi ((n + 1)))], ⟨rfl, rfl, rfl, rfl, rfl, rfl⟩, f, i, n, (n + 1), rfl, rfl, rfl, rfl, rfl, rfl, (by omega), (by omega), hf, (by first | exact hf2 | (clear hQ; grind [xu])), ?_, (by first | exact hr2 | (clear hQ; grind [xu])), hrow, ho, (fun c j h0 h1 => ((fr c j h0 h1).trans rfl))⟩
            · first
              | exact hr.trans (cuMg_n (fun q => q.1 t34)).symm
              | exact Eq.symm (cuMg_y ⟨t34, Or.inl (by omega)⟩)
              | exact Eq.symm (cuMg_y ⟨t34, Or.inr (by rw [← hr, ← hf, ← p54hv, ← p65hv]; omega)⟩)
              | (rw [cuMg_n]
                 · exact hr
                 · rintro ⟨_, q | q⟩
                   · omega
                   · rw [← hr, ← hf, ← p54hv, ← p65hv] at q; omega)
      · have t34 : (cuMn w (cuHc w) i).2 n := (zVr_y hrow (by omega) (by omega))
        refine ⟨((61 - i), (61 - (n + 1)), 0), zlt6 (by omega), [some (zvr (k)), some (zvi (f)), some (zvi (i)), some (zvi (r)), some (zvi ((n + 1)))], ⟨rfl, rfl, rfl, rfl, rfl, rfl⟩, f, i, r, (n + 1), rfl, rfl, rfl, rfl, rfl, rfl, (by omega), (by omega), hf, (by first | exact hf2 | (clear hQ; grind [xu])), ?_, (by first | exact hr2 | (clear hQ; grind [xu])), hrow, ho, (fun c j h0 h1 => ((fr c j h0 h1).trans rfl))⟩
        · first
          | exact hr.trans (cuMg_n (fun q => q.1 t34)).symm
          | exact Eq.symm (cuMg_y ⟨t34, Or.inl (by omega)⟩)
          | exact Eq.symm (cuMg_y ⟨t34, Or.inr (by rw [← hr, ← hf, ← p54hv, ← p65hv]; omega)⟩)
          | (rw [cuMg_n]
             · exact hr
             · rintro ⟨_, q | q⟩
               · omega
               · rw [← hr, ← hf, ← p54hv, ← p65hv] at q; omega))
