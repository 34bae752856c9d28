/-! pv -/
def T_M_put : ZT := fun args I L R S Q => ∃ (k : Nat) (q : Nat) (s : BdS) (d : JdS) (t : Int) (o : Int) (l : Int) (i : Int) (j : Int), args = [zvr 165, zvi t, zvi o, zvi l, zvi i, zvi j] ∧ (zSh S) ∧ (zRs R) ∧ (R 165 12 = some k) ∧ (zDy zT17 zF17 k R S) ∧ (302 ≤ k) ∧ (R 165 13 = some q) ∧ (zDy zT18 zF18 q R S) ∧ (302 ≤ q ∧ q + 23 ≤ k) ∧ (zBB k (-1) s I L) ∧ (bGd s) ∧ (zNJ q d I L) ∧ (jGd d) ∧ (zJO q d I) ∧ (zPB s I) ∧ (∀ x, x < 960 → bnd s x = bDj d x) ∧ ((r32 t ∧ r32 o) ∧ r32 l ∧ r32 i ∧ r32 j) ∧ ∀ (v : Int) (I' : ZI), (v = if 0 ≤ bPutV 1 s t o l i j then bPutV 1 s t o l i j else -1) → (I' 165 0 = if 0 ≤ bPutV 1 s t o l i j then 0 else -(bPutV 1 s t o l i j)) → (zBB k (-1) (bPutS 1 s t o l i j) I' L) → (zPB (bPutS 1 s t o l i j) I') → (∀ c j : Nat, ¬ (c = 165 ∧ j = 0) → ¬ (c = 165 ∧ j = 15) → ¬ (c = 165 ∧ j = 22) → ¬ c = 197 → ¬ c = 198 → ¬ c = 199 → ¬ c = 200 → ¬ c = 201 → ¬ c = 202 → ¬ c = 203 → ¬ (c = q ∧ j = 0) → ¬ (c = k ∧ j = 0) → ¬ (c = k ∧ j = 5) → ¬ c = k + 1 → ¬ c = k + 2 → ¬ c = k + 3 → ¬ c = k + 4 → ¬ c = k + 10 → ¬ c = k + 11 → I' c j = I c j) → Q (some (zvi (v))) I' L R S
theorem sn_M_put : ZSnd 3 21 46 T_M_put := ZSnd.of (zT21_46 2) (by
  rintro args I L R S Q hz ⟨k, q, s, d, t, o, l, i, j, rfl, hS, hR, hg, hd, hk, hpl, hDq, hq, hBB, hGd, hNJ, hJG, hJO, hPB, hbd, hr, hQ⟩
  have hGz := bGd_z hGd
  have esn : bSn s t o = jOf d t o := bSn_j hJG hbd
  obtain ⟨b1, b2, b3, b4⟩ := id hPB
  have gd := hGd.2.1
  refine And.intro rfl ?_
  refine And.intro (zA_165 hS) (zrdR (v := some k) hg ?_)
  refine And.intro (zA_165 hS) (zrdR (v := some q) hpl ?_)
  refine And.intro (zDX hDq 0 rfl) ⟨_, sn_J_netO.up (by decide), ?_⟩
  refine ⟨q, d, (t : Int), (o : Int), rfl, hDq, (by first | exact (zNJ_fr hNJ (fun c j h => rfl) (fun c j h => rfl)) | (clear hQ; grind [xu])), hJG, (by first | exact (zJO_fr hJO (fun c j h => rfl)) | (clear hQ; grind [xu])), hr.1, ?_⟩
  intro v19o I19o p19hv p19bfr
  refine And.intro (zA_165 hS) (zrdR (v := some q) hpl ?_)
  refine And.intro (zDX hDq 0 rfl) (Exists.intro _ (And.intro (zinl_ok (zT18_33 1)) (And.intro rfl ?_)))
  refine And.intro (zDX hDq 0 rfl) (fun v1_28 e1_28 r1_28 => ?_)
  refine And.intro r1_28 ⟨fun h31 => ?_, fun h31 => ?_⟩
  · refine And.intro (zA_165 hS) (Exists.intro _ (And.intro (zinl_ok (zT21_47 1)) (And.intro rfl ?_)))
    refine And.intro (zA_165 hS) ⟨_, (zWi (zRb rfl)), ?_⟩
    refine hQ _ _ ?_ ?_ ?_ ?_ (fun c j h0 h1 h2 h3 h4 h5 h6 h7 h8 h9 h10 h11 h12 h13 h14 h15 h16 h17 h18 => (zxcj h0 ((p19bfr c j (by omega)).trans rfl)))
    · have wq := bRs_w (s := s) (sn := v19o)
      first
      | (have w := bPu1_2 (s := s) (t := t) (o := o) (l := l) (i := i) (j := j) (by first | exact Or.inl (by rw [esn]; omega) | exact Or.inr (by omega))
         rw [w.1]
         rfl)
      | (have w := bPu1_h (s := s) (t := t) (o := o) (l := l) (i := i) (j := j) (fun w => by rcases w with w | w; (rw [esn] at w; omega); omega) (by rcases p59hv with w | w; exact w.2; omega)
         rw [w.1]
         rfl)
      | (have w := bPu1_f (s := s) (t := t) (o := o) (l := l) (i := i) (j := j) (fun w => by rcases w with w | w; (rw [esn] at w; omega); omega) (by rcases p59hv with w | w; omega; exact w.2) (by rw [esn, ← t31.2.2]; omega)
         rw [w.1]
         rfl)
      | (have w := bPu1_n (s := s) (t := t) (o := o) (l := l) (i := i) (j := j) (fun w => by rcases w with w | w; (rw [esn] at w; omega); omega) (by rcases p59hv with w | w; omega; exact w.2) (by rw [esn, ← t31.2.2]; omega) (by rw [esn, ← t31.2.2]; have w := p156hv; rw [wq.1, wq.2.1, wq.2.2.1] at w; rcases w with w | w; omega; exact w.2)
         rw [w.1]
         rfl)
      | (have w := bPu1_y (s := s) (t := t) (o := o) (l := l) (i := i) (j := j) (fun w => by rcases w with w | w; (rw [esn] at w; omega); omega) (by rcases p59hv with w | w; omega; exact w.2) (by rw [esn, ← t31.2.2]; omega) (by rw [esn, ← t31.2.2]; have w := p156hv; rw [wq.1, wq.2.1, wq.2.2.1] at w; rcases w with w | w; exact w.2; omega)
         rw [w.1, if_pos (by omega)]
         omega)
    · have wq := bRs_w (s := s) (sn := v19o)
      first
      | (have w := bPu1_2 (s := s) (t := t) (o := o) (l := l) (i := i) (j := j) (by first | exact Or.inl (by rw [esn]; omega) | exact Or.inr (by omega))
         rw [w.1]
         exact zxe)
      | (have w := bPu1_h (s := s) (t := t) (o := o) (l := l) (i := i) (j := j) (fun w => by rcases w with w | w; (rw [esn] at w; omega); omega) (by rcases p59hv with w | w; exact w.2; omega)
         rw [w.1]
         exact zxe)
      | (have w := bPu1_f (s := s) (t := t) (o := o) (l := l) (i := i) (j := j) (fun w => by rcases w with w | w; (rw [esn] at w; omega); omega) (by rcases p59hv with w | w; omega; exact w.2) (by rw [esn, ← t31.2.2]; omega)
         rw [w.1]
         exact zxe)
      | (have w := bPu1_n (s := s) (t := t) (o := o) (l := l) (i := i) (j := j) (fun w => by rcases w with w | w; (rw [esn] at w; omega); omega) (by rcases p59hv with w | w; omega; exact w.2) (by rw [esn, ← t31.2.2]; omega) (by rw [esn, ← t31.2.2]; have w := p156hv; rw [wq.1, wq.2.1, wq.2.2.1] at w; rcases w with w | w; omega; exact w.2)
         rw [w.1]
         exact zxe)
      | (have w := bPu1_y (s := s) (t := t) (o := o) (l := l) (i := i) (j := j) (fun w => by rcases w with w | w; (rw [esn] at w; omega); omega) (by rcases p59hv with w | w; omega; exact w.2) (by rw [esn, ← t31.2.2]; omega) (by rw [esn, ← t31.2.2]; have w := p156hv; rw [wq.1, wq.2.1, wq.2.2.1] at w; rcases w with w | w; exact w.2; omega)
         rw [w.1, if_pos (by omega)]
         exact zxe)
    · have wq := bRs_w (s := s) (sn := v19o)
      first
      | (have w := bPu1_2 (s := s) (t := t) (o := o) (l := l) (i := i) (j := j) (by first | exact Or.inl (by rw [esn]; omega) | exact Or.inr (by omega))
         rw [w.2]
         exact zBB_fr hBB (fun c j h => (zxcj (by omega) ((p19bfr c j (by omega)).trans rfl))) (fun c j h => rfl))
      | (have w := bPu1_h (s := s) (t := t) (o := o) (l := l) (i := i) (j := j) (fun w => by rcases w with w | w; (rw [esn] at w; omega); omega) (by rcases p59hv with w | w; exact w.2; omega)
         rw [w.2]
         exact zBB_fr hBB (fun c j h => (zxcj (by omega) ((p19bfr c j (by omega)).trans rfl))) (fun c j h => rfl))
      | (have w := bPu1_f (s := s) (t := t) (o := o) (l := l) (i := i) (j := j) (fun w => by rcases w with w | w; (rw [esn] at w; omega); omega) (by rcases p59hv with w | w; omega; exact w.2) (by rw [esn, ← t31.2.2]; omega)
         rw [w.2]
         exact zBB_fr hBB (fun c j h => (zxcj (by omega) ((p19bfr c j (by omega)).trans rfl))) (fun c j h => rfl))
      | (have w := bPu1_n (s := s) (t := t) (o := o) (l := l) (i := i) (j := j) (fun w => by rcases w with w | w; (rw [esn] at w; omega); omega) (by rcases p59hv with w | w; omega; exact w.2) (by rw [esn, ← t31.2.2]; omega) (by rw [esn, ← t31.2.2]; have w := p156hv; rw [wq.1, wq.2.1, wq.2.2.1] at w; rcases w with w | w; omega; exact w.2)
         rw [w.2, esn, ← t31.2.2]
         exact zBB_fr (p156bbhB0 (by omega)) (fun c j h => zxcj (by omega) rfl) (fun c j h => rfl))
      | (have w := bPu1_y (s := s) (t := t) (o := o) (l := l) (i := i) (j := j) (fun w => by rcases w with w | w; (rw [esn] at w; omega); omega) (by rcases p59hv with w | w; omega; exact w.2) (by rw [esn, ← t31.2.2]; omega) (by rw [esn, ← t31.2.2]; have w := p156hv; rw [wq.1, wq.2.1, wq.2.2.1] at w; rcases w with w | w; exact w.2; omega)
         rw [w.2, esn, ← t31.2.2]
         have w5 := p156bhB1 (by omega) t o
         rw [wq.1, wq.2.1, wq.2.2.1] at w5
         exact zBB_fr w5 (fun c j h => (zxu (by omega) (zxu (by omega) (zxu (by omega) (zxu (by omega) (zxu (by omega) (zxu (by omega) (zxu (by omega) (zxu (by omega) rfl))))))))) (fun c j h => rfl))
    · have wq := bRs_w (s := s) (sn := v19o)
      first
      | (have w := bPu1_2 (s := s) (t := t) (o := o) (l := l) (i := i) (j := j) (by first | exact Or.inl (by rw [esn]; omega) | exact Or.inr (by omega))
         rw [w.2]
         exact zPB_fr hPB (fun c j h => (zxcj (by omega) ((p19bfr c j (by omega)).trans rfl))))
      | (have w := bPu1_h (s := s) (t := t) (o := o) (l := l) (i := i) (j := j) (fun w => by rcases w with w | w; (rw [esn] at w; omega); omega) (by rcases p59hv with w | w; exact w.2; omega)
         rw [w.2]
         exact zPB_fr hPB (fun c j h => (zxcj (by omega) ((p19bfr c j (by omega)).trans rfl))))
      | (have w := bPu1_f (s := s) (t := t) (o := o) (l := l) (i := i) (j := j) (fun w => by rcases w with w | w; (rw [esn] at w; omega); omega) (by rcases p59hv with w | w; omega; exact w.2) (by rw [esn, ← t31.2.2]; omega)
         rw [w.2]
         exact zPB_fr hPB (fun c j h => (zxcj (by omega) ((p19bfr c j (by omega)).trans rfl))))
      | (have w := bPu1_n (s := s) (t := t) (o := o) (l := l) (i := i) (j := j) (fun w => by rcases w with w | w; (rw [esn] at w; omega); omega) (by rcases p59hv with w | w; omega; exact w.2) (by rw [esn, ← t31.2.2]; omega) (by rw [esn, ← t31.2.2]; have w := p156hv; rw [wq.1, wq.2.1, wq.2.2.1] at w; rcases w with w | w; omega; exact w.2)
         rw [w.2, esn, ← t31.2.2]
         exact zPB_fr g156 (fun c j h => zxcj (by omega) rfl))
      | (have w := bPu1_y (s := s) (t := t) (o := o) (l := l) (i := i) (j := j) (fun w => by rcases w with w | w; (rw [esn] at w; omega); omega) (by rcases p59hv with w | w; omega; exact w.2) (by rw [esn, ← t31.2.2]; omega) (by rw [esn, ← t31.2.2]; have w := p156hv; rw [wq.1, wq.2.1, wq.2.2.1] at w; rcases w with w | w; exact w.2; omega)
         have e4 : bnp (bRs s v19o) = bnp s := wq.2.2.2.1
         rw [w.2, esn, ← t31.2.2, ← wq.1, ← wq.2.1, ← wq.2.2.1]
         exact zPB_p (s := bRs s v19o) (n := bRn s v19o) (t := t) (o := o) (l := l) (i := i) (j := j) g156 (by rw [wq.1, wq.2.1, wq.2.2.1]; omega) ((zxs (by decide) zxe).trans (by omega)) (zxs (by decide) (zxs (by decide) (zxu (by decide) (zxu (by decide) (zxu (by decide) (zxu (by decide) (zxu (by decide) (zxu (by decide) rfl)))))))) ⟨by rw [e4]; exact (zxu (by omega) (zxu (by omega) (zxu (by omega) (zxu (by omega) (zxu (by omega) (zxu (by omega) (zxu (by omega) (zxe' (by omega))))))))), by rw [e4]; exact (zxu (by omega) (zxu (by omega) (zxu (by omega) (zxu (by omega) (zxu (by omega) (zxu (by omega) (zxe' (by omega)))))))), by rw [e4]; exact (zxu (by omega) (zxu (by omega) (zxu (by omega) (zxu (by omega) (zxu (by omega) (zxe' (by omega))))))), by rw [e4]; exact (zxu (by omega) (zxu (by omega) (zxu (by omega) (zxu (by omega) (zxe' (by omega)))))), by rw [e4]; exact (zxu (by omega) (zxu (by omega) (zxu (by omega) (zxe' (by omega))))), by rw [e4]; exact ((zxu (by omega) (zxu (by omega) (zxe' (by omega))))).trans (by have w := bRs_k (s := s) (sn := v19o); have w0 := w.1; first | (have w3 := w.2.2 (by omega); omega) | (have w3 := w.2.1 (by omega); omega))⟩ (fun c p h1 h2 h3 => by rw [e4] at h3; exact (zxcj (by omega) (zxcj (by omega) (zxcj (by omega) (zxcj (by omega) (zxcj (by omega) (zxcj (by omega) (zxcj (by omega) (zxcj (by omega) rfl))))))))) (fun m => (zxu (by decide) (zxu (by decide) (zxu (by decide) (zxu (by decide) (zxu (by decide) (zxu (by decide) (zxu (by decide) (zxu (by decide) rfl))))))))) (by rw [wq.1, wq.2.1, wq.2.2.1]; omega))
  · have t31 : 0 ≤ v19o ∧ v19o ≤ 959 ∧ v19o = jOf d t o := (by rcases p19hv with w | w; omega; omega)
    refine And.intro (zA_165 hS) (zrdR (v := some k) hg ?_)
    refine And.intro (zDX hd 0 rfl) ⟨_, sn_G_cell.up (by decide), ?_⟩
    refine ⟨k, (-1), s, (l : Int), (i : Int), (j : Int), rfl, hd, (by first | exact (zBB_fr hBB (fun c j h => ((p19bfr c j (by omega)).trans rfl)) (fun c j h => rfl)) | (clear hQ; grind [xu])), (by clear hQ; grind [xu]), hr.2, ?_⟩
    intro v43o p43hv p43bhv2
    refine And.intro ⟨(by omega), (zRb rfl)⟩ ⟨fun h47 => ?_, fun h47 => ?_⟩
    · refine And.intro (zA_165 hS) ⟨_, sn_M_has.up (by decide), ?_⟩
      refine ⟨s, (t : Int), (o : Int), rfl, hS, hR, (by first | exact (zPB_fr hPB (fun c j h => ((p19bfr c j (by omega)).trans rfl))) | (clear hQ; grind [xu])), (by first | exact hGd | (clear hQ; grind [xu])), hr.1, ?_⟩
      intro v59o p59hv p59bhv2
      refine And.intro (by omega) ⟨fun h62 => ?_, fun h62 => ?_⟩
      · refine And.intro (zA_165 hS) ⟨_, sn_M_rto.up (by decide), ?_⟩
        refine ⟨s, (v19o : Int), rfl, hS, hR, (by first | exact (zPB_fr hPB (fun c j h => ((p19bfr c j (by omega)).trans rfl))) | (clear hQ; grind [xu])), (by first | exact hGd | (clear hQ; grind [xu])), (by omega), ?_⟩
        intro v74o p74hv p74bhv2
        refine And.intro (zA_165 hS) (zrd (v := (bnp s)) ((p19bfr 165 15 (by omega)).trans b1) ?_)
        refine And.intro ⟨(by omega), (zRb rfl)⟩ ⟨fun h85 => ?_, fun h85 => ?_⟩
        · refine And.intro (zA_165 hS) (Exists.intro _ (And.intro (zinl_ok (zT21_47 1)) (And.intro rfl ?_)))
          refine And.intro (zA_165 hS) ⟨_, (zWi (zRb rfl)), ?_⟩
          refine hQ _ _ ?_ ?_ ?_ ?_ (fun c j h0 h1 h2 h3 h4 h5 h6 h7 h8 h9 h10 h11 h12 h13 h14 h15 h16 h17 h18 => (zxcj h0 ((p19bfr c j (by omega)).trans rfl)))
          · have wq := bRs_w (s := s) (sn := v19o)
            first
            | (have w := bPu1_2 (s := s) (t := t) (o := o) (l := l) (i := i) (j := j) (by first | exact Or.inl (by rw [esn]; omega) | exact Or.inr (by omega))
               rw [w.1]
               rfl)
            | (have w := bPu1_h (s := s) (t := t) (o := o) (l := l) (i := i) (j := j) (fun w => by rcases w with w | w; (rw [esn] at w; omega); omega) (by rcases p59hv with w | w; exact w.2; omega)
               rw [w.1]
               rfl)
            | (have w := bPu1_f (s := s) (t := t) (o := o) (l := l) (i := i) (j := j) (fun w => by rcases w with w | w; (rw [esn] at w; omega); omega) (by rcases p59hv with w | w; omega; exact w.2) (by rw [esn, ← t31.2.2]; omega)
               rw [w.1]
               rfl)
            | (have w := bPu1_n (s := s) (t := t) (o := o) (l := l) (i := i) (j := j) (fun w => by rcases w with w | w; (rw [esn] at w; omega); omega) (by rcases p59hv with w | w; omega; exact w.2) (by rw [esn, ← t31.2.2]; omega) (by rw [esn, ← t31.2.2]; have w := p156hv; rw [wq.1, wq.2.1, wq.2.2.1] at w; rcases w with w | w; omega; exact w.2)
               rw [w.1]
               rfl)
            | (have w := bPu1_y (s := s) (t := t) (o := o) (l := l) (i := i) (j := j) (fun w => by rcases w with w | w; (rw [esn] at w; omega); omega) (by rcases p59hv with w | w; omega; exact w.2) (by rw [esn, ← t31.2.2]; omega) (by rw [esn, ← t31.2.2]; have w := p156hv; rw [wq.1, wq.2.1, wq.2.2.1] at w; rcases w with w | w; exact w.2; omega)
               rw [w.1, if_pos (by omega)]
               omega)
          · have wq := bRs_w (s := s) (sn := v19o)
            first
            | (have w := bPu1_2 (s := s) (t := t) (o := o) (l := l) (i := i) (j := j) (by first | exact Or.inl (by rw [esn]; omega) | exact Or.inr (by omega))
               rw [w.1]
               exact zxe)
            | (have w := bPu1_h (s := s) (t := t) (o := o) (l := l) (i := i) (j := j) (fun w => by rcases w with w | w; (rw [esn] at w; omega); omega) (by rcases p59hv with w | w; exact w.2; omega)
               rw [w.1]
               exact zxe)
            | (have w := bPu1_f (s := s) (t := t) (o := o) (l := l) (i := i) (j := j) (fun w => by rcases w with w | w; (rw [esn] at w; omega); omega) (by rcases p59hv with w | w; omega; exact w.2) (by rw [esn, ← t31.2.2]; omega)
               rw [w.1]
               exact zxe)
            | (have w := bPu1_n (s := s) (t := t) (o := o) (l := l) (i := i) (j := j) (fun w => by rcases w with w | w; (rw [esn] at w; omega); omega) (by rcases p59hv with w | w; omega; exact w.2) (by rw [esn, ← t31.2.2]; omega) (by rw [esn, ← t31.2.2]; have w := p156hv; rw [wq.1, wq.2.1, wq.2.2.1] at w; rcases w with w | w; omega; exact w.2)
               rw [w.1]
               exact zxe)
            | (have w := bPu1_y (s := s) (t := t) (o := o) (l := l) (i := i) (j := j) (fun w => by rcases w with w | w; (rw [esn] at w; omega); omega) (by rcases p59hv with w | w; omega; exact w.2) (by rw [esn, ← t31.2.2]; omega) (by rw [esn, ← t31.2.2]; have w := p156hv; rw [wq.1, wq.2.1, wq.2.2.1] at w; rcases w with w | w; exact w.2; omega)
               rw [w.1, if_pos (by omega)]
               exact zxe)
          · have wq := bRs_w (s := s) (sn := v19o)
            first
            | (have w := bPu1_2 (s := s) (t := t) (o := o) (l := l) (i := i) (j := j) (by first | exact Or.inl (by rw [esn]; omega) | exact Or.inr (by omega))
               rw [w.2]
               exact zBB_fr hBB (fun c j h => (zxcj (by omega) ((p19bfr c j (by omega)).trans rfl))) (fun c j h => rfl))
            | (have w := bPu1_h (s := s) (t := t) (o := o) (l := l) (i := i) (j := j) (fun w => by rcases w with w | w; (rw [esn] at w; omega); omega) (by rcases p59hv with w | w; exact w.2; omega)
               rw [w.2]
               exact zBB_fr hBB (fun c j h => (zxcj (by omega) ((p19bfr c j (by omega)).trans rfl))) (fun c j h => rfl))
            | (have w := bPu1_f (s := s) (t := t) (o := o) (l := l) (i := i) (j := j) (fun w => by rcases w with w | w; (rw [esn] at w; omega); omega) (by rcases p59hv with w | w; omega; exact w.2) (by rw [esn, ← t31.2.2]; omega)
               rw [w.2]
               exact zBB_fr hBB (fun c j h => (zxcj (by omega) ((p19bfr c j (by omega)).trans rfl))) (fun c j h => rfl))
            | (have w := bPu1_n (s := s) (t := t) (o := o) (l := l) (i := i) (j := j) (fun w => by rcases w with w | w; (rw [esn] at w; omega); omega) (by rcases p59hv with w | w; omega; exact w.2) (by rw [esn, ← t31.2.2]; omega) (by rw [esn, ← t31.2.2]; have w := p156hv; rw [wq.1, wq.2.1, wq.2.2.1] at w; rcases w with w | w; omega; exact w.2)
               rw [w.2, esn, ← t31.2.2]
               exact zBB_fr (p156bbhB0 (by omega)) (fun c j h => zxcj (by omega) rfl) (fun c j h => rfl))
            | (have w := bPu1_y (s := s) (t := t) (o := o) (l := l) (i := i) (j := j) (fun w => by rcases w with w | w; (rw [esn] at w; omega); omega) (by rcases p59hv with w | w; omega; exact w.2) (by rw [esn, ← t31.2.2]; omega) (by rw [esn, ← t31.2.2]; have w := p156hv; rw [wq.1, wq.2.1, wq.2.2.1] at w; rcases w with w | w; exact w.2; omega)
               rw [w.2, esn, ← t31.2.2]
               have w5 := p156bhB1 (by omega) t o
               rw [wq.1, wq.2.1, wq.2.2.1] at w5
               exact zBB_fr w5 (fun c j h => (zxu (by omega) (zxu (by omega) (zxu (by omega) (zxu (by omega) (zxu (by omega) (zxu (by omega) (zxu (by omega) (zxu (by omega) rfl))))))))) (fun c j h => rfl))
          · have wq := bRs_w (s := s) (sn := v19o)
            first
            | (have w := bPu1_2 (s := s) (t := t) (o := o) (l := l) (i := i) (j := j) (by first | exact Or.inl (by rw [esn]; omega) | exact Or.inr (by omega))
               rw [w.2]
               exact zPB_fr hPB (fun c j h => (zxcj (by omega) ((p19bfr c j (by omega)).trans rfl))))
            | (have w := bPu1_h (s := s) (t := t) (o := o) (l := l) (i := i) (j := j) (fun w => by rcases w with w | w; (rw [esn] at w; omega); omega) (by rcases p59hv with w | w; exact w.2; omega)
               rw [w.2]
               exact zPB_fr hPB (fun c j h => (zxcj (by omega) ((p19bfr c j (by omega)).trans rfl))))
            | (have w := bPu1_f (s := s) (t := t) (o := o) (l := l) (i := i) (j := j) (fun w => by rcases w with w | w; (rw [esn] at w; omega); omega) (by rcases p59hv with w | w; omega; exact w.2) (by rw [esn, ← t31.2.2]; omega)
               rw [w.2]
               exact zPB_fr hPB (fun c j h => (zxcj (by omega) ((p19bfr c j (by omega)).trans rfl))))
            | (have w := bPu1_n (s := s) (t := t) (o := o) (l := l) (i := i) (j := j) (fun w => by rcases w with w | w; (rw [esn] at w; omega); omega) (by rcases p59hv with w | w; omega; exact w.2) (by rw [esn, ← t31.2.2]; omega) (by rw [esn, ← t31.2.2]; have w := p156hv; rw [wq.1, wq.2.1, wq.2.2.1] at w; rcases w with w | w; omega; exact w.2)
               rw [w.2, esn, ← t31.2.2]
               exact zPB_fr g156 (fun c j h => zxcj (by omega) rfl))
            | (have w := bPu1_y (s := s) (t := t) (o := o) (l := l) (i := i) (j := j) (fun w => by rcases w with w | w; (rw [esn] at w; omega); omega) (by rcases p59hv with w | w; omega; exact w.2) (by rw [esn, ← t31.2.2]; omega) (by rw [esn, ← t31.2.2]; have w := p156hv; rw [wq.1, wq.2.1, wq.2.2.1] at w; rcases w with w | w; exact w.2; omega)
               have e4 : bnp (bRs s v19o) = bnp s := wq.2.2.2.1
               rw [w.2, esn, ← t31.2.2, ← wq.1, ← wq.2.1, ← wq.2.2.1]
               exact zPB_p (s := bRs s v19o) (n := bRn s v19o) (t := t) (o := o) (l := l) (i := i) (j := j) g156 (by rw [wq.1, wq.2.1, wq.2.2.1]; omega) ((zxs (by decide) zxe).trans (by omega)) (zxs (by decide) (zxs (by decide) (zxu (by decide) (zxu (by decide) (zxu (by decide) (zxu (by decide) (zxu (by decide) (zxu (by decide) rfl)))))))) ⟨by rw [e4]; exact (zxu (by omega) (zxu (by omega) (zxu (by omega) (zxu (by omega) (zxu (by omega) (zxu (by omega) (zxu (by omega) (zxe' (by omega))))))))), by rw [e4]; exact (zxu (by omega) (zxu (by omega) (zxu (by omega) (zxu (by omega) (zxu (by omega) (zxu (by omega) (zxe' (by omega)))))))), by rw [e4]; exact (zxu (by omega) (zxu (by omega) (zxu (by omega) (zxu (by omega) (zxu (by omega) (zxe' (by omega))))))), by rw [e4]; exact (zxu (by omega) (zxu (by omega) (zxu (by omega) (zxu (by omega) (zxe' (by omega)))))), by rw [e4]; exact (zxu (by omega) (zxu (by omega) (zxu (by omega) (zxe' (by omega))))), by rw [e4]; exact ((zxu (by omega) (zxu (by omega) (zxe' (by omega))))).trans (by have w := bRs_k (s := s) (sn := v19o); have w0 := w.1; first | (have w3 := w.2.2 (by omega); omega) | (have w3 := w.2.1 (by omega); omega))⟩ (fun c p h1 h2 h3 => by rw [e4] at h3; exact (zxcj (by omega) (zxcj (by omega) (zxcj (by omega) (zxcj (by omega) (zxcj (by omega) (zxcj (by omega) (zxcj (by omega) (zxcj (by omega) rfl))))))))) (fun m => (zxu (by decide) (zxu (by decide) (zxu (by decide) (zxu (by decide) (zxu (by decide) (zxu (by decide) (zxu (by decide) (zxu (by decide) rfl))))))))) (by rw [wq.1, wq.2.1, wq.2.2.1]; omega))
        · refine And.intro ⟨(by omega), (zRb rfl)⟩ ⟨fun h91 => ?_, fun h91 => ?_⟩
          · refine And.intro ⟨(by omega), (zRb rfl)⟩ ⟨fun h112 => ?_, (fun h112 => False.elim (by omega))⟩
            refine And.intro (zA_165 hS) (zrdR (v := some k) hg ?_)
            refine And.intro (zDX hd 0 rfl) ⟨_, sn_G_pin.up (by decide), ?_⟩
            refine ⟨k, (bRs s v19o), (bRn s v19o), (v74o : Int), (l : Int), (i : Int), (j : Int), rfl, hd, (by first | (rw [(bRs_o (by omega)).1]; exact zBB_fr hBB (fun c j h => ((p19bfr c j (by omega)).trans rfl)) (fun c j h => rfl)) | (rw [(bRs_n (by omega)).1]; exact zBB_fr (p130bhBB2 v19o) (fun c j h => zxcj (by omega) rfl) (fun c j h => rfl))), (bGd_rs hGd (fun _ => by omega)), (by have w := bRs_k (s := s) (sn := v19o); have w0 := w.1; first | (have w3 := w.2.2 (by omega); omega) | (have w3 := w.2.1 (by omega); omega)), hr.2, (by have w := bRs_w (s := s) (sn := v19o); rw [w.1, w.2.1, w.2.2.1]; omega), ?_⟩
            intro v156o I156o p156hv p156bhB1 p156bbhB0 p156bbbfr
            have g156 : zPB (bRs s v19o) I156o := by
              first
              | (rw [(bRs_o (by omega)).1]
                 exact zPB_fr hPB (fun c j h => ((p156bbbfr c j (by omega) (by omega) (by omega) (by omega) (by omega) (by omega) (by omega)).trans ((p19bfr c j (by omega)).trans rfl))))
              | exact zPB_n hPB (by omega) ((p156bbbfr 165 22 (by omega) (by omega) (by omega) (by omega) (by omega) (by omega) (by omega)).trans (zxe.trans (by omega))) ((p156bbbfr 203 _ (by omega) (by omega) (by omega) (by omega) (by omega) (by omega) (by omega)).trans (zxu (by omega) ((p130bbfr 203 _ (by omega) (by omega)).trans (zxe' (by omega))))) (fun n hn => ((p156bbbfr 203 _ (by omega) (by omega) (by omega) (by omega) (by omega) (by omega) (by omega)).trans (zxu (by omega) ((p130bbfr 203 _ (by omega) (by omega)).trans (zxs (by omega) (p19bfr 203 _ (by omega))))))) (fun c j h => ((p156bbbfr c j (by omega) (by omega) (by omega) (by omega) (by omega) (by omega) (by omega)).trans (zxcj (by omega) ((p130bbfr c j (by omega) (by omega)).trans (zxu (by omega) (p19bfr c j (by omega)))))))
            refine And.intro (by omega) ⟨fun h159 => ?_, fun h159 => ?_⟩
            · refine And.intro (zA_165 hS) (zrdR (v := some 197) (zR_165_16 hR) ?_)
              refine And.intro (zA_165 hS) (zrd (v := (bnp s)) ((p156bbbfr 165 15 (by omega) (by omega) (by omega) (by omega) (by omega) (by omega) (by omega)).trans ((p19bfr 165 15 (by omega)).trans b1)) ?_)
              refine And.intro ⟨(zx0 rfl), (zP_197 hS (by omega) (by omega))⟩ ⟨_, (zWi (by omega)), ?_⟩
              refine And.intro (zA_165 hS) (zrdR (v := some 198) (zR_165_17 hR) ?_)
              refine And.intro (zA_165 hS) (zrd (v := (bnp s)) ((p156bbbfr 165 15 (by omega) (by omega) (by omega) (by omega) (by omega) (by omega) (by omega)).trans ((p19bfr 165 15 (by omega)).trans b1)) ?_)
              refine And.intro ⟨(zx0 rfl), (zP_198 hS (by omega) (by omega))⟩ ⟨_, (zWi (by omega)), ?_⟩
              refine And.intro (zA_165 hS) (zrdR (v := some 199) (zR_165_18 hR) ?_)
              refine And.intro (zA_165 hS) (zrd (v := (bnp s)) ((p156bbbfr 165 15 (by omega) (by omega) (by omega) (by omega) (by omega) (by omega) (by omega)).trans ((p19bfr 165 15 (by omega)).trans b1)) ?_)
              refine And.intro ⟨(zx0 rfl), (zP_199 hS (by omega) (by omega))⟩ ⟨_, (zWi (by omega)), ?_⟩
              refine And.intro (zA_165 hS) (zrdR (v := some 200) (zR_165_19 hR) ?_)
              refine And.intro (zA_165 hS) (zrd (v := (bnp s)) ((p156bbbfr 165 15 (by omega) (by omega) (by omega) (by omega) (by omega) (by omega) (by omega)).trans ((p19bfr 165 15 (by omega)).trans b1)) ?_)
              refine And.intro ⟨(zx0 rfl), (zP_200 hS (by omega) (by omega))⟩ ⟨_, (zWi (by omega)), ?_⟩
              refine And.intro (zA_165 hS) (zrdR (v := some 201) (zR_165_20 hR) ?_)
              refine And.intro (zA_165 hS) (zrd (v := (bnp s)) ((p156bbbfr 165 15 (by omega) (by omega) (by omega) (by omega) (by omega) (by omega) (by omega)).trans ((p19bfr 165 15 (by omega)).trans b1)) ?_)
              refine And.intro ⟨(zx0 rfl), (zP_201 hS (by omega) (by omega))⟩ ⟨_, (zWi (by omega)), ?_⟩
              refine And.intro (zA_165 hS) (zrdR (v := some 202) (zR_165_21 hR) ?_)
              refine And.intro (zA_165 hS) (zrd (v := (bnp s)) ((p156bbbfr 165 15 (by omega) (by omega) (by omega) (by omega) (by omega) (by omega) (by omega)).trans ((p19bfr 165 15 (by omega)).trans b1)) ?_)
              refine And.intro ⟨(zx0 rfl), (zP_202 hS (by omega) (by omega))⟩ ⟨_, (zWi (by omega)), ?_⟩
              refine And.intro (zA_165 hS) (zrd (v := (bnp s)) ((p156bbbfr 165 15 (by omega) (by omega) (by omega) (by omega) (by omega) (by omega) (by omega)).trans ((p19bfr 165 15 (by omega)).trans b1)) ?_)
              refine And.intro (zA_165 hS) ⟨_, (zWi (by omega)), ?_⟩
              refine And.intro (zA_165 hS) (zrd (v := ((bnp s) + 1)) rfl ?_)
              refine And.intro (zA_165 hS) (Exists.intro _ (And.intro (zinl_ok (zT21_12 1)) (And.intro rfl ?_)))
              refine And.intro (zA_165 hS) ⟨_, (zWi (zRb rfl)), ?_⟩
              refine hQ _ _ ?_ ?_ ?_ ?_ (fun c j h0 h1 h2 h3 h4 h5 h6 h7 h8 h9 h10 h11 h12 h13 h14 h15 h16 h17 h18 => (zxcj h0 (zxcj h1 (zxu h8 (zxu h7 (zxu h6 (zxu h5 (zxu h4 (zxu h3 ((p156bbbfr c j (by omega) (by omega) (by omega) (by omega) (by omega) (by omega) (by omega)).trans ((p19bfr c j (by omega)).trans rfl)))))))))))
              · have wq := bRs_w (s := s) (sn := v19o)
                first
                | (have w := bPu1_2 (s := s) (t := t) (o := o) (l := l) (i := i) (j := j) (by first | exact Or.inl (by rw [esn]; omega) | exact Or.inr (by omega))
                   rw [w.1]
                   rfl)
                | (have w := bPu1_h (s := s) (t := t) (o := o) (l := l) (i := i) (j := j) (fun w => by rcases w with w | w; (rw [esn] at w; omega); omega) (by rcases p59hv with w | w; exact w.2; omega)
                   rw [w.1]
                   rfl)
                | (have w := bPu1_f (s := s) (t := t) (o := o) (l := l) (i := i) (j := j) (fun w => by rcases w with w | w; (rw [esn] at w; omega); omega) (by rcases p59hv with w | w; omega; exact w.2) (by rw [esn, ← t31.2.2]; omega)
                   rw [w.1]
                   rfl)
                | (have w := bPu1_n (s := s) (t := t) (o := o) (l := l) (i := i) (j := j) (fun w => by rcases w with w | w; (rw [esn] at w; omega); omega) (by rcases p59hv with w | w; omega; exact w.2) (by rw [esn, ← t31.2.2]; omega) (by rw [esn, ← t31.2.2]; have w := p156hv; rw [wq.1, wq.2.1, wq.2.2.1] at w; rcases w with w | w; omega; exact w.2)
                   rw [w.1]
                   rfl)
                | (have w := bPu1_y (s := s) (t := t) (o := o) (l := l) (i := i) (j := j) (fun w => by rcases w with w | w; (rw [esn] at w; omega); omega) (by rcases p59hv with w | w; omega; exact w.2) (by rw [esn, ← t31.2.2]; omega) (by rw [esn, ← t31.2.2]; have w := p156hv; rw [wq.1, wq.2.1, wq.2.2.1] at w; rcases w with w | w; exact w.2; omega)
                   rw [w.1, if_pos (by omega)]
                   omega)
              · have wq := bRs_w (s := s) (sn := v19o)
                first
                | (have w := bPu1_2 (s := s) (t := t) (o := o) (l := l) (i := i) (j := j) (by first | exact Or.inl (by rw [esn]; omega) | exact Or.inr (by omega))
                   rw [w.1]
                   exact zxe)
                | (have w := bPu1_h (s := s) (t := t) (o := o) (l := l) (i := i) (j := j) (fun w => by rcases w with w | w; (rw [esn] at w; omega); omega) (by rcases p59hv with w | w; exact w.2; omega)
                   rw [w.1]
                   exact zxe)
                | (have w := bPu1_f (s := s) (t := t) (o := o) (l := l) (i := i) (j := j) (fun w => by rcases w with w | w; (rw [esn] at w; omega); omega) (by rcases p59hv with w | w; omega; exact w.2) (by rw [esn, ← t31.2.2]; omega)
                   rw [w.1]
                   exact zxe)
                | (have w := bPu1_n (s := s) (t := t) (o := o) (l := l) (i := i) (j := j) (fun w => by rcases w with w | w; (rw [esn] at w; omega); omega) (by rcases p59hv with w | w; omega; exact w.2) (by rw [esn, ← t31.2.2]; omega) (by rw [esn, ← t31.2.2]; have w := p156hv; rw [wq.1, wq.2.1, wq.2.2.1] at w; rcases w with w | w; omega; exact w.2)
                   rw [w.1]
                   exact zxe)
                | (have w := bPu1_y (s := s) (t := t) (o := o) (l := l) (i := i) (j := j) (fun w => by rcases w with w | w; (rw [esn] at w; omega); omega) (by rcases p59hv with w | w; omega; exact w.2) (by rw [esn, ← t31.2.2]; omega) (by rw [esn, ← t31.2.2]; have w := p156hv; rw [wq.1, wq.2.1, wq.2.2.1] at w; rcases w with w | w; exact w.2; omega)
                   rw [w.1, if_pos (by omega)]
                   exact zxe)
              · have wq := bRs_w (s := s) (sn := v19o)
                first
                | (have w := bPu1_2 (s := s) (t := t) (o := o) (l := l) (i := i) (j := j) (by first | exact Or.inl (by rw [esn]; omega) | exact Or.inr (by omega))
                   rw [w.2]
                   exact zBB_fr hBB (fun c j h => (zxcj (by omega) (zxcj (by omega) (zxcj (by omega) (zxcj (by omega) (zxcj (by omega) (zxcj (by omega) (zxcj (by omega) (zxcj (by omega) ((p156bbbfr c j (by omega) (by omega) (by omega) (by omega) (by omega) (by omega) (by omega)).trans ((p19bfr c j (by omega)).trans rfl))))))))))) (fun c j h => rfl))
                | (have w := bPu1_h (s := s) (t := t) (o := o) (l := l) (i := i) (j := j) (fun w => by rcases w with w | w; (rw [esn] at w; omega); omega) (by rcases p59hv with w | w; exact w.2; omega)
                   rw [w.2]
                   exact zBB_fr hBB (fun c j h => (zxcj (by omega) (zxcj (by omega) (zxcj (by omega) (zxcj (by omega) (zxcj (by omega) (zxcj (by omega) (zxcj (by omega) (zxcj (by omega) ((p156bbbfr c j (by omega) (by omega) (by omega) (by omega) (by omega) (by omega) (by omega)).trans ((p19bfr c j (by omega)).trans rfl))))))))))) (fun c j h => rfl))
                | (have w := bPu1_f (s := s) (t := t) (o := o) (l := l) (i := i) (j := j) (fun w => by rcases w with w | w; (rw [esn] at w; omega); omega) (by rcases p59hv with w | w; omega; exact w.2) (by rw [esn, ← t31.2.2]; omega)
                   rw [w.2]
                   exact zBB_fr hBB (fun c j h => (zxcj (by omega) (zxcj (by omega) (zxcj (by omega) (zxcj (by omega) (zxcj (by omega) (zxcj (by omega) (zxcj (by omega) (zxcj (by omega) ((p156bbbfr c j (by omega) (by omega) (by omega) (by omega) (by omega) (by omega) (by omega)).trans ((p19bfr c j (by omega)).trans rfl))))))))))) (fun c j h => rfl))
                | (have w := bPu1_n (s := s) (t := t) (o := o) (l := l) (i := i) (j := j) (fun w => by rcases w with w | w; (rw [esn] at w; omega); omega) (by rcases p59hv with w | w; omega; exact w.2) (by rw [esn, ← t31.2.2]; omega) (by rw [esn, ← t31.2.2]; have w := p156hv; rw [wq.1, wq.2.1, wq.2.2.1] at w; rcases w with w | w; omega; exact w.2)
                   rw [w.2, esn, ← t31.2.2]
                   exact zBB_fr (p156bbhB0 (by omega)) (fun c j h => zxcj (by omega) rfl) (fun c j h => rfl))
                | (have w := bPu1_y (s := s) (t := t) (o := o) (l := l) (i := i) (j := j) (fun w => by rcases w with w | w; (rw [esn] at w; omega); omega) (by rcases p59hv with w | w; omega; exact w.2) (by rw [esn, ← t31.2.2]; omega) (by rw [esn, ← t31.2.2]; have w := p156hv; rw [wq.1, wq.2.1, wq.2.2.1] at w; rcases w with w | w; exact w.2; omega)
                   rw [w.2, esn, ← t31.2.2]
                   have w5 := p156bhB1 (by omega) t o
                   rw [wq.1, wq.2.1, wq.2.2.1] at w5
                   exact zBB_fr w5 (fun c j h => (zxu (by omega) (zxu (by omega) (zxu (by omega) (zxu (by omega) (zxu (by omega) (zxu (by omega) (zxu (by omega) (zxu (by omega) rfl))))))))) (fun c j h => rfl))
              · have wq := bRs_w (s := s) (sn := v19o)
                first
                | (have w := bPu1_2 (s := s) (t := t) (o := o) (l := l) (i := i) (j := j) (by first | exact Or.inl (by rw [esn]; omega) | exact Or.inr (by omega))
                   rw [w.2]
                   exact zPB_fr hPB (fun c j h => (zxcj (by omega) (zxcj (by omega) (zxcj (by omega) (zxcj (by omega) (zxcj (by omega) (zxcj (by omega) (zxcj (by omega) (zxcj (by omega) ((p156bbbfr c j (by omega) (by omega) (by omega) (by omega) (by omega) (by omega) (by omega)).trans ((p19bfr c j (by omega)).trans rfl))))))))))))
                | (have w := bPu1_h (s := s) (t := t) (o := o) (l := l) (i := i) (j := j) (fun w => by rcases w with w | w; (rw [esn] at w; omega); omega) (by rcases p59hv with w | w; exact w.2; omega)
                   rw [w.2]
                   exact zPB_fr hPB (fun c j h => (zxcj (by omega) (zxcj (by omega) (zxcj (by omega) (zxcj (by omega) (zxcj (by omega) (zxcj (by omega) (zxcj (by omega) (zxcj (by omega) ((p156bbbfr c j (by omega) (by omega) (by omega) (by omega) (by omega) (by omega) (by omega)).trans ((p19bfr c j (by omega)).trans rfl))))))))))))
                | (have w := bPu1_f (s := s) (t := t) (o := o) (l := l) (i := i) (j := j) (fun w => by rcases w with w | w; (rw [esn] at w; omega); omega) (by rcases p59hv with w | w; omega; exact w.2) (by rw [esn, ← t31.2.2]; omega)
                   rw [w.2]
                   exact zPB_fr hPB (fun c j h => (zxcj (by omega) (zxcj (by omega) (zxcj (by omega) (zxcj (by omega) (zxcj (by omega) (zxcj (by omega) (zxcj (by omega) (zxcj (by omega) ((p156bbbfr c j (by omega) (by omega) (by omega) (by omega) (by omega) (by omega) (by omega)).trans ((p19bfr c j (by omega)).trans rfl))))))))))))
                | (have w := bPu1_n (s := s) (t := t) (o := o) (l := l) (i := i) (j := j) (fun w => by rcases w with w | w; (rw [esn] at w; omega); omega) (by rcases p59hv with w | w; omega; exact w.2) (by rw [esn, ← t31.2.2]; omega) (by rw [esn, ← t31.2.2]; have w := p156hv; rw [wq.1, wq.2.1, wq.2.2.1] at w; rcases w with w | w; omega; exact w.2)
                   rw [w.2, esn, ← t31.2.2]
                   exact zPB_fr g156 (fun c j h => zxcj (by omega) rfl))
                | (have w := bPu1_y (s := s) (t := t) (o := o) (l := l) (i := i) (j := j) (fun w => by rcases w with w | w; (rw [esn] at w; omega); omega) (by rcases p59hv with w | w; omega; exact w.2) (by rw [esn, ← t31.2.2]; omega) (by rw [esn, ← t31.2.2]; have w := p156hv; rw [wq.1, wq.2.1, wq.2.2.1] at w; rcases w with w | w; exact w.2; omega)
                   have e4 : bnp (bRs s v19o) = bnp s := wq.2.2.2.1
                   rw [w.2, esn, ← t31.2.2, ← wq.1, ← wq.2.1, ← wq.2.2.1]
                   exact zPB_p (s := bRs s v19o) (n := bRn s v19o) (t := t) (o := o) (l := l) (i := i) (j := j) g156 (by rw [wq.1, wq.2.1, wq.2.2.1]; omega) ((zxs (by decide) zxe).trans (by omega)) (zxs (by decide) (zxs (by decide) (zxu (by decide) (zxu (by decide) (zxu (by decide) (zxu (by decide) (zxu (by decide) (zxu (by decide) rfl)))))))) ⟨by rw [e4]; exact (zxu (by omega) (zxu (by omega) (zxu (by omega) (zxu (by omega) (zxu (by omega) (zxu (by omega) (zxu (by omega) (zxe' (by omega))))))))), by rw [e4]; exact (zxu (by omega) (zxu (by omega) (zxu (by omega) (zxu (by omega) (zxu (by omega) (zxu (by omega) (zxe' (by omega)))))))), by rw [e4]; exact (zxu (by omega) (zxu (by omega) (zxu (by omega) (zxu (by omega) (zxu (by omega) (zxe' (by omega))))))), by rw [e4]; exact (zxu (by omega) (zxu (by omega) (zxu (by omega) (zxu (by omega) (zxe' (by omega)))))), by rw [e4]; exact (zxu (by omega) (zxu (by omega) (zxu (by omega) (zxe' (by omega))))), by rw [e4]; exact ((zxu (by omega) (zxu (by omega) (zxe' (by omega))))).trans (by have w := bRs_k (s := s) (sn := v19o); have w0 := w.1; first | (have w3 := w.2.2 (by omega); omega) | (have w3 := w.2.1 (by omega); omega))⟩ (fun c p h1 h2 h3 => by rw [e4] at h3; exact (zxcj (by omega) (zxcj (by omega) (zxcj (by omega) (zxcj (by omega) (zxcj (by omega) (zxcj (by omega) (zxcj (by omega) (zxcj (by omega) rfl))))))))) (fun m => (zxu (by decide) (zxu (by decide) (zxu (by decide) (zxu (by decide) (zxu (by decide) (zxu (by decide) (zxu (by decide) (zxu (by decide) rfl))))))))) (by rw [wq.1, wq.2.1, wq.2.2.1]; omega))
            · refine And.intro (zA_165 hS) (Exists.intro _ (And.intro (zinl_ok (zT21_47 1)) (And.intro rfl ?_)))
              refine And.intro (zA_165 hS) ⟨_, (zWi (zRb rfl)), ?_⟩
              refine hQ _ _ ?_ ?_ ?_ ?_ (fun c j h0 h1 h2 h3 h4 h5 h6 h7 h8 h9 h10 h11 h12 h13 h14 h15 h16 h17 h18 => (zxcj h0 ((p156bbbfr c j (by omega) (by omega) (by omega) (by omega) (by omega) (by omega) (by omega)).trans ((p19bfr c j (by omega)).trans rfl))))
              · have wq := bRs_w (s := s) (sn := v19o)
                first
                | (have w := bPu1_2 (s := s) (t := t) (o := o) (l := l) (i := i) (j := j) (by first | exact Or.inl (by rw [esn]; omega) | exact Or.inr (by omega))
                   rw [w.1]
                   rfl)
                | (have w := bPu1_h (s := s) (t := t) (o := o) (l := l) (i := i) (j := j) (fun w => by rcases w with w | w; (rw [esn] at w; omega); omega) (by rcases p59hv with w | w; exact w.2; omega)
                   rw [w.1]
                   rfl)
                | (have w := bPu1_f (s := s) (t := t) (o := o) (l := l) (i := i) (j := j) (fun w => by rcases w with w | w; (rw [esn] at w; omega); omega) (by rcases p59hv with w | w; omega; exact w.2) (by rw [esn, ← t31.2.2]; omega)
                   rw [w.1]
                   rfl)
                | (have w := bPu1_n (s := s) (t := t) (o := o) (l := l) (i := i) (j := j) (fun w => by rcases w with w | w; (rw [esn] at w; omega); omega) (by rcases p59hv with w | w; omega; exact w.2) (by rw [esn, ← t31.2.2]; omega) (by rw [esn, ← t31.2.2]; have w := p156hv; rw [wq.1, wq.2.1, wq.2.2.1] at w; rcases w with w | w; omega; exact w.2)
                   rw [w.1]
                   rfl)
                | (have w := bPu1_y (s := s) (t := t) (o := o) (l := l) (i := i) (j := j) (fun w => by rcases w with w | w; (rw [esn] at w; omega); omega) (by rcases p59hv with w | w; omega; exact w.2) (by rw [esn, ← t31.2.2]; omega) (by rw [esn, ← t31.2.2]; have w := p156hv; rw [wq.1, wq.2.1, wq.2.2.1] at w; rcases w with w | w; exact w.2; omega)
                   rw [w.1, if_pos (by omega)]
                   omega)
              · have wq := bRs_w (s := s) (sn := v19o)
                first
                | (have w := bPu1_2 (s := s) (t := t) (o := o) (l := l) (i := i) (j := j) (by first | exact Or.inl (by rw [esn]; omega) | exact Or.inr (by omega))
                   rw [w.1]
                   exact zxe)
                | (have w := bPu1_h (s := s) (t := t) (o := o) (l := l) (i := i) (j := j) (fun w => by rcases w with w | w; (rw [esn] at w; omega); omega) (by rcases p59hv with w | w; exact w.2; omega)
                   rw [w.1]
                   exact zxe)
                | (have w := bPu1_f (s := s) (t := t) (o := o) (l := l) (i := i) (j := j) (fun w => by rcases w with w | w; (rw [esn] at w; omega); omega) (by rcases p59hv with w | w; omega; exact w.2) (by rw [esn, ← t31.2.2]; omega)
                   rw [w.1]
                   exact zxe)
                | (have w := bPu1_n (s := s) (t := t) (o := o) (l := l) (i := i) (j := j) (fun w => by rcases w with w | w; (rw [esn] at w; omega); omega) (by rcases p59hv with w | w; omega; exact w.2) (by rw [esn, ← t31.2.2]; omega) (by rw [esn, ← t31.2.2]; have w := p156hv; rw [wq.1, wq.2.1, wq.2.2.1] at w; rcases w with w | w; omega; exact w.2)
                   rw [w.1]
                   exact zxe)
                | (have w := bPu1_y (s := s) (t := t) (o := o) (l := l) (i := i) (j := j) (fun w => by rcases w with w | w; (rw [esn] at w; omega); omega) (by rcases p59hv with w | w; omega; exact w.2) (by rw [esn, ← t31.2.2]; omega) (by rw [esn, ← t31.2.2]; have w := p156hv; rw [wq.1, wq.2.1, wq.2.2.1] at w; rcases w with w | w; exact w.2; omega)
                   rw [w.1, if_pos (by omega)]
                   exact zxe)
              · have wq := bRs_w (s := s) (sn := v19o)
                first
                | (have w := bPu1_2 (s := s) (t := t) (o := o) (l := l) (i := i) (j := j) (by first | exact Or.inl (by rw [esn]; omega) | exact Or.inr (by omega))
                   rw [w.2]
                   exact zBB_fr hBB (fun c j h => (zxcj (by omega) ((p156bbbfr c j (by omega) (by omega) (by omega) (by omega) (by omega) (by omega) (by omega)).trans ((p19bfr c j (by omega)).trans rfl)))) (fun c j h => rfl))
                | (have w := bPu1_h (s := s) (t := t) (o := o) (l := l) (i := i) (j := j) (fun w => by rcases w with w | w; (rw [esn] at w; omega); omega) (by rcases p59hv with w | w; exact w.2; omega)
                   rw [w.2]
                   exact zBB_fr hBB (fun c j h => (zxcj (by omega) ((p156bbbfr c j (by omega) (by omega) (by omega) (by omega) (by omega) (by omega) (by omega)).trans ((p19bfr c j (by omega)).trans rfl)))) (fun c j h => rfl))
                | (have w := bPu1_f (s := s) (t := t) (o := o) (l := l) (i := i) (j := j) (fun w => by rcases w with w | w; (rw [esn] at w; omega); omega) (by rcases p59hv with w | w; omega; exact w.2) (by rw [esn, ← t31.2.2]; omega)
                   rw [w.2]
                   exact zBB_fr hBB (fun c j h => (zxcj (by omega) ((p156bbbfr c j (by omega) (by omega) (by omega) (by omega) (by omega) (by omega) (by omega)).trans ((p19bfr c j (by omega)).trans rfl)))) (fun c j h => rfl))
                | (have w := bPu1_n (s := s) (t := t) (o := o) (l := l) (i := i) (j := j) (fun w => by rcases w with w | w; (rw [esn] at w; omega); omega) (by rcases p59hv with w | w; omega; exact w.2) (by rw [esn, ← t31.2.2]; omega) (by rw [esn, ← t31.2.2]; have w := p156hv; rw [wq.1, wq.2.1, wq.2.2.1] at w; rcases w with w | w; omega; exact w.2)
                   rw [w.2, esn, ← t31.2.2]
                   exact zBB_fr (p156bbhB0 (by omega)) (fun c j h => zxcj (by omega) rfl) (fun c j h => rfl))
                | (have w := bPu1_y (s := s) (t := t) (o := o) (l := l) (i := i) (j := j) (fun w => by rcases w with w | w; (rw [esn] at w; omega); omega) (by rcases p59hv with w | w; omega; exact w.2) (by rw [esn, ← t31.2.2]; omega) (by rw [esn, ← t31.2.2]; have w := p156hv; rw [wq.1, wq.2.1, wq.2.2.1] at w; rcases w with w | w; exact w.2; omega)
                   rw [w.2, esn, ← t31.2.2]
                   have w5 := p156bhB1 (by omega) t o
                   rw [wq.1, wq.2.1, wq.2.2.1] at w5
                   exact zBB_fr w5 (fun c j h => (zxu (by omega) (zxu (by omega) (zxu (by omega) (zxu (by omega) (zxu (by omega) (zxu (by omega) (zxu (by omega) (zxu (by omega) rfl))))))))) (fun c j h => rfl))
              · have wq := bRs_w (s := s) (sn := v19o)
                first
                | (have w := bPu1_2 (s := s) (t := t) (o := o) (l := l) (i := i) (j := j) (by first | exact Or.inl (by rw [esn]; omega) | exact Or.inr (by omega))
                   rw [w.2]
                   exact zPB_fr hPB (fun c j h => (zxcj (by omega) ((p156bbbfr c j (by omega) (by omega) (by omega) (by omega) (by omega) (by omega) (by omega)).trans ((p19bfr c j (by omega)).trans rfl)))))
                | (have w := bPu1_h (s := s) (t := t) (o := o) (l := l) (i := i) (j := j) (fun w => by rcases w with w | w; (rw [esn] at w; omega); omega) (by rcases p59hv with w | w; exact w.2; omega)
                   rw [w.2]
                   exact zPB_fr hPB (fun c j h => (zxcj (by omega) ((p156bbbfr c j (by omega) (by omega) (by omega) (by omega) (by omega) (by omega) (by omega)).trans ((p19bfr c j (by omega)).trans rfl)))))
                | (have w := bPu1_f (s := s) (t := t) (o := o) (l := l) (i := i) (j := j) (fun w => by rcases w with w | w; (rw [esn] at w; omega); omega) (by rcases p59hv with w | w; omega; exact w.2) (by rw [esn, ← t31.2.2]; omega)
                   rw [w.2]
                   exact zPB_fr hPB (fun c j h => (zxcj (by omega) ((p156bbbfr c j (by omega) (by omega) (by omega) (by omega) (by omega) (by omega) (by omega)).trans ((p19bfr c j (by omega)).trans rfl)))))
                | (have w := bPu1_n (s := s) (t := t) (o := o) (l := l) (i := i) (j := j) (fun w => by rcases w with w | w; (rw [esn] at w; omega); omega) (by rcases p59hv with w | w; omega; exact w.2) (by rw [esn, ← t31.2.2]; omega) (by rw [esn, ← t31.2.2]; have w := p156hv; rw [wq.1, wq.2.1, wq.2.2.1] at w; rcases w with w | w; omega; exact w.2)
                   rw [w.2, esn, ← t31.2.2]
                   exact zPB_fr g156 (fun c j h => zxcj (by omega) rfl))
                | (have w := bPu1_y (s := s) (t := t) (o := o) (l := l) (i := i) (j := j) (fun w => by rcases w with w | w; (rw [esn] at w; omega); omega) (by rcases p59hv with w | w; omega; exact w.2) (by rw [esn, ← t31.2.2]; omega) (by rw [esn, ← t31.2.2]; have w := p156hv; rw [wq.1, wq.2.1, wq.2.2.1] at w; rcases w with w | w; exact w.2; omega)
                   have e4 : bnp (bRs s v19o) = bnp s := wq.2.2.2.1
                   rw [w.2, esn, ← t31.2.2, ← wq.1, ← wq.2.1, ← wq.2.2.1]
                   exact zPB_p (s := bRs s v19o) (n := bRn s v19o) (t := t) (o := o) (l := l) (i := i) (j := j) g156 (by rw [wq.1, wq.2.1, wq.2.2.1]; omega) ((zxs (by decide) zxe).trans (by omega)) (zxs (by decide) (zxs (by decide) (zxu (by decide) (zxu (by decide) (zxu (by decide) (zxu (by decide) (zxu (by decide) (zxu (by decide) rfl)))))))) ⟨by rw [e4]; exact (zxu (by omega) (zxu (by omega) (zxu (by omega) (zxu (by omega) (zxu (by omega) (zxu (by omega) (zxu (by omega) (zxe' (by omega))))))))), by rw [e4]; exact (zxu (by omega) (zxu (by omega) (zxu (by omega) (zxu (by omega) (zxu (by omega) (zxu (by omega) (zxe' (by omega)))))))), by rw [e4]; exact (zxu (by omega) (zxu (by omega) (zxu (by omega) (zxu (by omega) (zxu (by omega) (zxe' (by omega))))))), by rw [e4]; exact (zxu (by omega) (zxu (by omega) (zxu (by omega) (zxu (by omega) (zxe' (by omega)))))), by rw [e4]; exact (zxu (by omega) (zxu (by omega) (zxu (by omega) (zxe' (by omega))))), by rw [e4]; exact ((zxu (by omega) (zxu (by omega) (zxe' (by omega))))).trans (by have w := bRs_k (s := s) (sn := v19o); have w0 := w.1; first | (have w3 := w.2.2 (by omega); omega) | (have w3 := w.2.1 (by omega); omega))⟩ (fun c p h1 h2 h3 => by rw [e4] at h3; exact (zxcj (by omega) (zxcj (by omega) (zxcj (by omega) (zxcj (by omega) (zxcj (by omega) (zxcj (by omega) (zxcj (by omega) (zxcj (by omega) rfl))))))))) (fun m => (zxu (by decide) (zxu (by decide) (zxu (by decide) (zxu (by decide) (zxu (by decide) (zxu (by decide) (zxu (by decide) (zxu (by decide) rfl))))))))) (by rw [wq.1, wq.2.1, wq.2.2.1]; omega))
          · refine And.intro (zA_165 hS) (zrd (v := (bnn s)) ((p19bfr 165 22 (by omega)).trans b2) ?_)
            refine And.intro ⟨(by omega), (zRb rfl)⟩ ⟨fun h100 => ?_, fun h100 => ?_⟩
            · refine And.intro ⟨(by omega), (zRb rfl)⟩ ⟨(fun h112 => False.elim (by omega)), fun h112 => ?_⟩
              refine And.intro (zA_165 hS) (zrdR (v := some 203) (zR_165_23 hR) ?_)
              refine And.intro (zA_165 hS) (zrd (v := (bnn s)) ((p19bfr 165 22 (by omega)).trans b2) ?_)
              refine And.intro ⟨(zx0 rfl), (zP_203 hS (by omega) (by omega))⟩ ⟨_, (zWi (by omega)), ?_⟩
              refine And.intro (zA_165 hS) (zrdR (v := some k) hg ?_)
              refine And.intro (zDX hd 0 rfl) ⟨_, sn_G_net.up (by decide), ?_⟩
              refine ⟨k, s, rfl, hd, (by first | exact (zBB_fr hBB (fun c j h => (zxcj (by omega) ((p19bfr c j (by omega)).trans rfl))) (fun c j h => rfl)) | (clear hQ; grind [xu])), (by omega), ?_⟩
              intro v130o I130o p130hv p130bhBB2 p130bbfr
              refine And.intro (zA_165 hS) (zrd (v := (bnn s)) ((p130bbfr 165 22 (by omega) (by omega)).trans ((p19bfr 165 22 (by omega)).trans b2)) ?_)
              refine And.intro (zA_165 hS) ⟨_, (zWi (by omega)), ?_⟩
              refine And.intro (zA_165 hS) (zrdR (v := some k) hg ?_)
              refine And.intro (zDX hd 0 rfl) ⟨_, sn_G_pin.up (by decide), ?_⟩
              refine ⟨k, (bRs s v19o), (bRn s v19o), (v130o : Int), (l : Int), (i : Int), (j : Int), rfl, hd, (by first | (rw [(bRs_o (by omega)).1]; exact zBB_fr hBB (fun c j h => (zxcj (by omega) ((p130bbfr c j (by omega) (by omega)).trans (zxcj (by omega) ((p19bfr c j (by omega)).trans rfl))))) (fun c j h => rfl)) | (rw [(bRs_n (by omega)).1]; exact zBB_fr (p130bhBB2 v19o) (fun c j h => zxcj (by omega) rfl) (fun c j h => rfl))), (bGd_rs hGd (fun _ => by omega)), (by have w := bRs_k (s := s) (sn := v19o); have w0 := w.1; first | (have w3 := w.2.2 (by omega); omega) | (have w3 := w.2.1 (by omega); omega)), hr.2, (by have w := bRs_w (s := s) (sn := v19o); rw [w.1, w.2.1, w.2.2.1]; omega), ?_⟩
              intro v156o I156o p156hv p156bhB1 p156bbhB0 p156bbbfr
              have g156 : zPB (bRs s v19o) I156o := by
                first
                | (rw [(bRs_o (by omega)).1]
                   exact zPB_fr hPB (fun c j h => ((p156bbbfr c j (by omega) (by omega) (by omega) (by omega) (by omega) (by omega) (by omega)).trans (zxcj (by omega) ((p130bbfr c j (by omega) (by omega)).trans (zxcj (by omega) ((p19bfr c j (by omega)).trans rfl)))))))
                | exact zPB_n hPB (by omega) ((p156bbbfr 165 22 (by omega) (by omega) (by omega) (by omega) (by omega) (by omega) (by omega)).trans (zxe.trans (by omega))) ((p156bbbfr 203 _ (by omega) (by omega) (by omega) (by omega) (by omega) (by omega) (by omega)).trans (zxu (by omega) ((p130bbfr 203 _ (by omega) (by omega)).trans (zxe' (by omega))))) (fun n hn => ((p156bbbfr 203 _ (by omega) (by omega) (by omega) (by omega) (by omega) (by omega) (by omega)).trans (zxu (by omega) ((p130bbfr 203 _ (by omega) (by omega)).trans (zxs (by omega) (p19bfr 203 _ (by omega))))))) (fun c j h => ((p156bbbfr c j (by omega) (by omega) (by omega) (by omega) (by omega) (by omega) (by omega)).trans (zxcj (by omega) ((p130bbfr c j (by omega) (by omega)).trans (zxu (by omega) (p19bfr c j (by omega)))))))
              refine And.intro (by omega) ⟨fun h159 => ?_, fun h159 => ?_⟩
              · refine And.intro (zA_165 hS) (zrdR (v := some 197) (zR_165_16 hR) ?_)
                refine And.intro (zA_165 hS) (zrd (v := (bnp s)) ((p156bbbfr 165 15 (by omega) (by omega) (by omega) (by omega) (by omega) (by omega) (by omega)).trans ((p130bbfr 165 15 (by omega) (by omega)).trans ((p19bfr 165 15 (by omega)).trans b1))) ?_)
                refine And.intro ⟨(zx0 rfl), (zP_197 hS (by omega) (by omega))⟩ ⟨_, (zWi (by omega)), ?_⟩
                refine And.intro (zA_165 hS) (zrdR (v := some 198) (zR_165_17 hR) ?_)
                refine And.intro (zA_165 hS) (zrd (v := (bnp s)) ((p156bbbfr 165 15 (by omega) (by omega) (by omega) (by omega) (by omega) (by omega) (by omega)).trans ((p130bbfr 165 15 (by omega) (by omega)).trans ((p19bfr 165 15 (by omega)).trans b1))) ?_)
                refine And.intro ⟨(zx0 rfl), (zP_198 hS (by omega) (by omega))⟩ ⟨_, (zWi (by omega)), ?_⟩
                refine And.intro (zA_165 hS) (zrdR (v := some 199) (zR_165_18 hR) ?_)
                refine And.intro (zA_165 hS) (zrd (v := (bnp s)) ((p156bbbfr 165 15 (by omega) (by omega) (by omega) (by omega) (by omega) (by omega) (by omega)).trans ((p130bbfr 165 15 (by omega) (by omega)).trans ((p19bfr 165 15 (by omega)).trans b1))) ?_)
                refine And.intro ⟨(zx0 rfl), (zP_199 hS (by omega) (by omega))⟩ ⟨_, (zWi (by omega)), ?_⟩
                refine And.intro (zA_165 hS) (zrdR (v := some 200) (zR_165_19 hR) ?_)
                refine And.intro (zA_165 hS) (zrd (v := (bnp s)) ((p156bbbfr 165 15 (by omega) (by omega) (by omega) (by omega) (by omega) (by omega) (by omega)).trans ((p130bbfr 165 15 (by omega) (by omega)).trans ((p19bfr 165 15 (by omega)).trans b1))) ?_)
                refine And.intro ⟨(zx0 rfl), (zP_200 hS (by omega) (by omega))⟩ ⟨_, (zWi (by omega)), ?_⟩
                refine And.intro (zA_165 hS) (zrdR (v := some 201) (zR_165_20 hR) ?_)
                refine And.intro (zA_165 hS) (zrd (v := (bnp s)) ((p156bbbfr 165 15 (by omega) (by omega) (by omega) (by omega) (by omega) (by omega) (by omega)).trans ((p130bbfr 165 15 (by omega) (by omega)).trans ((p19bfr 165 15 (by omega)).trans b1))) ?_)
                refine And.intro ⟨(zx0 rfl), (zP_201 hS (by omega) (by omega))⟩ ⟨_, (zWi (by omega)), ?_⟩
                refine And.intro (zA_165 hS) (zrdR (v := some 202) (zR_165_21 hR) ?_)
                refine And.intro (zA_165 hS) (zrd (v := (bnp s)) ((p156bbbfr 165 15 (by omega) (by omega) (by omega) (by omega) (by omega) (by omega) (by omega)).trans ((p130bbfr 165 15 (by omega) (by omega)).trans ((p19bfr 165 15 (by omega)).trans b1))) ?_)
                refine And.intro ⟨(zx0 rfl), (zP_202 hS (by omega) (by omega))⟩ ⟨_, (zWi (by omega)), ?_⟩
                refine And.intro (zA_165 hS) (zrd (v := (bnp s)) ((p156bbbfr 165 15 (by omega) (by omega) (by omega) (by omega) (by omega) (by omega) (by omega)).trans ((p130bbfr 165 15 (by omega) (by omega)).trans ((p19bfr 165 15 (by omega)).trans b1))) ?_)
                refine And.intro (zA_165 hS) ⟨_, (zWi (by omega)), ?_⟩
                refine And.intro (zA_165 hS) (zrd (v := ((bnp s) + 1)) rfl ?_)
                refine And.intro (zA_165 hS) (Exists.intro _ (And.intro (zinl_ok (zT21_12 1)) (And.intro rfl ?_)))
                refine And.intro (zA_165 hS) ⟨_, (zWi (zRb rfl)), ?_⟩
                refine hQ _ _ ?_ ?_ ?_ ?_ (fun c j h0 h1 h2 h3 h4 h5 h6 h7 h8 h9 h10 h11 h12 h13 h14 h15 h16 h17 h18 => (zxcj h0 (zxcj h1 (zxu h8 (zxu h7 (zxu h6 (zxu h5 (zxu h4 (zxu h3 ((p156bbbfr c j (by omega) (by omega) (by omega) (by omega) (by omega) (by omega) (by omega)).trans (zxcj h2 ((p130bbfr c j (by omega) (by omega)).trans (zxu h9 ((p19bfr c j (by omega)).trans rfl))))))))))))))
                · have wq := bRs_w (s := s) (sn := v19o)
                  first
                  | (have w := bPu1_2 (s := s) (t := t) (o := o) (l := l) (i := i) (j := j) (by first | exact Or.inl (by rw [esn]; omega) | exact Or.inr (by omega))
                     rw [w.1]
                     rfl)
                  | (have w := bPu1_h (s := s) (t := t) (o := o) (l := l) (i := i) (j := j) (fun w => by rcases w with w | w; (rw [esn] at w; omega); omega) (by rcases p59hv with w | w; exact w.2; omega)
                     rw [w.1]
                     rfl)
                  | (have w := bPu1_f (s := s) (t := t) (o := o) (l := l) (i := i) (j := j) (fun w => by rcases w with w | w; (rw [esn] at w; omega); omega) (by rcases p59hv with w | w; omega; exact w.2) (by rw [esn, ← t31.2.2]; omega)
                     rw [w.1]
                     rfl)
                  | (have w := bPu1_n (s := s) (t := t) (o := o) (l := l) (i := i) (j := j) (fun w => by rcases w with w | w; (rw [esn] at w; omega); omega) (by rcases p59hv with w | w; omega; exact w.2) (by rw [esn, ← t31.2.2]; omega) (by rw [esn, ← t31.2.2]; have w := p156hv; rw [wq.1, wq.2.1, wq.2.2.1] at w; rcases w with w | w; omega; exact w.2)
                     rw [w.1]
                     rfl)
                  | (have w := bPu1_y (s := s) (t := t) (o := o) (l := l) (i := i) (j := j) (fun w => by rcases w with w | w; (rw [esn] at w; omega); omega) (by rcases p59hv with w | w; omega; exact w.2) (by rw [esn, ← t31.2.2]; omega) (by rw [esn, ← t31.2.2]; have w := p156hv; rw [wq.1, wq.2.1, wq.2.2.1] at w; rcases w with w | w; exact w.2; omega)
                     rw [w.1, if_pos (by omega)]
                     omega)
                · have wq := bRs_w (s := s) (sn := v19o)
                  first
                  | (have w := bPu1_2 (s := s) (t := t) (o := o) (l := l) (i := i) (j := j) (by first | exact Or.inl (by rw [esn]; omega) | exact Or.inr (by omega))
                     rw [w.1]
                     exact zxe)
                  | (have w := bPu1_h (s := s) (t := t) (o := o) (l := l) (i := i) (j := j) (fun w => by rcases w with w | w; (rw [esn] at w; omega); omega) (by rcases p59hv with w | w; exact w.2; omega)
                     rw [w.1]
                     exact zxe)
                  | (have w := bPu1_f (s := s) (t := t) (o := o) (l := l) (i := i) (j := j) (fun w => by rcases w with w | w; (rw [esn] at w; omega); omega) (by rcases p59hv with w | w; omega; exact w.2) (by rw [esn, ← t31.2.2]; omega)
                     rw [w.1]
                     exact zxe)
                  | (have w := bPu1_n (s := s) (t := t) (o := o) (l := l) (i := i) (j := j) (fun w => by rcases w with w | w; (rw [esn] at w; omega); omega) (by rcases p59hv with w | w; omega; exact w.2) (by rw [esn, ← t31.2.2]; omega) (by rw [esn, ← t31.2.2]; have w := p156hv; rw [wq.1, wq.2.1, wq.2.2.1] at w; rcases w with w | w; omega; exact w.2)
                     rw [w.1]
                     exact zxe)
                  | (have w := bPu1_y (s := s) (t := t) (o := o) (l := l) (i := i) (j := j) (fun w => by rcases w with w | w; (rw [esn] at w; omega); omega) (by rcases p59hv with w | w; omega; exact w.2) (by rw [esn, ← t31.2.2]; omega) (by rw [esn, ← t31.2.2]; have w := p156hv; rw [wq.1, wq.2.1, wq.2.2.1] at w; rcases w with w | w; exact w.2; omega)
                     rw [w.1, if_pos (by omega)]
                     exact zxe)
                · have wq := bRs_w (s := s) (sn := v19o)
                  first
                  | (have w := bPu1_2 (s := s) (t := t) (o := o) (l := l) (i := i) (j := j) (by first | exact Or.inl (by rw [esn]; omega) | exact Or.inr (by omega))
                     rw [w.2]
                     exact zBB_fr hBB (fun c j h => (zxcj (by omega) (zxcj (by omega) (zxcj (by omega) (zxcj (by omega) (zxcj (by omega) (zxcj (by omega) (zxcj (by omega) (zxcj (by omega) ((p156bbbfr c j (by omega) (by omega) (by omega) (by omega) (by omega) (by omega) (by omega)).trans (zxcj (by omega) ((p130bbfr c j (by omega) (by omega)).trans (zxcj (by omega) ((p19bfr c j (by omega)).trans rfl)))))))))))))) (fun c j h => rfl))
                  | (have w := bPu1_h (s := s) (t := t) (o := o) (l := l) (i := i) (j := j) (fun w => by rcases w with w | w; (rw [esn] at w; omega); omega) (by rcases p59hv with w | w; exact w.2; omega)
                     rw [w.2]
                     exact zBB_fr hBB (fun c j h => (zxcj (by omega) (zxcj (by omega) (zxcj (by omega) (zxcj (by omega) (zxcj (by omega) (zxcj (by omega) (zxcj (by omega) (zxcj (by omega) ((p156bbbfr c j (by omega) (by omega) (by omega) (by omega) (by omega) (by omega) (by omega)).trans (zxcj (by omega) ((p130bbfr c j (by omega) (by omega)).trans (zxcj (by omega) ((p19bfr c j (by omega)).trans rfl)))))))))))))) (fun c j h => rfl))
                  | (have w := bPu1_f (s := s) (t := t) (o := o) (l := l) (i := i) (j := j) (fun w => by rcases w with w | w; (rw [esn] at w; omega); omega) (by rcases p59hv with w | w; omega; exact w.2) (by rw [esn, ← t31.2.2]; omega)
                     rw [w.2]
                     exact zBB_fr hBB (fun c j h => (zxcj (by omega) (zxcj (by omega) (zxcj (by omega) (zxcj (by omega) (zxcj (by omega) (zxcj (by omega) (zxcj (by omega) (zxcj (by omega) ((p156bbbfr c j (by omega) (by omega) (by omega) (by omega) (by omega) (by omega) (by omega)).trans (zxcj (by omega) ((p130bbfr c j (by omega) (by omega)).trans (zxcj (by omega) ((p19bfr c j (by omega)).trans rfl)))))))))))))) (fun c j h => rfl))
                  | (have w := bPu1_n (s := s) (t := t) (o := o) (l := l) (i := i) (j := j) (fun w => by rcases w with w | w; (rw [esn] at w; omega); omega) (by rcases p59hv with w | w; omega; exact w.2) (by rw [esn, ← t31.2.2]; omega) (by rw [esn, ← t31.2.2]; have w := p156hv; rw [wq.1, wq.2.1, wq.2.2.1] at w; rcases w with w | w; omega; exact w.2)
                     rw [w.2, esn, ← t31.2.2]
                     exact zBB_fr (p156bbhB0 (by omega)) (fun c j h => zxcj (by omega) rfl) (fun c j h => rfl))
                  | (have w := bPu1_y (s := s) (t := t) (o := o) (l := l) (i := i) (j := j) (fun w => by rcases w with w | w; (rw [esn] at w; omega); omega) (by rcases p59hv with w | w; omega; exact w.2) (by rw [esn, ← t31.2.2]; omega) (by rw [esn, ← t31.2.2]; have w := p156hv; rw [wq.1, wq.2.1, wq.2.2.1] at w; rcases w with w | w; exact w.2; omega)
                     rw [w.2, esn, ← t31.2.2]
                     have w5 := p156bhB1 (by omega) t o
                     rw [wq.1, wq.2.1, wq.2.2.1] at w5
                     exact zBB_fr w5 (fun c j h => (zxu (by omega) (zxu (by omega) (zxu (by omega) (zxu (by omega) (zxu (by omega) (zxu (by omega) (zxu (by omega) (zxu (by omega) rfl))))))))) (fun c j h => rfl))
                · have wq := bRs_w (s := s) (sn := v19o)
                  first
                  | (have w := bPu1_2 (s := s) (t := t) (o := o) (l := l) (i := i) (j := j) (by first | exact Or.inl (by rw [esn]; omega) | exact Or.inr (by omega))
                     rw [w.2]
                     exact zPB_fr hPB (fun c j h => (zxcj (by omega) (zxcj (by omega) (zxcj (by omega) (zxcj (by omega) (zxcj (by omega) (zxcj (by omega) (zxcj (by omega) (zxcj (by omega) ((p156bbbfr c j (by omega) (by omega) (by omega) (by omega) (by omega) (by omega) (by omega)).trans (zxcj (by omega) ((p130bbfr c j (by omega) (by omega)).trans (zxcj (by omega) ((p19bfr c j (by omega)).trans rfl)))))))))))))))
                  | (have w := bPu1_h (s := s) (t := t) (o := o) (l := l) (i := i) (j := j) (fun w => by rcases w with w | w; (rw [esn] at w; omega); omega) (by rcases p59hv with w | w; exact w.2; omega)
                     rw [w.2]
                     exact zPB_fr hPB (fun c j h => (zxcj (by omega) (zxcj (by omega) (zxcj (by omega) (zxcj (by omega) (zxcj (by omega) (zxcj (by omega) (zxcj (by omega) (zxcj (by omega) ((p156bbbfr c j (by omega) (by omega) (by omega) (by omega) (by omega) (by omega) (by omega)).trans (zxcj (by omega) ((p130bbfr c j (by omega) (by omega)).trans (zxcj (by omega) ((p19bfr c j (by omega)).trans rfl)))))))))))))))
                  | (have w := bPu1_f (s := s) (t := t) (o := o) (l := l) (i := i) (j := j) (fun w => by rcases w with w | w; (rw [esn] at w; omega); omega) (by rcases p59hv with w | w; omega; exact w.2) (by rw [esn, ← t31.2.2]; omega)
                     rw [w.2]
                     exact zPB_fr hPB (fun c j h => (zxcj (by omega) (zxcj (by omega) (zxcj (by omega) (zxcj (by omega) (zxcj (by omega) (zxcj (by omega) (zxcj (by omega) (zxcj (by omega) ((p156bbbfr c j (by omega) (by omega) (by omega) (by omega) (by omega) (by omega) (by omega)).trans (zxcj (by omega) ((p130bbfr c j (by omega) (by omega)).trans (zxcj (by omega) ((p19bfr c j (by omega)).trans rfl)))))))))))))))
                  | (have w := bPu1_n (s := s) (t := t) (o := o) (l := l) (i := i) (j := j) (fun w => by rcases w with w | w; (rw [esn] at w; omega); omega) (by rcases p59hv with w | w; omega; exact w.2) (by rw [esn, ← t31.2.2]; omega) (by rw [esn, ← t31.2.2]; have w := p156hv; rw [wq.1, wq.2.1, wq.2.2.1] at w; rcases w with w | w; omega; exact w.2)
                     rw [w.2, esn, ← t31.2.2]
                     exact zPB_fr g156 (fun c j h => zxcj (by omega) rfl))
                  | (have w := bPu1_y (s := s) (t := t) (o := o) (l := l) (i := i) (j := j) (fun w => by rcases w with w | w; (rw [esn] at w; omega); omega) (by rcases p59hv with w | w; omega; exact w.2) (by rw [esn, ← t31.2.2]; omega) (by rw [esn, ← t31.2.2]; have w := p156hv; rw [wq.1, wq.2.1, wq.2.2.1] at w; rcases w with w | w; exact w.2; omega)
                     have e4 : bnp (bRs s v19o) = bnp s := wq.2.2.2.1
                     rw [w.2, esn, ← t31.2.2, ← wq.1, ← wq.2.1, ← wq.2.2.1]
                     exact zPB_p (s := bRs s v19o) (n := bRn s v19o) (t := t) (o := o) (l := l) (i := i) (j := j) g156 (by rw [wq.1, wq.2.1, wq.2.2.1]; omega) ((zxs (by decide) zxe).trans (by omega)) (zxs (by decide) (zxs (by decide) (zxu (by decide) (zxu (by decide) (zxu (by decide) (zxu (by decide) (zxu (by decide) (zxu (by decide) rfl)))))))) ⟨by rw [e4]; exact (zxu (by omega) (zxu (by omega) (zxu (by omega) (zxu (by omega) (zxu (by omega) (zxu (by omega) (zxu (by omega) (zxe' (by omega))))))))), by rw [e4]; exact (zxu (by omega) (zxu (by omega) (zxu (by omega) (zxu (by omega) (zxu (by omega) (zxu (by omega) (zxe' (by omega)))))))), by rw [e4]; exact (zxu (by omega) (zxu (by omega) (zxu (by omega) (zxu (by omega) (zxu (by omega) (zxe' (by omega))))))), by rw [e4]; exact (zxu (by omega) (zxu (by omega) (zxu (by omega) (zxu (by omega) (zxe' (by omega)))))), by rw [e4]; exact (zxu (by omega) (zxu (by omega) (zxu (by omega) (zxe' (by omega))))), by rw [e4]; exact ((zxu (by omega) (zxu (by omega) (zxe' (by omega))))).trans (by have w := bRs_k (s := s) (sn := v19o); have w0 := w.1; first | (have w3 := w.2.2 (by omega); omega) | (have w3 := w.2.1 (by omega); omega))⟩ (fun c p h1 h2 h3 => by rw [e4] at h3; exact (zxcj (by omega) (zxcj (by omega) (zxcj (by omega) (zxcj (by omega) (zxcj (by omega) (zxcj (by omega) (zxcj (by omega) (zxcj (by omega) rfl))))))))) (fun m => (zxu (by decide) (zxu (by decide) (zxu (by decide) (zxu (by decide) (zxu (by decide) (zxu (by decide) (zxu (by decide) (zxu (by decide) rfl))))))))) (by rw [wq.1, wq.2.1, wq.2.2.1]; omega))
              · refine And.intro (zA_165 hS) (Exists.intro _ (And.intro (zinl_ok (zT21_47 1)) (And.intro rfl ?_)))
                refine And.intro (zA_165 hS) ⟨_, (zWi (zRb rfl)), ?_⟩
                refine hQ _ _ ?_ ?_ ?_ ?_ (fun c j h0 h1 h2 h3 h4 h5 h6 h7 h8 h9 h10 h11 h12 h13 h14 h15 h16 h17 h18 => (zxcj h0 ((p156bbbfr c j (by omega) (by omega) (by omega) (by omega) (by omega) (by omega) (by omega)).trans (zxcj h2 ((p130bbfr c j (by omega) (by omega)).trans (zxu h9 ((p19bfr c j (by omega)).trans rfl)))))))
                · have wq := bRs_w (s := s) (sn := v19o)
                  first
                  | (have w := bPu1_2 (s := s) (t := t) (o := o) (l := l) (i := i) (j := j) (by first | exact Or.inl (by rw [esn]; omega) | exact Or.inr (by omega))
                     rw [w.1]
                     rfl)
                  | (have w := bPu1_h (s := s) (t := t) (o := o) (l := l) (i := i) (j := j) (fun w => by rcases w with w | w; (rw [esn] at w; omega); omega) (by rcases p59hv with w | w; exact w.2; omega)
                     rw [w.1]
                     rfl)
                  | (have w := bPu1_f (s := s) (t := t) (o := o) (l := l) (i := i) (j := j) (fun w => by rcases w with w | w; (rw [esn] at w; omega); omega) (by rcases p59hv with w | w; omega; exact w.2) (by rw [esn, ← t31.2.2]; omega)
                     rw [w.1]
                     rfl)
                  | (have w := bPu1_n (s := s) (t := t) (o := o) (l := l) (i := i) (j := j) (fun w => by rcases w with w | w; (rw [esn] at w; omega); omega) (by rcases p59hv with w | w; omega; exact w.2) (by rw [esn, ← t31.2.2]; omega) (by rw [esn, ← t31.2.2]; have w := p156hv; rw [wq.1, wq.2.1, wq.2.2.1] at w; rcases w with w | w; omega; exact w.2)
                     rw [w.1]
                     rfl)
                  | (have w := bPu1_y (s := s) (t := t) (o := o) (l := l) (i := i) (j := j) (fun w => by rcases w with w | w; (rw [esn] at w; omega); omega) (by rcases p59hv with w | w; omega; exact w.2) (by rw [esn, ← t31.2.2]; omega) (by rw [esn, ← t31.2.2]; have w := p156hv; rw [wq.1, wq.2.1, wq.2.2.1] at w; rcases w with w | w; exact w.2; omega)
                     rw [w.1, if_pos (by omega)]
                     omega)
                · have wq := bRs_w (s := s) (sn := v19o)
                  first
                  | (have w := bPu1_2 (s := s) (t := t) (o := o) (l := l) (i := i) (j := j) (by first | exact Or.inl (by rw [esn]; omega) | exact Or.inr (by omega))
                     rw [w.1]
                     exact zxe)
                  | (have w := bPu1_h (s := s) (t := t) (o := o) (l := l) (i := i) (j := j) (fun w => by rcases w with w | w; (rw [esn] at w; omega); omega) (by rcases p59hv with w | w; exact w.2; omega)
                     rw [w.1]
                     exact zxe)
                  | (have w := bPu1_f (s := s) (t := t) (o := o) (l := l) (i := i) (j := j) (fun w => by rcases w with w | w; (rw [esn] at w; omega); omega) (by rcases p59hv with w | w; omega; exact w.2) (by rw [esn, ← t31.2.2]; omega)
                     rw [w.1]
                     exact zxe)
                  | (have w := bPu1_n (s := s) (t := t) (o := o) (l := l) (i := i) (j := j) (fun w => by rcases w with w | w; (rw [esn] at w; omega); omega) (by rcases p59hv with w | w; omega; exact w.2) (by rw [esn, ← t31.2.2]; omega) (by rw [esn, ← t31.2.2]; have w := p156hv; rw [wq.1, wq.2.1, wq.2.2.1] at w; rcases w with w | w; omega; exact w.2)
                     rw [w.1]
                     exact zxe)
                  | (have w := bPu1_y (s := s) (t := t) (o := o) (l := l) (i := i) (j := j) (fun w => by rcases w with w | w; (rw [esn] at w; omega); omega) (by rcases p59hv with w | w; omega; exact w.2) (by rw [esn, ← t31.2.2]; omega) (by rw [esn, ← t31.2.2]; have w := p156hv; rw [wq.1, wq.2.1, wq.2.2.1] at w; rcases w with w | w; exact w.2; omega)
                     rw [w.1, if_pos (by omega)]
                     exact zxe)
                · have wq := bRs_w (s := s) (sn := v19o)
                  first
                  | (have w := bPu1_2 (s := s) (t := t) (o := o) (l := l) (i := i) (j := j) (by first | exact Or.inl (by rw [esn]; omega) | exact Or.inr (by omega))
                     rw [w.2]
                     exact zBB_fr hBB (fun c j h => (zxcj (by omega) ((p156bbbfr c j (by omega) (by omega) (by omega) (by omega) (by omega) (by omega) (by omega)).trans (zxcj (by omega) ((p130bbfr c j (by omega) (by omega)).trans (zxcj (by omega) ((p19bfr c j (by omega)).trans rfl))))))) (fun c j h => rfl))
                  | (have w := bPu1_h (s := s) (t := t) (o := o) (l := l) (i := i) (j := j) (fun w => by rcases w with w | w; (rw [esn] at w; omega); omega) (by rcases p59hv with w | w; exact w.2; omega)
                     rw [w.2]
                     exact zBB_fr hBB (fun c j h => (zxcj (by omega) ((p156bbbfr c j (by omega) (by omega) (by omega) (by omega) (by omega) (by omega) (by omega)).trans (zxcj (by omega) ((p130bbfr c j (by omega) (by omega)).trans (zxcj (by omega) ((p19bfr c j (by omega)).trans rfl))))))) (fun c j h => rfl))
                  | (have w := bPu1_f (s := s) (t := t) (o := o) (l := l) (i := i) (j := j) (fun w => by rcases w with w | w; (rw [esn] at w; omega); omega) (by rcases p59hv with w | w; omega; exact w.2) (by rw [esn, ← t31.2.2]; omega)
                     rw [w.2]
                     exact zBB_fr hBB (fun c j h => (zxcj (by omega) ((p156bbbfr c j (by omega) (by omega) (by omega) (by omega) (by omega) (by omega) (by omega)).trans (zxcj (by omega) ((p130bbfr c j (by omega) (by omega)).trans (zxcj (by omega) ((p19bfr c j (by omega)).trans rfl))))))) (fun c j h => rfl))
                  | (have w := bPu1_n (s := s) (t := t) (o := o) (l := l) (i := i) (j := j) (fun w => by rcases w with w | w; (rw [esn] at w; omega); omega) (by rcases p59hv with w | w; omega; exact w.2) (by rw [esn, ← t31.2.2]; omega) (by rw [esn, ← t31.2.2]; have w := p156hv; rw [wq.1, wq.2.1, wq.2.2.1] at w; rcases w with w | w; omega; exact w.2)
                     rw [w.2, esn, ← t31.2.2]
                     exact zBB_fr (p156bbhB0 (by omega)) (fun c j h => zxcj (by omega) rfl) (fun c j h => rfl))
                  | (have w := bPu1_y (s := s) (t := t) (o := o) (l := l) (i := i) (j := j) (fun w => by rcases w with w | w; (rw [esn] at w; omega); omega) (by rcases p59hv with w | w; omega; exact w.2) (by rw [esn, ← t31.2.2]; omega) (by rw [esn, ← t31.2.2]; have w := p156hv; rw [wq.1, wq.2.1, wq.2.2.1] at w; rcases w with w | w; exact w.2; omega)
                     rw [w.2, esn, ← t31.2.2]
                     have w5 := p156bhB1 (by omega) t o
                     rw [wq.1, wq.2.1, wq.2.2.1] at w5
                     exact zBB_fr w5 (fun c j h => (zxu (by omega) (zxu (by omega) (zxu (by omega) (zxu (by omega) (zxu (by omega) (zxu (by omega) (zxu (by omega) (zxu (by omega) rfl))))))))) (fun c j h => rfl))
                · have wq := bRs_w (s := s) (sn := v19o)
                  first
                  | (have w := bPu1_2 (s := s) (t := t) (o := o) (l := l) (i := i) (j := j) (by first | exact Or.inl (by rw [esn]; omega) | exact Or.inr (by omega))
                     rw [w.2]
                     exact zPB_fr hPB (fun c j h => (zxcj (by omega) ((p156bbbfr c j (by omega) (by omega) (by omega) (by omega) (by omega) (by omega) (by omega)).trans (zxcj (by omega) ((p130bbfr c j (by omega) (by omega)).trans (zxcj (by omega) ((p19bfr c j (by omega)).trans rfl))))))))
                  | (have w := bPu1_h (s := s) (t := t) (o := o) (l := l) (i := i) (j := j) (fun w => by rcases w with w | w; (rw [esn] at w; omega); omega) (by rcases p59hv with w | w; exact w.2; omega)
                     rw [w.2]
                     exact zPB_fr hPB (fun c j h => (zxcj (by omega) ((p156bbbfr c j (by omega) (by omega) (by omega) (by omega) (by omega) (by omega) (by omega)).trans (zxcj (by omega) ((p130bbfr c j (by omega) (by omega)).trans (zxcj (by omega) ((p19bfr c j (by omega)).trans rfl))))))))
                  | (have w := bPu1_f (s := s) (t := t) (o := o) (l := l) (i := i) (j := j) (fun w => by rcases w with w | w; (rw [esn] at w; omega); omega) (by rcases p59hv with w | w; omega; exact w.2) (by rw [esn, ← t31.2.2]; omega)
                     rw [w.2]
                     exact zPB_fr hPB (fun c j h => (zxcj (by omega) ((p156bbbfr c j (by omega) (by omega) (by omega) (by omega) (by omega) (by omega) (by omega)).trans (zxcj (by omega) ((p130bbfr c j (by omega) (by omega)).trans (zxcj (by omega) ((p19bfr c j (by omega)).trans rfl))))))))
                  | (have w := bPu1_n (s := s) (t := t) (o := o) (l := l) (i := i) (j := j) (fun w => by rcases w with w | w; (rw [esn] at w; omega); omega) (by rcases p59hv with w | w; omega; exact w.2) (by rw [esn, ← t31.2.2]; omega) (by rw [esn, ← t31.2.2]; have w := p156hv; rw [wq.1, wq.2.1, wq.2.2.1] at w; rcases w with w | w; omega; exact w.2)
                     rw [w.2, esn, ← t31.2.2]
                     exact zPB_fr g156 (fun c j h => zxcj (by omega) rfl))
                  | (have w := bPu1_y (s := s) (t := t) (o := o) (l := l) (i := i) (j := j) (fun w => by rcases w with w | w; (rw [esn] at w; omega); omega) (by rcases p59hv with w | w; omega; exact w.2) (by rw [esn, ← t31.2.2]; omega) (by rw [esn, ← t31.2.2]; have w := p156hv; rw [wq.1, wq.2.1, wq.2.2.1] at w; rcases w with w | w; exact w.2; omega)
                     have e4 : bnp (bRs s v19o) = bnp s := wq.2.2.2.1
                     rw [w.2, esn, ← t31.2.2, ← wq.1, ← wq.2.1, ← wq.2.2.1]
                     exact zPB_p (s := bRs s v19o) (n := bRn s v19o) (t := t) (o := o) (l := l) (i := i) (j := j) g156 (by rw [wq.1, wq.2.1, wq.2.2.1]; omega) ((zxs (by decide) zxe).trans (by omega)) (zxs (by decide) (zxs (by decide) (zxu (by decide) (zxu (by decide) (zxu (by decide) (zxu (by decide) (zxu (by decide) (zxu (by decide) rfl)))))))) ⟨by rw [e4]; exact (zxu (by omega) (zxu (by omega) (zxu (by omega) (zxu (by omega) (zxu (by omega) (zxu (by omega) (zxu (by omega) (zxe' (by omega))))))))), by rw [e4]; exact (zxu (by omega) (zxu (by omega) (zxu (by omega) (zxu (by omega) (zxu (by omega) (zxu (by omega) (zxe' (by omega)))))))), by rw [e4]; exact (zxu (by omega) (zxu (by omega) (zxu (by omega) (zxu (by omega) (zxu (by omega) (zxe' (by omega))))))), by rw [e4]; exact (zxu (by omega) (zxu (by omega) (zxu (by omega) (zxu (by omega) (zxe' (by omega)))))), by rw [e4]; exact (zxu (by omega) (zxu (by omega) (zxu (by omega) (zxe' (by omega))))), by rw [e4]; exact ((zxu (by omega) (zxu (by omega) (zxe' (by omega))))).trans (by have w := bRs_k (s := s) (sn := v19o); have w0 := w.1; first | (have w3 := w.2.2 (by omega); omega) | (have w3 := w.2.1 (by omega); omega))⟩ (fun c p h1 h2 h3 => by rw [e4] at h3; exact (zxcj (by omega) (zxcj (by omega) (zxcj (by omega) (zxcj (by omega) (zxcj (by omega) (zxcj (by omega) (zxcj (by omega) (zxcj (by omega) rfl))))))))) (fun m => (zxu (by decide) (zxu (by decide) (zxu (by decide) (zxu (by decide) (zxu (by decide) (zxu (by decide) (zxu (by decide) (zxu (by decide) rfl))))))))) (by rw [wq.1, wq.2.1, wq.2.2.1]; omega))
            · refine And.intro (zA_165 hS) (Exists.intro _ (And.intro (zinl_ok (zT21_47 1)) (And.intro rfl ?_)))
              refine And.intro (zA_165 hS) ⟨_, (zWi (zRb rfl)), ?_⟩
              refine hQ _ _ ?_ ?_ ?_ ?_ (fun c j h0 h1 h2 h3 h4 h5 h6 h7 h8 h9 h10 h11 h12 h13 h14 h15 h16 h17 h18 => (zxcj h0 ((p19bfr c j (by omega)).trans rfl)))
              · have wq := bRs_w (s := s) (sn := v19o)
                first
                | (have w := bPu1_2 (s := s) (t := t) (o := o) (l := l) (i := i) (j := j) (by first | exact Or.inl (by rw [esn]; omega) | exact Or.inr (by omega))
                   rw [w.1]
                   rfl)
                | (have w := bPu1_h (s := s) (t := t) (o := o) (l := l) (i := i) (j := j) (fun w => by rcases w with w | w; (rw [esn] at w; omega); omega) (by rcases p59hv with w | w; exact w.2; omega)
                   rw [w.1]
                   rfl)
                | (have w := bPu1_f (s := s) (t := t) (o := o) (l := l) (i := i) (j := j) (fun w => by rcases w with w | w; (rw [esn] at w; omega); omega) (by rcases p59hv with w | w; omega; exact w.2) (by rw [esn, ← t31.2.2]; omega)
                   rw [w.1]
                   rfl)
                | (have w := bPu1_n (s := s) (t := t) (o := o) (l := l) (i := i) (j := j) (fun w => by rcases w with w | w; (rw [esn] at w; omega); omega) (by rcases p59hv with w | w; omega; exact w.2) (by rw [esn, ← t31.2.2]; omega) (by rw [esn, ← t31.2.2]; have w := p156hv; rw [wq.1, wq.2.1, wq.2.2.1] at w; rcases w with w | w; omega; exact w.2)
                   rw [w.1]
                   rfl)
                | (have w := bPu1_y (s := s) (t := t) (o := o) (l := l) (i := i) (j := j) (fun w => by rcases w with w | w; (rw [esn] at w; omega); omega) (by rcases p59hv with w | w; omega; exact w.2) (by rw [esn, ← t31.2.2]; omega) (by rw [esn, ← t31.2.2]; have w := p156hv; rw [wq.1, wq.2.1, wq.2.2.1] at w; rcases w with w | w; exact w.2; omega)
                   rw [w.1, if_pos (by omega)]
                   omega)
              · have wq := bRs_w (s := s) (sn := v19o)
                first
                | (have w := bPu1_2 (s := s) (t := t) (o := o) (l := l) (i := i) (j := j) (by first | exact Or.inl (by rw [esn]; omega) | exact Or.inr (by omega))
                   rw [w.1]
                   exact zxe)
                | (have w := bPu1_h (s := s) (t := t) (o := o) (l := l) (i := i) (j := j) (fun w => by rcases w with w | w; (rw [esn] at w; omega); omega) (by rcases p59hv with w | w; exact w.2; omega)
                   rw [w.1]
                   exact zxe)
                | (have w := bPu1_f (s := s) (t := t) (o := o) (l := l) (i := i) (j := j) (fun w => by rcases w with w | w; (rw [esn] at w; omega); omega) (by rcases p59hv with w | w; omega; exact w.2) (by rw [esn, ← t31.2.2]; omega)
                   rw [w.1]
                   exact zxe)
                | (have w := bPu1_n (s := s) (t := t) (o := o) (l := l) (i := i) (j := j) (fun w => by rcases w with w | w; (rw [esn] at w; omega); omega) (by rcases p59hv with w | w; omega; exact w.2) (by rw [esn, ← t31.2.2]; omega) (by rw [esn, ← t31.2.2]; have w := p156hv; rw [wq.1, wq.2.1, wq.2.2.1] at w; rcases w with w | w; omega; exact w.2)
                   rw [w.1]
                   exact zxe)
                | (have w := bPu1_y (s := s) (t := t) (o := o) (l := l) (i := i) (j := j) (fun w => by rcases w with w | w; (rw [esn] at w; omega); omega) (by rcases p59hv with w | w; omega; exact w.2) (by rw [esn, ← t31.2.2]; omega) (by rw [esn, ← t31.2.2]; have w := p156hv; rw [wq.1, wq.2.1, wq.2.2.1] at w; rcases w with w | w; exact w.2; omega)
                   rw [w.1, if_pos (by omega)]
                   exact zxe)
              · have wq := bRs_w (s := s) (sn := v19o)
                first
                | (have w := bPu1_2 (s := s) (t := t) (o := o) (l := l) (i := i) (j := j) (by first | exact Or.inl (by rw [esn]; omega) | exact Or.inr (by omega))
                   rw [w.2]
                   exact zBB_fr hBB (fun c j h => (zxcj (by omega) ((p19bfr c j (by omega)).trans rfl))) (fun c j h => rfl))
                | (have w := bPu1_h (s := s) (t := t) (o := o) (l := l) (i := i) (j := j) (fun w => by rcases w with w | w; (rw [esn] at w; omega); omega) (by rcases p59hv with w | w; exact w.2; omega)
                   rw [w.2]
                   exact zBB_fr hBB (fun c j h => (zxcj (by omega) ((p19bfr c j (by omega)).trans rfl))) (fun c j h => rfl))
                | (have w := bPu1_f (s := s) (t := t) (o := o) (l := l) (i := i) (j := j) (fun w => by rcases w with w | w; (rw [esn] at w; omega); omega) (by rcases p59hv with w | w; omega; exact w.2) (by rw [esn, ← t31.2.2]; omega)
                   rw [w.2]
                   exact zBB_fr hBB (fun c j h => (zxcj (by omega) ((p19bfr c j (by omega)).trans rfl))) (fun c j h => rfl))
                | (have w := bPu1_n (s := s) (t := t) (o := o) (l := l) (i := i) (j := j) (fun w => by rcases w with w | w; (rw [esn] at w; omega); omega) (by rcases p59hv with w | w; omega; exact w.2) (by rw [esn, ← t31.2.2]; omega) (by rw [esn, ← t31.2.2]; have w := p156hv; rw [wq.1, wq.2.1, wq.2.2.1] at w; rcases w with w | w; omega; exact w.2)
                   rw [w.2, esn, ← t31.2.2]
                   exact zBB_fr (p156bbhB0 (by omega)) (fun c j h => zxcj (by omega) rfl) (fun c j h => rfl))
                | (have w := bPu1_y (s := s) (t := t) (o := o) (l := l) (i := i) (j := j) (fun w => by rcases w with w | w; (rw [esn] at w; omega); omega) (by rcases p59hv with w | w; omega; exact w.2) (by rw [esn, ← t31.2.2]; omega) (by rw [esn, ← t31.2.2]; have w := p156hv; rw [wq.1, wq.2.1, wq.2.2.1] at w; rcases w with w | w; exact w.2; omega)
                   rw [w.2, esn, ← t31.2.2]
                   have w5 := p156bhB1 (by omega) t o
                   rw [wq.1, wq.2.1, wq.2.2.1] at w5
                   exact zBB_fr w5 (fun c j h => (zxu (by omega) (zxu (by omega) (zxu (by omega) (zxu (by omega) (zxu (by omega) (zxu (by omega) (zxu (by omega) (zxu (by omega) rfl))))))))) (fun c j h => rfl))
              · have wq := bRs_w (s := s) (sn := v19o)
                first
                | (have w := bPu1_2 (s := s) (t := t) (o := o) (l := l) (i := i) (j := j) (by first | exact Or.inl (by rw [esn]; omega) | exact Or.inr (by omega))
                   rw [w.2]
                   exact zPB_fr hPB (fun c j h => (zxcj (by omega) ((p19bfr c j (by omega)).trans rfl))))
                | (have w := bPu1_h (s := s) (t := t) (o := o) (l := l) (i := i) (j := j) (fun w => by rcases w with w | w; (rw [esn] at w; omega); omega) (by rcases p59hv with w | w; exact w.2; omega)
                   rw [w.2]
                   exact zPB_fr hPB (fun c j h => (zxcj (by omega) ((p19bfr c j (by omega)).trans rfl))))
                | (have w := bPu1_f (s := s) (t := t) (o := o) (l := l) (i := i) (j := j) (fun w => by rcases w with w | w; (rw [esn] at w; omega); omega) (by rcases p59hv with w | w; omega; exact w.2) (by rw [esn, ← t31.2.2]; omega)
                   rw [w.2]
                   exact zPB_fr hPB (fun c j h => (zxcj (by omega) ((p19bfr c j (by omega)).trans rfl))))
                | (have w := bPu1_n (s := s) (t := t) (o := o) (l := l) (i := i) (j := j) (fun w => by rcases w with w | w; (rw [esn] at w; omega); omega) (by rcases p59hv with w | w; omega; exact w.2) (by rw [esn, ← t31.2.2]; omega) (by rw [esn, ← t31.2.2]; have w := p156hv; rw [wq.1, wq.2.1, wq.2.2.1] at w; rcases w with w | w; omega; exact w.2)
                   rw [w.2, esn, ← t31.2.2]
                   exact zPB_fr g156 (fun c j h => zxcj (by omega) rfl))
                | (have w := bPu1_y (s := s) (t := t) (o := o) (l := l) (i := i) (j := j) (fun w => by rcases w with w | w; (rw [esn] at w; omega); omega) (by rcases p59hv with w | w; omega; exact w.2) (by rw [esn, ← t31.2.2]; omega) (by rw [esn, ← t31.2.2]; have w := p156hv; rw [wq.1, wq.2.1, wq.2.2.1] at w; rcases w with w | w; exact w.2; omega)
                   have e4 : bnp (bRs s v19o) = bnp s := wq.2.2.2.1
                   rw [w.2, esn, ← t31.2.2, ← wq.1, ← wq.2.1, ← wq.2.2.1]
                   exact zPB_p (s := bRs s v19o) (n := bRn s v19o) (t := t) (o := o) (l := l) (i := i) (j := j) g156 (by rw [wq.1, wq.2.1, wq.2.2.1]; omega) ((zxs (by decide) zxe).trans (by omega)) (zxs (by decide) (zxs (by decide) (zxu (by decide) (zxu (by decide) (zxu (by decide) (zxu (by decide) (zxu (by decide) (zxu (by decide) rfl)))))))) ⟨by rw [e4]; exact (zxu (by omega) (zxu (by omega) (zxu (by omega) (zxu (by omega) (zxu (by omega) (zxu (by omega) (zxu (by omega) (zxe' (by omega))))))))), by rw [e4]; exact (zxu (by omega) (zxu (by omega) (zxu (by omega) (zxu (by omega) (zxu (by omega) (zxu (by omega) (zxe' (by omega)))))))), by rw [e4]; exact (zxu (by omega) (zxu (by omega) (zxu (by omega) (zxu (by omega) (zxu (by omega) (zxe' (by omega))))))), by rw [e4]; exact (zxu (by omega) (zxu (by omega) (zxu (by omega) (zxu (by omega) (zxe' (by omega)))))), by rw [e4]; exact (zxu (by omega) (zxu (by omega) (zxu (by omega) (zxe' (by omega))))), by rw [e4]; exact ((zxu (by omega) (zxu (by omega) (zxe' (by omega))))).trans (by have w := bRs_k (s := s) (sn := v19o); have w0 := w.1; first | (have w3 := w.2.2 (by omega); omega) | (have w3 := w.2.1 (by omega); omega))⟩ (fun c p h1 h2 h3 => by rw [e4] at h3; exact (zxcj (by omega) (zxcj (by omega) (zxcj (by omega) (zxcj (by omega) (zxcj (by omega) (zxcj (by omega) (zxcj (by omega) (zxcj (by omega) rfl))))))))) (fun m => (zxu (by decide) (zxu (by decide) (zxu (by decide) (zxu (by decide) (zxu (by decide) (zxu (by decide) (zxu (by decide) (zxu (by decide) rfl))))))))) (by rw [wq.1, wq.2.1, wq.2.2.1]; omega))
      · refine And.intro (zA_165 hS) (Exists.intro _ (And.intro (zinl_ok (zT21_47 1)) (And.intro rfl ?_)))
        refine And.intro (zA_165 hS) ⟨_, (zWi (zRb rfl)), ?_⟩
        refine hQ _ _ ?_ ?_ ?_ ?_ (fun c j h0 h1 h2 h3 h4 h5 h6 h7 h8 h9 h10 h11 h12 h13 h14 h15 h16 h17 h18 => (zxcj h0 ((p19bfr c j (by omega)).trans rfl)))
        · have wq := bRs_w (s := s) (sn := v19o)
          first
          | (have w := bPu1_2 (s := s) (t := t) (o := o) (l := l) (i := i) (j := j) (by first | exact Or.inl (by rw [esn]; omega) | exact Or.inr (by omega))
             rw [w.1]
             rfl)
          | (have w := bPu1_h (s := s) (t := t) (o := o) (l := l) (i := i) (j := j) (fun w => by rcases w with w | w; (rw [esn] at w; omega); omega) (by rcases p59hv with w | w; exact w.2; omega)
             rw [w.1]
             rfl)
          | (have w := bPu1_f (s := s) (t := t) (o := o) (l := l) (i := i) (j := j) (fun w => by rcases w with w | w; (rw [esn] at w; omega); omega) (by rcases p59hv with w | w; omega; exact w.2) (by rw [esn, ← t31.2.2]; omega)
             rw [w.1]
             rfl)
          | (have w := bPu1_n (s := s) (t := t) (o := o) (l := l) (i := i) (j := j) (fun w => by rcases w with w | w; (rw [esn] at w; omega); omega) (by rcases p59hv with w | w; omega; exact w.2) (by rw [esn, ← t31.2.2]; omega) (by rw [esn, ← t31.2.2]; have w := p156hv; rw [wq.1, wq.2.1, wq.2.2.1] at w; rcases w with w | w; omega; exact w.2)
             rw [w.1]
             rfl)
          | (have w := bPu1_y (s := s) (t := t) (o := o) (l := l) (i := i) (j := j) (fun w => by rcases w with w | w; (rw [esn] at w; omega); omega) (by rcases p59hv with w | w; omega; exact w.2) (by rw [esn, ← t31.2.2]; omega) (by rw [esn, ← t31.2.2]; have w := p156hv; rw [wq.1, wq.2.1, wq.2.2.1] at w; rcases w with w | w; exact w.2; omega)
             rw [w.1, if_pos (by omega)]
             omega)
        · have wq := bRs_w (s := s) (sn := v19o)
          first
          | (have w := bPu1_2 (s := s) (t := t) (o := o) (l := l) (i := i) (j := j) (by first | exact Or.inl (by rw [esn]; omega) | exact Or.inr (by omega))
             rw [w.1]
             exact zxe)
          | (have w := bPu1_h (s := s) (t := t) (o := o) (l := l) (i := i) (j := j) (fun w => by rcases w with w | w; (rw [esn] at w; omega); omega) (by rcases p59hv with w | w; exact w.2; omega)
             rw [w.1]
             exact zxe)
          | (have w := bPu1_f (s := s) (t := t) (o := o) (l := l) (i := i) (j := j) (fun w => by rcases w with w | w; (rw [esn] at w; omega); omega) (by rcases p59hv with w | w; omega; exact w.2) (by rw [esn, ← t31.2.2]; omega)
             rw [w.1]
             exact zxe)
          | (have w := bPu1_n (s := s) (t := t) (o := o) (l := l) (i := i) (j := j) (fun w => by rcases w with w | w; (rw [esn] at w; omega); omega) (by rcases p59hv with w | w; omega; exact w.2) (by rw [esn, ← t31.2.2]; omega) (by rw [esn, ← t31.2.2]; have w := p156hv; rw [wq.1, wq.2.1, wq.2.2.1] at w; rcases w with w | w; omega; exact w.2)
             rw [w.1]
             exact zxe)
          | (have w := bPu1_y (s := s) (t := t) (o := o) (l := l) (i := i) (j := j) (fun w => by rcases w with w | w; (rw [esn] at w; omega); omega) (by rcases p59hv with w | w; omega; exact w.2) (by rw [esn, ← t31.2.2]; omega) (by rw [esn, ← t31.2.2]; have w := p156hv; rw [wq.1, wq.2.1, wq.2.2.1] at w; rcases w with w | w; exact w.2; omega)
             rw [w.1, if_pos (by omega)]
             exact zxe)
        · have wq := bRs_w (s := s) (sn := v19o)
          first
          | (have w := bPu1_2 (s := s) (t := t) (o := o) (l := l) (i := i) (j := j) (by first | exact Or.inl (by rw [esn]; omega) | exact Or.inr (by omega))
             rw [w.2]
             exact zBB_fr hBB (fun c j h => (zxcj (by omega) ((p19bfr c j (by omega)).trans rfl))) (fun c j h => rfl))
          | (have w := bPu1_h (s := s) (t := t) (o := o) (l := l) (i := i) (j := j) (fun w => by rcases w with w | w; (rw [esn] at w; omega); omega) (by rcases p59hv with w | w; exact w.2; omega)
             rw [w.2]
             exact zBB_fr hBB (fun c j h => (zxcj (by omega) ((p19bfr c j (by omega)).trans rfl))) (fun c j h => rfl))
          | (have w := bPu1_f (s := s) (t := t) (o := o) (l := l) (i := i) (j := j) (fun w => by rcases w with w | w; (rw [esn] at w; omega); omega) (by rcases p59hv with w | w; omega; exact w.2) (by rw [esn, ← t31.2.2]; omega)
             rw [w.2]
             exact zBB_fr hBB (fun c j h => (zxcj (by omega) ((p19bfr c j (by omega)).trans rfl))) (fun c j h => rfl))
          | (have w := bPu1_n (s := s) (t := t) (o := o) (l := l) (i := i) (j := j) (fun w => by rcases w with w | w; (rw [esn] at w; omega); omega) (by rcases p59hv with w | w; omega; exact w.2) (by rw [esn, ← t31.2.2]; omega) (by rw [esn, ← t31.2.2]; have w := p156hv; rw [wq.1, wq.2.1, wq.2.2.1] at w; rcases w with w | w; omega; exact w.2)
             rw [w.2, esn, ← t31.2.2]
             exact zBB_fr (p156bbhB0 (by omega)) (fun c j h => zxcj (by omega) rfl) (fun c j h => rfl))
          | (have w := bPu1_y (s := s) (t := t) (o := o) (l := l) (i := i) (j := j) (fun w => by rcases w with w | w; (rw [esn] at w; omega); omega) (by rcases p59hv with w | w; omega; exact w.2) (by rw [esn, ← t31.2.2]; omega) (by rw [esn, ← t31.2.2]; have w := p156hv; rw [wq.1, wq.2.1, wq.2.2.1] at w; rcases w with w | w; exact w.2; omega)
             rw [w.2, esn, ← t31.2.2]
             have w5 := p156bhB1 (by omega) t o
             rw [wq.1, wq.2.1, wq.2.2.1] at w5
             exact zBB_fr w5 (fun c j h => (zxu (by omega) (zxu (by omega) (zxu (by omega) (zxu (by omega) (zxu (by omega) (zxu (by omega) (zxu (by omega) (zxu (by omega) rfl))))))))) (fun c j h => rfl))
        · have wq := bRs_w (s := s) (sn := v19o)
          first
          | (have w := bPu1_2 (s := s) (t := t) (o := o) (l := l) (i := i) (j := j) (by first | exact Or.inl (by rw [esn]; omega) | exact Or.inr (by omega))
             rw [w.2]
             exact zPB_fr hPB (fun c j h => (zxcj (by omega) ((p19bfr c j (by omega)).trans rfl))))
          | (have w := bPu1_h (s := s) (t := t) (o := o) (l := l) (i := i) (j := j) (fun w => by rcases w with w | w; (rw [esn] at w; omega); omega) (by rcases p59hv with w | w; exact w.2; omega)
             rw [w.2]
             exact zPB_fr hPB (fun c j h => (zxcj (by omega) ((p19bfr c j (by omega)).trans rfl))))
          | (have w := bPu1_f (s := s) (t := t) (o := o) (l := l) (i := i) (j := j) (fun w => by rcases w with w | w; (rw [esn] at w; omega); omega) (by rcases p59hv with w | w; omega; exact w.2) (by rw [esn, ← t31.2.2]; omega)
             rw [w.2]
             exact zPB_fr hPB (fun c j h => (zxcj (by omega) ((p19bfr c j (by omega)).trans rfl))))
          | (have w := bPu1_n (s := s) (t := t) (o := o) (l := l) (i := i) (j := j) (fun w => by rcases w with w | w; (rw [esn] at w; omega); omega) (by rcases p59hv with w | w; omega; exact w.2) (by rw [esn, ← t31.2.2]; omega) (by rw [esn, ← t31.2.2]; have w := p156hv; rw [wq.1, wq.2.1, wq.2.2.1] at w; rcases w with w | w; omega; exact w.2)
             rw [w.2, esn, ← t31.2.2]
             exact zPB_fr g156 (fun c j h => zxcj (by omega) rfl))
          | (have w := bPu1_y (s := s) (t := t) (o := o) (l := l) (i := i) (j := j) (fun w => by rcases w with w | w; (rw [esn] at w; omega); omega) (by rcases p59hv with w | w; omega; exact w.2) (by rw [esn, ← t31.2.2]; omega) (by rw [esn, ← t31.2.2]; have w := p156hv; rw [wq.1, wq.2.1, wq.2.2.1] at w; rcases w with w | w; exact w.2; omega)
             have e4 : bnp (bRs s v19o) = bnp s := wq.2.2.2.1
             rw [w.2, esn, ← t31.2.2, ← wq.1, ← wq.2.1, ← wq.2.2.1]
             exact zPB_p (s := bRs s v19o) (n := bRn s v19o) (t := t) (o := o) (l := l) (i := i) (j := j) g156 (by rw [wq.1, wq.2.1, wq.2.2.1]; omega) ((zxs (by decide) zxe).trans (by omega)) (zxs (by decide) (zxs (by decide) (zxu (by decide) (zxu (by decide) (zxu (by decide) (zxu (by decide) (zxu (by decide) (zxu (by decide) rfl)))))))) ⟨by rw [e4]; exact (zxu (by omega) (zxu (by omega) (zxu (by omega) (zxu (by omega) (zxu (by omega) (zxu (by omega) (zxu (by omega) (zxe' (by omega))))))))), by rw [e4]; exact (zxu (by omega) (zxu (by omega) (zxu (by omega) (zxu (by omega) (zxu (by omega) (zxu (by omega) (zxe' (by omega)))))))), by rw [e4]; exact (zxu (by omega) (zxu (by omega) (zxu (by omega) (zxu (by omega) (zxu (by omega) (zxe' (by omega))))))), by rw [e4]; exact (zxu (by omega) (zxu (by omega) (zxu (by omega) (zxu (by omega) (zxe' (by omega)))))), by rw [e4]; exact (zxu (by omega) (zxu (by omega) (zxu (by omega) (zxe' (by omega))))), by rw [e4]; exact ((zxu (by omega) (zxu (by omega) (zxe' (by omega))))).trans (by have w := bRs_k (s := s) (sn := v19o); have w0 := w.1; first | (have w3 := w.2.2 (by omega); omega) | (have w3 := w.2.1 (by omega); omega))⟩ (fun c p h1 h2 h3 => by rw [e4] at h3; exact (zxcj (by omega) (zxcj (by omega) (zxcj (by omega) (zxcj (by omega) (zxcj (by omega) (zxcj (by omega) (zxcj (by omega) (zxcj (by omega) rfl))))))))) (fun m => (zxu (by decide) (zxu (by decide) (zxu (by decide) (zxu (by decide) (zxu (by decide) (zxu (by decide) (zxu (by decide) (zxu (by decide) rfl))))))))) (by rw [wq.1, wq.2.1, wq.2.2.1]; omega))
    · refine And.intro (zA_165 hS) (Exists.intro _ (And.intro (zinl_ok (zT21_47 1)) (And.intro rfl ?_)))
      refine And.intro (zA_165 hS) ⟨_, (zWi (zRb rfl)), ?_⟩
      refine hQ _ _ ?_ ?_ ?_ ?_ (fun c j h0 h1 h2 h3 h4 h5 h6 h7 h8 h9 h10 h11 h12 h13 h14 h15 h16 h17 h18 => (zxcj h0 ((p19bfr c j (by omega)).trans rfl)))
      · have wq := bRs_w (s := s) (sn := v19o)
        first
        | (have w := bPu1_2 (s := s) (t := t) (o := o) (l := l) (i := i) (j := j) (by first | exact Or.inl (by rw [esn]; omega) | exact Or.inr (by omega))
           rw [w.1]
           rfl)
        | (have w := bPu1_h (s := s) (t := t) (o := o) (l := l) (i := i) (j := j) (fun w => by rcases w with w | w; (rw [esn] at w; omega); omega) (by rcases p59hv with w | w; exact w.2; omega)
           rw [w.1]
           rfl)
        | (have w := bPu1_f (s := s) (t := t) (o := o) (l := l) (i := i) (j := j) (fun w => by rcases w with w | w; (rw [esn] at w; omega); omega) (by rcases p59hv with w | w; omega; exact w.2) (by rw [esn, ← t31.2.2]; omega)
           rw [w.1]
           rfl)
        | (have w := bPu1_n (s := s) (t := t) (o := o) (l := l) (i := i) (j := j) (fun w => by rcases w with w | w; (rw [esn] at w; omega); omega) (by rcases p59hv with w | w; omega; exact w.2) (by rw [esn, ← t31.2.2]; omega) (by rw [esn, ← t31.2.2]; have w := p156hv; rw [wq.1, wq.2.1, wq.2.2.1] at w; rcases w with w | w; omega; exact w.2)
           rw [w.1]
           rfl)
        | (have w := bPu1_y (s := s) (t := t) (o := o) (l := l) (i := i) (j := j) (fun w => by rcases w with w | w; (rw [esn] at w; omega); omega) (by rcases p59hv with w | w; omega; exact w.2) (by rw [esn, ← t31.2.2]; omega) (by rw [esn, ← t31.2.2]; have w := p156hv; rw [wq.1, wq.2.1, wq.2.2.1] at w; rcases w with w | w; exact w.2; omega)
           rw [w.1, if_pos (by omega)]
           omega)
      · have wq := bRs_w (s := s) (sn := v19o)
        first
        | (have w := bPu1_2 (s := s) (t := t) (o := o) (l := l) (i := i) (j := j) (by first | exact Or.inl (by rw [esn]; omega) | exact Or.inr (by omega))
           rw [w.1]
           exact zxe)
        | (have w := bPu1_h (s := s) (t := t) (o := o) (l := l) (i := i) (j := j) (fun w => by rcases w with w | w; (rw [esn] at w; omega); omega) (by rcases p59hv with w | w; exact w.2; omega)
           rw [w.1]
           exact zxe)
        | (have w := bPu1_f (s := s) (t := t) (o := o) (l := l) (i := i) (j := j) (fun w => by rcases w with w | w; (rw [esn] at w; omega); omega) (by rcases p59hv with w | w; omega; exact w.2) (by rw [esn, ← t31.2.2]; omega)
           rw [w.1]
           exact zxe)
        | (have w := bPu1_n (s := s) (t := t) (o := o) (l := l) (i := i) (j := j) (fun w => by rcases w with w | w; (rw [esn] at w; omega); omega) (by rcases p59hv with w | w; omega; exact w.2) (by rw [esn, ← t31.2.2]; omega) (by rw [esn, ← t31.2.2]; have w := p156hv; rw [wq.1, wq.2.1, wq.2.2.1] at w; rcases w with w | w; omega; exact w.2)
           rw [w.1]
           exact zxe)
        | (have w := bPu1_y (s := s) (t := t) (o := o) (l := l) (i := i) (j := j) (fun w => by rcases w with w | w; (rw [esn] at w; omega); omega) (by rcases p59hv with w | w; omega; exact w.2) (by rw [esn, ← t31.2.2]; omega) (by rw [esn, ← t31.2.2]; have w := p156hv; rw [wq.1, wq.2.1, wq.2.2.1] at w; rcases w with w | w; exact w.2; omega)
           rw [w.1, if_pos (by omega)]
           exact zxe)
      · have wq := bRs_w (s := s) (sn := v19o)
        first
        | (have w := bPu1_2 (s := s) (t := t) (o := o) (l := l) (i := i) (j := j) (by first | exact Or.inl (by rw [esn]; omega) | exact Or.inr (by omega))
           rw [w.2]
           exact zBB_fr hBB (fun c j h => (zxcj (by omega) ((p19bfr c j (by omega)).trans rfl))) (fun c j h => rfl))
        | (have w := bPu1_h (s := s) (t := t) (o := o) (l := l) (i := i) (j := j) (fun w => by rcases w with w | w; (rw [esn] at w; omega); omega) (by rcases p59hv with w | w; exact w.2; omega)
           rw [w.2]
           exact zBB_fr hBB (fun c j h => (zxcj (by omega) ((p19bfr c j (by omega)).trans rfl))) (fun c j h => rfl))
        | (have w := bPu1_f (s := s) (t := t) (o := o) (l := l) (i := i) (j := j) (fun w => by rcases w with w | w; (rw [esn] at w; omega); omega) (by rcases p59hv with w | w; omega; exact w.2) (by rw [esn, ← t31.2.2]; omega)
           rw [w.2]
           exact zBB_fr hBB (fun c j h => (zxcj (by omega) ((p19bfr c j (by omega)).trans rfl))) (fun c j h => rfl))
        | (have w := bPu1_n (s := s) (t := t) (o := o) (l := l) (i := i) (j := j) (fun w => by rcases w with w | w; (rw [esn] at w; omega); omega) (by rcases p59hv with w | w; omega; exact w.2) (by rw [esn, ← t31.2.2]; omega) (by rw [esn, ← t31.2.2]; have w := p156hv; rw [wq.1, wq.2.1, wq.2.2.1] at w; rcases w with w | w; omega; exact w.2)
           rw [w.2, esn, ← t31.2.2]
           exact zBB_fr (p156bbhB0 (by omega)) (fun c j h => zxcj (by omega) rfl) (fun c j h => rfl))
        | (have w := bPu1_y (s := s) (t := t) (o := o) (l := l) (i := i) (j := j) (fun w => by rcases w with w | w; (rw [esn] at w; omega); omega) (by rcases p59hv with w | w; omega; exact w.2) (by rw [esn, ← t31.2.2]; omega) (by rw [esn, ← t31.2.2]; have w := p156hv; rw [wq.1, wq.2.1, wq.2.2.1] at w; rcases w with w | w; exact w.2; omega)
           rw [w.2, esn, ← t31.2.2]
           have w5 := p156bhB1 (by omega) t o
           rw [wq.1, wq.2.1, wq.2.2.1] at w5
           exact zBB_fr w5 (fun c j h => (zxu (by omega) (zxu (by omega) (zxu (by omega) (zxu (by omega) (zxu (by omega) (zxu (by omega) (zxu (by omega) (zxu (by omega) rfl))))))))) (fun c j h => rfl))
      · have wq := bRs_w (s := s) (sn := v19o)
        first
        | (have w := bPu1_2 (s := s) (t := t) (o := o) (l := l) (i := i) (j := j) (by first | exact Or.inl (by rw [esn]; omega) | exact Or.inr (by omega))
           rw [w.2]
           exact zPB_fr hPB (fun c j h => (zxcj (by omega) ((p19bfr c j (by omega)).trans rfl))))
        | (have w := bPu1_h (s := s) (t := t) (o := o) (l := l) (i := i) (j := j) (fun w => by rcases w with w | w; (rw [esn] at w; omega); omega) (by rcases p59hv with w | w; exact w.2; omega)
           rw [w.2]
           exact zPB_fr hPB (fun c j h => (zxcj (by omega) ((p19bfr c j (by omega)).trans rfl))))
        | (have w := bPu1_f (s := s) (t := t) (o := o) (l := l) (i := i) (j := j) (fun w => by rcases w with w | w; (rw [esn] at w; omega); omega) (by rcases p59hv with w | w; omega; exact w.2) (by rw [esn, ← t31.2.2]; omega)
           rw [w.2]
           exact zPB_fr hPB (fun c j h => (zxcj (by omega) ((p19bfr c j (by omega)).trans rfl))))
        | (have w := bPu1_n (s := s) (t := t) (o := o) (l := l) (i := i) (j := j) (fun w => by rcases w with w | w; (rw [esn] at w; omega); omega) (by rcases p59hv with w | w; omega; exact w.2) (by rw [esn, ← t31.2.2]; omega) (by rw [esn, ← t31.2.2]; have w := p156hv; rw [wq.1, wq.2.1, wq.2.2.1] at w; rcases w with w | w; omega; exact w.2)
           rw [w.2, esn, ← t31.2.2]
           exact zPB_fr g156 (fun c j h => zxcj (by omega) rfl))
        | (have w := bPu1_y (s := s) (t := t) (o := o) (l := l) (i := i) (j := j) (fun w => by rcases w with w | w; (rw [esn] at w; omega); omega) (by rcases p59hv with w | w; omega; exact w.2) (by rw [esn, ← t31.2.2]; omega) (by rw [esn, ← t31.2.2]; have w := p156hv; rw [wq.1, wq.2.1, wq.2.2.1] at w; rcases w with w | w; exact w.2; omega)
           have e4 : bnp (bRs s v19o) = bnp s := wq.2.2.2.1
           rw [w.2, esn, ← t31.2.2, ← wq.1, ← wq.2.1, ← wq.2.2.1]
           exact zPB_p (s := bRs s v19o) (n := bRn s v19o) (t := t) (o := o) (l := l) (i := i) (j := j) g156 (by rw [wq.1, wq.2.1, wq.2.2.1]; omega) ((zxs (by decide) zxe).trans (by omega)) (zxs (by decide) (zxs (by decide) (zxu (by decide) (zxu (by decide) (zxu (by decide) (zxu (by decide) (zxu (by decide) (zxu (by decide) rfl)))))))) ⟨by rw [e4]; exact (zxu (by omega) (zxu (by omega) (zxu (by omega) (zxu (by omega) (zxu (by omega) (zxu (by omega) (zxu (by omega) (zxe' (by omega))))))))), by rw [e4]; exact (zxu (by omega) (zxu (by omega) (zxu (by omega) (zxu (by omega) (zxu (by omega) (zxu (by omega) (zxe' (by omega)))))))), by rw [e4]; exact (zxu (by omega) (zxu (by omega) (zxu (by omega) (zxu (by omega) (zxu (by omega) (zxe' (by omega))))))), by rw [e4]; exact (zxu (by omega) (zxu (by omega) (zxu (by omega) (zxu (by omega) (zxe' (by omega)))))), by rw [e4]; exact (zxu (by omega) (zxu (by omega) (zxu (by omega) (zxe' (by omega))))), by rw [e4]; exact ((zxu (by omega) (zxu (by omega) (zxe' (by omega))))).trans (by have w := bRs_k (s := s) (sn := v19o); have w0 := w.1; first | (have w3 := w.2.2 (by omega); omega) | (have w3 := w.2.1 (by omega); omega))⟩ (fun c p h1 h2 h3 => by rw [e4] at h3; exact (zxcj (by omega) (zxcj (by omega) (zxcj (by omega) (zxcj (by omega) (zxcj (by omega) (zxcj (by omega) (zxcj (by omega) (zxcj (by omega) rfl))))))))) (fun m => (zxu (by decide) (zxu (by decide) (zxu (by decide) (zxu (by decide) (zxu (by decide) (zxu (by decide) (zxu (by decide) (zxu (by decide) rfl))))))))) (by rw [wq.1, wq.2.1, wq.2.2.1]; omega)))
