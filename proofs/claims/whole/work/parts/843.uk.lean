/-! uk -/
def T_E_go : ZT := fun args I L R S Q => ∃ (k : Nat) (n : Nat) (e : Nat → Int) (cl : Nat → Int) (fn : Nat → Int) (G : WkG) (M : WkM) (E : EvE) (st : Int), args = [zvr 138, zvi st] ∧ (zSh S) ∧ (zRs R) ∧ (zDy zT8 zF8 k R S) ∧ (k = 130 ∨ k = 134) ∧ (zEt k n e I) ∧ (R 138 0 = some k) ∧ (zCl k n cl fn I) ∧ (scOk n e cl fn M G) ∧ (zEv E I L) ∧ (M.2.2.1 = st) ∧ (1 ≤ st ∧ st ≤ 300) ∧ ∀ (v : Int) (I' : ZI) (L' : ZI), (v = (scRn M E).2.1) → (zRn n e M (scRn M E).1 (scRn M E).2.2 I' L') → (∀ c j : Nat, ¬ (c = 138 ∧ j = 3) → ¬ (c = 138 ∧ j = 6) → ¬ (c = 138 ∧ j = 8) → ¬ (c = 138 ∧ j = 10) → ¬ (c = 138 ∧ j = 11) → ¬ (c = 138 ∧ j = 12) → ¬ (c = 138 ∧ j = 13) → ¬ (c = 138 ∧ j = 14) → ¬ (c = 138 ∧ j = 15) → ¬ (c = 138 ∧ j = 16) → ¬ (c = 138 ∧ j = 17) → ¬ c = 144 → I' c j = I c j) → (∀ c j : Nat, ¬ c = 139 → ¬ c = 140 → ¬ c = 141 → ¬ c = 142 → ¬ c = 143 → L' c j = L c j) → Q (some (zvi (v))) I' L' R S
theorem sn_E_go : ZSnd 128 4 13 T_E_go := ZSnd.loops (zT4_13 127) (by
  rintro args I L R S Q hz ⟨k, n, e, cl, fn, G, M, E, st, rfl, hS, hR, hD, hk, hE, hsc, hC, hok, hV, hlm, hst, hQ⟩
  have hk130 : 130 ≤ k := by omega
  have hk134 : k ≤ 134 := by omega
  obtain ⟨hE1, hE2, hE3⟩ := id hE
  have hn4 := hE2.1
  obtain ⟨r, hG⟩ := hok.2.2.1
  have hrr := wf_r hok.2.1 hG
  refine ⟨[2], fun nM tM lsM stM I1 L1 R1 S1 => match tM with
      | 2 => ∃ (m : Nat), nM = ((27 - m), 0, 0) ∧ lsM = [some (zvr (138)), some (zvi (st)), some (zvi (m))] ∧ stM = [] ∧ I1 = I ∧ R1 = R ∧ S1 = S ∧ (m ≤ 26) ∧ (∀ x : Nat, x < m → L1 139 x = 0) ∧ (∀ c j : Nat, ¬ c = 139 → L1 c j = L c j)
      | _ => False, rfl, ?_, ⟨?_, True.intro⟩⟩
  · refine ⟨((27 - (0 : Nat)), 0, 0), [some (zvr (138)), some (zvi (st)), some (zvi ((0 : Nat)))], ⟨rfl, rfl, rfl, rfl⟩, 0, rfl, rfl, rfl, rfl, rfl, rfl, (by omega), (fun x hx => absurd hx (Nat.not_lt_zero x)), (fun c j h0 => rfl)⟩
  · rintro nM lsM stM I1 L1 R1 S1 hz1 ⟨m, rfl, rfl, rfl, rfl, rfl, rfl, hm, hz0, frL⟩
    have hE_1 := hE
    refine And.intro (zA_138 hS) (zrdR (v := some 139) (zR_138_1 hR) ?_)
    refine And.intro (zN_139 hS) (zrdN (v := 26) (zV_139 hS) ?_)
    refine And.intro ⟨(by omega), (zRb rfl)⟩ ⟨fun h8 => ?_, fun h8 => ?_⟩
    · refine And.intro (zA_138 hS) ⟨_, (zWi (zRb rfl)), ?_⟩
      refine And.intro (zA_138 hS) ⟨_, (zWi (zRb rfl)), ?_⟩
      refine And.intro (zA_138 hS) (Exists.intro _ (And.intro (zinl_ok (zT4_5 126)) (And.intro rfl ?_)))
      refine And.intro (zA_138 hS) ⟨_, (zWi (zRb rfl)), ?_⟩
      refine And.intro (zA_138 hS) ⟨_, (zWi (zRb rfl)), ?_⟩
      refine And.intro (zA_138 hS) ⟨_, (zWi (zRb rfl)), ?_⟩
      refine And.intro (zA_138 hS) ⟨_, (zWi (by omega)), ?_⟩
      refine And.intro ⟨(zA_138 hS), (Or.inl rfl)⟩ ?_
      refine And.intro (zA_138 hS) ⟨_, (sn_E_wlk (m := 7)).up (by decide), ?_⟩
      refine ⟨k, n, e, cl, fn, G, M, r, 0, 0, n, M.2.2.2, 0, 0, (wkS0 E), 400, rfl, hS, hR, hD, (by first | exact hk | (clear hQ; grind [xu])), (zEt_fr hE (fun c j h => (zxcj (by omega) (zxcj (by omega) (zxcj (by omega) (zxcj (by omega) (zxcj (by omega) (zxcj (by omega) (zxcj (by omega) rfl))))))))), hsc, (zCl_fr hC (fun c j h => (zxcj (by omega) (zxcj (by omega) (zxcj (by omega) (zxcj (by omega) (zxcj (by omega) (zxcj (by omega) (zxcj (by omega) rfl))))))))), hok.2.1, (by omega), (zWk_0 hV (by omega) (fun c j h => (zxcj (by omega) (zxcj (by omega) (zxcj (by omega) (zxcj (by omega) (zxcj (by omega) (zxcj (by omega) (zxcj (by omega) rfl)))))))) (fun c j h => frL c j (by omega)) (fun x hx => hz0 x (by omega)) (show _ = (0 : Int) from rfl) (show _ = (0 : Int) from rfl) ((show _ = (st : Int) from rfl).trans hlm.symm) (show _ = (0 : Int) from rfl) (show _ = (0 : Int) from rfl) (show _ = ((-1) : Int) from rfl) (show _ = (0 : Int) from rfl)), wkS0_g, rfl, (by omega), hG, (Or.inr ⟨hn4, rfl⟩), (by omega), ?_⟩
      intro s55o I55o L55o p55hW p55bhZ p55bbhK p55bbbfr p55bbbbfrL
      refine And.intro (zA_138 hS) (fun v59 e59 r59 => ?_)
      have f59 : I55o 138 12 = v59 := e59.symm
      refine And.intro r59 ⟨fun h62 => ?_, fun h62 => ?_⟩
      · refine And.intro (zA_138 hS) (fun v72 e72 r72 => ?_)
        have f72 : I55o 138 13 = v72 := e72.symm
        refine And.intro r72 ⟨fun h75 => ?_, fun h75 => ?_⟩
        · have t75 : ¬ I55o 138 13 = 0 := (by omega)
          refine hQ _ _ _ (by rw [scRn_Z hok p55bhZ, (zRn_n p55hW (by omega)).2]; first | exact (if_pos t75).symm | exact (if_neg t75).symm) (by rw [scRn_Z hok p55bhZ]; exact (zRn_n p55hW (by omega)).1) (fun c j h0 h1 h2 h3 h4 h5 h6 h7 h8 h9 h10 h11 => ((p55bbbfr c j h0 h1 h2 h3 h4 h5 h6 h7 h8 h9 h10 h11).trans (zxcj h5 (zxcj h4 (zxcj h8 (zxcj h7 (zxcj h6 (zxcj h3 (zxcj h2 rfl))))))))) (fun c j h0 h1 h2 h3 h4 => ((p55bbbbfrL c j h0 h1 h2 h3 h4).trans ((frL c j h0).trans rfl)))
        · have t75 : I55o 138 13 = 0 := (by omega)
          refine hQ _ _ _ (by rw [scRn_Z hok p55bhZ, (zRn_n p55hW (by omega)).2]; first | exact (if_pos t75).symm | exact (if_neg t75).symm) (by rw [scRn_Z hok p55bhZ]; exact (zRn_n p55hW (by omega)).1) (fun c j h0 h1 h2 h3 h4 h5 h6 h7 h8 h9 h10 h11 => ((p55bbbfr c j h0 h1 h2 h3 h4 h5 h6 h7 h8 h9 h10 h11).trans (zxcj h5 (zxcj h4 (zxcj h8 (zxcj h7 (zxcj h6 (zxcj h3 (zxcj h2 rfl))))))))) (fun c j h0 h1 h2 h3 h4 => ((p55bbbbfrL c j h0 h1 h2 h3 h4).trans ((frL c j h0).trans rfl)))
      · have t62 : True := True.intro
        refine And.intro (zA_138 hS) (Exists.intro _ (And.intro (zinl_ok (zT4_5 126)) (And.intro rfl ?_)))
        refine And.intro (zA_138 hS) ⟨_, (zWi (zRb rfl)), ?_⟩
        refine And.intro (zA_138 hS) ⟨_, (zWi (zRb rfl)), ?_⟩
        refine And.intro (zA_138 hS) ⟨_, (zWi (zRb rfl)), ?_⟩
        refine hQ _ _ _ (by rw [scRn_Z hok p55bhZ]; exact (zRn_s2 p55hW (by omega)).symm) (by rw [scRn_Z hok p55bhZ]; exact (zRn_s p55hW (by omega) (fun c j h => (zxcj (by omega) (zxcj (by omega) (zxcj (by omega) rfl)))) (show _ = (0 : Int) from rfl) (show _ = ((-1) : Int) from rfl) (show _ = (0 : Int) from rfl)).1) (fun c j h0 h1 h2 h3 h4 h5 h6 h7 h8 h9 h10 h11 => (zxcj h8 (zxcj h7 (zxcj h6 ((p55bbbfr c j h0 h1 h2 h3 h4 h5 h6 h7 h8 h9 h10 h11).trans (zxcj h5 (zxcj h4 (zxcj h8 (zxcj h7 (zxcj h6 (zxcj h3 (zxcj h2 rfl)))))))))))) (fun c j h0 h1 h2 h3 h4 => ((p55bbbbfrL c j h0 h1 h2 h3 h4).trans ((frL c j h0).trans rfl)))
    · refine And.intro (zA_138 hS) (zrdR (v := some 139) (zR_138_1 hR) ?_)
      refine And.intro ⟨(zx0 rfl), (zP_139 hS (by omega) (by omega))⟩ ⟨_, zW6i (zRL rfl), ?_⟩
      refine ⟨((27 - (m + 1)), 0, 0), zlt6 (by omega), [some (zvr (138)), some (zvi (st)), some (zvi ((m + 1)))], ⟨rfl, rfl, rfl, rfl⟩, (m + 1), rfl, rfl, rfl, rfl, rfl, rfl, (by omega), (fun x hx => by by_cases q : x = m; (rw [q]; exact zxe' (by omega)); exact zxcj (by omega) (hz0 x (by omega))), (fun c j h0 => (zxu h0 ((frL c j h0).trans rfl)))⟩)
