/-! uz -/
def T_M_brs : ZT := fun args I L R S Q => ∃ (x : Int) (y : Int) (z : Int) (sd : Int) (q : Nat) (b : Nat) (nd : Nat → Int), args = [zvr 165, zvi x, zvi y, zvi z, zvl sd] ∧ (zSh S) ∧ (zRs R) ∧ ((r32 x ∧ r32 y ∧ r32 z) ∧ r64 sd) ∧ (R 165 7 = some q) ∧ (zDy zT18 zF18 q R S) ∧ (302 ≤ q) ∧ (I 165 14 = b) ∧ (b < 6) ∧ ∀ (u : Nat) (v : Int) (I' : ZI) (L' : ZI) (R' : ZR) (S' : ZS), (v = b) → (I' 165 0 = 0) → (I' 165 14 = b + 1) → ((302 ≤ u ∧ q + 23 ≤ u) ∧ u = S.2.1) → (zSg S S') → (zDy zT17 zF17 u R' S') → (zRs R') → (zBB u (-1) (bNew (bCl x 16) (bCl y 16) (bCl z 4) sd nd) I' L') → (zPB (bNew (bCl x 16) (bCl y 16) (bCl z 4) sd nd) I') → (R' 165 12 = some u) → (R' 165 13 = some q) → (S'.2.1 = S.2.1 + 19 ∧ S'.2.2 = S.2.2 + 18613) → (∀ c j : Nat, ¬ (c = 165 ∧ j = 0) → ¬ (c = 165 ∧ j = 14) → ¬ (c = 165 ∧ j = 15) → ¬ (c = 165 ∧ j = 22) → ¬ (u ≤ c ∧ c ≤ u + 18) → I' c j = I c j) → (∀ c j : Nat, ¬ (u ≤ c ∧ c ≤ u + 18) → L' c j = L c j) → (∀ c j : Nat, ¬ (c = 165 ∧ j = 12) → ¬ (c = 165 ∧ j = 13) → ¬ (u ≤ c ∧ c ≤ u + 18) → R' c j = R c j) → Q (some (zvi (v))) I' L' R' S'
theorem sn_M_brs : ZSnd 2 21 4 T_M_brs := ZSnd.of (zT21_4 1) (by
  rintro args I L R S Q hz ⟨x, y, z, sd, q, b, nd, rfl, hS, hR, hr, hd, hDq, hq, hb, hb6, hQ⟩
  refine And.intro rfl ?_
  refine And.intro (zA_165 hS) (zrdR (v := some q) hd ?_)
  refine And.intro (zA_165 hS) (zrd (v := b) hb ?_)
  refine And.intro ⟨(by omega), (zRb rfl)⟩ ⟨fun h19 => ?_, (fun h19 => False.elim (by omega))⟩
  have hb29 : 302 ≤ S.2.1 := hS.1
  have hl29 : q + 23 ≤ S.2.1 := by have w : q + 23 ≤ _ := (show zDy zT18 zF18 q R S from hDq).2.1; omega
  have fI29 : ∀ c j : Nat, ¬ c = S.2.1 → (zz I S.2.1 0) c j = I c j := fun c j q => if_neg q
  have fL29 : ∀ c j : Nat, ¬ c = S.2.1 → (zz L S.2.1 0) c j = L c j := fun c j q => if_neg q
  have fR29 : ∀ c j : Nat, ¬ c = S.2.1 → (zz R S.2.1 none) c j = R c j := fun c j q => if_neg q
  have hRn29 : zRs (zz R S.2.1 none) := zRs_fr hR (fun c j q => fR29 c j (by have := Nat.blt_eq.mp q; omega))
  have hz29 : (znS S 17 25).2.1 = S.2.1 + 1 ∧ (znS S 17 25).2.2 = S.2.2 + 25 := ⟨rfl, rfl⟩
  have hn29 : zNq S.2.1 17 25 (zz I S.2.1 0) (zz L S.2.1 0) (zz R S.2.1 none) (znS S 17 25) := ⟨rfl, if_pos rfl, hb29, fun j => ⟨if_pos rfl, if_pos rfl, if_pos rfl⟩⟩
  have hg29 : zSg S (znS S 17 25) := zSg_n
  have hS := zSh_gr hS hg29
  have hD29 := zDy_g2 hDq hg29 (by decide) (fun c f h1 h2 => fR29 c f (by have h3 : c < q + 23 := h2; omega))
  refine ⟨_, sn_N_17.up (by decide), ?_⟩
  refine ⟨_, (x : Int), (y : Int), (z : Int), (sd : Int), nd, rfl, hS, hRn29, hn29, (by first | exact hr | (clear hQ; grind [xu])), ?_⟩
  intro I38o L38o R38o S38o p38hSg p38bhDy p38bbhBB p38bbbhR2 p38bbbbhsz p38bbbbbfr p38bbbbbbfrL p38bbbbbbbfrR
  have hS := zSh_gr hS p38hSg
  have hD38 := zDy_g2 hD29 p38hSg (by decide) (fun c f h1 h2 => p38bbbbbbbfrR c f (by have h3 : c < q + 23 := h2; omega))
  refine And.intro (zA_165 hS) ?_
  have hR41 : zRs (xu R38o 165 12 (some S.2.1)) := zRs_xu p38bbbhR2 (by decide +kernel)
  refine And.intro (zA_165 hS) (zrdR (v := some q) ((p38bbbbbbbfrR 165 7 (by omega)).trans ((fR29 165 7 (by omega)).trans hd)) ?_)
  refine And.intro (zA_165 hS) ?_
  have hR49 : zRs (xu (xu R38o 165 12 (some S.2.1)) 165 13 (some q)) := zRs_xu hR41 (by decide +kernel)
  refine And.intro (zA_165 hS) ⟨_, (zWi (zRb rfl)), ?_⟩
  refine And.intro (zA_165 hS) ⟨_, (zWi (zRb rfl)), ?_⟩
  refine And.intro (zA_165 hS) (zrd (v := b) ((p38bbbbbfr 165 14 (by omega)).trans ((fI29 165 14 (by omega)).trans hb)) ?_)
  refine And.intro (zA_165 hS) ⟨_, (zWi (by omega)), ?_⟩
  refine And.intro (zA_165 hS) (zrd (v := (b + 1)) rfl ?_)
  refine And.intro (zA_165 hS) (Exists.intro _ (And.intro (zinl_ok (zT21_12 0)) (And.intro rfl ?_)))
  refine And.intro (zA_165 hS) ⟨_, (zWi (zRb rfl)), ?_⟩
  refine hQ S.2.1 _ _ _ _ _ (by omega) rfl (Eq.trans (b := ((b + 1) : Int)) rfl (by omega)) (by clear hQ; grind [xu]) (zSg_t hg29 p38hSg) (zDy_xu (zDy_xu p38bhDy (by decide) (by show _ < _ ∨ _ + 19 ≤ _; omega)) (by decide) (by show _ < _ ∨ _ + 19 ≤ _; omega)) hR49 (zBB_fr p38bbhBB (fun c j h => zxcj (by omega) (zxcj (by omega) (zxcj (by omega) (zxcj (by omega) rfl)))) (fun c j h => rfl)) ⟨zxs (by decide) (zxs (by decide) (zxs (by decide) zxe)), zxs (by decide) (zxs (by decide) zxe), fun p h => absurd h (Nat.not_lt_zero p), fun n h => absurd h (Nat.not_lt_zero n)⟩ rfl rfl (by omega) (fun c j h0 h1 h2 h3 h4 => (zxcj h0 (zxcj h1 (zxcj h3 (zxcj h2 ((p38bbbbbfr c j (by omega)).trans ((fI29 c j (by omega)).trans rfl))))))) (fun c j h0 => ((p38bbbbbbfrL c j (by omega)).trans ((fL29 c j (by omega)).trans rfl))) (fun c j h0 h1 h2 => (zxcj h1 (zxcj h0 ((p38bbbbbbbfrR c j (by omega)).trans ((fR29 c j (by omega)).trans rfl))))))
