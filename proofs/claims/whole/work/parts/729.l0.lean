/-! l0: a method whose loop begins at its first instruction -/
section ZWE
theorem ZSnd.loops0 {c i nL : Nat} {tb : ZB} {T : ZT} {h : Nat} (ht : zTab h c i nL tb) (hT : ∀ args I L R S Q, zok I L → T args I L R S Q → ∃ (cuts : List Nat) (A : Nat × Nat × Nat → ZK), Nat.ble (zcats args) nL = true ∧ zhas cuts 0 = true ∧
    (zforce (zlay nL args) fun ls => ∃ n ls', zwk ls ls' ∧ A n 0 ls' [] I L R S) ∧
    zall cuts (fun t => ∀ n ls st I L R S, zok I L → A n t ls st I L R S → zwp tb cuts (fun t ls st I L R S => ∃ n', zlt3 n' n ∧ ∃ ls', zwk ls ls' ∧ A n' t ls' st I L R S) Q 100000 t ls st I L R S)) : ZSnd (h + 1) c i T := by
  obtain ⟨rfl, rfl⟩ := ht
  intro d hd args I L R S Q hz g
  obtain ⟨d, rfl⟩ : ∃ d', d = d' + 1 := ⟨d - 1, by omega⟩
  obtain ⟨cuts, A, h1, h0, h2, h3⟩ := hT args I L R S Q hz g
  have h3 := zall_of h3
  have hloop : ∀ n, ∀ t, zhas cuts t = true → zKo d (xP c i) Q (xfind (xP c i).2.2.2.2.2 t).1 (xfind (xP c i).2.2.2.2.2 t).2 (A n t) := by
    refine zlt3_ind fun n ihn t ht ls st I L R S lv hA hz hl => ?_
    exact zwp_ok (show h ≤ d by omega) (fun t ht ls st I L R S lv q hz hl => by
      obtain ⟨n', q1, ls', qw, q2⟩ := q
      exact ihn n' q1 t ht ls' st I L R S lv q2 hz (zwk_lr qw hl)) 100000 t _ _ _ _ _ _ _ (h3 t ht n ls st I L R S hz hA) hz hl
  refine ⟨by rw [zcats_eq]; exact h1, ?_⟩
  obtain ⟨n', ls', qw, q2⟩ := zforce_ok _ _ h2
  exact hloop n' 0 h0 ls' [] I L R S _ q2 hz (zwk_lr qw (zlr_lay0 _ _))
end ZWE
