/-! mill -/
def T_A_feedWord : ZT := fun args I L R S Q => ∃ (w : Int) (n : Int), args = [zvr 40, zvi w] ∧ (zSh S) ∧ (zRs R) ∧ (I 40 1 = n) ∧ (0 ≤ n ∧ n + 4 ≤ 4000) ∧ ∀ (I' : ZI), (I' 40 1 = n + 4) → (∀ c j, ¬ c = 41 → ¬ (c = 40 ∧ j = 1) → I' c j = I c j) → Q none I' L R S
theorem sn_A_feedWord : ZSnd 1 11 21 T_A_feedWord := ZSnd.of (zT11_21 0) (by
  rintro args I L R S Q hz ⟨w, n, rfl, hS, hR, hn, h0, hQ⟩
  refine And.intro rfl ?_
  refine And.intro (zRb rfl) (zbf rfl ?_)
  refine And.intro (zA_40 hS) (zrd (v := n) hn ?_)
  refine And.intro ⟨(by omega), (zRb rfl)⟩ ⟨(fun h14 => False.elim (by omega)), fun h14 => ?_⟩
  refine And.intro (zA_40 hS) (zrdR (v := some 41) (zR_40_0 hR) ?_)
  refine And.intro (zA_40 hS) (zrd (v := n) hn ?_)
  refine And.intro ⟨(zx0 rfl), Or.inl ⟨(zP_41 hS (by omega) (by omega)), zi2b_r.1, zi2b_r.2⟩⟩ ?_
  refine And.intro (zA_40 hS) (zrd (v := n) hn ?_)
  refine And.intro (zA_40 hS) ⟨_, (zWi (by omega)), ?_⟩
  refine And.intro (zRb rfl) (zbf rfl ?_)
  refine And.intro (zA_40 hS) (zrd (v := (n + 1)) rfl ?_)
  refine And.intro ⟨(by omega), (zRb rfl)⟩ ⟨(fun h14b => False.elim (by omega)), fun h14b => ?_⟩
  refine And.intro (zA_40 hS) (zrdR (v := some 41) (zR_40_0 hR) ?_)
  refine And.intro (zA_40 hS) (zrd (v := (n + 1)) rfl ?_)
  refine And.intro ⟨(zx0 rfl), Or.inl ⟨(zP_41 hS (by omega) (by omega)), zi2b_r.1, zi2b_r.2⟩⟩ ?_
  refine And.intro (zA_40 hS) (zrd (v := (n + 1)) rfl ?_)
  refine And.intro (zA_40 hS) ⟨_, (zWi (by omega)), ?_⟩
  refine And.intro (zRb rfl) (zbf rfl ?_)
  refine And.intro (zA_40 hS) (zrd (v := ((n + 1) + 1)) rfl ?_)
  refine And.intro ⟨(by omega), (zRb rfl)⟩ ⟨(fun h14bb => False.elim (by omega)), fun h14bb => ?_⟩
  refine And.intro (zA_40 hS) (zrdR (v := some 41) (zR_40_0 hR) ?_)
  refine And.intro (zA_40 hS) (zrd (v := ((n + 1) + 1)) rfl ?_)
  refine And.intro ⟨(zx0 rfl), Or.inl ⟨(zP_41 hS (by omega) (by omega)), zi2b_r.1, zi2b_r.2⟩⟩ ?_
  refine And.intro (zA_40 hS) (zrd (v := ((n + 1) + 1)) rfl ?_)
  refine And.intro (zA_40 hS) ⟨_, (zWi (by omega)), ?_⟩
  refine And.intro (zRb rfl) (zbf rfl ?_)
  refine And.intro (zA_40 hS) (zrd (v := (((n + 1) + 1) + 1)) rfl ?_)
  refine And.intro ⟨(by omega), (zRb rfl)⟩ ⟨(fun h14bbb => False.elim (by omega)), fun h14bbb => ?_⟩
  refine And.intro (zA_40 hS) (zrdR (v := some 41) (zR_40_0 hR) ?_)
  refine And.intro (zA_40 hS) (zrd (v := (((n + 1) + 1) + 1)) rfl ?_)
  refine And.intro ⟨(zx0 rfl), Or.inl ⟨(zP_41 hS (by omega) (by omega)), zi2b_r.1, zi2b_r.2⟩⟩ ?_
  refine And.intro (zA_40 hS) (zrd (v := (((n + 1) + 1) + 1)) rfl ?_)
  refine And.intro (zA_40 hS) ⟨_, (zWi (by omega)), ?_⟩
  refine And.intro (zRb rfl) (zbt rfl ?_)
  refine hQ _ (Eq.trans (b := ((((n + 1) + 1) + 1) + 1)) rfl (by omega)) (fun c j h0 h1 => (zxcj h1 (zxu h0 (zxcj h1 (zxu h0 (zxcj h1 (zxu h0 (zxcj h1 (zxu h0 rfl))))))))))
