
/-- the reference's side behind a call that tells only -/
def lwKi (c j : Nat) : Prop := ((c = 165 ∧ (j = 0 ∨ j = 2)) ∨ c = 166) ∨ ((c = 165 ∧ 4 ≤ j ∧ j ≤ 6) ∨ ((c = 168 ∨ c = 181) ∧ (j = 1 ∨ j = 4 ∨ j = 26 ∨ j = 27)) ∨ (170 ≤ c ∧ c ≤ 180) ∨ (183 ≤ c ∧ c ≤ 193)) ∨ ((c = 165 ∧ (j = 14 ∨ j = 15 ∨ j = 22)) ∨ (197 ≤ c ∧ c ≤ 203)) ∨ ((c = 165 ∧ j = 24) ∨ (204 ≤ c ∧ c ≤ 207)) ∨ ((c = 165 ∧ (j = 29 ∨ j = 30 ∨ (33 ≤ j ∧ j ≤ 35))) ∨ (208 ≤ c ∧ c ≤ 211)) ∨ ((c = 234 ∧ (j = 1 ∨ j = 3 ∨ j = 28 ∨ j = 30 ∨ j = 32 ∨ j = 36 ∨ j = 38 ∨ (46 ≤ j ∧ j ≤ 48))) ∨ (238 ≤ c ∧ c ≤ 246) ∨ c = 254 ∨ c = 255) ∨ ((c = 268 ∧ (j = 2 ∨ j = 5)) ∨ c = 270 ∨ (c = 165 ∧ j = 49)) ∨ ((c = 280 ∧ (j = 2 ∨ j = 8 ∨ j = 21 ∨ j = 22 ∨ j = 24)) ∨ c = 281 ∨ c = 287 ∨ c = 288 ∨ c = 289 ∨ c = 290 ∨ c = 291 ∨ c = 292 ∨ c = 295 ∨ c = 296)
theorem lwB_s {σ : LwS} {I L I' L' : ZI} {R : ZR} {S : ZS} (h : lwB σ I L R S) (hf : ∀ c j : Nat, lwKi c j → I' c j = I c j) (hl : ∀ c j : Nat, c = 172 ∨ c = 185 ∨ c = 251 ∨ c = 252 ∨ c = 253 → L' c j = L c j) (h44 : 0 ≤ I' 165 44) (h215 : ∀ j : Nat, j < 20 → I' 215 j = 0 ∨ I' 215 j = 1)
    (d7 : ∀ q : Nat, R 165 7 = some q → 302 ≤ q → (∀ c j : Nat, q ≤ c ∧ c ≤ q + 22 ∧ ¬ (c = q ∧ j = 0) → I' c j = I c j) ∧ ∀ c j : Nat, q ≤ c ∧ c ≤ q + 22 → L' c j = L c j)
    (d12 : ∀ g q : Nat, R 165 12 = some g → R 165 13 = some q → 302 ≤ q → q + 23 ≤ g → (∀ c j : Nat, (g ≤ c ∧ c ≤ g + 18 ∧ ¬ (c = g ∧ (j = 0 ∨ j = 21))) ∨ (q ≤ c ∧ c ≤ q + 22 ∧ ¬ (c = q ∧ j = 0)) → I' c j = I c j) ∧ ∀ c j : Nat, (g ≤ c ∧ c ≤ g + 18) ∨ (q ≤ c ∧ c ≤ q + 22) → L' c j = L c j)
    (d31 : ∀ q : Nat, R 165 31 = some q → 302 ≤ q → (∀ c j : Nat, (c = q ∧ j = 2) ∨ (q + 1 ≤ c ∧ c ≤ q + 3) ∨ c = q + 9 ∨ c = q + 10 ∨ (c = q + 14 ∧ j = 19) ∨ c = q + 28 → I' c j = I c j) ∧ ∀ c j : Nat, q + 4 ≤ c ∧ c ≤ q + 8 → L' c j = L c j) : lwB σ I' L' R S := by
  obtain ⟨h0, h1, h3, h4, h5, h6, h7, h8, h9, h10⟩ := h
  exact ⟨h0, h1, bT_fr h3 (fun c j q => hf c j (Or.inl q)), bR_fr h4 (zSg_r _) (fun c j q => hf c j (Or.inr (Or.inl q))) (fun c j q => hl c j (by omega)) rfl (fun q w0 w1 _ => ⟨(d7 q w0 w1).1, fun c j w => ⟨(d7 q w0 w1).2 c j w, rfl⟩⟩), bB_fr h5 (zSg_r _) (fun c j q => hf c j (Or.inr (Or.inr (Or.inl q)))) ⟨rfl, rfl⟩ (fun g q u0 u1 w1 w2 w3 => ⟨(d12 g q u0 u1 w1 w2).1, fun c j w => ⟨(d12 g q u0 u1 w1 w2).2 c j w, rfl⟩⟩), bU_fr h6 (fun c j q => hf c j (Or.inr (Or.inr (Or.inr (Or.inl q))))), bC_fr h7 (zSg_r _) h44 h215 (fun c j q => hf c j (Or.inr (Or.inr (Or.inr (Or.inr (Or.inl q)))))) ⟨rfl, rfl⟩ (fun q u0 w1 w2 => ⟨(d31 q u0 w1).1, (d31 q u0 w1).2, fun c j w => rfl⟩), bS_fr h8 (fun c j q => hf c j (Or.inr (Or.inr (Or.inr (Or.inr (Or.inr (Or.inl q))))))) (fun c j q => hl c j (by omega)), bX_fr h9 (fun c j q => hf c j (Or.inr (Or.inr (Or.inr (Or.inr (Or.inr (Or.inr (Or.inl q)))))))), bE_fr h10 (fun c j q => hf c j (Or.inr (Or.inr (Or.inr (Or.inr (Or.inr (Or.inr (Or.inr (q)))))))))⟩
/-- scratch of fixed objects only -/
theorem lwB_s0 {σ : LwS} {I L I' L' : ZI} {R : ZR} {S : ZS} (h : lwB σ I L R S) (hf : ∀ c j : Nat, lwKi c j ∨ (c = 165 ∧ j = 44) ∨ c = 215 ∨ 302 ≤ c → I' c j = I c j) (hl : ∀ c j : Nat, c = 172 ∨ c = 185 ∨ c = 251 ∨ c = 252 ∨ c = 253 ∨ 302 ≤ c → L' c j = L c j) : lwB σ I' L' R S :=
  lwB_s h (fun c j q => hf c j (Or.inl q)) (fun c j q => hl c j (by omega)) (by rw [hf _ _ (Or.inr (Or.inl ⟨rfl, rfl⟩))]; exact h.2.2.2.2.2.2.1.1.2.1) (fun j q => by rw [hf _ _ (Or.inr (Or.inr (Or.inl rfl)))]; exact h.2.2.2.2.2.2.1.1.2.2 j q) (fun q _ w => ⟨fun c j y => hf c j (Or.inr (Or.inr (Or.inr (by omega)))), fun c j y => hl c j (by omega)⟩) (fun g q _ _ w1 w2 => ⟨fun c j y => hf c j (Or.inr (Or.inr (Or.inr (by omega)))), fun c j y => hl c j (by omega)⟩) (fun q _ w => ⟨fun c j y => hf c j (Or.inr (Or.inr (Or.inr (by omega)))), fun c j y => hl c j (by omega)⟩)
/-- output, error -/
def lf31 : ZSpf := fun σ a _ _ _ _ => (σ, scOu σ.2.2.2.2.2.1.2.1 a)
theorem lwB31 : lwCB 31 lf31 := (sn_Y_out.up (by decide)).imp (by
  rintro args I L R S Q hz ⟨σ, a1, a2, a3, a4, a5, he, hr, hS, hc, hP, hQ⟩
  refine ⟨_, _, _, a1, he, hS, hP.2.1.1, hP.2.2.2.2.2.2.2.1, hr.1, ?_⟩
  rintro v I' rfl hf
  exact hQ _ _ _ _ (lwB_s0 hP (fun c j q => by rcases q with (q | q | q | q | q | q | q | q) | q | q | q <;> exact hf c j (by omega)) (fun _ _ _ => rfl)) (zfB_I (fun c j q => hf c j (by omega))))
def lf32 : ZSpf := fun σ a _ _ _ _ => (σ, scEr σ.2.2.2.2.2.1.2.2 a)
theorem lwB32 : lwCB 32 lf32 := (sn_Y_err.up (by decide)).imp (by
  rintro args I L R S Q hz ⟨σ, a1, a2, a3, a4, a5, he, hr, hS, hc, hP, hQ⟩
  refine ⟨_, _, _, a1, he, hS, hP.2.1.1, hP.2.2.2.2.2.2.2.1, hr.1, ?_⟩
  rintro v I' rfl hf
  exact hQ _ _ _ _ (lwB_s0 hP (fun c j q => by rcases q with (q | q | q | q | q | q | q | q) | q | q | q <;> exact hf c j (by omega)) (fun _ _ _ => rfl)) (zfB_I (fun c j q => hf c j (by omega))))
theorem scEr_r {er : Int × Int × Int} {a : Int} (h : r32 er.1 ∧ r32 er.2.1 ∧ r32 er.2.2) : r32 (scEr er a) := by
  unfold scEr
  split
  · exact h.1
  · split
    · exact h.2.1
    · split
      · exact h.2.2
      · exact zRb rfl
theorem lwA32 : lwCA 32 lf32 := (sn_Z_err.up (by decide)).imp (by
  rintro args I L R S Q hz ⟨σ, a1, a2, a3, a4, a5, he, hr, hS, hc, hP, hQ⟩
  refine ⟨_, _, _, a1, he, hS, hP.2.1.1, hP.2.2.2.2.2.2.2.1, hr.1, ?_⟩
  rintro v rfl
  obtain ⟨k, k2, hkk, hrr, hE, cl, fn, vv, G, hC, hok, hvv, hRn⟩ := hP.2.2.2.2.2.2.2.1
  obtain ⟨g13, g14, g15⟩ := hRn.2.2.2
  exact hQ _ _ _ _ hP zfA_0 (scEr_r ⟨by rw [← g13]; exact hz.1 _ _, by rw [← g14]; exact hz.1 _ _, by rw [← g15]; exact hz.1 _ _⟩))
theorem zn_r64 (x : Int) : r64 (zn x) := ⟨by have := zn_r x; exact Int.le_trans (by decide) this.1, by have := zn_r x; exact Int.le_trans this.2 (by decide)⟩
theorem lwA31 : lwCA 31 lf31 := (sn_Z_out.up (by decide)).imp (by
  rintro args I L R S Q hz ⟨σ, a1, a2, a3, a4, a5, he, hr, hS, hc, hP, hQ⟩
  refine ⟨_, _, _, a1, he, hS, hP.2.1.1, hP.2.2.2.2.2.2.2.1, hr.1, ?_⟩
  rintro v rfl
  obtain ⟨k, k2, hkk, hrr, hE, cl, fn, vv, G, hC, hok, hvv, hRn⟩ := hP.2.2.2.2.2.2.2.1
  obtain ⟨_, ⟨⟨g8, g8b⟩, gou⟩, _⟩ := hRn
  refine hQ _ _ _ _ hP zfA_0 (show r64 (scOu σ.2.2.2.2.2.1.2.1 a1) from ?_)
  unfold scOu
  split
  · first | exact ⟨by decide, by decide⟩ | (rename_i q; have z := gou a1.toNat (by show a1.toNat < σ.2.2.2.2.2.1.2.1.2.1.1; omega); have z2 := zn_r64 (L 143 a1.toNat); rw [z] at z2; exact z2)
  · first | exact ⟨by decide, by decide⟩ | (rename_i q; have z := gou a1.toNat (by show a1.toNat < σ.2.2.2.2.2.1.2.1.2.1.1; omega); have z2 := zn_r64 (L 143 a1.toNat); rw [z] at z2; exact z2))
