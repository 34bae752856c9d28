/-! A TEXT THAT WAS READ CAN BE WRITTEN (the reference) -/
def tyDp (s : TyS) (j : Nat) : Nat := (tyr s j 4).toNat
theorem wPre_0 {O : OoS} (h : ocn O = 0) : wPre O (fun _ => 0) := ⟨rfl, fun c _ h2 => by omega⟩
theorem tRe_W {c : Nat → Int} {n b : Nat} {s : TyS} (hc : tOk c n) (hb : b ≤ 1) (h : tRe c n b s) (hf : tyf s = -1) (hn : 0 < tyn s) (fm : Int) : wPre (tOS c n b s) (tyDp s) ∧ (∀ m x, m ≤ ocn (tOS c n b s) → x ≤ 200 → (wWr (tOS c n b s) (tyDp s) fm m x).length + 2900 ≤ 110000) ∧ (∀ j, j < ocn (tOS c n b s) → okd (tOS c n b s) j = 9 → otl (tOS c n b s) j 0 ≤ 2000) ∧ (wPg (tOS c n b s) (tyDp s) fm).length ≤ 110000 := by
  have hg := tRe_g hc hb h hf
  have hG := tOS_G hc hg
  have hp : wPre (tOS c n b s) (tyDp s) := tRe_P hc hb h hf hn
  have hW := wWr_l (fm := fm) hG hp (tRe_K hc hb h hf)
  refine ⟨hp, hW, fun j hj h9 => ?_, ?_⟩
  · have r := hg.2.2 j hj
    have e : tyr s j 0 = 9 := h9
    have z := r.2.2.2.2.2.2.2.2 e
    show tOl c n b (tyr s j) 0 ≤ 2000
    have z2 : tOl c n b (tyr s j) 0 = (tyr s j 3 - tyr s j 2).toNat := (if_pos e).trans (if_pos rfl)
    omega
  · have z := wLo_l hp (Nat.le_refl _)
    have z2 := hG.1
    have w := hW _ (wLo (tOS c n b s) (tyDp s) (ocn (tOS c n b s))) (Nat.le_refl _) (by omega)
    rw [← wWr_e (O := tOS c n b s) (dp := tyDp s) (fm := fm) hn, List.length_append, List.length_cons, List.length_nil]
    omega
