/-! zm -/
def T_Y_drp : ZT := fun args I L R S Q => ∃ (x : SvK) (cr : Nat) (e : Int), args = [zvr 165, zvi e] ∧ (zSh S) ∧ (zRs R) ∧ (zML x.1 x.2.1 x.2.2.1 x.2.2.2 cr I) ∧ (r32 e) ∧ ∀ (v : Int) (I' : ZI), (v = if 0 ≤ (stDv x.2.2.1 x.2.2.2 cr e) then 1 else 0) → (I' 165 0 = if 0 ≤ (stDv x.2.2.1 x.2.2.2 cr e) then 0 else -(stDv x.2.2.1 x.2.2.2 cr e)) → (if stDv x.2.2.1 x.2.2.2 cr e = 0 then zML (lg2 x.1 x.2.2.2 4 e) (x.2.1 + 1) (stDrp e.toNat x.2.2.1) (x.2.2.2 + 2) 0 I' else zML x.1 x.2.1 x.2.2.1 x.2.2.2 cr I') → (∀ c j : Nat, ¬ c = 274 → ¬ c = 275 → ¬ c = 276 → ¬ c = 277 → ¬ c = 278 → ¬ c = 279 → ¬ (c = 268 ∧ j = 11) → ¬ (c = 268 ∧ j = 15) → ¬ (c = 268 ∧ j = 20) → ¬ (c = 268 ∧ j = 19) → ¬ (c = 268 ∧ j = 0) → ¬ c = 270 → ¬ (c = 268 ∧ j = 5) → ¬ (c = 165 ∧ j = 0) → I' c j = I c j) → Q (some (zvi (v))) I' L R S
theorem sn_Y_drp : ZSnd 7 21 15 T_Y_drp := ZSnd.of (zT21_15 6) (by
  rintro args I L R S Q hz ⟨x, cr, e, rfl, hS, hR, hML, re, hQ⟩
  obtain ⟨k5, k2, hlg, ⟨hcr, hsm, hLg⟩, hzz⟩ := id hML
  have hz40 := hLg.2.2.1
  have hG9 : stG (stN x.1 x.2.1).1 x.2.2.1 := by have w := (stN_G hLg.1).1; rw [← hsm] at w; exact w
  have hsv12 : sV x.2.2.1 ≤ 12 := hG9.2.1
  have hsb24 : sB x.2.2.1 ≤ 24 := hG9.1
  refine And.intro rfl ?_
  refine And.intro (zA_165 hS) (zrdR (v := some 268) (zR_165_48 hR) ?_)
  refine And.intro (zA_268 hS) (zrd (v := cr) k2 ?_)
  refine And.intro (by omega) ⟨fun h8 => ?_, fun h8 => ?_⟩
  · refine And.intro (zA_165 hS) (Exists.intro _ (And.intro (zinl_ok (zT21_48 5)) (And.intro rfl ?_)))
    refine And.intro (zA_165 hS) ⟨_, (zWi (zRb rfl)), ?_⟩
    refine And.intro (zRb rfl) (zbt rfl ?_)
    refine And.intro (Or.inl rfl) ?_
    refine And.intro (zRb rfl) (zbt rfl ?_)
    refine And.intro (zA_165 hS) (zrdR (v := some 268) (zR_165_48 hR) ?_)
    refine And.intro (zA_268 hS) ⟨_, sn_B_walk.up (by decide), ?_⟩
    refine ⟨x.1, x.2.1, x.2.2.1, x.2.2.2, rfl, hS, hR, ((zxu (by decide) rfl).trans k5), (fun j hj => (zxu (by decide) rfl).trans (hlg j hj)), hsm, hLg, ?_⟩
    intro I28o p28hST2 p28bhMF2 p28bbhe2 p28bbbhG2 p28bbbbfr
    have g28 : I28o 268 15 = sV x.2.2.1 := p28hST2.2.1
    refine And.intro (zA_165 hS) (zrdR (v := some 268) (zR_165_48 hR) ?_)
    refine And.intro (zA_268 hS) (Exists.intro _ (And.intro (zinl_ok (zT13_9 5)) (And.intro rfl ?_)))
    refine And.intro (by omega) ⟨fun h1_37 => ?_, fun h1_37 => ?_⟩
    · refine And.intro (Or.inl rfl) ?_
      refine And.intro (zRb rfl) (zbf rfl ?_)
      refine And.intro (zA_165 hS) (Exists.intro _ (And.intro (zinl_ok (zT21_48 5)) (And.intro rfl ?_)))
      refine And.intro (zA_165 hS) ⟨_, (zWi (zRb rfl)), ?_⟩
      refine And.intro (zRb rfl) (zbf rfl ?_)
      refine And.intro (Or.inr rfl) ?_
      refine And.intro (zRb rfl) (zbf rfl ?_)
      refine And.intro (Or.inl rfl) ?_
      refine hQ _ _ ?_ ?_ ?_ (fun c j h0 h1 h2 h3 h4 h5 h6 h7 h8 h9 h10 h11 h12 h13 => (zxcj h13 ((p28bbbbfr c j h0 h1 h2 h3 h4 h5 h6 h7 h8 h9).trans (zxcj h13 rfl))))
      · first
        | (have e9 : (stDv x.2.2.1 x.2.2.2 cr e) = -3 := if_pos (by omega)
           rw [e9]; first | (rw [if_pos (by decide)]) | (rw [if_neg (by decide)]))
        | (have e9 : (stDv x.2.2.1 x.2.2.2 cr e) = -2 := (if_neg (by omega)).trans (if_pos (by omega))
           rw [e9]; first | (rw [if_pos (by decide)]) | (rw [if_neg (by decide)]))
        | (have e9 : (stDv x.2.2.1 x.2.2.2 cr e) = -4 := (if_neg (by omega)).trans ((if_neg (by omega)).trans (if_pos (by omega)))
           rw [e9]; first | (rw [if_pos (by decide)]) | (rw [if_neg (by decide)]))
        | (have e9 : (stDv x.2.2.1 x.2.2.2 cr e) = -1 := (if_neg (by omega)).trans ((if_neg (by omega)).trans ((if_neg (by omega)).trans (if_pos (by omega))))
           rw [e9]; first | (rw [if_pos (by decide)]) | (rw [if_neg (by decide)]))
        | (have e9 : (stDv x.2.2.1 x.2.2.2 cr e) = 0 := (if_neg (by omega)).trans ((if_neg (by omega)).trans ((if_neg (by omega)).trans (if_neg (by omega))))
           rw [e9]; first | (rw [if_pos (by decide)]) | (rw [if_neg (by decide)]))
      · first
        | (have e9 : (stDv x.2.2.1 x.2.2.2 cr e) = -3 := if_pos (by omega)
           rw [e9]; first | (rw [if_pos (by decide)]; exact zxe) | (rw [if_neg (by decide)]; exact zxe))
        | (have e9 : (stDv x.2.2.1 x.2.2.2 cr e) = -2 := (if_neg (by omega)).trans (if_pos (by omega))
           rw [e9]; first | (rw [if_pos (by decide)]; exact zxe) | (rw [if_neg (by decide)]; exact zxe))
        | (have e9 : (stDv x.2.2.1 x.2.2.2 cr e) = -4 := (if_neg (by omega)).trans ((if_neg (by omega)).trans (if_pos (by omega)))
           rw [e9]; first | (rw [if_pos (by decide)]; exact zxe) | (rw [if_neg (by decide)]; exact zxe))
        | (have e9 : (stDv x.2.2.1 x.2.2.2 cr e) = -1 := (if_neg (by omega)).trans ((if_neg (by omega)).trans ((if_neg (by omega)).trans (if_pos (by omega))))
           rw [e9]; first | (rw [if_pos (by decide)]; exact zxe) | (rw [if_neg (by decide)]; exact zxe))
        | (have e9 : (stDv x.2.2.1 x.2.2.2 cr e) = 0 := (if_neg (by omega)).trans ((if_neg (by omega)).trans ((if_neg (by omega)).trans (if_neg (by omega))))
           rw [e9]; first | (rw [if_pos (by decide)]; exact zxe) | (rw [if_neg (by decide)]; exact zxe))
      · first
        | (have e9 : (stDv x.2.2.1 x.2.2.2 cr e) = -3 := if_pos (by omega)
           rw [e9]
           first
           | (rw [if_neg (by decide)]
              first
              | exact zML_fr hML (fun c9 j9 h9 => zxcj (by omega) rfl)
              | exact zML_fr hML (fun c9 j9 h9 => zxcj (by omega) ((p28bbbbfr c9 j9 (by omega) (by omega) (by omega) (by omega) (by omega) (by omega) (by omega) (by omega) (by omega) (by omega) ).trans (zxcj (by omega) rfl)))
              | (have z9 := p78bhML2
                 rw [if_neg (by omega)] at z9
                 obtain rfl : cr = 0 := (by omega)
                 exact zML_fr z9 (fun c9 j9 h9 => zxcj (by omega) rfl)))
           | (rw [if_pos rfl]
              have z9 := p78bhML2
              rw [if_pos (by omega)] at z9
              exact zML_fr z9 (fun c9 j9 h9 => zxcj (by omega) rfl)))
        | (have e9 : (stDv x.2.2.1 x.2.2.2 cr e) = -2 := (if_neg (by omega)).trans (if_pos (by omega))
           rw [e9]
           first
           | (rw [if_neg (by decide)]
              first
              | exact zML_fr hML (fun c9 j9 h9 => zxcj (by omega) rfl)
              | exact zML_fr hML (fun c9 j9 h9 => zxcj (by omega) ((p28bbbbfr c9 j9 (by omega) (by omega) (by omega) (by omega) (by omega) (by omega) (by omega) (by omega) (by omega) (by omega) ).trans (zxcj (by omega) rfl)))
              | (have z9 := p78bhML2
                 rw [if_neg (by omega)] at z9
                 obtain rfl : cr = 0 := (by omega)
                 exact zML_fr z9 (fun c9 j9 h9 => zxcj (by omega) rfl)))
           | (rw [if_pos rfl]
              have z9 := p78bhML2
              rw [if_pos (by omega)] at z9
              exact zML_fr z9 (fun c9 j9 h9 => zxcj (by omega) rfl)))
        | (have e9 : (stDv x.2.2.1 x.2.2.2 cr e) = -4 := (if_neg (by omega)).trans ((if_neg (by omega)).trans (if_pos (by omega)))
           rw [e9]
           first
           | (rw [if_neg (by decide)]
              first
              | exact zML_fr hML (fun c9 j9 h9 => zxcj (by omega) rfl)
              | exact zML_fr hML (fun c9 j9 h9 => zxcj (by omega) ((p28bbbbfr c9 j9 (by omega) (by omega) (by omega) (by omega) (by omega) (by omega) (by omega) (by omega) (by omega) (by omega) ).trans (zxcj (by omega) rfl)))
              | (have z9 := p78bhML2
                 rw [if_neg (by omega)] at z9
                 obtain rfl : cr = 0 := (by omega)
                 exact zML_fr z9 (fun c9 j9 h9 => zxcj (by omega) rfl)))
           | (rw [if_pos rfl]
              have z9 := p78bhML2
              rw [if_pos (by omega)] at z9
              exact zML_fr z9 (fun c9 j9 h9 => zxcj (by omega) rfl)))
        | (have e9 : (stDv x.2.2.1 x.2.2.2 cr e) = -1 := (if_neg (by omega)).trans ((if_neg (by omega)).trans ((if_neg (by omega)).trans (if_pos (by omega))))
           rw [e9]
           first
           | (rw [if_neg (by decide)]
              first
              | exact zML_fr hML (fun c9 j9 h9 => zxcj (by omega) rfl)
              | exact zML_fr hML (fun c9 j9 h9 => zxcj (by omega) ((p28bbbbfr c9 j9 (by omega) (by omega) (by omega) (by omega) (by omega) (by omega) (by omega) (by omega) (by omega) (by omega) ).trans (zxcj (by omega) rfl)))
              | (have z9 := p78bhML2
                 rw [if_neg (by omega)] at z9
                 obtain rfl : cr = 0 := (by omega)
                 exact zML_fr z9 (fun c9 j9 h9 => zxcj (by omega) rfl)))
           | (rw [if_pos rfl]
              have z9 := p78bhML2
              rw [if_pos (by omega)] at z9
              exact zML_fr z9 (fun c9 j9 h9 => zxcj (by omega) rfl)))
        | (have e9 : (stDv x.2.2.1 x.2.2.2 cr e) = 0 := (if_neg (by omega)).trans ((if_neg (by omega)).trans ((if_neg (by omega)).trans (if_neg (by omega))))
           rw [e9]
           first
           | (rw [if_neg (by decide)]
              first
              | exact zML_fr hML (fun c9 j9 h9 => zxcj (by omega) rfl)
              | exact zML_fr hML (fun c9 j9 h9 => zxcj (by omega) ((p28bbbbfr c9 j9 (by omega) (by omega) (by omega) (by omega) (by omega) (by omega) (by omega) (by omega) (by omega) (by omega) ).trans (zxcj (by omega) rfl)))
              | (have z9 := p78bhML2
                 rw [if_neg (by omega)] at z9
                 obtain rfl : cr = 0 := (by omega)
                 exact zML_fr z9 (fun c9 j9 h9 => zxcj (by omega) rfl)))
           | (rw [if_pos rfl]
              have z9 := p78bhML2
              rw [if_pos (by omega)] at z9
              exact zML_fr z9 (fun c9 j9 h9 => zxcj (by omega) rfl)))
    · refine And.intro (zA_268 hS) (fun v6_37 e6_37 r6_37 => ?_)
      refine And.intro ⟨(by omega), r6_37⟩ ⟨fun h9_37 => ?_, fun h9_37 => ?_⟩
      · refine And.intro (Or.inl rfl) ?_
        refine And.intro (zRb rfl) (zbf rfl ?_)
        refine And.intro (zA_165 hS) (Exists.intro _ (And.intro (zinl_ok (zT21_48 5)) (And.intro rfl ?_)))
        refine And.intro (zA_165 hS) ⟨_, (zWi (zRb rfl)), ?_⟩
        refine And.intro (zRb rfl) (zbf rfl ?_)
        refine And.intro (Or.inr rfl) ?_
        refine And.intro (zRb rfl) (zbf rfl ?_)
        refine And.intro (Or.inl rfl) ?_
        refine hQ _ _ ?_ ?_ ?_ (fun c j h0 h1 h2 h3 h4 h5 h6 h7 h8 h9 h10 h11 h12 h13 => (zxcj h13 ((p28bbbbfr c j h0 h1 h2 h3 h4 h5 h6 h7 h8 h9).trans (zxcj h13 rfl))))
        · first
          | (have e9 : (stDv x.2.2.1 x.2.2.2 cr e) = -3 := if_pos (by omega)
             rw [e9]; first | (rw [if_pos (by decide)]) | (rw [if_neg (by decide)]))
          | (have e9 : (stDv x.2.2.1 x.2.2.2 cr e) = -2 := (if_neg (by omega)).trans (if_pos (by omega))
             rw [e9]; first | (rw [if_pos (by decide)]) | (rw [if_neg (by decide)]))
          | (have e9 : (stDv x.2.2.1 x.2.2.2 cr e) = -4 := (if_neg (by omega)).trans ((if_neg (by omega)).trans (if_pos (by omega)))
             rw [e9]; first | (rw [if_pos (by decide)]) | (rw [if_neg (by decide)]))
          | (have e9 : (stDv x.2.2.1 x.2.2.2 cr e) = -1 := (if_neg (by omega)).trans ((if_neg (by omega)).trans ((if_neg (by omega)).trans (if_pos (by omega))))
             rw [e9]; first | (rw [if_pos (by decide)]) | (rw [if_neg (by decide)]))
          | (have e9 : (stDv x.2.2.1 x.2.2.2 cr e) = 0 := (if_neg (by omega)).trans ((if_neg (by omega)).trans ((if_neg (by omega)).trans (if_neg (by omega))))
             rw [e9]; first | (rw [if_pos (by decide)]) | (rw [if_neg (by decide)]))
        · first
          | (have e9 : (stDv x.2.2.1 x.2.2.2 cr e) = -3 := if_pos (by omega)
             rw [e9]; first | (rw [if_pos (by decide)]; exact zxe) | (rw [if_neg (by decide)]; exact zxe))
          | (have e9 : (stDv x.2.2.1 x.2.2.2 cr e) = -2 := (if_neg (by omega)).trans (if_pos (by omega))
             rw [e9]; first | (rw [if_pos (by decide)]; exact zxe) | (rw [if_neg (by decide)]; exact zxe))
          | (have e9 : (stDv x.2.2.1 x.2.2.2 cr e) = -4 := (if_neg (by omega)).trans ((if_neg (by omega)).trans (if_pos (by omega)))
             rw [e9]; first | (rw [if_pos (by decide)]; exact zxe) | (rw [if_neg (by decide)]; exact zxe))
          | (have e9 : (stDv x.2.2.1 x.2.2.2 cr e) = -1 := (if_neg (by omega)).trans ((if_neg (by omega)).trans ((if_neg (by omega)).trans (if_pos (by omega))))
             rw [e9]; first | (rw [if_pos (by decide)]; exact zxe) | (rw [if_neg (by decide)]; exact zxe))
          | (have e9 : (stDv x.2.2.1 x.2.2.2 cr e) = 0 := (if_neg (by omega)).trans ((if_neg (by omega)).trans ((if_neg (by omega)).trans (if_neg (by omega))))
             rw [e9]; first | (rw [if_pos (by decide)]; exact zxe) | (rw [if_neg (by decide)]; exact zxe))
        · first
          | (have e9 : (stDv x.2.2.1 x.2.2.2 cr e) = -3 := if_pos (by omega)
             rw [e9]
             first
             | (rw [if_neg (by decide)]
                first
                | exact zML_fr hML (fun c9 j9 h9 => zxcj (by omega) rfl)
                | exact zML_fr hML (fun c9 j9 h9 => zxcj (by omega) ((p28bbbbfr c9 j9 (by omega) (by omega) (by omega) (by omega) (by omega) (by omega) (by omega) (by omega) (by omega) (by omega) ).trans (zxcj (by omega) rfl)))
                | (have z9 := p78bhML2
                   rw [if_neg (by omega)] at z9
                   obtain rfl : cr = 0 := (by omega)
                   exact zML_fr z9 (fun c9 j9 h9 => zxcj (by omega) rfl)))
             | (rw [if_pos rfl]
                have z9 := p78bhML2
                rw [if_pos (by omega)] at z9
                exact zML_fr z9 (fun c9 j9 h9 => zxcj (by omega) rfl)))
          | (have e9 : (stDv x.2.2.1 x.2.2.2 cr e) = -2 := (if_neg (by omega)).trans (if_pos (by omega))
             rw [e9]
             first
             | (rw [if_neg (by decide)]
                first
                | exact zML_fr hML (fun c9 j9 h9 => zxcj (by omega) rfl)
                | exact zML_fr hML (fun c9 j9 h9 => zxcj (by omega) ((p28bbbbfr c9 j9 (by omega) (by omega) (by omega) (by omega) (by omega) (by omega) (by omega) (by omega) (by omega) (by omega) ).trans (zxcj (by omega) rfl)))
                | (have z9 := p78bhML2
                   rw [if_neg (by omega)] at z9
                   obtain rfl : cr = 0 := (by omega)
                   exact zML_fr z9 (fun c9 j9 h9 => zxcj (by omega) rfl)))
             | (rw [if_pos rfl]
                have z9 := p78bhML2
                rw [if_pos (by omega)] at z9
                exact zML_fr z9 (fun c9 j9 h9 => zxcj (by omega) rfl)))
          | (have e9 : (stDv x.2.2.1 x.2.2.2 cr e) = -4 := (if_neg (by omega)).trans ((if_neg (by omega)).trans (if_pos (by omega)))
             rw [e9]
             first
             | (rw [if_neg (by decide)]
                first
                | exact zML_fr hML (fun c9 j9 h9 => zxcj (by omega) rfl)
                | exact zML_fr hML (fun c9 j9 h9 => zxcj (by omega) ((p28bbbbfr c9 j9 (by omega) (by omega) (by omega) (by omega) (by omega) (by omega) (by omega) (by omega) (by omega) (by omega) ).trans (zxcj (by omega) rfl)))
                | (have z9 := p78bhML2
                   rw [if_neg (by omega)] at z9
                   obtain rfl : cr = 0 := (by omega)
                   exact zML_fr z9 (fun c9 j9 h9 => zxcj (by omega) rfl)))
             | (rw [if_pos rfl]
                have z9 := p78bhML2
                rw [if_pos (by omega)] at z9
                exact zML_fr z9 (fun c9 j9 h9 => zxcj (by omega) rfl)))
          | (have e9 : (stDv x.2.2.1 x.2.2.2 cr e) = -1 := (if_neg (by omega)).trans ((if_neg (by omega)).trans ((if_neg (by omega)).trans (if_pos (by omega))))
             rw [e9]
             first
             | (rw [if_neg (by decide)]
                first
                | exact zML_fr hML (fun c9 j9 h9 => zxcj (by omega) rfl)
                | exact zML_fr hML (fun c9 j9 h9 => zxcj (by omega) ((p28bbbbfr c9 j9 (by omega) (by omega) (by omega) (by omega) (by omega) (by omega) (by omega) (by omega) (by omega) (by omega) ).trans (zxcj (by omega) rfl)))
                | (have z9 := p78bhML2
                   rw [if_neg (by omega)] at z9
                   obtain rfl : cr = 0 := (by omega)
                   exact zML_fr z9 (fun c9 j9 h9 => zxcj (by omega) rfl)))
             | (rw [if_pos rfl]
                have z9 := p78bhML2
                rw [if_pos (by omega)] at z9
                exact zML_fr z9 (fun c9 j9 h9 => zxcj (by omega) rfl)))
          | (have e9 : (stDv x.2.2.1 x.2.2.2 cr e) = 0 := (if_neg (by omega)).trans ((if_neg (by omega)).trans ((if_neg (by omega)).trans (if_neg (by omega))))
             rw [e9]
             first
             | (rw [if_neg (by decide)]
                first
                | exact zML_fr hML (fun c9 j9 h9 => zxcj (by omega) rfl)
                | exact zML_fr hML (fun c9 j9 h9 => zxcj (by omega) ((p28bbbbfr c9 j9 (by omega) (by omega) (by omega) (by omega) (by omega) (by omega) (by omega) (by omega) (by omega) (by omega) ).trans (zxcj (by omega) rfl)))
                | (have z9 := p78bhML2
                   rw [if_neg (by omega)] at z9
                   obtain rfl : cr = 0 := (by omega)
                   exact zML_fr z9 (fun c9 j9 h9 => zxcj (by omega) rfl)))
             | (rw [if_pos rfl]
                have z9 := p78bhML2
                rw [if_pos (by omega)] at z9
                exact zML_fr z9 (fun c9 j9 h9 => zxcj (by omega) rfl)))
      · refine And.intro (Or.inr rfl) ?_
        refine And.intro (zRb rfl) (zbt rfl ?_)
        refine And.intro (zA_165 hS) (zrdR (v := some 268) (zR_165_48 hR) ?_)
        refine And.intro (zA_268 hS) (zrdR (v := some 279) (zR_268_18 hR) ?_)
        refine And.intro (Or.inr (zP_279 hS (by omega) (by omega))) (fun v55 e55 r55 => ?_)
        have f55 : v55 = sD x.2.2.1 e.toNat := (e55.trans (p28hST2.2.2.2 e.toNat (by omega)).2.1)
        have f55b : v55 ≤ 1 ∧ 0 ≤ v55 := (by have := (hG9.2.2.1 e.toNat (by omega)).2.1; omega)
        refine And.intro r55 ⟨fun h56 => ?_, fun h56 => ?_⟩
        · refine And.intro (zA_165 hS) (Exists.intro _ (And.intro (zinl_ok (zT21_48 5)) (And.intro rfl ?_)))
          refine And.intro (zA_165 hS) ⟨_, (zWi (zRb rfl)), ?_⟩
          refine And.intro (zRb rfl) (zbt rfl ?_)
          refine And.intro (Or.inl rfl) ?_
          refine And.intro (zRb rfl) (zbt rfl ?_)
          refine And.intro (zA_165 hS) (zrdR (v := some 268) (zR_165_48 hR) ?_)
          refine And.intro (zA_268 hS) ⟨_, sn_B_drop.up (by decide), ?_⟩
          refine ⟨x.1, x.2.1, x.2.2.1, x.2.2.2, (e : Int), rfl, hS, hR, (by obtain rfl : cr = 0 := (by omega); exact zML_fr hML (fun c9 j9 h9 => zxcj (by omega) ((p28bbbbfr c9 j9 (by omega) (by omega) (by omega) (by omega) (by omega) (by omega) (by omega) (by omega) (by omega) (by omega) ).trans (zxcj (by omega) rfl)))), (by omega), (by omega), ?_⟩
          intro v78o I78o p78hv p78bhML2 p78bbfr
          have g78 : (v78o = 1 ∧ x.2.2.2 + 2 ≤ 400) ∨ (v78o = 0 ∧ 400 < x.2.2.2 + 2) := p78hv
          refine And.intro (by omega) ⟨fun h81 => ?_, fun h81 => ?_⟩
          · refine And.intro (zA_165 hS) (Exists.intro _ (And.intro (zinl_ok (zT21_48 5)) (And.intro rfl ?_)))
            refine And.intro (zA_165 hS) ⟨_, (zWi (zRb rfl)), ?_⟩
            refine And.intro (zRb rfl) (zbf rfl ?_)
            refine And.intro (Or.inr rfl) ?_
            refine And.intro (zRb rfl) (zbt rfl ?_)
            refine And.intro (Or.inl rfl) ?_
            refine hQ _ _ ?_ ?_ ?_ (fun c j h0 h1 h2 h3 h4 h5 h6 h7 h8 h9 h10 h11 h12 h13 => (zxcj h13 ((p78bbfr c j h0 h1 h2 h3 h4 h5 h6 h7 h8 h9 h10 h11 h12).trans (zxcj h13 ((p28bbbbfr c j h0 h1 h2 h3 h4 h5 h6 h7 h8 h9).trans (zxcj h13 rfl))))))
            · first
              | (have e9 : (stDv x.2.2.1 x.2.2.2 cr e) = -3 := if_pos (by omega)
                 rw [e9]; first | (rw [if_pos (by decide)]) | (rw [if_neg (by decide)]))
              | (have e9 : (stDv x.2.2.1 x.2.2.2 cr e) = -2 := (if_neg (by omega)).trans (if_pos (by omega))
                 rw [e9]; first | (rw [if_pos (by decide)]) | (rw [if_neg (by decide)]))
              | (have e9 : (stDv x.2.2.1 x.2.2.2 cr e) = -4 := (if_neg (by omega)).trans ((if_neg (by omega)).trans (if_pos (by omega)))
                 rw [e9]; first | (rw [if_pos (by decide)]) | (rw [if_neg (by decide)]))
              | (have e9 : (stDv x.2.2.1 x.2.2.2 cr e) = -1 := (if_neg (by omega)).trans ((if_neg (by omega)).trans ((if_neg (by omega)).trans (if_pos (by omega))))
                 rw [e9]; first | (rw [if_pos (by decide)]) | (rw [if_neg (by decide)]))
              | (have e9 : (stDv x.2.2.1 x.2.2.2 cr e) = 0 := (if_neg (by omega)).trans ((if_neg (by omega)).trans ((if_neg (by omega)).trans (if_neg (by omega))))
                 rw [e9]; first | (rw [if_pos (by decide)]) | (rw [if_neg (by decide)]))
            · first
              | (have e9 : (stDv x.2.2.1 x.2.2.2 cr e) = -3 := if_pos (by omega)
                 rw [e9]; first | (rw [if_pos (by decide)]; exact zxe) | (rw [if_neg (by decide)]; exact zxe))
              | (have e9 : (stDv x.2.2.1 x.2.2.2 cr e) = -2 := (if_neg (by omega)).trans (if_pos (by omega))
                 rw [e9]; first | (rw [if_pos (by decide)]; exact zxe) | (rw [if_neg (by decide)]; exact zxe))
              | (have e9 : (stDv x.2.2.1 x.2.2.2 cr e) = -4 := (if_neg (by omega)).trans ((if_neg (by omega)).trans (if_pos (by omega)))
                 rw [e9]; first | (rw [if_pos (by decide)]; exact zxe) | (rw [if_neg (by decide)]; exact zxe))
              | (have e9 : (stDv x.2.2.1 x.2.2.2 cr e) = -1 := (if_neg (by omega)).trans ((if_neg (by omega)).trans ((if_neg (by omega)).trans (if_pos (by omega))))
                 rw [e9]; first | (rw [if_pos (by decide)]; exact zxe) | (rw [if_neg (by decide)]; exact zxe))
              | (have e9 : (stDv x.2.2.1 x.2.2.2 cr e) = 0 := (if_neg (by omega)).trans ((if_neg (by omega)).trans ((if_neg (by omega)).trans (if_neg (by omega))))
                 rw [e9]; first | (rw [if_pos (by decide)]; exact zxe) | (rw [if_neg (by decide)]; exact zxe))
            · first
              | (have e9 : (stDv x.2.2.1 x.2.2.2 cr e) = -3 := if_pos (by omega)
                 rw [e9]
                 first
                 | (rw [if_neg (by decide)]
                    first
                    | exact zML_fr hML (fun c9 j9 h9 => zxcj (by omega) rfl)
                    | exact zML_fr hML (fun c9 j9 h9 => zxcj (by omega) ((p28bbbbfr c9 j9 (by omega) (by omega) (by omega) (by omega) (by omega) (by omega) (by omega) (by omega) (by omega) (by omega) ).trans (zxcj (by omega) rfl)))
                    | (have z9 := p78bhML2
                       rw [if_neg (by omega)] at z9
                       obtain rfl : cr = 0 := (by omega)
                       exact zML_fr z9 (fun c9 j9 h9 => zxcj (by omega) rfl)))
                 | (rw [if_pos rfl]
                    have z9 := p78bhML2
                    rw [if_pos (by omega)] at z9
                    exact zML_fr z9 (fun c9 j9 h9 => zxcj (by omega) rfl)))
              | (have e9 : (stDv x.2.2.1 x.2.2.2 cr e) = -2 := (if_neg (by omega)).trans (if_pos (by omega))
                 rw [e9]
                 first
                 | (rw [if_neg (by decide)]
                    first
                    | exact zML_fr hML (fun c9 j9 h9 => zxcj (by omega) rfl)
                    | exact zML_fr hML (fun c9 j9 h9 => zxcj (by omega) ((p28bbbbfr c9 j9 (by omega) (by omega) (by omega) (by omega) (by omega) (by omega) (by omega) (by omega) (by omega) (by omega) ).trans (zxcj (by omega) rfl)))
                    | (have z9 := p78bhML2
                       rw [if_neg (by omega)] at z9
                       obtain rfl : cr = 0 := (by omega)
                       exact zML_fr z9 (fun c9 j9 h9 => zxcj (by omega) rfl)))
                 | (rw [if_pos rfl]
                    have z9 := p78bhML2
                    rw [if_pos (by omega)] at z9
                    exact zML_fr z9 (fun c9 j9 h9 => zxcj (by omega) rfl)))
              | (have e9 : (stDv x.2.2.1 x.2.2.2 cr e) = -4 := (if_neg (by omega)).trans ((if_neg (by omega)).trans (if_pos (by omega)))
                 rw [e9]
                 first
                 | (rw [if_neg (by decide)]
                    first
                    | exact zML_fr hML (fun c9 j9 h9 => zxcj (by omega) rfl)
                    | exact zML_fr hML (fun c9 j9 h9 => zxcj (by omega) ((p28bbbbfr c9 j9 (by omega) (by omega) (by omega) (by omega) (by omega) (by omega) (by omega) (by omega) (by omega) (by omega) ).trans (zxcj (by omega) rfl)))
                    | (have z9 := p78bhML2
                       rw [if_neg (by omega)] at z9
                       obtain rfl : cr = 0 := (by omega)
                       exact zML_fr z9 (fun c9 j9 h9 => zxcj (by omega) rfl)))
                 | (rw [if_pos rfl]
                    have z9 := p78bhML2
                    rw [if_pos (by omega)] at z9
                    exact zML_fr z9 (fun c9 j9 h9 => zxcj (by omega) rfl)))
              | (have e9 : (stDv x.2.2.1 x.2.2.2 cr e) = -1 := (if_neg (by omega)).trans ((if_neg (by omega)).trans ((if_neg (by omega)).trans (if_pos (by omega))))
                 rw [e9]
                 first
                 | (rw [if_neg (by decide)]
                    first
                    | exact zML_fr hML (fun c9 j9 h9 => zxcj (by omega) rfl)
                    | exact zML_fr hML (fun c9 j9 h9 => zxcj (by omega) ((p28bbbbfr c9 j9 (by omega) (by omega) (by omega) (by omega) (by omega) (by omega) (by omega) (by omega) (by omega) (by omega) ).trans (zxcj (by omega) rfl)))
                    | (have z9 := p78bhML2
                       rw [if_neg (by omega)] at z9
                       obtain rfl : cr = 0 := (by omega)
                       exact zML_fr z9 (fun c9 j9 h9 => zxcj (by omega) rfl)))
                 | (rw [if_pos rfl]
                    have z9 := p78bhML2
                    rw [if_pos (by omega)] at z9
                    exact zML_fr z9 (fun c9 j9 h9 => zxcj (by omega) rfl)))
              | (have e9 : (stDv x.2.2.1 x.2.2.2 cr e) = 0 := (if_neg (by omega)).trans ((if_neg (by omega)).trans ((if_neg (by omega)).trans (if_neg (by omega))))
                 rw [e9]
                 first
                 | (rw [if_neg (by decide)]
                    first
                    | exact zML_fr hML (fun c9 j9 h9 => zxcj (by omega) rfl)
                    | exact zML_fr hML (fun c9 j9 h9 => zxcj (by omega) ((p28bbbbfr c9 j9 (by omega) (by omega) (by omega) (by omega) (by omega) (by omega) (by omega) (by omega) (by omega) (by omega) ).trans (zxcj (by omega) rfl)))
                    | (have z9 := p78bhML2
                       rw [if_neg (by omega)] at z9
                       obtain rfl : cr = 0 := (by omega)
                       exact zML_fr z9 (fun c9 j9 h9 => zxcj (by omega) rfl)))
                 | (rw [if_pos rfl]
                    have z9 := p78bhML2
                    rw [if_pos (by omega)] at z9
                    exact zML_fr z9 (fun c9 j9 h9 => zxcj (by omega) rfl)))
          · refine And.intro (zA_165 hS) (Exists.intro _ (And.intro (zinl_ok (zT21_48 5)) (And.intro rfl ?_)))
            refine And.intro (zA_165 hS) ⟨_, (zWi (zRb rfl)), ?_⟩
            refine And.intro (zRb rfl) (zbt rfl ?_)
            refine And.intro (Or.inl rfl) ?_
            refine And.intro (zRb rfl) (zbf rfl ?_)
            refine And.intro (Or.inr rfl) ?_
            refine hQ _ _ ?_ ?_ ?_ (fun c j h0 h1 h2 h3 h4 h5 h6 h7 h8 h9 h10 h11 h12 h13 => (zxcj h13 ((p78bbfr c j h0 h1 h2 h3 h4 h5 h6 h7 h8 h9 h10 h11 h12).trans (zxcj h13 ((p28bbbbfr c j h0 h1 h2 h3 h4 h5 h6 h7 h8 h9).trans (zxcj h13 rfl))))))
            · first
              | (have e9 : (stDv x.2.2.1 x.2.2.2 cr e) = -3 := if_pos (by omega)
                 rw [e9]; first | (rw [if_pos (by decide)]) | (rw [if_neg (by decide)]))
              | (have e9 : (stDv x.2.2.1 x.2.2.2 cr e) = -2 := (if_neg (by omega)).trans (if_pos (by omega))
                 rw [e9]; first | (rw [if_pos (by decide)]) | (rw [if_neg (by decide)]))
              | (have e9 : (stDv x.2.2.1 x.2.2.2 cr e) = -4 := (if_neg (by omega)).trans ((if_neg (by omega)).trans (if_pos (by omega)))
                 rw [e9]; first | (rw [if_pos (by decide)]) | (rw [if_neg (by decide)]))
              | (have e9 : (stDv x.2.2.1 x.2.2.2 cr e) = -1 := (if_neg (by omega)).trans ((if_neg (by omega)).trans ((if_neg (by omega)).trans (if_pos (by omega))))
                 rw [e9]; first | (rw [if_pos (by decide)]) | (rw [if_neg (by decide)]))
              | (have e9 : (stDv x.2.2.1 x.2.2.2 cr e) = 0 := (if_neg (by omega)).trans ((if_neg (by omega)).trans ((if_neg (by omega)).trans (if_neg (by omega))))
                 rw [e9]; first | (rw [if_pos (by decide)]) | (rw [if_neg (by decide)]))
            · first
              | (have e9 : (stDv x.2.2.1 x.2.2.2 cr e) = -3 := if_pos (by omega)
                 rw [e9]; first | (rw [if_pos (by decide)]; exact zxe) | (rw [if_neg (by decide)]; exact zxe))
              | (have e9 : (stDv x.2.2.1 x.2.2.2 cr e) = -2 := (if_neg (by omega)).trans (if_pos (by omega))
                 rw [e9]; first | (rw [if_pos (by decide)]; exact zxe) | (rw [if_neg (by decide)]; exact zxe))
              | (have e9 : (stDv x.2.2.1 x.2.2.2 cr e) = -4 := (if_neg (by omega)).trans ((if_neg (by omega)).trans (if_pos (by omega)))
                 rw [e9]; first | (rw [if_pos (by decide)]; exact zxe) | (rw [if_neg (by decide)]; exact zxe))
              | (have e9 : (stDv x.2.2.1 x.2.2.2 cr e) = -1 := (if_neg (by omega)).trans ((if_neg (by omega)).trans ((if_neg (by omega)).trans (if_pos (by omega))))
                 rw [e9]; first | (rw [if_pos (by decide)]; exact zxe) | (rw [if_neg (by decide)]; exact zxe))
              | (have e9 : (stDv x.2.2.1 x.2.2.2 cr e) = 0 := (if_neg (by omega)).trans ((if_neg (by omega)).trans ((if_neg (by omega)).trans (if_neg (by omega))))
                 rw [e9]; first | (rw [if_pos (by decide)]; exact zxe) | (rw [if_neg (by decide)]; exact zxe))
            · first
              | (have e9 : (stDv x.2.2.1 x.2.2.2 cr e) = -3 := if_pos (by omega)
                 rw [e9]
                 first
                 | (rw [if_neg (by decide)]
                    first
                    | exact zML_fr hML (fun c9 j9 h9 => zxcj (by omega) rfl)
                    | exact zML_fr hML (fun c9 j9 h9 => zxcj (by omega) ((p28bbbbfr c9 j9 (by omega) (by omega) (by omega) (by omega) (by omega) (by omega) (by omega) (by omega) (by omega) (by omega) ).trans (zxcj (by omega) rfl)))
                    | (have z9 := p78bhML2
                       rw [if_neg (by omega)] at z9
                       obtain rfl : cr = 0 := (by omega)
                       exact zML_fr z9 (fun c9 j9 h9 => zxcj (by omega) rfl)))
                 | (rw [if_pos rfl]
                    have z9 := p78bhML2
                    rw [if_pos (by omega)] at z9
                    exact zML_fr z9 (fun c9 j9 h9 => zxcj (by omega) rfl)))
              | (have e9 : (stDv x.2.2.1 x.2.2.2 cr e) = -2 := (if_neg (by omega)).trans (if_pos (by omega))
                 rw [e9]
                 first
                 | (rw [if_neg (by decide)]
                    first
                    | exact zML_fr hML (fun c9 j9 h9 => zxcj (by omega) rfl)
                    | exact zML_fr hML (fun c9 j9 h9 => zxcj (by omega) ((p28bbbbfr c9 j9 (by omega) (by omega) (by omega) (by omega) (by omega) (by omega) (by omega) (by omega) (by omega) (by omega) ).trans (zxcj (by omega) rfl)))
                    | (have z9 := p78bhML2
                       rw [if_neg (by omega)] at z9
                       obtain rfl : cr = 0 := (by omega)
                       exact zML_fr z9 (fun c9 j9 h9 => zxcj (by omega) rfl)))
                 | (rw [if_pos rfl]
                    have z9 := p78bhML2
                    rw [if_pos (by omega)] at z9
                    exact zML_fr z9 (fun c9 j9 h9 => zxcj (by omega) rfl)))
              | (have e9 : (stDv x.2.2.1 x.2.2.2 cr e) = -4 := (if_neg (by omega)).trans ((if_neg (by omega)).trans (if_pos (by omega)))
                 rw [e9]
                 first
                 | (rw [if_neg (by decide)]
                    first
                    | exact zML_fr hML (fun c9 j9 h9 => zxcj (by omega) rfl)
                    | exact zML_fr hML (fun c9 j9 h9 => zxcj (by omega) ((p28bbbbfr c9 j9 (by omega) (by omega) (by omega) (by omega) (by omega) (by omega) (by omega) (by omega) (by omega) (by omega) ).trans (zxcj (by omega) rfl)))
                    | (have z9 := p78bhML2
                       rw [if_neg (by omega)] at z9
                       obtain rfl : cr = 0 := (by omega)
                       exact zML_fr z9 (fun c9 j9 h9 => zxcj (by omega) rfl)))
                 | (rw [if_pos rfl]
                    have z9 := p78bhML2
                    rw [if_pos (by omega)] at z9
                    exact zML_fr z9 (fun c9 j9 h9 => zxcj (by omega) rfl)))
              | (have e9 : (stDv x.2.2.1 x.2.2.2 cr e) = -1 := (if_neg (by omega)).trans ((if_neg (by omega)).trans ((if_neg (by omega)).trans (if_pos (by omega))))
                 rw [e9]
                 first
                 | (rw [if_neg (by decide)]
                    first
                    | exact zML_fr hML (fun c9 j9 h9 => zxcj (by omega) rfl)
                    | exact zML_fr hML (fun c9 j9 h9 => zxcj (by omega) ((p28bbbbfr c9 j9 (by omega) (by omega) (by omega) (by omega) (by omega) (by omega) (by omega) (by omega) (by omega) (by omega) ).trans (zxcj (by omega) rfl)))
                    | (have z9 := p78bhML2
                       rw [if_neg (by omega)] at z9
                       obtain rfl : cr = 0 := (by omega)
                       exact zML_fr z9 (fun c9 j9 h9 => zxcj (by omega) rfl)))
                 | (rw [if_pos rfl]
                    have z9 := p78bhML2
                    rw [if_pos (by omega)] at z9
                    exact zML_fr z9 (fun c9 j9 h9 => zxcj (by omega) rfl)))
              | (have e9 : (stDv x.2.2.1 x.2.2.2 cr e) = 0 := (if_neg (by omega)).trans ((if_neg (by omega)).trans ((if_neg (by omega)).trans (if_neg (by omega))))
                 rw [e9]
                 first
                 | (rw [if_neg (by decide)]
                    first
                    | exact zML_fr hML (fun c9 j9 h9 => zxcj (by omega) rfl)
                    | exact zML_fr hML (fun c9 j9 h9 => zxcj (by omega) ((p28bbbbfr c9 j9 (by omega) (by omega) (by omega) (by omega) (by omega) (by omega) (by omega) (by omega) (by omega) (by omega) ).trans (zxcj (by omega) rfl)))
                    | (have z9 := p78bhML2
                       rw [if_neg (by omega)] at z9
                       obtain rfl : cr = 0 := (by omega)
                       exact zML_fr z9 (fun c9 j9 h9 => zxcj (by omega) rfl)))
                 | (rw [if_pos rfl]
                    have z9 := p78bhML2
                    rw [if_pos (by omega)] at z9
                    exact zML_fr z9 (fun c9 j9 h9 => zxcj (by omega) rfl)))
        · refine And.intro (zA_165 hS) (Exists.intro _ (And.intro (zinl_ok (zT21_48 5)) (And.intro rfl ?_)))
          refine And.intro (zA_165 hS) ⟨_, (zWi (zRb rfl)), ?_⟩
          refine And.intro (zRb rfl) (zbf rfl ?_)
          refine And.intro (Or.inr rfl) ?_
          refine And.intro (zRb rfl) (zbf rfl ?_)
          refine And.intro (Or.inl rfl) ?_
          refine hQ _ _ ?_ ?_ ?_ (fun c j h0 h1 h2 h3 h4 h5 h6 h7 h8 h9 h10 h11 h12 h13 => (zxcj h13 ((p28bbbbfr c j h0 h1 h2 h3 h4 h5 h6 h7 h8 h9).trans (zxcj h13 rfl))))
          · first
            | (have e9 : (stDv x.2.2.1 x.2.2.2 cr e) = -3 := if_pos (by omega)
               rw [e9]; first | (rw [if_pos (by decide)]) | (rw [if_neg (by decide)]))
            | (have e9 : (stDv x.2.2.1 x.2.2.2 cr e) = -2 := (if_neg (by omega)).trans (if_pos (by omega))
               rw [e9]; first | (rw [if_pos (by decide)]) | (rw [if_neg (by decide)]))
            | (have e9 : (stDv x.2.2.1 x.2.2.2 cr e) = -4 := (if_neg (by omega)).trans ((if_neg (by omega)).trans (if_pos (by omega)))
               rw [e9]; first | (rw [if_pos (by decide)]) | (rw [if_neg (by decide)]))
            | (have e9 : (stDv x.2.2.1 x.2.2.2 cr e) = -1 := (if_neg (by omega)).trans ((if_neg (by omega)).trans ((if_neg (by omega)).trans (if_pos (by omega))))
               rw [e9]; first | (rw [if_pos (by decide)]) | (rw [if_neg (by decide)]))
            | (have e9 : (stDv x.2.2.1 x.2.2.2 cr e) = 0 := (if_neg (by omega)).trans ((if_neg (by omega)).trans ((if_neg (by omega)).trans (if_neg (by omega))))
               rw [e9]; first | (rw [if_pos (by decide)]) | (rw [if_neg (by decide)]))
          · first
            | (have e9 : (stDv x.2.2.1 x.2.2.2 cr e) = -3 := if_pos (by omega)
               rw [e9]; first | (rw [if_pos (by decide)]; exact zxe) | (rw [if_neg (by decide)]; exact zxe))
            | (have e9 : (stDv x.2.2.1 x.2.2.2 cr e) = -2 := (if_neg (by omega)).trans (if_pos (by omega))
               rw [e9]; first | (rw [if_pos (by decide)]; exact zxe) | (rw [if_neg (by decide)]; exact zxe))
            | (have e9 : (stDv x.2.2.1 x.2.2.2 cr e) = -4 := (if_neg (by omega)).trans ((if_neg (by omega)).trans (if_pos (by omega)))
               rw [e9]; first | (rw [if_pos (by decide)]; exact zxe) | (rw [if_neg (by decide)]; exact zxe))
            | (have e9 : (stDv x.2.2.1 x.2.2.2 cr e) = -1 := (if_neg (by omega)).trans ((if_neg (by omega)).trans ((if_neg (by omega)).trans (if_pos (by omega))))
               rw [e9]; first | (rw [if_pos (by decide)]; exact zxe) | (rw [if_neg (by decide)]; exact zxe))
            | (have e9 : (stDv x.2.2.1 x.2.2.2 cr e) = 0 := (if_neg (by omega)).trans ((if_neg (by omega)).trans ((if_neg (by omega)).trans (if_neg (by omega))))
               rw [e9]; first | (rw [if_pos (by decide)]; exact zxe) | (rw [if_neg (by decide)]; exact zxe))
          · first
            | (have e9 : (stDv x.2.2.1 x.2.2.2 cr e) = -3 := if_pos (by omega)
               rw [e9]
               first
               | (rw [if_neg (by decide)]
                  first
                  | exact zML_fr hML (fun c9 j9 h9 => zxcj (by omega) rfl)
                  | exact zML_fr hML (fun c9 j9 h9 => zxcj (by omega) ((p28bbbbfr c9 j9 (by omega) (by omega) (by omega) (by omega) (by omega) (by omega) (by omega) (by omega) (by omega) (by omega) ).trans (zxcj (by omega) rfl)))
                  | (have z9 := p78bhML2
                     rw [if_neg (by omega)] at z9
                     obtain rfl : cr = 0 := (by omega)
                     exact zML_fr z9 (fun c9 j9 h9 => zxcj (by omega) rfl)))
               | (rw [if_pos rfl]
                  have z9 := p78bhML2
                  rw [if_pos (by omega)] at z9
                  exact zML_fr z9 (fun c9 j9 h9 => zxcj (by omega) rfl)))
            | (have e9 : (stDv x.2.2.1 x.2.2.2 cr e) = -2 := (if_neg (by omega)).trans (if_pos (by omega))
               rw [e9]
               first
               | (rw [if_neg (by decide)]
                  first
                  | exact zML_fr hML (fun c9 j9 h9 => zxcj (by omega) rfl)
                  | exact zML_fr hML (fun c9 j9 h9 => zxcj (by omega) ((p28bbbbfr c9 j9 (by omega) (by omega) (by omega) (by omega) (by omega) (by omega) (by omega) (by omega) (by omega) (by omega) ).trans (zxcj (by omega) rfl)))
                  | (have z9 := p78bhML2
                     rw [if_neg (by omega)] at z9
                     obtain rfl : cr = 0 := (by omega)
                     exact zML_fr z9 (fun c9 j9 h9 => zxcj (by omega) rfl)))
               | (rw [if_pos rfl]
                  have z9 := p78bhML2
                  rw [if_pos (by omega)] at z9
                  exact zML_fr z9 (fun c9 j9 h9 => zxcj (by omega) rfl)))
            | (have e9 : (stDv x.2.2.1 x.2.2.2 cr e) = -4 := (if_neg (by omega)).trans ((if_neg (by omega)).trans (if_pos (by omega)))
               rw [e9]
               first
               | (rw [if_neg (by decide)]
                  first
                  | exact zML_fr hML (fun c9 j9 h9 => zxcj (by omega) rfl)
                  | exact zML_fr hML (fun c9 j9 h9 => zxcj (by omega) ((p28bbbbfr c9 j9 (by omega) (by omega) (by omega) (by omega) (by omega) (by omega) (by omega) (by omega) (by omega) (by omega) ).trans (zxcj (by omega) rfl)))
                  | (have z9 := p78bhML2
                     rw [if_neg (by omega)] at z9
                     obtain rfl : cr = 0 := (by omega)
                     exact zML_fr z9 (fun c9 j9 h9 => zxcj (by omega) rfl)))
               | (rw [if_pos rfl]
                  have z9 := p78bhML2
                  rw [if_pos (by omega)] at z9
                  exact zML_fr z9 (fun c9 j9 h9 => zxcj (by omega) rfl)))
            | (have e9 : (stDv x.2.2.1 x.2.2.2 cr e) = -1 := (if_neg (by omega)).trans ((if_neg (by omega)).trans ((if_neg (by omega)).trans (if_pos (by omega))))
               rw [e9]
               first
               | (rw [if_neg (by decide)]
                  first
                  | exact zML_fr hML (fun c9 j9 h9 => zxcj (by omega) rfl)
                  | exact zML_fr hML (fun c9 j9 h9 => zxcj (by omega) ((p28bbbbfr c9 j9 (by omega) (by omega) (by omega) (by omega) (by omega) (by omega) (by omega) (by omega) (by omega) (by omega) ).trans (zxcj (by omega) rfl)))
                  | (have z9 := p78bhML2
                     rw [if_neg (by omega)] at z9
                     obtain rfl : cr = 0 := (by omega)
                     exact zML_fr z9 (fun c9 j9 h9 => zxcj (by omega) rfl)))
               | (rw [if_pos rfl]
                  have z9 := p78bhML2
                  rw [if_pos (by omega)] at z9
                  exact zML_fr z9 (fun c9 j9 h9 => zxcj (by omega) rfl)))
            | (have e9 : (stDv x.2.2.1 x.2.2.2 cr e) = 0 := (if_neg (by omega)).trans ((if_neg (by omega)).trans ((if_neg (by omega)).trans (if_neg (by omega))))
               rw [e9]
               first
               | (rw [if_neg (by decide)]
                  first
                  | exact zML_fr hML (fun c9 j9 h9 => zxcj (by omega) rfl)
                  | exact zML_fr hML (fun c9 j9 h9 => zxcj (by omega) ((p28bbbbfr c9 j9 (by omega) (by omega) (by omega) (by omega) (by omega) (by omega) (by omega) (by omega) (by omega) (by omega) ).trans (zxcj (by omega) rfl)))
                  | (have z9 := p78bhML2
                     rw [if_neg (by omega)] at z9
                     obtain rfl : cr = 0 := (by omega)
                     exact zML_fr z9 (fun c9 j9 h9 => zxcj (by omega) rfl)))
               | (rw [if_pos rfl]
                  have z9 := p78bhML2
                  rw [if_pos (by omega)] at z9
                  exact zML_fr z9 (fun c9 j9 h9 => zxcj (by omega) rfl)))
  · refine And.intro (zA_165 hS) (Exists.intro _ (And.intro (zinl_ok (zT21_48 5)) (And.intro rfl ?_)))
    refine And.intro (zA_165 hS) ⟨_, (zWi (zRb rfl)), ?_⟩
    refine And.intro (zRb rfl) (zbf rfl ?_)
    refine And.intro (Or.inr rfl) ?_
    refine And.intro (zRb rfl) (zbf rfl ?_)
    refine And.intro (Or.inl rfl) ?_
    refine hQ _ _ ?_ ?_ ?_ (fun c j h0 h1 h2 h3 h4 h5 h6 h7 h8 h9 h10 h11 h12 h13 => (zxcj h13 rfl))
    · first
      | (have e9 : (stDv x.2.2.1 x.2.2.2 cr e) = -3 := if_pos (by omega)
         rw [e9]; first | (rw [if_pos (by decide)]) | (rw [if_neg (by decide)]))
      | (have e9 : (stDv x.2.2.1 x.2.2.2 cr e) = -2 := (if_neg (by omega)).trans (if_pos (by omega))
         rw [e9]; first | (rw [if_pos (by decide)]) | (rw [if_neg (by decide)]))
      | (have e9 : (stDv x.2.2.1 x.2.2.2 cr e) = -4 := (if_neg (by omega)).trans ((if_neg (by omega)).trans (if_pos (by omega)))
         rw [e9]; first | (rw [if_pos (by decide)]) | (rw [if_neg (by decide)]))
      | (have e9 : (stDv x.2.2.1 x.2.2.2 cr e) = -1 := (if_neg (by omega)).trans ((if_neg (by omega)).trans ((if_neg (by omega)).trans (if_pos (by omega))))
         rw [e9]; first | (rw [if_pos (by decide)]) | (rw [if_neg (by decide)]))
      | (have e9 : (stDv x.2.2.1 x.2.2.2 cr e) = 0 := (if_neg (by omega)).trans ((if_neg (by omega)).trans ((if_neg (by omega)).trans (if_neg (by omega))))
         rw [e9]; first | (rw [if_pos (by decide)]) | (rw [if_neg (by decide)]))
    · first
      | (have e9 : (stDv x.2.2.1 x.2.2.2 cr e) = -3 := if_pos (by omega)
         rw [e9]; first | (rw [if_pos (by decide)]; exact zxe) | (rw [if_neg (by decide)]; exact zxe))
      | (have e9 : (stDv x.2.2.1 x.2.2.2 cr e) = -2 := (if_neg (by omega)).trans (if_pos (by omega))
         rw [e9]; first | (rw [if_pos (by decide)]; exact zxe) | (rw [if_neg (by decide)]; exact zxe))
      | (have e9 : (stDv x.2.2.1 x.2.2.2 cr e) = -4 := (if_neg (by omega)).trans ((if_neg (by omega)).trans (if_pos (by omega)))
         rw [e9]; first | (rw [if_pos (by decide)]; exact zxe) | (rw [if_neg (by decide)]; exact zxe))
      | (have e9 : (stDv x.2.2.1 x.2.2.2 cr e) = -1 := (if_neg (by omega)).trans ((if_neg (by omega)).trans ((if_neg (by omega)).trans (if_pos (by omega))))
         rw [e9]; first | (rw [if_pos (by decide)]; exact zxe) | (rw [if_neg (by decide)]; exact zxe))
      | (have e9 : (stDv x.2.2.1 x.2.2.2 cr e) = 0 := (if_neg (by omega)).trans ((if_neg (by omega)).trans ((if_neg (by omega)).trans (if_neg (by omega))))
         rw [e9]; first | (rw [if_pos (by decide)]; exact zxe) | (rw [if_neg (by decide)]; exact zxe))
    · first
      | (have e9 : (stDv x.2.2.1 x.2.2.2 cr e) = -3 := if_pos (by omega)
         rw [e9]
         first
         | (rw [if_neg (by decide)]
            first
            | exact zML_fr hML (fun c9 j9 h9 => zxcj (by omega) rfl)
            | exact zML_fr hML (fun c9 j9 h9 => zxcj (by omega) ((p28bbbbfr c9 j9 (by omega) (by omega) (by omega) (by omega) (by omega) (by omega) (by omega) (by omega) (by omega) (by omega) ).trans (zxcj (by omega) rfl)))
            | (have z9 := p78bhML2
               rw [if_neg (by omega)] at z9
               obtain rfl : cr = 0 := (by omega)
               exact zML_fr z9 (fun c9 j9 h9 => zxcj (by omega) rfl)))
         | (rw [if_pos rfl]
            have z9 := p78bhML2
            rw [if_pos (by omega)] at z9
            exact zML_fr z9 (fun c9 j9 h9 => zxcj (by omega) rfl)))
      | (have e9 : (stDv x.2.2.1 x.2.2.2 cr e) = -2 := (if_neg (by omega)).trans (if_pos (by omega))
         rw [e9]
         first
         | (rw [if_neg (by decide)]
            first
            | exact zML_fr hML (fun c9 j9 h9 => zxcj (by omega) rfl)
            | exact zML_fr hML (fun c9 j9 h9 => zxcj (by omega) ((p28bbbbfr c9 j9 (by omega) (by omega) (by omega) (by omega) (by omega) (by omega) (by omega) (by omega) (by omega) (by omega) ).trans (zxcj (by omega) rfl)))
            | (have z9 := p78bhML2
               rw [if_neg (by omega)] at z9
               obtain rfl : cr = 0 := (by omega)
               exact zML_fr z9 (fun c9 j9 h9 => zxcj (by omega) rfl)))
         | (rw [if_pos rfl]
            have z9 := p78bhML2
            rw [if_pos (by omega)] at z9
            exact zML_fr z9 (fun c9 j9 h9 => zxcj (by omega) rfl)))
      | (have e9 : (stDv x.2.2.1 x.2.2.2 cr e) = -4 := (if_neg (by omega)).trans ((if_neg (by omega)).trans (if_pos (by omega)))
         rw [e9]
         first
         | (rw [if_neg (by decide)]
            first
            | exact zML_fr hML (fun c9 j9 h9 => zxcj (by omega) rfl)
            | exact zML_fr hML (fun c9 j9 h9 => zxcj (by omega) ((p28bbbbfr c9 j9 (by omega) (by omega) (by omega) (by omega) (by omega) (by omega) (by omega) (by omega) (by omega) (by omega) ).trans (zxcj (by omega) rfl)))
            | (have z9 := p78bhML2
               rw [if_neg (by omega)] at z9
               obtain rfl : cr = 0 := (by omega)
               exact zML_fr z9 (fun c9 j9 h9 => zxcj (by omega) rfl)))
         | (rw [if_pos rfl]
            have z9 := p78bhML2
            rw [if_pos (by omega)] at z9
            exact zML_fr z9 (fun c9 j9 h9 => zxcj (by omega) rfl)))
      | (have e9 : (stDv x.2.2.1 x.2.2.2 cr e) = -1 := (if_neg (by omega)).trans ((if_neg (by omega)).trans ((if_neg (by omega)).trans (if_pos (by omega))))
         rw [e9]
         first
         | (rw [if_neg (by decide)]
            first
            | exact zML_fr hML (fun c9 j9 h9 => zxcj (by omega) rfl)
            | exact zML_fr hML (fun c9 j9 h9 => zxcj (by omega) ((p28bbbbfr c9 j9 (by omega) (by omega) (by omega) (by omega) (by omega) (by omega) (by omega) (by omega) (by omega) (by omega) ).trans (zxcj (by omega) rfl)))
            | (have z9 := p78bhML2
               rw [if_neg (by omega)] at z9
               obtain rfl : cr = 0 := (by omega)
               exact zML_fr z9 (fun c9 j9 h9 => zxcj (by omega) rfl)))
         | (rw [if_pos rfl]
            have z9 := p78bhML2
            rw [if_pos (by omega)] at z9
            exact zML_fr z9 (fun c9 j9 h9 => zxcj (by omega) rfl)))
      | (have e9 : (stDv x.2.2.1 x.2.2.2 cr e) = 0 := (if_neg (by omega)).trans ((if_neg (by omega)).trans ((if_neg (by omega)).trans (if_neg (by omega))))
         rw [e9]
         first
         | (rw [if_neg (by decide)]
            first
            | exact zML_fr hML (fun c9 j9 h9 => zxcj (by omega) rfl)
            | exact zML_fr hML (fun c9 j9 h9 => zxcj (by omega) ((p28bbbbfr c9 j9 (by omega) (by omega) (by omega) (by omega) (by omega) (by omega) (by omega) (by omega) (by omega) (by omega) ).trans (zxcj (by omega) rfl)))
            | (have z9 := p78bhML2
               rw [if_neg (by omega)] at z9
               obtain rfl : cr = 0 := (by omega)
               exact zML_fr z9 (fun c9 j9 h9 => zxcj (by omega) rfl)))
         | (rw [if_pos rfl]
            have z9 := p78bhML2
            rw [if_pos (by omega)] at z9
            exact zML_fr z9 (fun c9 j9 h9 => zxcj (by omega) rfl))))
def T_Y_swp : ZT := fun args I L R S Q => ∃ (x : SvK) (cr : Nat), args = [zvr 165] ∧ (zSh S) ∧ (zRs R) ∧ (zML x.1 x.2.1 x.2.2.1 x.2.2.2 cr I) ∧ ∀ (v : Int) (I' : ZI), (v = if 0 ≤ (stWv x.2.2.1 x.2.2.2 cr) then (stWv x.2.2.1 x.2.2.2 cr) else -1) → (I' 165 0 = if 0 ≤ (stWv x.2.2.1 x.2.2.2 cr) then 0 else -(stWv x.2.2.1 x.2.2.2 cr)) → (if cr = 0 ∧ x.2.2.2 < 400 then zML (lg2 x.1 x.2.2.2 5 (-1)) (x.2.1 + 1) (stSwp x.2.2.1) (x.2.2.2 + 1) cr I' else zML x.1 x.2.1 x.2.2.1 x.2.2.2 cr I') → (∀ c j : Nat, ¬ c = 274 → ¬ c = 275 → ¬ c = 276 → ¬ c = 277 → ¬ c = 278 → ¬ c = 279 → ¬ (c = 268 ∧ j = 11) → ¬ (c = 268 ∧ j = 15) → ¬ (c = 268 ∧ j = 20) → ¬ (c = 268 ∧ j = 19) → ¬ (c = 268 ∧ j = 0) → ¬ c = 270 → ¬ (c = 268 ∧ j = 5) → ¬ (c = 165 ∧ j = 0) → I' c j = I c j) → Q (some (zvi (v))) I' L R S
theorem sn_Y_swp : ZSnd 7 21 72 T_Y_swp := ZSnd.of (zT21_72 6) (by
  rintro args I L R S Q hz ⟨x, cr, rfl, hS, hR, hML, hQ⟩
  obtain ⟨k5, k2, hlg, ⟨hcr, hsm, hLg⟩, hzz⟩ := id hML
  have hz40 := hLg.2.2.1
  have hG9 : stG (stN x.1 x.2.1).1 x.2.2.1 := by have w := (stN_G hLg.1).1; rw [← hsm] at w; exact w
  have hsv12 : sV x.2.2.1 ≤ 12 := hG9.2.1
  have hsb24 : sB x.2.2.1 ≤ 24 := hG9.1
  refine And.intro rfl ?_
  refine And.intro (zA_165 hS) (zrdR (v := some 268) (zR_165_48 hR) ?_)
  refine And.intro (zA_268 hS) (zrd (v := cr) k2 ?_)
  refine And.intro (by omega) ⟨fun h7 => ?_, fun h7 => ?_⟩
  · refine And.intro (zA_165 hS) (zrdR (v := some 268) (zR_165_48 hR) ?_)
    refine And.intro (zA_268 hS) (zrd (v := (x.2.2.2)) k5 ?_)
    refine And.intro ⟨(by omega), (zRb rfl)⟩ ⟨fun h26 => ?_, fun h26 => ?_⟩
    · refine And.intro (zA_165 hS) (zrdR (v := some 268) (zR_165_48 hR) ?_)
      refine And.intro (zA_268 hS) ⟨_, sn_B_sweep.up (by decide), ?_⟩
      refine ⟨x.1, x.2.1, x.2.2.1, x.2.2.2, rfl, hS, hR, (by obtain rfl : cr = 0 := (by omega); exact hML), (by omega), ?_⟩
      intro v40o I40o p40hv p40bhML2 p40bbfr
      refine And.intro (zA_165 hS) (Exists.intro _ (And.intro (zinl_ok (zT21_12 5)) (And.intro rfl ?_)))
      refine And.intro (zA_165 hS) ⟨_, (zWi (zRb rfl)), ?_⟩
      refine hQ _ _ ?_ ?_ ?_ (fun c j h0 h1 h2 h3 h4 h5 h6 h7 h8 h9 h10 h11 h12 h13 => (zxcj h13 ((p40bbfr c j h0 h1 h2 h3 h4 h5 h6 h7 h8 h9 h10 h11 h12).trans rfl)))
      · first
        | (have e9 : (stWv x.2.2.1 x.2.2.2 cr) = -3 := if_pos (by omega)
           rw [e9]; rfl)
        | (have e9 : (stWv x.2.2.1 x.2.2.2 cr) = -1 := (if_neg (by omega)).trans (if_pos (by omega))
           rw [e9]; rfl)
        | (have e9 : (stWv x.2.2.1 x.2.2.2 cr) = stSwN x.2.2.1 (sB x.2.2.1) := (if_neg (by omega)).trans (if_neg (by omega))
           rw [e9, if_pos (Int.natCast_nonneg _)]; exact p40hv)
      · first
        | (have e9 : (stWv x.2.2.1 x.2.2.2 cr) = -3 := if_pos (by omega)
           rw [e9]; exact zxe)
        | (have e9 : (stWv x.2.2.1 x.2.2.2 cr) = -1 := (if_neg (by omega)).trans (if_pos (by omega))
           rw [e9]; exact zxe)
        | (have e9 : (stWv x.2.2.1 x.2.2.2 cr) = stSwN x.2.2.1 (sB x.2.2.1) := (if_neg (by omega)).trans (if_neg (by omega))
           rw [e9, if_pos (Int.natCast_nonneg _)]; exact zxe)
      · first
        | (rw [if_neg (by omega)]
           exact zML_fr hML (fun c9 j9 h9 => zxcj (by omega) rfl))
        | (rw [if_pos (by omega)]
           obtain rfl : cr = 0 := (by omega)
           exact zML_fr p40bhML2 (fun c9 j9 h9 => zxcj (by omega) rfl))
    · refine And.intro (zA_165 hS) (Exists.intro _ (And.intro (zinl_ok (zT21_47 5)) (And.intro rfl ?_)))
      refine And.intro (zA_165 hS) ⟨_, (zWi (zRb rfl)), ?_⟩
      refine hQ _ _ ?_ ?_ ?_ (fun c j h0 h1 h2 h3 h4 h5 h6 h7 h8 h9 h10 h11 h12 h13 => (zxcj h13 rfl))
      · first
        | (have e9 : (stWv x.2.2.1 x.2.2.2 cr) = -3 := if_pos (by omega)
           rw [e9]; rfl)
        | (have e9 : (stWv x.2.2.1 x.2.2.2 cr) = -1 := (if_neg (by omega)).trans (if_pos (by omega))
           rw [e9]; rfl)
        | (have e9 : (stWv x.2.2.1 x.2.2.2 cr) = stSwN x.2.2.1 (sB x.2.2.1) := (if_neg (by omega)).trans (if_neg (by omega))
           rw [e9, if_pos (Int.natCast_nonneg _)]; exact p40hv)
      · first
        | (have e9 : (stWv x.2.2.1 x.2.2.2 cr) = -3 := if_pos (by omega)
           rw [e9]; exact zxe)
        | (have e9 : (stWv x.2.2.1 x.2.2.2 cr) = -1 := (if_neg (by omega)).trans (if_pos (by omega))
           rw [e9]; exact zxe)
        | (have e9 : (stWv x.2.2.1 x.2.2.2 cr) = stSwN x.2.2.1 (sB x.2.2.1) := (if_neg (by omega)).trans (if_neg (by omega))
           rw [e9, if_pos (Int.natCast_nonneg _)]; exact zxe)
      · first
        | (rw [if_neg (by omega)]
           exact zML_fr hML (fun c9 j9 h9 => zxcj (by omega) rfl))
        | (rw [if_pos (by omega)]
           obtain rfl : cr = 0 := (by omega)
           exact zML_fr p40bhML2 (fun c9 j9 h9 => zxcj (by omega) rfl))
  · refine And.intro (zA_165 hS) (Exists.intro _ (And.intro (zinl_ok (zT21_47 5)) (And.intro rfl ?_)))
    refine And.intro (zA_165 hS) ⟨_, (zWi (zRb rfl)), ?_⟩
    refine hQ _ _ ?_ ?_ ?_ (fun c j h0 h1 h2 h3 h4 h5 h6 h7 h8 h9 h10 h11 h12 h13 => (zxcj h13 rfl))
    · first
      | (have e9 : (stWv x.2.2.1 x.2.2.2 cr) = -3 := if_pos (by omega)
         rw [e9]; rfl)
      | (have e9 : (stWv x.2.2.1 x.2.2.2 cr) = -1 := (if_neg (by omega)).trans (if_pos (by omega))
         rw [e9]; rfl)
      | (have e9 : (stWv x.2.2.1 x.2.2.2 cr) = stSwN x.2.2.1 (sB x.2.2.1) := (if_neg (by omega)).trans (if_neg (by omega))
         rw [e9, if_pos (Int.natCast_nonneg _)]; exact p40hv)
    · first
      | (have e9 : (stWv x.2.2.1 x.2.2.2 cr) = -3 := if_pos (by omega)
         rw [e9]; exact zxe)
      | (have e9 : (stWv x.2.2.1 x.2.2.2 cr) = -1 := (if_neg (by omega)).trans (if_pos (by omega))
         rw [e9]; exact zxe)
      | (have e9 : (stWv x.2.2.1 x.2.2.2 cr) = stSwN x.2.2.1 (sB x.2.2.1) := (if_neg (by omega)).trans (if_neg (by omega))
         rw [e9, if_pos (Int.natCast_nonneg _)]; exact zxe)
    · first
      | (rw [if_neg (by omega)]
         exact zML_fr hML (fun c9 j9 h9 => zxcj (by omega) rfl))
      | (rw [if_pos (by omega)]
         obtain rfl : cr = 0 := (by omega)
         exact zML_fr p40bhML2 (fun c9 j9 h9 => zxcj (by omega) rfl)))
def T_Y_cra : ZT := fun args I L R S Q => ∃ (x : SvK) (cr : Nat) (cn : Nat) (k : Int), args = [zvr 165, zvi k] ∧ (zSh S) ∧ (zRs R) ∧ (zML x.1 x.2.1 x.2.2.1 x.2.2.2 cr I) ∧ (I 165 49 = cn ∧ cn ≤ 16) ∧ (r32 k) ∧ ∀ (v : Int) (I' : ZI), (v = if 0 ≤ (stCv x.2.2.2 cr cn k) then 1 else 0) → (I' 165 0 = if 0 ≤ (stCv x.2.2.2 cr cn k) then 0 else -(stCv x.2.2.2 cr cn k)) → (if stCv x.2.2.2 cr cn k = 0 then zex (fun m' => zML x.1 m' (stN x.1 m').2 k.toNat 1 I') ∧ I' 165 49 = (cn + 1 : Nat) else zML x.1 x.2.1 x.2.2.1 x.2.2.2 cr I' ∧ I' 165 49 = cn) → (∀ c j : Nat, ¬ c = 274 → ¬ c = 275 → ¬ c = 276 → ¬ c = 277 → ¬ c = 278 → ¬ c = 279 → ¬ (c = 268 ∧ j = 11) → ¬ (c = 268 ∧ j = 15) → ¬ (c = 268 ∧ j = 20) → ¬ (c = 268 ∧ j = 19) → ¬ (c = 268 ∧ j = 0) → ¬ (c = 268 ∧ j = 5) → ¬ (c = 268 ∧ j = 2) → ¬ (c = 268 ∧ j = 3) → ¬ (c = 268 ∧ j = 7) → ¬ c = 270 → ¬ c = 273 → ¬ (c = 165 ∧ j = 0) → ¬ (c = 165 ∧ j = 49) → I' c j = I c j) → Q (some (zvi (v))) I' L R S
theorem sn_Y_cra : ZSnd 7 21 9 T_Y_cra := ZSnd.of (zT21_9 6) (by
  rintro args I L R S Q hz ⟨x, cr, cn, k, rfl, hS, hR, hML, hcn, rk, hQ⟩
  obtain ⟨k5, k2, hlg, ⟨hcr, hsm, hLg⟩, hzz⟩ := id hML
  have hz40 := hLg.2.2.1
  have hG9 : stG (stN x.1 x.2.1).1 x.2.2.1 := by have w := (stN_G hLg.1).1; rw [← hsm] at w; exact w
  have hsv12 : sV x.2.2.1 ≤ 12 := hG9.2.1
  have hsb24 : sB x.2.2.1 ≤ 24 := hG9.1
  have h49 := hcn.1
  refine And.intro rfl ?_
  refine And.intro (zA_165 hS) (zrdR (v := some 268) (zR_165_48 hR) ?_)
  refine And.intro (zA_268 hS) (zrd (v := cr) k2 ?_)
  refine And.intro (by omega) ⟨fun h8 => ?_, fun h8 => ?_⟩
  · refine And.intro (by omega) ⟨fun h16 => ?_, fun h16 => ?_⟩
    · refine And.intro (zA_165 hS) (Exists.intro _ (And.intro (zinl_ok (zT21_48 5)) (And.intro rfl ?_)))
      refine And.intro (zA_165 hS) ⟨_, (zWi (zRb rfl)), ?_⟩
      refine And.intro (zRb rfl) (zbf rfl ?_)
      refine And.intro (Or.inr rfl) ?_
      refine And.intro (zRb rfl) (zbf rfl ?_)
      refine And.intro (Or.inl rfl) ?_
      refine hQ _ _ ?_ ?_ ?_ (fun c j h0 h1 h2 h3 h4 h5 h6 h7 h8 h9 h10 h11 h12 h13 h14 h15 h16 h17 h18 => (zxcj h17 rfl))
      · first
        | (have e9 : (stCv x.2.2.2 cr cn k) = -3 := if_pos (by omega)
           rw [e9]; first | (rw [if_pos (by decide)]) | (rw [if_neg (by decide)]))
        | (have e9 : (stCv x.2.2.2 cr cn k) = -2 := (if_neg (by omega)).trans (if_pos (by omega))
           rw [e9]; first | (rw [if_pos (by decide)]) | (rw [if_neg (by decide)]))
        | (have e9 : (stCv x.2.2.2 cr cn k) = -1 := (if_neg (by omega)).trans ((if_neg (by omega)).trans (if_pos (by omega)))
           rw [e9]; first | (rw [if_pos (by decide)]) | (rw [if_neg (by decide)]))
        | (have e9 : (stCv x.2.2.2 cr cn k) = 0 := (if_neg (by omega)).trans ((if_neg (by omega)).trans (if_neg (by omega)))
           rw [e9]; first | (rw [if_pos (by decide)]) | (rw [if_neg (by decide)]))
      · first
        | (have e9 : (stCv x.2.2.2 cr cn k) = -3 := if_pos (by omega)
           rw [e9]; first | (rw [if_pos (by decide)]; exact (p71bfr 165 0 (by omega) (by omega) (by omega) (by omega) (by omega) (by omega) (by omega) (by omega) (by omega) (by omega) (by omega) (by omega) (by omega) (by omega) (by omega) (by omega) (by omega) ).trans (zxs (by decide) zxe)) | (rw [if_neg (by decide)]; exact zxe))
        | (have e9 : (stCv x.2.2.2 cr cn k) = -2 := (if_neg (by omega)).trans (if_pos (by omega))
           rw [e9]; first | (rw [if_pos (by decide)]; exact (p71bfr 165 0 (by omega) (by omega) (by omega) (by omega) (by omega) (by omega) (by omega) (by omega) (by omega) (by omega) (by omega) (by omega) (by omega) (by omega) (by omega) (by omega) (by omega) ).trans (zxs (by decide) zxe)) | (rw [if_neg (by decide)]; exact zxe))
        | (have e9 : (stCv x.2.2.2 cr cn k) = -1 := (if_neg (by omega)).trans ((if_neg (by omega)).trans (if_pos (by omega)))
           rw [e9]; first | (rw [if_pos (by decide)]; exact (p71bfr 165 0 (by omega) (by omega) (by omega) (by omega) (by omega) (by omega) (by omega) (by omega) (by omega) (by omega) (by omega) (by omega) (by omega) (by omega) (by omega) (by omega) (by omega) ).trans (zxs (by decide) zxe)) | (rw [if_neg (by decide)]; exact zxe))
        | (have e9 : (stCv x.2.2.2 cr cn k) = 0 := (if_neg (by omega)).trans ((if_neg (by omega)).trans (if_neg (by omega)))
           rw [e9]; first | (rw [if_pos (by decide)]; exact (p71bfr 165 0 (by omega) (by omega) (by omega) (by omega) (by omega) (by omega) (by omega) (by omega) (by omega) (by omega) (by omega) (by omega) (by omega) (by omega) (by omega) (by omega) (by omega) ).trans (zxs (by decide) zxe)) | (rw [if_neg (by decide)]; exact zxe))
      · first
        | (have e9 : (stCv x.2.2.2 cr cn k) = -3 := if_pos (by omega)
           rw [e9]
           first
           | (rw [if_neg (by decide)]
              exact ⟨zML_fr hML (fun c9 j9 h9 => zxcj (by omega) rfl), (zxs (by decide) rfl).trans h49⟩)
           | (rw [if_pos rfl]
              exact ⟨p71hML2, (p71bfr 165 49 (by omega) (by omega) (by omega) (by omega) (by omega) (by omega) (by omega) (by omega) (by omega) (by omega) (by omega) (by omega) (by omega) (by omega) (by omega) (by omega) (by omega) ).trans (zxe.trans (by omega))⟩))
        | (have e9 : (stCv x.2.2.2 cr cn k) = -2 := (if_neg (by omega)).trans (if_pos (by omega))
           rw [e9]
           first
           | (rw [if_neg (by decide)]
              exact ⟨zML_fr hML (fun c9 j9 h9 => zxcj (by omega) rfl), (zxs (by decide) rfl).trans h49⟩)
           | (rw [if_pos rfl]
              exact ⟨p71hML2, (p71bfr 165 49 (by omega) (by omega) (by omega) (by omega) (by omega) (by omega) (by omega) (by omega) (by omega) (by omega) (by omega) (by omega) (by omega) (by omega) (by omega) (by omega) (by omega) ).trans (zxe.trans (by omega))⟩))
        | (have e9 : (stCv x.2.2.2 cr cn k) = -1 := (if_neg (by omega)).trans ((if_neg (by omega)).trans (if_pos (by omega)))
           rw [e9]
           first
           | (rw [if_neg (by decide)]
              exact ⟨zML_fr hML (fun c9 j9 h9 => zxcj (by omega) rfl), (zxs (by decide) rfl).trans h49⟩)
           | (rw [if_pos rfl]
              exact ⟨p71hML2, (p71bfr 165 49 (by omega) (by omega) (by omega) (by omega) (by omega) (by omega) (by omega) (by omega) (by omega) (by omega) (by omega) (by omega) (by omega) (by omega) (by omega) (by omega) (by omega) ).trans (zxe.trans (by omega))⟩))
        | (have e9 : (stCv x.2.2.2 cr cn k) = 0 := (if_neg (by omega)).trans ((if_neg (by omega)).trans (if_neg (by omega)))
           rw [e9]
           first
           | (rw [if_neg (by decide)]
              exact ⟨zML_fr hML (fun c9 j9 h9 => zxcj (by omega) rfl), (zxs (by decide) rfl).trans h49⟩)
           | (rw [if_pos rfl]
              exact ⟨p71hML2, (p71bfr 165 49 (by omega) (by omega) (by omega) (by omega) (by omega) (by omega) (by omega) (by omega) (by omega) (by omega) (by omega) (by omega) (by omega) (by omega) (by omega) (by omega) (by omega) ).trans (zxe.trans (by omega))⟩))
    · refine And.intro (zA_165 hS) (zrdR (v := some 268) (zR_165_48 hR) ?_)
      refine And.intro (zA_268 hS) (zrd (v := (x.2.2.2)) k5 ?_)
      refine And.intro ⟨(by omega), (by omega)⟩ ⟨fun h27 => ?_, fun h27 => ?_⟩
      · refine And.intro (zA_165 hS) (zrd (v := cn) h49 ?_)
        refine And.intro ⟨(by omega), (zRb rfl)⟩ ⟨fun h40 => ?_, fun h40 => ?_⟩
        · refine And.intro (zA_165 hS) (Exists.intro _ (And.intro (zinl_ok (zT21_48 5)) (And.intro rfl ?_)))
          refine And.intro (zA_165 hS) ⟨_, (zWi (zRb rfl)), ?_⟩
          refine And.intro (zRb rfl) (zbt rfl ?_)
          refine And.intro (Or.inl rfl) ?_
          refine And.intro (zRb rfl) (zbt rfl ?_)
          refine And.intro (zA_165 hS) (zrd (v := cn) h49 ?_)
          refine And.intro (zA_165 hS) ⟨_, (zWi (by omega)), ?_⟩
          refine And.intro (zA_165 hS) (zrdR (v := some 268) (zR_165_48 hR) ?_)
          refine And.intro (zA_268 hS) ⟨_, sn_B_crash.up (by decide), ?_⟩
          refine ⟨x.1, x.2.1, x.2.2.1, x.2.2.2, (k : Int), rfl, hS, hR, (by obtain rfl : cr = 0 := (by omega); exact zML_fr hML (fun c9 j9 h9 => zxcj (by omega) (zxcj (by omega) rfl))), (by omega), ?_⟩
          intro v71o I71o p71hML2 p71bfr
          refine And.intro (Or.inr rfl) ?_
          refine hQ _ _ ?_ ?_ ?_ (fun c j h0 h1 h2 h3 h4 h5 h6 h7 h8 h9 h10 h11 h12 h13 h14 h15 h16 h17 h18 => ((p71bfr c j h0 h1 h2 h3 h4 h5 h6 h7 h8 h9 h10 h15 h11 h16 h12 h13 h14).trans (zxcj h18 (zxcj h17 rfl))))
          · first
            | (have e9 : (stCv x.2.2.2 cr cn k) = -3 := if_pos (by omega)
               rw [e9]; first | (rw [if_pos (by decide)]) | (rw [if_neg (by decide)]))
            | (have e9 : (stCv x.2.2.2 cr cn k) = -2 := (if_neg (by omega)).trans (if_pos (by omega))
               rw [e9]; first | (rw [if_pos (by decide)]) | (rw [if_neg (by decide)]))
            | (have e9 : (stCv x.2.2.2 cr cn k) = -1 := (if_neg (by omega)).trans ((if_neg (by omega)).trans (if_pos (by omega)))
               rw [e9]; first | (rw [if_pos (by decide)]) | (rw [if_neg (by decide)]))
            | (have e9 : (stCv x.2.2.2 cr cn k) = 0 := (if_neg (by omega)).trans ((if_neg (by omega)).trans (if_neg (by omega)))
               rw [e9]; first | (rw [if_pos (by decide)]) | (rw [if_neg (by decide)]))
          · first
            | (have e9 : (stCv x.2.2.2 cr cn k) = -3 := if_pos (by omega)
               rw [e9]; first | (rw [if_pos (by decide)]; exact (p71bfr 165 0 (by omega) (by omega) (by omega) (by omega) (by omega) (by omega) (by omega) (by omega) (by omega) (by omega) (by omega) (by omega) (by omega) (by omega) (by omega) (by omega) (by omega) ).trans (zxs (by decide) zxe)) | (rw [if_neg (by decide)]; exact zxe))
            | (have e9 : (stCv x.2.2.2 cr cn k) = -2 := (if_neg (by omega)).trans (if_pos (by omega))
               rw [e9]; first | (rw [if_pos (by decide)]; exact (p71bfr 165 0 (by omega) (by omega) (by omega) (by omega) (by omega) (by omega) (by omega) (by omega) (by omega) (by omega) (by omega) (by omega) (by omega) (by omega) (by omega) (by omega) (by omega) ).trans (zxs (by decide) zxe)) | (rw [if_neg (by decide)]; exact zxe))
            | (have e9 : (stCv x.2.2.2 cr cn k) = -1 := (if_neg (by omega)).trans ((if_neg (by omega)).trans (if_pos (by omega)))
               rw [e9]; first | (rw [if_pos (by decide)]; exact (p71bfr 165 0 (by omega) (by omega) (by omega) (by omega) (by omega) (by omega) (by omega) (by omega) (by omega) (by omega) (by omega) (by omega) (by omega) (by omega) (by omega) (by omega) (by omega) ).trans (zxs (by decide) zxe)) | (rw [if_neg (by decide)]; exact zxe))
            | (have e9 : (stCv x.2.2.2 cr cn k) = 0 := (if_neg (by omega)).trans ((if_neg (by omega)).trans (if_neg (by omega)))
               rw [e9]; first | (rw [if_pos (by decide)]; exact (p71bfr 165 0 (by omega) (by omega) (by omega) (by omega) (by omega) (by omega) (by omega) (by omega) (by omega) (by omega) (by omega) (by omega) (by omega) (by omega) (by omega) (by omega) (by omega) ).trans (zxs (by decide) zxe)) | (rw [if_neg (by decide)]; exact zxe))
          · first
            | (have e9 : (stCv x.2.2.2 cr cn k) = -3 := if_pos (by omega)
               rw [e9]
               first
               | (rw [if_neg (by decide)]
                  exact ⟨zML_fr hML (fun c9 j9 h9 => zxcj (by omega) rfl), (zxs (by decide) rfl).trans h49⟩)
               | (rw [if_pos rfl]
                  exact ⟨p71hML2, (p71bfr 165 49 (by omega) (by omega) (by omega) (by omega) (by omega) (by omega) (by omega) (by omega) (by omega) (by omega) (by omega) (by omega) (by omega) (by omega) (by omega) (by omega) (by omega) ).trans (zxe.trans (by omega))⟩))
            | (have e9 : (stCv x.2.2.2 cr cn k) = -2 := (if_neg (by omega)).trans (if_pos (by omega))
               rw [e9]
               first
               | (rw [if_neg (by decide)]
                  exact ⟨zML_fr hML (fun c9 j9 h9 => zxcj (by omega) rfl), (zxs (by decide) rfl).trans h49⟩)
               | (rw [if_pos rfl]
                  exact ⟨p71hML2, (p71bfr 165 49 (by omega) (by omega) (by omega) (by omega) (by omega) (by omega) (by omega) (by omega) (by omega) (by omega) (by omega) (by omega) (by omega) (by omega) (by omega) (by omega) (by omega) ).trans (zxe.trans (by omega))⟩))
            | (have e9 : (stCv x.2.2.2 cr cn k) = -1 := (if_neg (by omega)).trans ((if_neg (by omega)).trans (if_pos (by omega)))
               rw [e9]
               first
               | (rw [if_neg (by decide)]
                  exact ⟨zML_fr hML (fun c9 j9 h9 => zxcj (by omega) rfl), (zxs (by decide) rfl).trans h49⟩)
               | (rw [if_pos rfl]
                  exact ⟨p71hML2, (p71bfr 165 49 (by omega) (by omega) (by omega) (by omega) (by omega) (by omega) (by omega) (by omega) (by omega) (by omega) (by omega) (by omega) (by omega) (by omega) (by omega) (by omega) (by omega) ).trans (zxe.trans (by omega))⟩))
            | (have e9 : (stCv x.2.2.2 cr cn k) = 0 := (if_neg (by omega)).trans ((if_neg (by omega)).trans (if_neg (by omega)))
               rw [e9]
               first
               | (rw [if_neg (by decide)]
                  exact ⟨zML_fr hML (fun c9 j9 h9 => zxcj (by omega) rfl), (zxs (by decide) rfl).trans h49⟩)
               | (rw [if_pos rfl]
                  exact ⟨p71hML2, (p71bfr 165 49 (by omega) (by omega) (by omega) (by omega) (by omega) (by omega) (by omega) (by omega) (by omega) (by omega) (by omega) (by omega) (by omega) (by omega) (by omega) (by omega) (by omega) ).trans (zxe.trans (by omega))⟩))
        · refine And.intro (zA_165 hS) (Exists.intro _ (And.intro (zinl_ok (zT21_48 5)) (And.intro rfl ?_)))
          refine And.intro (zA_165 hS) ⟨_, (zWi (zRb rfl)), ?_⟩
          refine And.intro (zRb rfl) (zbf rfl ?_)
          refine And.intro (Or.inr rfl) ?_
          refine And.intro (zRb rfl) (zbf rfl ?_)
          refine And.intro (Or.inl rfl) ?_
          refine hQ _ _ ?_ ?_ ?_ (fun c j h0 h1 h2 h3 h4 h5 h6 h7 h8 h9 h10 h11 h12 h13 h14 h15 h16 h17 h18 => (zxcj h17 rfl))
          · first
            | (have e9 : (stCv x.2.2.2 cr cn k) = -3 := if_pos (by omega)
               rw [e9]; first | (rw [if_pos (by decide)]) | (rw [if_neg (by decide)]))
            | (have e9 : (stCv x.2.2.2 cr cn k) = -2 := (if_neg (by omega)).trans (if_pos (by omega))
               rw [e9]; first | (rw [if_pos (by decide)]) | (rw [if_neg (by decide)]))
            | (have e9 : (stCv x.2.2.2 cr cn k) = -1 := (if_neg (by omega)).trans ((if_neg (by omega)).trans (if_pos (by omega)))
               rw [e9]; first | (rw [if_pos (by decide)]) | (rw [if_neg (by decide)]))
            | (have e9 : (stCv x.2.2.2 cr cn k) = 0 := (if_neg (by omega)).trans ((if_neg (by omega)).trans (if_neg (by omega)))
               rw [e9]; first | (rw [if_pos (by decide)]) | (rw [if_neg (by decide)]))
          · first
            | (have e9 : (stCv x.2.2.2 cr cn k) = -3 := if_pos (by omega)
               rw [e9]; first | (rw [if_pos (by decide)]; exact (p71bfr 165 0 (by omega) (by omega) (by omega) (by omega) (by omega) (by omega) (by omega) (by omega) (by omega) (by omega) (by omega) (by omega) (by omega) (by omega) (by omega) (by omega) (by omega) ).trans (zxs (by decide) zxe)) | (rw [if_neg (by decide)]; exact zxe))
            | (have e9 : (stCv x.2.2.2 cr cn k) = -2 := (if_neg (by omega)).trans (if_pos (by omega))
               rw [e9]; first | (rw [if_pos (by decide)]; exact (p71bfr 165 0 (by omega) (by omega) (by omega) (by omega) (by omega) (by omega) (by omega) (by omega) (by omega) (by omega) (by omega) (by omega) (by omega) (by omega) (by omega) (by omega) (by omega) ).trans (zxs (by decide) zxe)) | (rw [if_neg (by decide)]; exact zxe))
            | (have e9 : (stCv x.2.2.2 cr cn k) = -1 := (if_neg (by omega)).trans ((if_neg (by omega)).trans (if_pos (by omega)))
               rw [e9]; first | (rw [if_pos (by decide)]; exact (p71bfr 165 0 (by omega) (by omega) (by omega) (by omega) (by omega) (by omega) (by omega) (by omega) (by omega) (by omega) (by omega) (by omega) (by omega) (by omega) (by omega) (by omega) (by omega) ).trans (zxs (by decide) zxe)) | (rw [if_neg (by decide)]; exact zxe))
            | (have e9 : (stCv x.2.2.2 cr cn k) = 0 := (if_neg (by omega)).trans ((if_neg (by omega)).trans (if_neg (by omega)))
               rw [e9]; first | (rw [if_pos (by decide)]; exact (p71bfr 165 0 (by omega) (by omega) (by omega) (by omega) (by omega) (by omega) (by omega) (by omega) (by omega) (by omega) (by omega) (by omega) (by omega) (by omega) (by omega) (by omega) (by omega) ).trans (zxs (by decide) zxe)) | (rw [if_neg (by decide)]; exact zxe))
          · first
            | (have e9 : (stCv x.2.2.2 cr cn k) = -3 := if_pos (by omega)
               rw [e9]
               first
               | (rw [if_neg (by decide)]
                  exact ⟨zML_fr hML (fun c9 j9 h9 => zxcj (by omega) rfl), (zxs (by decide) rfl).trans h49⟩)
               | (rw [if_pos rfl]
                  exact ⟨p71hML2, (p71bfr 165 49 (by omega) (by omega) (by omega) (by omega) (by omega) (by omega) (by omega) (by omega) (by omega) (by omega) (by omega) (by omega) (by omega) (by omega) (by omega) (by omega) (by omega) ).trans (zxe.trans (by omega))⟩))
            | (have e9 : (stCv x.2.2.2 cr cn k) = -2 := (if_neg (by omega)).trans (if_pos (by omega))
               rw [e9]
               first
               | (rw [if_neg (by decide)]
                  exact ⟨zML_fr hML (fun c9 j9 h9 => zxcj (by omega) rfl), (zxs (by decide) rfl).trans h49⟩)
               | (rw [if_pos rfl]
                  exact ⟨p71hML2, (p71bfr 165 49 (by omega) (by omega) (by omega) (by omega) (by omega) (by omega) (by omega) (by omega) (by omega) (by omega) (by omega) (by omega) (by omega) (by omega) (by omega) (by omega) (by omega) ).trans (zxe.trans (by omega))⟩))
            | (have e9 : (stCv x.2.2.2 cr cn k) = -1 := (if_neg (by omega)).trans ((if_neg (by omega)).trans (if_pos (by omega)))
               rw [e9]
               first
               | (rw [if_neg (by decide)]
                  exact ⟨zML_fr hML (fun c9 j9 h9 => zxcj (by omega) rfl), (zxs (by decide) rfl).trans h49⟩)
               | (rw [if_pos rfl]
                  exact ⟨p71hML2, (p71bfr 165 49 (by omega) (by omega) (by omega) (by omega) (by omega) (by omega) (by omega) (by omega) (by omega) (by omega) (by omega) (by omega) (by omega) (by omega) (by omega) (by omega) (by omega) ).trans (zxe.trans (by omega))⟩))
            | (have e9 : (stCv x.2.2.2 cr cn k) = 0 := (if_neg (by omega)).trans ((if_neg (by omega)).trans (if_neg (by omega)))
               rw [e9]
               first
               | (rw [if_neg (by decide)]
                  exact ⟨zML_fr hML (fun c9 j9 h9 => zxcj (by omega) rfl), (zxs (by decide) rfl).trans h49⟩)
               | (rw [if_pos rfl]
                  exact ⟨p71hML2, (p71bfr 165 49 (by omega) (by omega) (by omega) (by omega) (by omega) (by omega) (by omega) (by omega) (by omega) (by omega) (by omega) (by omega) (by omega) (by omega) (by omega) (by omega) (by omega) ).trans (zxe.trans (by omega))⟩))
      · refine And.intro (zA_165 hS) (Exists.intro _ (And.intro (zinl_ok (zT21_48 5)) (And.intro rfl ?_)))
        refine And.intro (zA_165 hS) ⟨_, (zWi (zRb rfl)), ?_⟩
        refine And.intro (zRb rfl) (zbf rfl ?_)
        refine And.intro (Or.inr rfl) ?_
        refine And.intro (zRb rfl) (zbf rfl ?_)
        refine And.intro (Or.inl rfl) ?_
        refine hQ _ _ ?_ ?_ ?_ (fun c j h0 h1 h2 h3 h4 h5 h6 h7 h8 h9 h10 h11 h12 h13 h14 h15 h16 h17 h18 => (zxcj h17 rfl))
        · first
          | (have e9 : (stCv x.2.2.2 cr cn k) = -3 := if_pos (by omega)
             rw [e9]; first | (rw [if_pos (by decide)]) | (rw [if_neg (by decide)]))
          | (have e9 : (stCv x.2.2.2 cr cn k) = -2 := (if_neg (by omega)).trans (if_pos (by omega))
             rw [e9]; first | (rw [if_pos (by decide)]) | (rw [if_neg (by decide)]))
          | (have e9 : (stCv x.2.2.2 cr cn k) = -1 := (if_neg (by omega)).trans ((if_neg (by omega)).trans (if_pos (by omega)))
             rw [e9]; first | (rw [if_pos (by decide)]) | (rw [if_neg (by decide)]))
          | (have e9 : (stCv x.2.2.2 cr cn k) = 0 := (if_neg (by omega)).trans ((if_neg (by omega)).trans (if_neg (by omega)))
             rw [e9]; first | (rw [if_pos (by decide)]) | (rw [if_neg (by decide)]))
        · first
          | (have e9 : (stCv x.2.2.2 cr cn k) = -3 := if_pos (by omega)
             rw [e9]; first | (rw [if_pos (by decide)]; exact (p71bfr 165 0 (by omega) (by omega) (by omega) (by omega) (by omega) (by omega) (by omega) (by omega) (by omega) (by omega) (by omega) (by omega) (by omega) (by omega) (by omega) (by omega) (by omega) ).trans (zxs (by decide) zxe)) | (rw [if_neg (by decide)]; exact zxe))
          | (have e9 : (stCv x.2.2.2 cr cn k) = -2 := (if_neg (by omega)).trans (if_pos (by omega))
             rw [e9]; first | (rw [if_pos (by decide)]; exact (p71bfr 165 0 (by omega) (by omega) (by omega) (by omega) (by omega) (by omega) (by omega) (by omega) (by omega) (by omega) (by omega) (by omega) (by omega) (by omega) (by omega) (by omega) (by omega) ).trans (zxs (by decide) zxe)) | (rw [if_neg (by decide)]; exact zxe))
          | (have e9 : (stCv x.2.2.2 cr cn k) = -1 := (if_neg (by omega)).trans ((if_neg (by omega)).trans (if_pos (by omega)))
             rw [e9]; first | (rw [if_pos (by decide)]; exact (p71bfr 165 0 (by omega) (by omega) (by omega) (by omega) (by omega) (by omega) (by omega) (by omega) (by omega) (by omega) (by omega) (by omega) (by omega) (by omega) (by omega) (by omega) (by omega) ).trans (zxs (by decide) zxe)) | (rw [if_neg (by decide)]; exact zxe))
          | (have e9 : (stCv x.2.2.2 cr cn k) = 0 := (if_neg (by omega)).trans ((if_neg (by omega)).trans (if_neg (by omega)))
             rw [e9]; first | (rw [if_pos (by decide)]; exact (p71bfr 165 0 (by omega) (by omega) (by omega) (by omega) (by omega) (by omega) (by omega) (by omega) (by omega) (by omega) (by omega) (by omega) (by omega) (by omega) (by omega) (by omega) (by omega) ).trans (zxs (by decide) zxe)) | (rw [if_neg (by decide)]; exact zxe))
        · first
          | (have e9 : (stCv x.2.2.2 cr cn k) = -3 := if_pos (by omega)
             rw [e9]
             first
             | (rw [if_neg (by decide)]
                exact ⟨zML_fr hML (fun c9 j9 h9 => zxcj (by omega) rfl), (zxs (by decide) rfl).trans h49⟩)
             | (rw [if_pos rfl]
                exact ⟨p71hML2, (p71bfr 165 49 (by omega) (by omega) (by omega) (by omega) (by omega) (by omega) (by omega) (by omega) (by omega) (by omega) (by omega) (by omega) (by omega) (by omega) (by omega) (by omega) (by omega) ).trans (zxe.trans (by omega))⟩))
          | (have e9 : (stCv x.2.2.2 cr cn k) = -2 := (if_neg (by omega)).trans (if_pos (by omega))
             rw [e9]
             first
             | (rw [if_neg (by decide)]
                exact ⟨zML_fr hML (fun c9 j9 h9 => zxcj (by omega) rfl), (zxs (by decide) rfl).trans h49⟩)
             | (rw [if_pos rfl]
                exact ⟨p71hML2, (p71bfr 165 49 (by omega) (by omega) (by omega) (by omega) (by omega) (by omega) (by omega) (by omega) (by omega) (by omega) (by omega) (by omega) (by omega) (by omega) (by omega) (by omega) (by omega) ).trans (zxe.trans (by omega))⟩))
          | (have e9 : (stCv x.2.2.2 cr cn k) = -1 := (if_neg (by omega)).trans ((if_neg (by omega)).trans (if_pos (by omega)))
             rw [e9]
             first
             | (rw [if_neg (by decide)]
                exact ⟨zML_fr hML (fun c9 j9 h9 => zxcj (by omega) rfl), (zxs (by decide) rfl).trans h49⟩)
             | (rw [if_pos rfl]
                exact ⟨p71hML2, (p71bfr 165 49 (by omega) (by omega) (by omega) (by omega) (by omega) (by omega) (by omega) (by omega) (by omega) (by omega) (by omega) (by omega) (by omega) (by omega) (by omega) (by omega) (by omega) ).trans (zxe.trans (by omega))⟩))
          | (have e9 : (stCv x.2.2.2 cr cn k) = 0 := (if_neg (by omega)).trans ((if_neg (by omega)).trans (if_neg (by omega)))
             rw [e9]
             first
             | (rw [if_neg (by decide)]
                exact ⟨zML_fr hML (fun c9 j9 h9 => zxcj (by omega) rfl), (zxs (by decide) rfl).trans h49⟩)
             | (rw [if_pos rfl]
                exact ⟨p71hML2, (p71bfr 165 49 (by omega) (by omega) (by omega) (by omega) (by omega) (by omega) (by omega) (by omega) (by omega) (by omega) (by omega) (by omega) (by omega) (by omega) (by omega) (by omega) (by omega) ).trans (zxe.trans (by omega))⟩))
  · refine And.intro (zA_165 hS) (Exists.intro _ (And.intro (zinl_ok (zT21_48 5)) (And.intro rfl ?_)))
    refine And.intro (zA_165 hS) ⟨_, (zWi (zRb rfl)), ?_⟩
    refine And.intro (zRb rfl) (zbf rfl ?_)
    refine And.intro (Or.inr rfl) ?_
    refine And.intro (zRb rfl) (zbf rfl ?_)
    refine And.intro (Or.inl rfl) ?_
    refine hQ _ _ ?_ ?_ ?_ (fun c j h0 h1 h2 h3 h4 h5 h6 h7 h8 h9 h10 h11 h12 h13 h14 h15 h16 h17 h18 => (zxcj h17 rfl))
    · first
      | (have e9 : (stCv x.2.2.2 cr cn k) = -3 := if_pos (by omega)
         rw [e9]; first | (rw [if_pos (by decide)]) | (rw [if_neg (by decide)]))
      | (have e9 : (stCv x.2.2.2 cr cn k) = -2 := (if_neg (by omega)).trans (if_pos (by omega))
         rw [e9]; first | (rw [if_pos (by decide)]) | (rw [if_neg (by decide)]))
      | (have e9 : (stCv x.2.2.2 cr cn k) = -1 := (if_neg (by omega)).trans ((if_neg (by omega)).trans (if_pos (by omega)))
         rw [e9]; first | (rw [if_pos (by decide)]) | (rw [if_neg (by decide)]))
      | (have e9 : (stCv x.2.2.2 cr cn k) = 0 := (if_neg (by omega)).trans ((if_neg (by omega)).trans (if_neg (by omega)))
         rw [e9]; first | (rw [if_pos (by decide)]) | (rw [if_neg (by decide)]))
    · first
      | (have e9 : (stCv x.2.2.2 cr cn k) = -3 := if_pos (by omega)
         rw [e9]; first | (rw [if_pos (by decide)]; exact (p71bfr 165 0 (by omega) (by omega) (by omega) (by omega) (by omega) (by omega) (by omega) (by omega) (by omega) (by omega) (by omega) (by omega) (by omega) (by omega) (by omega) (by omega) (by omega) ).trans (zxs (by decide) zxe)) | (rw [if_neg (by decide)]; exact zxe))
      | (have e9 : (stCv x.2.2.2 cr cn k) = -2 := (if_neg (by omega)).trans (if_pos (by omega))
         rw [e9]; first | (rw [if_pos (by decide)]; exact (p71bfr 165 0 (by omega) (by omega) (by omega) (by omega) (by omega) (by omega) (by omega) (by omega) (by omega) (by omega) (by omega) (by omega) (by omega) (by omega) (by omega) (by omega) (by omega) ).trans (zxs (by decide) zxe)) | (rw [if_neg (by decide)]; exact zxe))
      | (have e9 : (stCv x.2.2.2 cr cn k) = -1 := (if_neg (by omega)).trans ((if_neg (by omega)).trans (if_pos (by omega)))
         rw [e9]; first | (rw [if_pos (by decide)]; exact (p71bfr 165 0 (by omega) (by omega) (by omega) (by omega) (by omega) (by omega) (by omega) (by omega) (by omega) (by omega) (by omega) (by omega) (by omega) (by omega) (by omega) (by omega) (by omega) ).trans (zxs (by decide) zxe)) | (rw [if_neg (by decide)]; exact zxe))
      | (have e9 : (stCv x.2.2.2 cr cn k) = 0 := (if_neg (by omega)).trans ((if_neg (by omega)).trans (if_neg (by omega)))
         rw [e9]; first | (rw [if_pos (by decide)]; exact (p71bfr 165 0 (by omega) (by omega) (by omega) (by omega) (by omega) (by omega) (by omega) (by omega) (by omega) (by omega) (by omega) (by omega) (by omega) (by omega) (by omega) (by omega) (by omega) ).trans (zxs (by decide) zxe)) | (rw [if_neg (by decide)]; exact zxe))
    · first
      | (have e9 : (stCv x.2.2.2 cr cn k) = -3 := if_pos (by omega)
         rw [e9]
         first
         | (rw [if_neg (by decide)]
            exact ⟨zML_fr hML (fun c9 j9 h9 => zxcj (by omega) rfl), (zxs (by decide) rfl).trans h49⟩)
         | (rw [if_pos rfl]
            exact ⟨p71hML2, (p71bfr 165 49 (by omega) (by omega) (by omega) (by omega) (by omega) (by omega) (by omega) (by omega) (by omega) (by omega) (by omega) (by omega) (by omega) (by omega) (by omega) (by omega) (by omega) ).trans (zxe.trans (by omega))⟩))
      | (have e9 : (stCv x.2.2.2 cr cn k) = -2 := (if_neg (by omega)).trans (if_pos (by omega))
         rw [e9]
         first
         | (rw [if_neg (by decide)]
            exact ⟨zML_fr hML (fun c9 j9 h9 => zxcj (by omega) rfl), (zxs (by decide) rfl).trans h49⟩)
         | (rw [if_pos rfl]
            exact ⟨p71hML2, (p71bfr 165 49 (by omega) (by omega) (by omega) (by omega) (by omega) (by omega) (by omega) (by omega) (by omega) (by omega) (by omega) (by omega) (by omega) (by omega) (by omega) (by omega) (by omega) ).trans (zxe.trans (by omega))⟩))
      | (have e9 : (stCv x.2.2.2 cr cn k) = -1 := (if_neg (by omega)).trans ((if_neg (by omega)).trans (if_pos (by omega)))
         rw [e9]
         first
         | (rw [if_neg (by decide)]
            exact ⟨zML_fr hML (fun c9 j9 h9 => zxcj (by omega) rfl), (zxs (by decide) rfl).trans h49⟩)
         | (rw [if_pos rfl]
            exact ⟨p71hML2, (p71bfr 165 49 (by omega) (by omega) (by omega) (by omega) (by omega) (by omega) (by omega) (by omega) (by omega) (by omega) (by omega) (by omega) (by omega) (by omega) (by omega) (by omega) (by omega) ).trans (zxe.trans (by omega))⟩))
      | (have e9 : (stCv x.2.2.2 cr cn k) = 0 := (if_neg (by omega)).trans ((if_neg (by omega)).trans (if_neg (by omega)))
         rw [e9]
         first
         | (rw [if_neg (by decide)]
            exact ⟨zML_fr hML (fun c9 j9 h9 => zxcj (by omega) rfl), (zxs (by decide) rfl).trans h49⟩)
         | (rw [if_pos rfl]
            exact ⟨p71hML2, (p71bfr 165 49 (by omega) (by omega) (by omega) (by omega) (by omega) (by omega) (by omega) (by omega) (by omega) (by omega) (by omega) (by omega) (by omega) (by omega) (by omega) (by omega) (by omega) ).trans (zxe.trans (by omega))⟩)))
def T_Y_reo : ZT := fun args I L R S Q => ∃ (x : SvK) (cr : Nat), args = [zvr 165] ∧ (zSh S) ∧ (zRs R) ∧ (zML x.1 x.2.1 x.2.2.1 x.2.2.2 cr I) ∧ ∀ (v : Int) (I' : ZI), ((cr = 0 ∧ v = -1 ∧ I' 165 0 = 3) ∨ (cr = 1 ∧ v = sV x.2.2.1 ∧ I' 165 0 = 0)) → (zML x.1 x.2.1 x.2.2.1 (if cr = 0 then x.2.2.2 else (stN x.1 x.2.1).1) 0 I') → (∀ c j : Nat, ¬ c = 274 → ¬ c = 275 → ¬ c = 276 → ¬ c = 277 → ¬ c = 278 → ¬ c = 279 → ¬ (c = 268 ∧ j = 11) → ¬ (c = 268 ∧ j = 15) → ¬ (c = 268 ∧ j = 20) → ¬ (c = 268 ∧ j = 19) → ¬ (c = 268 ∧ j = 0) → ¬ (c = 268 ∧ j = 2) → ¬ (c = 268 ∧ j = 5) → ¬ (c = 165 ∧ j = 0) → I' c j = I c j) → Q (some (zvi (v))) I' L R S
theorem sn_Y_reo : ZSnd 6 21 51 T_Y_reo := ZSnd.of (zT21_51 5) (by
  rintro args I L R S Q hz ⟨x, cr, rfl, hS, hR, hML, hQ⟩
  obtain ⟨k5, k2, hlg, ⟨hcr, hsm, hLg⟩, hzz⟩ := id hML
  have hz40 := hLg.2.2.1
  have hG9 : stG (stN x.1 x.2.1).1 x.2.2.1 := by have w := (stN_G hLg.1).1; rw [← hsm] at w; exact w
  have hsv12 : sV x.2.2.1 ≤ 12 := hG9.2.1
  have hsb24 : sB x.2.2.1 ≤ 24 := hG9.1
  refine And.intro rfl ?_
  refine And.intro (zA_165 hS) (zrdR (v := some 268) (zR_165_48 hR) ?_)
  refine And.intro (zA_268 hS) (zrd (v := cr) k2 ?_)
  refine And.intro (by omega) ⟨fun h7 => ?_, fun h7 => ?_⟩
  · refine And.intro (zA_165 hS) (Exists.intro _ (And.intro (zinl_ok (zT21_47 4)) (And.intro rfl ?_)))
    refine And.intro (zA_165 hS) ⟨_, (zWi (zRb rfl)), ?_⟩
    refine hQ _ _ ?_ ?_ (fun c j h0 h1 h2 h3 h4 h5 h6 h7 h8 h9 h10 h11 h12 h13 => (zxcj h13 rfl))
    · first
      | exact Or.inl ⟨by omega, rfl, zxe⟩
      | exact Or.inr ⟨by omega, by omega, zxe⟩
    · first
      | (obtain rfl : cr = 0 := (by omega)
         rw [if_pos rfl]
         exact zML_fr hML (fun c9 j9 h9 => zxcj (by omega) rfl))
      | (rw [if_neg (by omega), ← (show z215o = (stN x.1 x.2.1).1 by omega)]
         exact zML_fr p15bhML2 (fun c9 j9 h9 => zxcj (by omega) rfl))
  · refine And.intro (zA_165 hS) (zrdR (v := some 268) (zR_165_48 hR) ?_)
    refine And.intro (zA_268 hS) ⟨_, sn_B_reopen.up (by decide), ?_⟩
    refine ⟨x.1, x.2.1, x.2.2.1, x.2.2.2, cr, rfl, hS, hR, (by first | exact (zML_fr hML (fun c j h => rfl)) | (clear hQ; grind [xu])), ?_⟩
    intro v15o z215o I15o p15hv p15bhML2 p15bbfr
    refine And.intro (zA_165 hS) (Exists.intro _ (And.intro (zinl_ok (zT21_12 4)) (And.intro rfl ?_)))
    refine And.intro (zA_165 hS) ⟨_, (zWi (zRb rfl)), ?_⟩
    refine hQ _ _ ?_ ?_ (fun c j h0 h1 h2 h3 h4 h5 h6 h7 h8 h9 h10 h11 h12 h13 => (zxcj h13 ((p15bbfr c j h0 h1 h2 h3 h4 h5 h6 h7 h8 h9 h10 h11 h12).trans rfl)))
    · first
      | exact Or.inl ⟨by omega, rfl, zxe⟩
      | exact Or.inr ⟨by omega, by omega, zxe⟩
    · first
      | (obtain rfl : cr = 0 := (by omega)
         rw [if_pos rfl]
         exact zML_fr hML (fun c9 j9 h9 => zxcj (by omega) rfl))
      | (rw [if_neg (by omega), ← (show z215o = (stN x.1 x.2.1).1 by omega)]
         exact zML_fr p15bhML2 (fun c9 j9 h9 => zxcj (by omega) rfl)))
