/-! xa -/
def T_V_upp : ZT := fun args I L R S Q => ∃ (a : Int) (b : Int), args = [zvl a, zvl b] ∧ ((0 ≤ a ∧ a ≤ 10200000000) ∧ (0 ≤ b ∧ b ≤ 225000000)) ∧ ∀ (v : Int), (v = 0) → Q (some (zvl (v))) I L R S
theorem sn_V_upp : ZSnd 1 14 34 T_V_upp := ZSnd.of (zT14_34 0) (by
  rintro args I L R S Q hz ⟨a, b, rfl, hb, hQ⟩
  refine And.intro rfl ?_
  have b3 : (zlshr a 31) = a / 2147483648 := zls31 (by omega)
  have b10 : (zland a 2147483647) = a % 2147483648 := zla31 (by omega) (by omega)
  have b16 : (zlshr b 31) = b / 2147483648 := zls31 (by omega)
  have b23 : (zland b 2147483647) = b % 2147483648 := zla31 (by omega) (by omega)
  have mu30 : 0 ≤ (zlshr a 31) * (zland b 2147483647) ∧ (zlshr a 31) * (zland b 2147483647) ≤ 4 * 225000000 := zmb (by omega) (by omega) (by omega) (by omega)
  have mu35 : 0 ≤ (zland a 2147483647) * (zland b 2147483647) ∧ (zland a 2147483647) * (zland b 2147483647) ≤ 2147483647 * 225000000 := zmb (by omega) (by omega) (by omega) (by omega)
  have b38 : (zlshr ((zland a 2147483647) * (zland b 2147483647)) 31) = ((zland a 2147483647) * (zland b 2147483647)) / 2147483648 := zls31 (by omega)
  have mu46 : 0 ≤ (zland a 2147483647) * (zlshr b 31) ∧ (zland a 2147483647) * (zlshr b 31) ≤ 2147483647 * 0 := zmb (by omega) (by omega) (by omega) (by omega)
  have b52 : (zland (((zlshr a 31) * (zland b 2147483647)) + (zlshr ((zland a 2147483647) * (zland b 2147483647)) 31)) 2147483647) = (((zlshr a 31) * (zland b 2147483647)) + (zlshr ((zland a 2147483647) * (zland b 2147483647)) 31)) % 2147483648 := zla31 (by omega) (by omega)
  have mu60 : 0 ≤ (zlshr a 31) * (zlshr b 31) ∧ (zlshr a 31) * (zlshr b 31) ≤ 4 * 0 := zmb (by omega) (by omega) (by omega) (by omega)
  have b65 : (zlshr (((zlshr a 31) * (zland b 2147483647)) + (zlshr ((zland a 2147483647) * (zland b 2147483647)) 31)) 31) = (((zlshr a 31) * (zland b 2147483647)) + (zlshr ((zland a 2147483647) * (zland b 2147483647)) 31)) / 2147483648 := zls31 (by omega)
  have b71 : (zlshr (((zland a 2147483647) * (zlshr b 31)) + (zland (((zlshr a 31) * (zland b 2147483647)) + (zlshr ((zland a 2147483647) * (zland b 2147483647)) 31)) 2147483647)) 31) = (((zland a 2147483647) * (zlshr b 31)) + (zland (((zlshr a 31) * (zland b 2147483647)) + (zlshr ((zland a 2147483647) * (zland b 2147483647)) 31)) 2147483647)) / 2147483648 := zls31 (by omega)
  refine hQ _ (by omega))
def T_V_low : ZT := fun args I L R S Q => ∃ (a : Int) (b : Int), args = [zvl a, zvl b] ∧ ((0 ≤ a ∧ a ≤ 10200000000) ∧ (0 ≤ b ∧ b ≤ 225000000)) ∧ ∀ (v : Int), (v = a * b) → (0 ≤ v ∧ v ≤ 2295000000000000000) → Q (some (zvl (v))) I L R S
theorem sn_V_low : ZSnd 1 14 24 T_V_low := ZSnd.of (zT14_24 0) (by
  rintro args I L R S Q hz ⟨a, b, rfl, hb, hQ⟩
  refine And.intro rfl ?_
  have mu2 : 0 ≤ a * b ∧ a * b ≤ 10200000000 * 225000000 := zmb (by omega) (by omega) (by omega) (by omega)
  have b6 : (zland (a * b) 4611686018427387903) = (a * b) % 4611686018427387904 := zla62 (by omega) (by omega)
  refine hQ _ (by omega) (by omega))
def T_V_cmp : ZT := fun args I L R S Q => ∃ (a : Int) (b : Int) (c : Int) (d : Int), args = [zvl a, zvl b, zvl c, zvl d] ∧ ((0 ≤ a ∧ a ≤ 10200000000) ∧ (0 ≤ b ∧ b ≤ 225000000) ∧ (0 ≤ c ∧ c ≤ 10200000000) ∧ (0 ≤ d ∧ d ≤ 225000000)) ∧ ∀ (v : Int), (zc3 v (a * b) (c * d)) → Q (some (zvi (v))) I L R S
theorem sn_V_cmp : ZSnd 2 14 3 T_V_cmp := ZSnd.of (zT14_3 1) (by
  rintro args I L R S Q hz ⟨a, b, c, d, rfl, hb, hQ⟩
  refine And.intro rfl ?_
  refine ⟨_, sn_V_upp.up (by decide), ?_⟩
  refine ⟨(a : Int), (b : Int), rfl, (by clear hQ; grind [xu]), ?_⟩
  intro v2o p2hv
  refine ⟨_, sn_V_upp.up (by decide), ?_⟩
  refine ⟨(c : Int), (d : Int), rfl, (by clear hQ; grind [xu]), ?_⟩
  intro v11o p11hv
  refine ⟨_, _, ⟨zW6i (by omega), zW6i (by omega)⟩, fun z20 c20 => ?_⟩
  refine And.intro c20.2.2 ⟨fun h21 => ?_, (fun h21 => False.elim (by omega))⟩
  refine ⟨_, sn_V_low.up (by decide), ?_⟩
  refine ⟨(a : Int), (b : Int), rfl, (by clear hQ; grind [xu]), ?_⟩
  intro v40o p40hv p40bhv2
  refine ⟨_, sn_V_low.up (by decide), ?_⟩
  refine ⟨(c : Int), (d : Int), rfl, (by clear hQ; grind [xu]), ?_⟩
  intro v49o p49hv p49bhv2
  refine ⟨_, _, ⟨zW6i (by omega), zW6i (by omega)⟩, fun z58 c58 => ?_⟩
  refine And.intro c58.2.2 ⟨fun h59 => ?_, fun h59 => ?_⟩
  · refine ⟨_, _, ⟨zW6i (by omega), zW6i (by omega)⟩, fun z70 c70 => ?_⟩
    refine And.intro c70.2.2 ⟨fun h71 => ?_, fun h71 => ?_⟩
    · refine hQ _ (by unfold zc3; omega)
    · refine hQ _ (by unfold zc3; omega)
  · refine hQ _ (by unfold zc3; omega))
def T_V_frp : ZT := fun args I L R S Q => ∃ (p : Int) (q : Int) (a : Int) (b : Int) (c : Int) (d : Int) (t : Int), args = [zvl p, zvl q, zvl a, zvl b, zvl c, zvl d, zvl t] ∧ ((0 ≤ p ∧ p ≤ 15000) ∧ (0 ≤ q ∧ q ≤ 15000) ∧ (0 ≤ a ∧ a ≤ 15000) ∧ (0 ≤ b ∧ b ≤ 15000) ∧ (0 ≤ c ∧ c ≤ 15000) ∧ (0 ≤ d ∧ d ≤ 15000)) ∧ ((a ≤ c ∧ b ≤ d) ∧ (a = c ∨ b = d)) ∧ (0 ≤ t ∧ t ≤ 100600) ∧ ∀ (v : Int), (zc3 v (cuP2 p q a b c d) (t * t)) → Q (some (zvi (v))) I L R S
theorem sn_V_frp : ZSnd 3 14 7 T_V_frp := ZSnd.of (zT14_7 2) (by
  rintro args I L R S Q hz ⟨p, q, a, b, c, d, t, rfl, hb, hx, ht, hQ⟩
  have hz1 := cuPx_z (p := p) (q := q) hx.2
  have hz2 := cuPw_z hx.2
  refine And.intro rfl ?_
  have mu20 : -(15000 * 15000) ≤ (p - a) * (c - a) ∧ (p - a) * (c - a) ≤ 15000 * 15000 := zmbs (by omega) (by omega) (by omega) (by omega)
  have mu27 : -(15000 * 15000) ≤ (q - b) * (d - b) ∧ (q - b) * (d - b) ≤ 15000 * 15000 := zmbs (by omega) (by omega) (by omega) (by omega)
  have mu35 : 0 ≤ (c - a) * (c - a) ∧ (c - a) * (c - a) ≤ 15000 * 15000 := zmb (by omega) (by omega) (by omega) (by omega)
  have mu40 : 0 ≤ (d - b) * (d - b) ∧ (d - b) * (d - b) ≤ 15000 * 15000 := zmb (by omega) (by omega) (by omega) (by omega)
  refine ⟨_, _, ⟨zW6i (by omega), zW6i (zRL rfl)⟩, fun z47 c47 => ?_⟩
  refine And.intro c47.2.2 ⟨fun h48 => ?_, fun h48 => ?_⟩
  · refine ⟨_, _, ⟨zW6i (by omega), zW6i (zRL rfl)⟩, fun z112 c112 => ?_⟩
    refine And.intro c112.2.2 ⟨(fun h113 => False.elim (by omega)), fun h113 => ?_⟩
    refine ⟨_, _, ⟨zW6i (by omega), zW6i (zRL rfl)⟩, fun z132 c132 => ?_⟩
    refine And.intro c132.2.2 ⟨(fun h133 => False.elim (by omega)), fun h133 => ?_⟩
    have mu153 : -(15000 * 15000) ≤ (p - a) * (p - a) ∧ (p - a) * (p - a) ≤ 15000 * 15000 := zmbs (by omega) (by omega) (by omega) (by omega)
    have mu158 : -(15000 * 15000) ≤ (q - b) * (q - b) ∧ (q - b) * (q - b) ≤ 15000 * 15000 := zmbs (by omega) (by omega) (by omega) (by omega)
    have mu168 : 0 ≤ t * t ∧ t * t ≤ 100600 * 100600 := zmb (by omega) (by omega) (by omega) (by omega)
    refine ⟨_, _, ⟨zW6i (by omega), zW6i (by omega)⟩, fun z169 c169 => ?_⟩
    refine And.intro c169.2.2 ⟨fun h170 => ?_, fun h170 => ?_⟩
    · have mu183 : 0 ≤ t * t ∧ t * t ≤ 100600 * 100600 := zmb (by omega) (by omega) (by omega) (by omega)
      refine ⟨_, _, ⟨zW6i (by omega), zW6i (by omega)⟩, fun z184 c184 => ?_⟩
      refine And.intro c184.2.2 ⟨fun h185 => ?_, fun h185 => ?_⟩
      · refine hQ _ ?_
        · first
          | (refine cuP2_in hx.1.1 hx.1.2 hx.2 (by omega) (by omega) ?_ p105hv
             first
             | exact Or.inl rfl
             | exact Or.inr (by omega))
          | (refine zc3_e ?_ (cuP2_lo hx.1.1 hx.1.2 hx.2 (by omega)) rfl
             unfold zc3
             omega)
          | (refine zc3_e ?_ (cuP2_hi hx.1.1 hx.1.2 hx.2 (by omega) (by omega)) rfl
             unfold zc3
             omega)
      · refine hQ _ ?_
        · first
          | (refine cuP2_in hx.1.1 hx.1.2 hx.2 (by omega) (by omega) ?_ p105hv
             first
             | exact Or.inl rfl
             | exact Or.inr (by omega))
          | (refine zc3_e ?_ (cuP2_lo hx.1.1 hx.1.2 hx.2 (by omega)) rfl
             unfold zc3
             omega)
          | (refine zc3_e ?_ (cuP2_hi hx.1.1 hx.1.2 hx.2 (by omega) (by omega)) rfl
             unfold zc3
             omega)
    · refine hQ _ ?_
      · first
        | (refine cuP2_in hx.1.1 hx.1.2 hx.2 (by omega) (by omega) ?_ p105hv
           first
           | exact Or.inl rfl
           | exact Or.inr (by omega))
        | (refine zc3_e ?_ (cuP2_lo hx.1.1 hx.1.2 hx.2 (by omega)) rfl
           unfold zc3
           omega)
        | (refine zc3_e ?_ (cuP2_hi hx.1.1 hx.1.2 hx.2 (by omega) (by omega)) rfl
           unfold zc3
           omega)
  · refine ⟨_, _, ⟨zW6i (by omega), zW6i (by omega)⟩, fun z55 c55 => ?_⟩
    refine And.intro c55.2.2 ⟨fun h56 => ?_, fun h56 => ?_⟩
    · refine ⟨_, _, ⟨zW6i (by omega), zW6i (zRL rfl)⟩, fun z112 c112 => ?_⟩
      refine And.intro c112.2.2 ⟨fun h113 => ?_, (fun h113 => False.elim (by omega))⟩
      refine ⟨_, _, ⟨zW6i (by omega), zW6i (zRL rfl)⟩, fun z132 c132 => ?_⟩
      refine And.intro c132.2.2 ⟨fun h133 => ?_, (fun h133 => False.elim (by omega))⟩
      have mu153 : -(15000 * 15000) ≤ (p - c) * (p - c) ∧ (p - c) * (p - c) ≤ 15000 * 15000 := zmbs (by omega) (by omega) (by omega) (by omega)
      have mu158 : -(15000 * 15000) ≤ (q - d) * (q - d) ∧ (q - d) * (q - d) ≤ 15000 * 15000 := zmbs (by omega) (by omega) (by omega) (by omega)
      have mu168 : 0 ≤ t * t ∧ t * t ≤ 100600 * 100600 := zmb (by omega) (by omega) (by omega) (by omega)
      refine ⟨_, _, ⟨zW6i (by omega), zW6i (by omega)⟩, fun z169 c169 => ?_⟩
      refine And.intro c169.2.2 ⟨fun h170 => ?_, fun h170 => ?_⟩
      · have mu183 : 0 ≤ t * t ∧ t * t ≤ 100600 * 100600 := zmb (by omega) (by omega) (by omega) (by omega)
        refine ⟨_, _, ⟨zW6i (by omega), zW6i (by omega)⟩, fun z184 c184 => ?_⟩
        refine And.intro c184.2.2 ⟨fun h185 => ?_, fun h185 => ?_⟩
        · refine hQ _ ?_
          · first
            | (refine cuP2_in hx.1.1 hx.1.2 hx.2 (by omega) (by omega) ?_ p105hv
               first
               | exact Or.inl rfl
               | exact Or.inr (by omega))
            | (refine zc3_e ?_ (cuP2_lo hx.1.1 hx.1.2 hx.2 (by omega)) rfl
               unfold zc3
               omega)
            | (refine zc3_e ?_ (cuP2_hi hx.1.1 hx.1.2 hx.2 (by omega) (by omega)) rfl
               unfold zc3
               omega)
        · refine hQ _ ?_
          · first
            | (refine cuP2_in hx.1.1 hx.1.2 hx.2 (by omega) (by omega) ?_ p105hv
               first
               | exact Or.inl rfl
               | exact Or.inr (by omega))
            | (refine zc3_e ?_ (cuP2_lo hx.1.1 hx.1.2 hx.2 (by omega)) rfl
               unfold zc3
               omega)
            | (refine zc3_e ?_ (cuP2_hi hx.1.1 hx.1.2 hx.2 (by omega) (by omega)) rfl
               unfold zc3
               omega)
      · refine hQ _ ?_
        · first
          | (refine cuP2_in hx.1.1 hx.1.2 hx.2 (by omega) (by omega) ?_ p105hv
             first
             | exact Or.inl rfl
             | exact Or.inr (by omega))
          | (refine zc3_e ?_ (cuP2_lo hx.1.1 hx.1.2 hx.2 (by omega)) rfl
             unfold zc3
             omega)
          | (refine zc3_e ?_ (cuP2_hi hx.1.1 hx.1.2 hx.2 (by omega) (by omega)) rfl
             unfold zc3
             omega)
    · have mu65 : -(15000 * 15000) ≤ (c - a) * (q - b) ∧ (c - a) * (q - b) ≤ 15000 * 15000 := zmbs (by omega) (by omega) (by omega) (by omega)
      have mu72 : -(15000 * 15000) ≤ (d - b) * (p - a) ∧ (d - b) * (p - a) ≤ 15000 * 15000 := zmbs (by omega) (by omega) (by omega) (by omega)
      refine ⟨_, _, ⟨zW6i (by omega), zW6i (zRL rfl)⟩, fun z79 c79 => ?_⟩
      refine And.intro c79.2.2 ⟨fun h80 => ?_, fun h80 => ?_⟩
      · have mu102 : 0 ≤ t * t ∧ t * t ≤ 100600 * 100600 := zmb (by omega) (by omega) (by omega) (by omega)
        refine ⟨_, sn_V_cmp.up (by decide), ?_⟩
        refine ⟨((((c - a) * (q - b)) - ((d - b) * (p - a))) : Int), ((((c - a) * (q - b)) - ((d - b) * (p - a))) : Int), ((t * t) : Int), ((((c - a) * (c - a)) + ((d - b) * (d - b))) : Int), rfl, (by omega), ?_⟩
        intro v105o p105hv
        refine hQ _ ?_
        · first
          | (refine cuP2_in hx.1.1 hx.1.2 hx.2 (by omega) (by omega) ?_ p105hv
             first
             | exact Or.inl rfl
             | exact Or.inr (by omega))
          | (refine zc3_e ?_ (cuP2_lo hx.1.1 hx.1.2 hx.2 (by omega)) rfl
             unfold zc3
             omega)
          | (refine zc3_e ?_ (cuP2_hi hx.1.1 hx.1.2 hx.2 (by omega) (by omega)) rfl
             unfold zc3
             omega)
      · have mu102 : 0 ≤ t * t ∧ t * t ≤ 100600 * 100600 := zmb (by omega) (by omega) (by omega) (by omega)
        refine ⟨_, sn_V_cmp.up (by decide), ?_⟩
        refine ⟨((0 - (((c - a) * (q - b)) - ((d - b) * (p - a)))) : Int), ((0 - (((c - a) * (q - b)) - ((d - b) * (p - a)))) : Int), ((t * t) : Int), ((((c - a) * (c - a)) + ((d - b) * (d - b))) : Int), rfl, (by omega), ?_⟩
        intro v105o p105hv
        refine hQ _ ?_
        · first
          | (refine cuP2_in hx.1.1 hx.1.2 hx.2 (by omega) (by omega) ?_ p105hv
             first
             | exact Or.inl rfl
             | exact Or.inr (by omega))
          | (refine zc3_e ?_ (cuP2_lo hx.1.1 hx.1.2 hx.2 (by omega)) rfl
             unfold zc3
             omega)
          | (refine zc3_e ?_ (cuP2_hi hx.1.1 hx.1.2 hx.2 (by omega) (by omega)) rfl
             unfold zc3
             omega))
def T_V_sid : ZT := fun args I L R S Q => ∃ (a : Int) (b : Int) (c : Int) (d : Int) (e : Int) (f : Int), args = [zvl a, zvl b, zvl c, zvl d, zvl e, zvl f] ∧ ((0 ≤ a ∧ a ≤ 15000) ∧ (0 ≤ b ∧ b ≤ 15000) ∧ (0 ≤ c ∧ c ≤ 15000) ∧ (0 ≤ d ∧ d ≤ 15000) ∧ (0 ≤ e ∧ e ≤ 15000) ∧ (0 ≤ f ∧ f ≤ 15000)) ∧ ((a ≤ c ∧ b ≤ d) ∧ (a = c ∨ b = d)) ∧ ∀ (v : Int), (cuSd v a b c d e f) → (-1 ≤ v ∧ v ≤ 1) → Q (some (zvi (v))) I L R S
theorem sn_V_sid : ZSnd 1 14 33 T_V_sid := ZSnd.of (zT14_33 0) (by
  rintro args I L R S Q hz ⟨a, b, c, d, e, f, rfl, hb, hx, hQ⟩
  refine And.intro rfl ?_
  have mu8 : -(15000 * 15000) ≤ (c - a) * (f - b) ∧ (c - a) * (f - b) ≤ 15000 * 15000 := zmbs (by omega) (by omega) (by omega) (by omega)
  have mu17 : -(15000 * 15000) ≤ (d - b) * (e - a) ∧ (d - b) * (e - a) ≤ 15000 * 15000 := zmbs (by omega) (by omega) (by omega) (by omega)
  refine ⟨_, _, ⟨zW6i (by omega), zW6i (zRL rfl)⟩, fun z24 c24 => ?_⟩
  refine And.intro c24.2.2 ⟨fun h25 => ?_, fun h25 => ?_⟩
  · refine ⟨_, _, ⟨zW6i (by omega), zW6i (zRL rfl)⟩, fun z35 c35 => ?_⟩
    refine And.intro c35.2.2 ⟨fun h36 => ?_, fun h36 => ?_⟩
    · refine hQ _ (cuSd_o hx.1.1 hx.1.2 hx.2 (by omega)) (by omega)
    · refine hQ _ (cuSd_o hx.1.1 hx.1.2 hx.2 (by omega)) (by omega)
  · refine hQ _ (cuSd_o hx.1.1 hx.1.2 hx.2 (by omega)) (by omega))
