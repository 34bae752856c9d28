/-! cd -/
def T_C_root : ZT := fun args I L R S Q => ∃ (rt : Nat → Nat) (x : Int) (a : Nat), args = [zvr 63, zvi x] ∧ (zSh S) ∧ (zRs R) ∧ (zUF 78 19520 rt I) ∧ (x = a ∧ a < 19520) ∧ ∀ (v : Int) (I' : ZI), (v = rt a) → (0 ≤ v ∧ v ≤ a) → (zUF 78 19520 rt I') → (∀ c j : Nat, ¬ c = 78 → I' c j = I c j) → Q (some (zvi (v))) I' L R S
theorem sn_C_root : ZSnd 1 3 35 T_C_root := ZSnd.loops (zT3_35 0) (by
  rintro args I L R S Q hz ⟨rt, x, a, rfl, hS, hR, hU, hx, hQ⟩
  refine ⟨[4], fun nM tM lsM stM I1 L1 R1 S1 => match tM with
      | 4 => ∃ (m : Nat) (n : Nat), nM = (m, 0, 0) ∧ lsM = [some (zvr (63)), none, some (zvi (m)), some (zvi (n))] ∧ stM = [] ∧ L1 = L ∧ R1 = R ∧ S1 = S ∧ (m < 19520 ∧ n + m ≤ a) ∧ (rt m = rt a) ∧ (zUF 78 19520 rt I1) ∧ (∀ c j : Nat, ¬ c = 78 → I1 c j = I c j)
      | _ => False, rfl, ?_, ⟨?_, True.intro⟩⟩
  · refine ⟨(a, 0, 0), [some (zvr (63)), none, some (zvi (a)), some (zvi ((0 : Nat)))], ⟨rfl, (congrArg (fun z => some (zvi z)) (by omega)), rfl, rfl⟩, a, 0, rfl, rfl, rfl, rfl, rfl, rfl, (by omega), rfl, hU, (fun c j h0 => rfl)⟩
  · rintro nM lsM stM I1 L1 R1 S1 hz1 ⟨m, n, rfl, rfl, rfl, rfl, rfl, rfl, hm, hr, hU1, fr⟩
    obtain ⟨u1, u2, u3, u4, u5, u6⟩ := hU1 m (by omega)
    obtain ⟨w1, w2, w3, w4, w5, w6⟩ := hU1 (I1 78 m).toNat (by omega)
    refine And.intro ⟨(by omega), (zRb rfl)⟩ ⟨(fun h8 => False.elim (by omega)), fun h8 => ?_⟩
    refine And.intro (zA_63 hS) (zrdR (v := some 78) (zR_63_9 hR) ?_)
    refine And.intro (zP_78 hS (by omega) (by omega)) (fun v16 e16 r16 => ?_)
    have f16 : v16 = I1 78 m := (e16.trans (congrArg (I1 78) (by omega)))
    have f16b : 0 ≤ v16 ∧ v16 ≤ m := (by omega)
    refine And.intro ⟨r16, (by omega)⟩ ⟨fun h18 => ?_, fun h18 => ?_⟩
    · refine hQ _ _ (by rw [← hr, u6 (by omega)]) (by omega) hU1 (fun c j h0 => ((fr c j (by omega)).trans rfl))
    · refine And.intro (zA_63 hS) (zrdR (v := some 78) (zR_63_9 hR) ?_)
      refine And.intro (zA_63 hS) (zrdR (v := some 78) (zR_63_9 hR) ?_)
      refine And.intro (zA_63 hS) (zrdR (v := some 78) (zR_63_9 hR) ?_)
      refine And.intro (zP_78 hS (by omega) (by omega)) (fun v35 e35 r35 => ?_)
      have f35 : v35 = I1 78 m := (e35.trans (congrArg (I1 78) (by omega)))
      have f35b : 0 ≤ v35 ∧ v35 ≤ m := (by omega)
      refine And.intro (zP_78 hS (by omega) (by omega)) (fun v36 e36 r36 => ?_)
      have f36 : v36 = I1 78 (I1 78 m).toNat := (e36.trans (congrArg (I1 78) (by rw [f35])))
      have f36b : 0 ≤ v36 ∧ v36 + 1 ≤ m := (by omega)
      refine And.intro ⟨(zx0 rfl), (zP_78 hS (by omega) (by omega))⟩ ⟨_, (zWi r36), ?_⟩
      refine And.intro (zA_63 hS) (zrdR (v := some 78) (zR_63_9 hR) ?_)
      refine And.intro (zP_78 hS (by omega) (by omega)) (zrd (v := v36) zxe ?_)
      refine ⟨(v36.toNat, 0, 0), zlt6 (by omega), [some (zvr (63)), none, some (zvi (v36.toNat)), some (zvi ((n + 1)))], ⟨rfl, (congrArg (fun z => some (zvi z)) (by omega)), rfl, rfl⟩, v36.toNat, (n + 1), rfl, rfl, rfl, rfl, rfl, rfl, (by omega), (by rw [f36, w5, u5]; exact hr), (zUF_half (a := m) hU1 (by omega) (zxe.trans f36) (fun n hn => zxs (by omega) rfl)), (fun c j h0 => (zxu h0 ((fr c j (by omega)).trans rfl)))⟩)
def T_C_join : ZT := fun args I L R S Q => ∃ (E : Nat → Nat → Prop) (x : Int) (a : Nat) (y : Int) (b : Nat), args = [zvr 63, zvi x, zvi y] ∧ (zSh S) ∧ (zRs R) ∧ (zJF 78 E I) ∧ (x = a ∧ a < 19520) ∧ (y = b ∧ b < 19520) ∧ ∀ (I' : ZI), (zJF 78 (jAd E a b) I') → (∀ c j : Nat, ¬ c = 78 → I' c j = I c j) → Q none I' L R S
theorem sn_C_join : ZSnd 2 3 16 T_C_join := ZSnd.of (zT3_16 1) (by
  rintro args I L R S Q hz ⟨E, x, a, y, b, rfl, hS, hR, hJF, hx, hy, hQ⟩
  obtain ⟨rt, hU, hRr, hE⟩ := id hJF
  refine And.intro rfl ?_
  refine And.intro (zA_63 hS) ⟨_, sn_C_root.up (by decide), ?_⟩
  refine ⟨rt, (x : Int), a, rfl, hS, hR, hU, hx, ?_⟩
  intro v2o I2o p2hv p2bhv2 p2bbhU2 p2bbbfr
  refine And.intro (zA_63 hS) ⟨_, sn_C_root.up (by decide), ?_⟩
  refine ⟨rt, (y : Int), b, rfl, hS, hR, p2bbhU2, hy, ?_⟩
  intro v8o I8o p8hv p8bhv2 p8bbhU2 p8bbbfr
  refine And.intro (zA_63 hS) (zrdR (v := some 78) (zR_63_9 hR) ?_)
  refine And.intro ⟨(by omega), (by omega)⟩ ?_
  refine And.intro ⟨(by omega), (by omega)⟩ ?_
  refine And.intro ⟨(zx0 rfl), (zP_78 hS (by omega) (by omega))⟩ ⟨_, (zWi (by omega)), ?_⟩
  refine hQ _ ?_ (fun c j h0 => (zxu h0 ((p8bbbfr c j (by omega)).trans ((p2bbbfr c j (by omega)).trans rfl))))
  · refine zJF_join p8bbhU2 hRr hE hx.2 hy.2 ?_ (fun n hn hne => Or.inl (zxs (by omega) rfl))
    exact (zxe' (by omega)).trans (by omega))
def T_C_cop : ZT := fun args I L R S Q => ∃ (d : JdS) (ob : Nat → Int) (E : Nat → Nat → Prop) (x : Int) (A : Nat) (y : Int) (B : Nat) (z : Int) (b : Nat), args = [zvr 63, zvi x, zvi y, zvi z] ∧ (zSh S) ∧ (zRs R) ∧ (zDA d ob I) ∧ (jGd d) ∧ (zJF 78 E I) ∧ (x = A ∧ A + 16 ≤ 19520) ∧ (y = B ∧ B + 16 ≤ 19520) ∧ (z = b ∧ b < dns d ∧ dbs d b = b) ∧ ∀ (I' : ZI), (zSc d A B (jNc (dbs d) b (dns d)) E I') → (∀ c j : Nat, ¬ c = 78 → I' c j = I c j) → Q none I' L R S
theorem sn_C_cop : ZSnd 3 3 19 T_C_cop := ZSnd.loops (zT3_19 2) (by
  rintro args I L R S Q hz ⟨d, ob, E, x, A, y, B, z, b, rfl, hS, hR, hDA, hJG, hJF, hA, hB, hb, hQ⟩
  obtain ⟨hSR, hCS, hWR, hJR, hLR, hPR, hTR⟩ := id hDA
  obtain ⟨⟨g1, g2, g3, g4, g5, g6⟩, gs, gw, gj, gl, gp, gt⟩ := id hJG
  obtain ⟨c1_, c2_, c3_, c4_⟩ := id hSR
  obtain ⟨w1_, w2_, w3_, w4_⟩ := id hWR
  obtain ⟨j1_, j2_, j3_, j4_⟩ := id hJR
  obtain ⟨l1_, l2_, l3_, l4_⟩ := id hLR
  obtain ⟨p1_, p2_, p3_, p4_⟩ := id hPR
  obtain ⟨t1_, t2_, t3_, t4_⟩ := id hTR
  have hnc := jNc_le (dbs d) b (dns d)
  refine ⟨[3], fun nM tM lsM stM I1 L1 R1 S1 => match tM with
      | 3 => ∃ (c : Nat), nM = ((17 - c), 0, 0) ∧ lsM = [some (zvr (63)), some (zvi (A)), some (zvi (B)), some (zvi (b)), some (zvi (c))] ∧ stM = [] ∧ L1 = L ∧ R1 = R ∧ S1 = S ∧ (c ≤ jNc (dbs d) b (dns d)) ∧ (zSc d A B c E I1) ∧ (∀ c j : Nat, ¬ c = 78 → I1 c j = I c j)
      | _ => False, rfl, ?_, ⟨?_, True.intro⟩⟩
  · refine ⟨((17 - (0 : Nat)), 0, 0), [some (zvr (63)), some (zvi (A)), some (zvi (B)), some (zvi (b)), some (zvi ((0 : Nat)))], ⟨rfl, (congrArg (fun z => some (zvi z)) (by omega)), (congrArg (fun z => some (zvi z)) (by omega)), (congrArg (fun z => some (zvi z)) (by omega)), rfl, rfl⟩, 0, rfl, rfl, rfl, rfl, rfl, rfl, (by omega), ⟨E, hJF, cGc_0⟩, (fun c j h0 => rfl)⟩
  · rintro nM lsM stM I1 L1 R1 S1 hz1 ⟨c, rfl, rfl, rfl, rfl, rfl, rfl, hc, hQ1, fr⟩
    obtain ⟨F, hJ1, hg⟩ := id hQ1
    refine And.intro (zA_63 hS) (Exists.intro _ (And.intro (zinl_ok (zT3_5 1)) (And.intro rfl ?_)))
    refine And.intro (zA_63 hS) (zrdR (v := some 65) (zR_63_2 hR) ?_)
    refine And.intro (zA_65 hS) ⟨_, sn_A_at.up (by decide), ?_⟩
    refine ⟨_, _, _, _, b, 4, (b : Int), (4 : Int), rfl, hS, hR, (zRw_65 hR hS), (by first | exact (zRT_fr hSR (fun c j h => ((fr c j (by omega)).trans rfl))) | (clear hQ; grind [xu])), (by omega), (by omega), ?_⟩
    intro v6_7o p6_7hv p6_7bhr
    have g6_7 : v6_7o = jNc (dbs d) b (dns d) := (p6_7hv.trans (by show cSR d ob b 4 = _; unfold cSR; rw [if_neg (by decide), if_neg (by decide), if_neg (by decide), if_neg (by decide), if_pos rfl, if_pos hb.2.2]))
    refine And.intro ⟨(by omega), (by omega)⟩ ⟨fun h10 => ?_, fun h10 => ?_⟩
    · refine hQ _ (by obtain rfl : c = jNc (dbs d) b (dns d) := (by omega); exact hQ1) (fun c j h0 => ((fr c j (by omega)).trans rfl))
    · refine And.intro (zA_63 hS) ⟨_, sn_C_join.up (by decide), ?_⟩
      refine ⟨F, ((A + c) : Int), (A + c), ((B + c) : Int), (B + c), rfl, hS, hR, hJ1, (by omega), (by omega), ?_⟩
      intro I22o p22hJF2 p22bfr
      refine ⟨((17 - (c + 1)), 0, 0), zlt6 (by omega), [some (zvr (63)), some (zvi (A)), some (zvi (B)), some (zvi (b)), some (zvi ((c + 1)))], ⟨rfl, rfl, rfl, rfl, rfl, rfl⟩, (c + 1), rfl, rfl, rfl, rfl, rfl, rfl, (by omega), ⟨_, p22hJF2, cGc_s hg⟩, (fun c j h0 => ((p22bfr c j (by omega)).trans ((fr c j (by omega)).trans rfl)))⟩)
