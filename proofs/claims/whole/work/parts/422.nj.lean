/-! nj -/
def T_J_lead : ZT := fun args I L R S Q => ∃ (k : Nat) (rt : Nat → Nat) (x : Int) (a : Nat), args = [zvr k, zvi x] ∧ (zDy zT18 zF18 k R S) ∧ (zUF (k + 18) 19520 rt I) ∧ (x = a ∧ a < 19520) ∧ ∀ (v : Int), (v = rt a) → (0 ≤ v ∧ v ≤ a) → Q (some (zvi (v))) I L R S
theorem sn_J_lead : ZSnd 1 18 20 T_J_lead := ZSnd.loops (zT18_20 0) (by
  rintro args I L R S Q hz ⟨k, rt, x, a, rfl, hd, hU, hx, hQ⟩
  have h5 := hd.1
  refine ⟨[2], fun nM tM lsM stM I1 L1 R1 S1 => match tM with
      | 2 => ∃ (m : Nat), nM = (m, 0, 0) ∧ lsM = [some (zvr (k)), none, some (zvi (m))] ∧ stM = [] ∧ I1 = I ∧ L1 = L ∧ R1 = R ∧ S1 = S ∧ (m < 19520 ∧ m ≤ a) ∧ (rt m = rt a)
      | _ => False, rfl, ?_, ⟨?_, True.intro⟩⟩
  · refine ⟨(a, 0, 0), [some (zvr (k)), none, some (zvi (a))], ⟨rfl, (congrArg (fun z => some (zvi z)) (by omega)), rfl⟩, a, rfl, rfl, rfl, rfl, rfl, rfl, rfl, (by omega), rfl⟩
  · rintro nM lsM stM I1 L1 R1 S1 hz1 ⟨m, rfl, rfl, rfl, rfl, rfl, rfl, rfl, hm, hr⟩
    obtain ⟨u1, u2, u3, u4, u5, u6⟩ := hU m hm.1
    refine And.intro (zDX hd 0 rfl) (zrdR (v := some (k + 18)) (zDR hd 17 rfl) ?_)
    refine And.intro (zDP hd 18 rfl rfl (by omega) (by omega)) (fun v7 e7 r7 => ?_)
    have f7 : v7 = I1 (k + 18) m := (e7.trans (congrArg (I1 (k + 18)) (by omega)))
    have f7b : 0 ≤ v7 ∧ v7 ≤ m := (by omega)
    refine And.intro ⟨r7, (by omega)⟩ ⟨fun h9 => ?_, fun h9 => ?_⟩
    · refine hQ _ (by rw [← hr, u6 (by omega)]) (by omega)
    · refine And.intro (zDX hd 0 rfl) (zrdR (v := some (k + 18)) (zDR hd 17 rfl) ?_)
      refine And.intro (zDP hd 18 rfl rfl (by omega) (by omega)) (fun v17 e17 r17 => ?_)
      have f17 : v17 = I1 (k + 18) m := (e17.trans (congrArg (I1 (k + 18)) (by omega)))
      have f17b : 0 ≤ v17 ∧ v17 ≤ m := (by omega)
      refine ⟨(v17.toNat, 0, 0), zlt6 (by omega), [some (zvr (k)), none, some (zvi (v17.toNat))], ⟨rfl, (congrArg (fun z => some (zvi z)) (by omega)), rfl⟩, v17.toNat, rfl, rfl, rfl, rfl, rfl, rfl, rfl, (by omega), (by rw [f17, u5]; exact hr)⟩)
def T_J_join : ZT := fun args I L R S Q => ∃ (k : Nat) (E : Nat → Nat → Prop) (x : Int) (a : Nat) (y : Int) (b : Nat), args = [zvr k, zvi x, zvi y] ∧ (zDy zT18 zF18 k R S) ∧ (zJF (k + 18) E I) ∧ (x = a ∧ a < 19520) ∧ (y = b ∧ b < 19520) ∧ ∀ (I' : ZI), (zJF (k + 18) (jAd E a b) I') → (∀ c j : Nat, ¬ c = k + 18 → I' c j = I c j) → Q none I' L R S
theorem sn_J_join : ZSnd 2 18 12 T_J_join := ZSnd.of (zT18_12 1) (by
  rintro args I L R S Q hz ⟨k, E, x, a, y, b, rfl, hd, hJF, hx, hy, hQ⟩
  have h5 := hd.1
  obtain ⟨rt, hU, hR, hE⟩ := id hJF
  refine And.intro rfl ?_
  refine And.intro (zDX hd 0 rfl) ⟨_, sn_J_lead.up (by decide), ?_⟩
  refine ⟨k, rt, (x : Int), a, rfl, hd, (by clear hQ; grind [xu]), hx, ?_⟩
  intro v2o p2hv p2bhv2
  refine And.intro (zDX hd 0 rfl) ⟨_, sn_J_lead.up (by decide), ?_⟩
  refine ⟨k, rt, (y : Int), b, rfl, hd, (by clear hQ; grind [xu]), hy, ?_⟩
  intro v8o p8hv p8bhv2
  refine And.intro ⟨(by omega), (by omega)⟩ ⟨fun h16 => ?_, fun h16 => ?_⟩
  · refine And.intro (zDX hd 0 rfl) (zrdR (v := some (k + 18)) (zDR hd 17 rfl) ?_)
    refine And.intro ⟨(by show 40 ≤ _; omega), (zDP hd 18 rfl rfl (by omega) (by omega))⟩ ⟨_, (zWi (by omega)), ?_⟩
    refine And.intro (zDX hd 0 rfl) (zrdR (v := some (k + 18)) (zDR hd 17 rfl) ?_)
    refine And.intro ⟨(by omega), (by omega)⟩ ⟨fun h46 => ?_, (fun h46 => False.elim (by omega))⟩
    refine And.intro ⟨(by show 40 ≤ _; omega), (zDP hd 18 rfl rfl (by omega) (by omega))⟩ ⟨_, (zWi (by omega)), ?_⟩
    refine And.intro (zDX hd 0 rfl) (zrdR (v := some (k + 18)) (zDR hd 17 rfl) ?_)
    refine And.intro ⟨(by omega), (by omega)⟩ ⟨fun h64 => ?_, (fun h64 => False.elim (by omega))⟩
    refine And.intro ⟨(by show 40 ≤ _; omega), (zDP hd 18 rfl rfl (by omega) (by omega))⟩ ⟨_, (zWi (by omega)), ?_⟩
    refine hQ _ ?_ (fun c j h0 => (zxu h0 (zxu h0 (zxu h0 rfl))))
    · obtain rfl := hx.1
      obtain rfl := hy.1
      have e1 : rt a = v2o.toNat := (by omega)
      have e2 : rt b = v8o.toNat := (by omega)
      refine zJF_join hU hR hE hx.2 hy.2 ?_ ?_
      · first
        | (rw [show max (rt a) (rt b) = v8o.toNat by omega]
           by_cases q1 : v8o.toNat = (b : Int).toNat
           · rw [q1]; exact zxe.trans (by omega)
           · refine zxs q1 ?_
             by_cases q2 : v8o.toNat = (a : Int).toNat
             · rw [q2]; exact zxe.trans (by omega)
             · exact zxs q2 (zxe.trans (by omega)))
        | (rw [show max (rt a) (rt b) = v2o.toNat by omega]
           by_cases q1 : v2o.toNat = (b : Int).toNat
           · rw [q1]; exact zxe.trans (by omega)
           · refine zxs q1 ?_
             by_cases q2 : v2o.toNat = (a : Int).toNat
             · rw [q2]; exact zxe.trans (by omega)
             · exact zxs q2 (zxe.trans (by omega)))
      · intro n hn hne
        by_cases q1 : n = (b : Int).toNat
        · right
          rw [q1]
          exact ⟨zxe.trans (by omega), Or.inr rfl⟩
        · by_cases q2 : n = (a : Int).toNat
          · right
            refine ⟨zxs q1 ?_, Or.inl (by omega)⟩
            rw [q2]
            exact zxe.trans (by omega)
          · left
            exact zxs q1 (zxs q2 (zxs (by omega) rfl))
  · refine And.intro (zDX hd 0 rfl) (zrdR (v := some (k + 18)) (zDR hd 17 rfl) ?_)
    refine And.intro ⟨(by show 40 ≤ _; omega), (zDP hd 18 rfl rfl (by omega) (by omega))⟩ ⟨_, (zWi (by omega)), ?_⟩
    refine And.intro (zDX hd 0 rfl) (zrdR (v := some (k + 18)) (zDR hd 17 rfl) ?_)
    refine And.intro ⟨(by omega), (by omega)⟩ ⟨(fun h46 => False.elim (by omega)), fun h46 => ?_⟩
    refine And.intro ⟨(by show 40 ≤ _; omega), (zDP hd 18 rfl rfl (by omega) (by omega))⟩ ⟨_, (zWi (by omega)), ?_⟩
    refine And.intro (zDX hd 0 rfl) (zrdR (v := some (k + 18)) (zDR hd 17 rfl) ?_)
    refine And.intro ⟨(by omega), (by omega)⟩ ⟨(fun h64 => False.elim (by omega)), fun h64 => ?_⟩
    refine And.intro ⟨(by show 40 ≤ _; omega), (zDP hd 18 rfl rfl (by omega) (by omega))⟩ ⟨_, (zWi (by omega)), ?_⟩
    refine hQ _ ?_ (fun c j h0 => (zxu h0 (zxu h0 (zxu h0 rfl))))
    · obtain rfl := hx.1
      obtain rfl := hy.1
      have e1 : rt a = v2o.toNat := (by omega)
      have e2 : rt b = v8o.toNat := (by omega)
      refine zJF_join hU hR hE hx.2 hy.2 ?_ ?_
      · first
        | (rw [show max (rt a) (rt b) = v8o.toNat by omega]
           by_cases q1 : v8o.toNat = (b : Int).toNat
           · rw [q1]; exact zxe.trans (by omega)
           · refine zxs q1 ?_
             by_cases q2 : v8o.toNat = (a : Int).toNat
             · rw [q2]; exact zxe.trans (by omega)
             · exact zxs q2 (zxe.trans (by omega)))
        | (rw [show max (rt a) (rt b) = v2o.toNat by omega]
           by_cases q1 : v2o.toNat = (b : Int).toNat
           · rw [q1]; exact zxe.trans (by omega)
           · refine zxs q1 ?_
             by_cases q2 : v2o.toNat = (a : Int).toNat
             · rw [q2]; exact zxe.trans (by omega)
             · exact zxs q2 (zxe.trans (by omega)))
      · intro n hn hne
        by_cases q1 : n = (b : Int).toNat
        · right
          rw [q1]
          exact ⟨zxe.trans (by omega), Or.inr rfl⟩
        · by_cases q2 : n = (a : Int).toNat
          · right
            refine ⟨zxs q1 ?_, Or.inl (by omega)⟩
            rw [q2]
            exact zxe.trans (by omega)
          · left
            exact zxs q1 (zxs q2 (zxs (by omega) rfl)))
def T_J_thr : ZT := fun args I L R S Q => ∃ (k : Nat) (d : JdS) (u : Int) (w : Nat) (x : Int) (y : Int), args = [zvr k, zvi u, zvl x, zvl y] ∧ (zDy zT18 zF18 k R S) ∧ (zNJ k d I L) ∧ (jGd d) ∧ (u = w) ∧ (w < dnw d) ∧ (jFar x ∧ jFar y) ∧ ∀ (v : Int), ((v = 1 ∧ jTh (dW d) w x y) ∨ (v = 0 ∧ ¬ jTh (dW d) w x y)) → Q (some (zvi (v))) I L R S
theorem sn_J_thr : ZSnd 1 18 2 T_J_thr := ZSnd.of (zT18_2 0) (by
  rintro args I L R S Q hz ⟨k, d, u, w, x, y, rfl, hd, hNJ, hJG, hu, hw, hxy, hQ⟩
  have h5 := hd.1
  obtain ⟨⟨n1, n2, n3, n4, n5, n6, n7⟩, nS, nW, nD, nJ, nL, nT, nO, nP, nR⟩ := id hNJ
  obtain ⟨⟨g1, g2, g3, g4, g5, g6⟩, gs, gw, gj, gl, gp, gt⟩ := id hJG
  have hx9 : -1000000000 ≤ x ∧ x ≤ 1000000000 := hxy.1
  have hy9 : -1000000000 ≤ y ∧ y ≤ 1000000000 := hxy.2
  refine And.intro rfl ?_
  refine And.intro (zDX hd 0 rfl) (zrdR (v := some (k + 4)) (zDR hd 3 rfl) ?_)
  refine And.intro (zDP hd 4 rfl rfl (by omega) (by omega)) (fun v7 e7 r7 => ?_)
  have f7 : v7 = dW d w 1 := (e7.trans ((congrArg (L (k + 4)) (by omega)).trans ((nW w hw).2 0 (by omega))))
  have f7b : -1000000000 ≤ v7 ∧ v7 ≤ 1000000000 := (by have q := (gw w hw).2 1 (by omega) (by omega); have q2 : -1000000000 ≤ dW d w 1 ∧ dW d w 1 ≤ 1000000000 := q; omega)
  refine And.intro (zDX hd 0 rfl) (zrdR (v := some (k + 4)) (zDR hd 3 rfl) ?_)
  refine And.intro (zDP hd 4 rfl rfl (by omega) (by omega)) (fun v19 e19 r19 => ?_)
  have f19 : v19 = dW d w 2 := (e19.trans ((congrArg (L (k + 4)) (by omega)).trans ((nW w hw).2 1 (by omega))))
  have f19b : -1000000000 ≤ v19 ∧ v19 ≤ 1000000000 := (by have q := (gw w hw).2 2 (by omega) (by omega); have q2 : -1000000000 ≤ dW d w 2 ∧ dW d w 2 ≤ 1000000000 := q; omega)
  refine And.intro (zDX hd 0 rfl) (zrdR (v := some (k + 4)) (zDR hd 3 rfl) ?_)
  refine And.intro (zDP hd 4 rfl rfl (by omega) (by omega)) (fun v31 e31 r31 => ?_)
  have f31 : v31 = dW d w 3 := (e31.trans ((congrArg (L (k + 4)) (by omega)).trans ((nW w hw).2 2 (by omega))))
  have f31b : -1000000000 ≤ v31 ∧ v31 ≤ 1000000000 := (by have q := (gw w hw).2 3 (by omega) (by omega); have q2 : -1000000000 ≤ dW d w 3 ∧ dW d w 3 ≤ 1000000000 := q; omega)
  refine And.intro (zDX hd 0 rfl) (zrdR (v := some (k + 4)) (zDR hd 3 rfl) ?_)
  refine And.intro (zDP hd 4 rfl rfl (by omega) (by omega)) (fun v43 e43 r43 => ?_)
  have f43 : v43 = dW d w 4 := (e43.trans ((congrArg (L (k + 4)) (by omega)).trans ((nW w hw).2 3 (by omega))))
  have f43b : -1000000000 ≤ v43 ∧ v43 ≤ 1000000000 := (by have q := (gw w hw).2 4 (by omega) (by omega); have q2 : -1000000000 ≤ dW d w 4 ∧ dW d w 4 ≤ 1000000000 := q; omega)
  have f43bb : -4000000000000000000 ≤ (v31 - v7) * (y - v19) ∧ (v31 - v7) * (y - v19) ≤ 4000000000000000000 := (jMb (a := v31 - v7) (b := y - v19) (A := 2000000000) (B := 2000000000) (by omega) (by omega) (by omega) (by omega))
  have f43bbb : -4000000000000000000 ≤ (v43 - v19) * (x - v7) ∧ (v43 - v19) * (x - v7) ≤ 4000000000000000000 := (jMb (a := v43 - v19) (b := x - v7) (A := 2000000000) (B := 2000000000) (by omega) (by omega) (by omega) (by omega))
  refine ⟨_, _, ⟨zW6i (by omega), zW6i r7⟩, fun z49 c49 => ?_⟩
  refine And.intro c49.2.2 ⟨fun h50 => ?_, fun h50 => ?_⟩
  · refine ⟨_, _, ⟨zW6i (by omega), zW6i r31⟩, fun z63 c63 => ?_⟩
    refine And.intro c63.2.2 ⟨fun h64 => ?_, fun h64 => ?_⟩
    · refine And.intro (zRb rfl) (zbt rfl ?_)
      refine And.intro (Or.inl rfl) ?_
      refine hQ _ ?_
      · unfold jTh
        rw [← f7, ← f19, ← f31, ← f43]
        first
        | exact Or.inl ⟨rfl, by omega, by omega, by omega⟩
        | exact Or.inr ⟨rfl, fun q => by have q1 := q.1; have q2 := q.2.1; have q3 := q.2.2; omega⟩
    · refine ⟨_, _, ⟨zW6i (by omega), zW6i r7⟩, fun z70 c70 => ?_⟩
      refine And.intro c70.2.2 ⟨(fun h71 => False.elim (by omega)), fun h71 => ?_⟩
      refine ⟨_, _, ⟨zW6i (by omega), zW6i r19⟩, fun z78 c78 => ?_⟩
      refine And.intro c78.2.2 ⟨fun h79 => ?_, fun h79 => ?_⟩
      · refine ⟨_, _, ⟨zW6i (by omega), zW6i r43⟩, fun z94 c94 => ?_⟩
        refine And.intro c94.2.2 ⟨fun h95 => ?_, fun h95 => ?_⟩
        · refine And.intro (zRb rfl) (zbt rfl ?_)
          refine And.intro (Or.inl rfl) ?_
          refine hQ _ ?_
          · unfold jTh
            rw [← f7, ← f19, ← f31, ← f43]
            first
            | exact Or.inl ⟨rfl, by omega, by omega, by omega⟩
            | exact Or.inr ⟨rfl, fun q => by have q1 := q.1; have q2 := q.2.1; have q3 := q.2.2; omega⟩
        · refine ⟨_, _, ⟨zW6i (by omega), zW6i r19⟩, fun z102 c102 => ?_⟩
          refine And.intro c102.2.2 ⟨(fun h103 => False.elim (by omega)), fun h103 => ?_⟩
          refine And.intro (zRb rfl) (zbf rfl ?_)
          refine ⟨_, _, ⟨zW6i (by omega), zW6i (by omega)⟩, fun z139 c139 => ?_⟩
          refine And.intro c139.2.2 ⟨fun h140 => ?_, fun h140 => ?_⟩
          · refine And.intro (Or.inl rfl) ?_
            refine hQ _ ?_
            · unfold jTh
              rw [← f7, ← f19, ← f31, ← f43]
              first
              | exact Or.inl ⟨rfl, by omega, by omega, by omega⟩
              | exact Or.inr ⟨rfl, fun q => by have q1 := q.1; have q2 := q.2.1; have q3 := q.2.2; omega⟩
          · refine And.intro (Or.inr rfl) ?_
            refine hQ _ ?_
            · unfold jTh
              rw [← f7, ← f19, ← f31, ← f43]
              first
              | exact Or.inl ⟨rfl, by omega, by omega, by omega⟩
              | exact Or.inr ⟨rfl, fun q => by have q1 := q.1; have q2 := q.2.1; have q3 := q.2.2; omega⟩
      · refine ⟨_, _, ⟨zW6i (by omega), zW6i r43⟩, fun z86 c86 => ?_⟩
        refine And.intro c86.2.2 ⟨fun h87 => ?_, fun h87 => ?_⟩
        · refine And.intro (zRb rfl) (zbf rfl ?_)
          refine ⟨_, _, ⟨zW6i (by omega), zW6i (by omega)⟩, fun z139 c139 => ?_⟩
          refine And.intro c139.2.2 ⟨fun h140 => ?_, fun h140 => ?_⟩
          · refine And.intro (Or.inl rfl) ?_
            refine hQ _ ?_
            · unfold jTh
              rw [← f7, ← f19, ← f31, ← f43]
              first
              | exact Or.inl ⟨rfl, by omega, by omega, by omega⟩
              | exact Or.inr ⟨rfl, fun q => by have q1 := q.1; have q2 := q.2.1; have q3 := q.2.2; omega⟩
          · refine And.intro (Or.inr rfl) ?_
            refine hQ _ ?_
            · unfold jTh
              rw [← f7, ← f19, ← f31, ← f43]
              first
              | exact Or.inl ⟨rfl, by omega, by omega, by omega⟩
              | exact Or.inr ⟨rfl, fun q => by have q1 := q.1; have q2 := q.2.1; have q3 := q.2.2; omega⟩
        · refine ⟨_, _, ⟨zW6i (by omega), zW6i r43⟩, fun z94 c94 => ?_⟩
          refine And.intro c94.2.2 ⟨(fun h95 => False.elim (by omega)), fun h95 => ?_⟩
          refine ⟨_, _, ⟨zW6i (by omega), zW6i r19⟩, fun z102 c102 => ?_⟩
          refine And.intro c102.2.2 ⟨fun h103 => ?_, fun h103 => ?_⟩
          · refine And.intro (zRb rfl) (zbt rfl ?_)
            refine And.intro (Or.inl rfl) ?_
            refine hQ _ ?_
            · unfold jTh
              rw [← f7, ← f19, ← f31, ← f43]
              first
              | exact Or.inl ⟨rfl, by omega, by omega, by omega⟩
              | exact Or.inr ⟨rfl, fun q => by have q1 := q.1; have q2 := q.2.1; have q3 := q.2.2; omega⟩
          · refine And.intro (zRb rfl) (zbf rfl ?_)
            refine ⟨_, _, ⟨zW6i (by omega), zW6i (by omega)⟩, fun z139 c139 => ?_⟩
            refine And.intro c139.2.2 ⟨fun h140 => ?_, fun h140 => ?_⟩
            · refine And.intro (Or.inl rfl) ?_
              refine hQ _ ?_
              · unfold jTh
                rw [← f7, ← f19, ← f31, ← f43]
                first
                | exact Or.inl ⟨rfl, by omega, by omega, by omega⟩
                | exact Or.inr ⟨rfl, fun q => by have q1 := q.1; have q2 := q.2.1; have q3 := q.2.2; omega⟩
            · refine And.intro (Or.inr rfl) ?_
              refine hQ _ ?_
              · unfold jTh
                rw [← f7, ← f19, ← f31, ← f43]
                first
                | exact Or.inl ⟨rfl, by omega, by omega, by omega⟩
                | exact Or.inr ⟨rfl, fun q => by have q1 := q.1; have q2 := q.2.1; have q3 := q.2.2; omega⟩
  · refine ⟨_, _, ⟨zW6i (by omega), zW6i r31⟩, fun z56 c56 => ?_⟩
    refine And.intro c56.2.2 ⟨fun h57 => ?_, fun h57 => ?_⟩
    · refine ⟨_, _, ⟨zW6i (by omega), zW6i r19⟩, fun z78 c78 => ?_⟩
      refine And.intro c78.2.2 ⟨fun h79 => ?_, fun h79 => ?_⟩
      · refine ⟨_, _, ⟨zW6i (by omega), zW6i r43⟩, fun z94 c94 => ?_⟩
        refine And.intro c94.2.2 ⟨fun h95 => ?_, fun h95 => ?_⟩
        · refine And.intro (zRb rfl) (zbt rfl ?_)
          refine And.intro (Or.inl rfl) ?_
          refine hQ _ ?_
          · unfold jTh
            rw [← f7, ← f19, ← f31, ← f43]
            first
            | exact Or.inl ⟨rfl, by omega, by omega, by omega⟩
            | exact Or.inr ⟨rfl, fun q => by have q1 := q.1; have q2 := q.2.1; have q3 := q.2.2; omega⟩
        · refine ⟨_, _, ⟨zW6i (by omega), zW6i r19⟩, fun z102 c102 => ?_⟩
          refine And.intro c102.2.2 ⟨(fun h103 => False.elim (by omega)), fun h103 => ?_⟩
          refine And.intro (zRb rfl) (zbf rfl ?_)
          refine ⟨_, _, ⟨zW6i (by omega), zW6i (by omega)⟩, fun z139 c139 => ?_⟩
          refine And.intro c139.2.2 ⟨fun h140 => ?_, fun h140 => ?_⟩
          · refine And.intro (Or.inl rfl) ?_
            refine hQ _ ?_
            · unfold jTh
              rw [← f7, ← f19, ← f31, ← f43]
              first
              | exact Or.inl ⟨rfl, by omega, by omega, by omega⟩
              | exact Or.inr ⟨rfl, fun q => by have q1 := q.1; have q2 := q.2.1; have q3 := q.2.2; omega⟩
          · refine And.intro (Or.inr rfl) ?_
            refine hQ _ ?_
            · unfold jTh
              rw [← f7, ← f19, ← f31, ← f43]
              first
              | exact Or.inl ⟨rfl, by omega, by omega, by omega⟩
              | exact Or.inr ⟨rfl, fun q => by have q1 := q.1; have q2 := q.2.1; have q3 := q.2.2; omega⟩
      · refine ⟨_, _, ⟨zW6i (by omega), zW6i r43⟩, fun z86 c86 => ?_⟩
        refine And.intro c86.2.2 ⟨fun h87 => ?_, fun h87 => ?_⟩
        · refine And.intro (zRb rfl) (zbf rfl ?_)
          refine ⟨_, _, ⟨zW6i (by omega), zW6i (by omega)⟩, fun z139 c139 => ?_⟩
          refine And.intro c139.2.2 ⟨fun h140 => ?_, fun h140 => ?_⟩
          · refine And.intro (Or.inl rfl) ?_
            refine hQ _ ?_
            · unfold jTh
              rw [← f7, ← f19, ← f31, ← f43]
              first
              | exact Or.inl ⟨rfl, by omega, by omega, by omega⟩
              | exact Or.inr ⟨rfl, fun q => by have q1 := q.1; have q2 := q.2.1; have q3 := q.2.2; omega⟩
          · refine And.intro (Or.inr rfl) ?_
            refine hQ _ ?_
            · unfold jTh
              rw [← f7, ← f19, ← f31, ← f43]
              first
              | exact Or.inl ⟨rfl, by omega, by omega, by omega⟩
              | exact Or.inr ⟨rfl, fun q => by have q1 := q.1; have q2 := q.2.1; have q3 := q.2.2; omega⟩
        · refine ⟨_, _, ⟨zW6i (by omega), zW6i r43⟩, fun z94 c94 => ?_⟩
          refine And.intro c94.2.2 ⟨(fun h95 => False.elim (by omega)), fun h95 => ?_⟩
          refine ⟨_, _, ⟨zW6i (by omega), zW6i r19⟩, fun z102 c102 => ?_⟩
          refine And.intro c102.2.2 ⟨fun h103 => ?_, fun h103 => ?_⟩
          · refine And.intro (zRb rfl) (zbt rfl ?_)
            refine And.intro (Or.inl rfl) ?_
            refine hQ _ ?_
            · unfold jTh
              rw [← f7, ← f19, ← f31, ← f43]
              first
              | exact Or.inl ⟨rfl, by omega, by omega, by omega⟩
              | exact Or.inr ⟨rfl, fun q => by have q1 := q.1; have q2 := q.2.1; have q3 := q.2.2; omega⟩
          · refine And.intro (zRb rfl) (zbf rfl ?_)
            refine ⟨_, _, ⟨zW6i (by omega), zW6i (by omega)⟩, fun z139 c139 => ?_⟩
            refine And.intro c139.2.2 ⟨fun h140 => ?_, fun h140 => ?_⟩
            · refine And.intro (Or.inl rfl) ?_
              refine hQ _ ?_
              · unfold jTh
                rw [← f7, ← f19, ← f31, ← f43]
                first
                | exact Or.inl ⟨rfl, by omega, by omega, by omega⟩
                | exact Or.inr ⟨rfl, fun q => by have q1 := q.1; have q2 := q.2.1; have q3 := q.2.2; omega⟩
            · refine And.intro (Or.inr rfl) ?_
              refine hQ _ ?_
              · unfold jTh
                rw [← f7, ← f19, ← f31, ← f43]
                first
                | exact Or.inl ⟨rfl, by omega, by omega, by omega⟩
                | exact Or.inr ⟨rfl, fun q => by have q1 := q.1; have q2 := q.2.1; have q3 := q.2.2; omega⟩
    · refine ⟨_, _, ⟨zW6i (by omega), zW6i r31⟩, fun z63 c63 => ?_⟩
      refine And.intro c63.2.2 ⟨(fun h64 => False.elim (by omega)), fun h64 => ?_⟩
      refine ⟨_, _, ⟨zW6i (by omega), zW6i r7⟩, fun z70 c70 => ?_⟩
      refine And.intro c70.2.2 ⟨fun h71 => ?_, fun h71 => ?_⟩
      · refine And.intro (zRb rfl) (zbt rfl ?_)
        refine And.intro (Or.inl rfl) ?_
        refine hQ _ ?_
        · unfold jTh
          rw [← f7, ← f19, ← f31, ← f43]
          first
          | exact Or.inl ⟨rfl, by omega, by omega, by omega⟩
          | exact Or.inr ⟨rfl, fun q => by have q1 := q.1; have q2 := q.2.1; have q3 := q.2.2; omega⟩
      · refine ⟨_, _, ⟨zW6i (by omega), zW6i r19⟩, fun z78 c78 => ?_⟩
        refine And.intro c78.2.2 ⟨fun h79 => ?_, fun h79 => ?_⟩
        · refine ⟨_, _, ⟨zW6i (by omega), zW6i r43⟩, fun z94 c94 => ?_⟩
          refine And.intro c94.2.2 ⟨fun h95 => ?_, fun h95 => ?_⟩
          · refine And.intro (zRb rfl) (zbt rfl ?_)
            refine And.intro (Or.inl rfl) ?_
            refine hQ _ ?_
            · unfold jTh
              rw [← f7, ← f19, ← f31, ← f43]
              first
              | exact Or.inl ⟨rfl, by omega, by omega, by omega⟩
              | exact Or.inr ⟨rfl, fun q => by have q1 := q.1; have q2 := q.2.1; have q3 := q.2.2; omega⟩
          · refine ⟨_, _, ⟨zW6i (by omega), zW6i r19⟩, fun z102 c102 => ?_⟩
            refine And.intro c102.2.2 ⟨(fun h103 => False.elim (by omega)), fun h103 => ?_⟩
            refine And.intro (zRb rfl) (zbf rfl ?_)
            refine ⟨_, _, ⟨zW6i (by omega), zW6i (by omega)⟩, fun z139 c139 => ?_⟩
            refine And.intro c139.2.2 ⟨fun h140 => ?_, fun h140 => ?_⟩
            · refine And.intro (Or.inl rfl) ?_
              refine hQ _ ?_
              · unfold jTh
                rw [← f7, ← f19, ← f31, ← f43]
                first
                | exact Or.inl ⟨rfl, by omega, by omega, by omega⟩
                | exact Or.inr ⟨rfl, fun q => by have q1 := q.1; have q2 := q.2.1; have q3 := q.2.2; omega⟩
            · refine And.intro (Or.inr rfl) ?_
              refine hQ _ ?_
              · unfold jTh
                rw [← f7, ← f19, ← f31, ← f43]
                first
                | exact Or.inl ⟨rfl, by omega, by omega, by omega⟩
                | exact Or.inr ⟨rfl, fun q => by have q1 := q.1; have q2 := q.2.1; have q3 := q.2.2; omega⟩
        · refine ⟨_, _, ⟨zW6i (by omega), zW6i r43⟩, fun z86 c86 => ?_⟩
          refine And.intro c86.2.2 ⟨fun h87 => ?_, fun h87 => ?_⟩
          · refine And.intro (zRb rfl) (zbf rfl ?_)
            refine ⟨_, _, ⟨zW6i (by omega), zW6i (by omega)⟩, fun z139 c139 => ?_⟩
            refine And.intro c139.2.2 ⟨fun h140 => ?_, fun h140 => ?_⟩
            · refine And.intro (Or.inl rfl) ?_
              refine hQ _ ?_
              · unfold jTh
                rw [← f7, ← f19, ← f31, ← f43]
                first
                | exact Or.inl ⟨rfl, by omega, by omega, by omega⟩
                | exact Or.inr ⟨rfl, fun q => by have q1 := q.1; have q2 := q.2.1; have q3 := q.2.2; omega⟩
            · refine And.intro (Or.inr rfl) ?_
              refine hQ _ ?_
              · unfold jTh
                rw [← f7, ← f19, ← f31, ← f43]
                first
                | exact Or.inl ⟨rfl, by omega, by omega, by omega⟩
                | exact Or.inr ⟨rfl, fun q => by have q1 := q.1; have q2 := q.2.1; have q3 := q.2.2; omega⟩
          · refine ⟨_, _, ⟨zW6i (by omega), zW6i r43⟩, fun z94 c94 => ?_⟩
            refine And.intro c94.2.2 ⟨(fun h95 => False.elim (by omega)), fun h95 => ?_⟩
            refine ⟨_, _, ⟨zW6i (by omega), zW6i r19⟩, fun z102 c102 => ?_⟩
            refine And.intro c102.2.2 ⟨fun h103 => ?_, fun h103 => ?_⟩
            · refine And.intro (zRb rfl) (zbt rfl ?_)
              refine And.intro (Or.inl rfl) ?_
              refine hQ _ ?_
              · unfold jTh
                rw [← f7, ← f19, ← f31, ← f43]
                first
                | exact Or.inl ⟨rfl, by omega, by omega, by omega⟩
                | exact Or.inr ⟨rfl, fun q => by have q1 := q.1; have q2 := q.2.1; have q3 := q.2.2; omega⟩
            · refine And.intro (zRb rfl) (zbf rfl ?_)
              refine ⟨_, _, ⟨zW6i (by omega), zW6i (by omega)⟩, fun z139 c139 => ?_⟩
              refine And.intro c139.2.2 ⟨fun h140 => ?_, fun h140 => ?_⟩
              · refine And.intro (Or.inl rfl) ?_
                refine hQ _ ?_
                · unfold jTh
                  rw [← f7, ← f19, ← f31, ← f43]
                  first
                  | exact Or.inl ⟨rfl, by omega, by omega, by omega⟩
                  | exact Or.inr ⟨rfl, fun q => by have q1 := q.1; have q2 := q.2.1; have q3 := q.2.2; omega⟩
              · refine And.intro (Or.inr rfl) ?_
                refine hQ _ ?_
                · unfold jTh
                  rw [← f7, ← f19, ← f31, ← f43]
                  first
                  | exact Or.inl ⟨rfl, by omega, by omega, by omega⟩
                  | exact Or.inr ⟨rfl, fun q => by have q1 := q.1; have q2 := q.2.1; have q3 := q.2.2; omega⟩)
def T_J_end : ZT := fun args I L R S Q => ∃ (k : Nat) (d : JdS) (x : Int) (v : Nat) (y : Int) (w : Nat), args = [zvr k, zvi x, zvi y] ∧ (zDy zT18 zF18 k R S) ∧ (zNJ k d I L) ∧ (jGd d) ∧ (x = v) ∧ (y = w) ∧ (v < dnw d) ∧ (w < dnw d) ∧ ∀ (z : Int), ((z = 1 ∧ jEn (dW d) v w) ∨ (z = 0 ∧ ¬ jEn (dW d) v w)) → Q (some (zvi (z))) I L R S
theorem sn_J_end : ZSnd 1 18 4 T_J_end := ZSnd.loops (zT18_4 0) (by
  rintro args I L R S Q hz ⟨k, d, x, v, y, w, rfl, hd, hNJ, hJG, hx, hy, hv, hw, hQ⟩
  have h5 := hd.1
  obtain ⟨⟨n1, n2, n3, n4, n5, n6, n7⟩, nS, nW, nD, nJ, nL, nT, nO, nP, nR⟩ := id hNJ
  obtain ⟨⟨g1, g2, g3, g4, g5, g6⟩, gs, gw, gj, gl, gp, gt⟩ := id hJG
  have vA : ∀ i : Nat, i < 4 → L (k + 4) (4 * v + i) = dW d v (i + 1) := (nW v hv).2
  have wA : ∀ i : Nat, i < 4 → L (k + 4) (4 * w + i) = dW d w (i + 1) := (nW w hw).2
  refine ⟨[2, 10], fun nM tM lsM stM I1 L1 R1 S1 => match tM with
      | 2 => ∃ (i : Nat), nM = ((3 - i), 3, 0) ∧ lsM = [some (zvr (k)), some (zvi (v)), some (zvi (w)), some (zvi (2 * i)), none] ∧ stM = [] ∧ I1 = I ∧ L1 = L ∧ R1 = R ∧ S1 = S ∧ (i ≤ 2) ∧ (∀ a b : Nat, a < i → b < 2 → ¬ (dW d v (2 * a + 1) = dW d w (2 * b + 1) ∧ dW d v (2 * a + 2) = dW d w (2 * b + 2)))
      | 10 => ∃ (i : Nat) (j : Nat), nM = ((3 - i), (2 - j), 0) ∧ lsM = [some (zvr (k)), some (zvi (v)), some (zvi (w)), some (zvi (2 * i)), some (zvi (2 * j))] ∧ stM = [] ∧ I1 = I ∧ L1 = L ∧ R1 = R ∧ S1 = S ∧ (i ≤ 1 ∧ j ≤ 2) ∧ (∀ a b : Nat, (a < i ∨ (a = i ∧ b < j)) → b < 2 → ¬ (dW d v (2 * a + 1) = dW d w (2 * b + 1) ∧ dW d v (2 * a + 2) = dW d w (2 * b + 2)))
      | _ => False, rfl, ?_, ⟨?_, ?_, True.intro⟩⟩
  · refine ⟨((3 - (0 : Nat)), 3, 0), [some (zvr (k)), some (zvi (v)), some (zvi (w)), some (zvi (2 * (0 : Nat))), none], ⟨rfl, (congrArg (fun z => some (zvi z)) (by omega)), (congrArg (fun z => some (zvi z)) (by omega)), (congrArg (fun z => some (zvi z)) (by omega)), rfl⟩, 0, rfl, rfl, rfl, rfl, rfl, rfl, rfl, (by omega), (fun a b h _ => absurd h (Nat.not_lt_zero a))⟩
  · rintro nM lsM stM I1 L1 R1 S1 hz1 ⟨i, rfl, rfl, rfl, rfl, rfl, rfl, rfl, hi, hno⟩
    refine And.intro ⟨(by omega), (zRb rfl)⟩ ⟨fun h4 => ?_, fun h4 => ?_⟩
    · refine And.intro (Or.inl rfl) ?_
      refine hQ _ ?_
      · first
        | (refine Or.inl ⟨rfl, 2 * i, 2 * j, by omega, by omega, ?_, ?_⟩
           · rw [show 1 + 2 * i = 2 * i + 1 by omega, show 1 + 2 * j = 2 * j + 1 by omega]
             omega
           · rw [show 2 + 2 * i = 2 * i + 2 by omega, show 2 + 2 * j = 2 * j + 2 by omega]
             omega)
        | (refine Or.inr ⟨rfl, ?_⟩
           rintro ⟨a, b, rfl | rfl, rfl | rfl, e1, e2⟩
           · exact hno 0 0 (by omega) (by omega) ⟨e1, e2⟩
           · exact hno 0 1 (by omega) (by omega) ⟨e1, e2⟩
           · exact hno 1 0 (by omega) (by omega) ⟨e1, e2⟩
           · exact hno 1 1 (by omega) (by omega) ⟨e1, e2⟩)
    · refine ⟨((3 - i), (2 - (0 : Nat)), 0), zlt6 (by omega), [some (zvr (k)), some (zvi (v)), some (zvi (w)), some (zvi (2 * i)), some (zvi (2 * (0 : Nat)))], ⟨rfl, rfl, rfl, rfl, (congrArg (fun z => some (zvi z)) (by omega)), rfl⟩, i, 0, rfl, rfl, rfl, rfl, rfl, rfl, rfl, (by omega), (fun a b h h2 => hno a b (by omega) h2)⟩
  · rintro nM lsM stM I1 L1 R1 S1 hz1 ⟨i, j, rfl, rfl, rfl, rfl, rfl, rfl, rfl, hi, hno⟩
    refine And.intro ⟨(by omega), (zRb rfl)⟩ ⟨fun h13 => ?_, fun h13 => ?_⟩
    · refine ⟨((3 - (i + 1)), 3, 0), zlt6 (by omega), [some (zvr (k)), some (zvi (v)), some (zvi (w)), some (zvi (2 * (i + 1))), none], ⟨rfl, rfl, rfl, (congrArg (fun z => some (zvi z)) (by omega)), rfl⟩, (i + 1), rfl, rfl, rfl, rfl, rfl, rfl, rfl, (by omega), (fun a b h h2 => hno a b (by omega) h2)⟩
    · refine And.intro (zDX hd 0 rfl) (zrdR (v := some (k + 4)) (zDR hd 3 rfl) ?_)
      refine And.intro (zDP hd 4 rfl rfl (by omega) (by omega)) (fun v25 e25 r25 => ?_)
      have f25 : v25 = dW d v (2 * i + 1) := (e25.trans ((congrArg (L1 (k + 4)) (by omega)).trans (vA (2 * i) (by omega))))
      refine And.intro (zDX hd 0 rfl) (zrdR (v := some (k + 4)) (zDR hd 3 rfl) ?_)
      refine And.intro (zDP hd 4 rfl rfl (by omega) (by omega)) (fun v36 e36 r36 => ?_)
      have f36 : v36 = dW d w (2 * j + 1) := (e36.trans ((congrArg (L1 (k + 4)) (by omega)).trans (wA (2 * j) (by omega))))
      refine ⟨_, _, ⟨zW6i r25, zW6i r36⟩, fun z37 c37 => ?_⟩
      refine And.intro c37.2.2 ⟨fun h38 => ?_, fun h38 => ?_⟩
      · refine ⟨((3 - i), (2 - (j + 1)), 0), zlt6 (by omega), [some (zvr (k)), some (zvi (v)), some (zvi (w)), some (zvi (2 * i)), some (zvi (2 * (j + 1)))], ⟨rfl, rfl, rfl, rfl, (congrArg (fun z => some (zvi z)) (by omega)), rfl⟩, i, (j + 1), rfl, rfl, rfl, rfl, rfl, rfl, rfl, (by omega), ?_⟩
        · intro a b h h2
          by_cases e : a = i ∧ b = j
          · rw [e.1, e.2]
            intro q
            have q1 := q.1
            have q2 := q.2
            omega
          · exact hno a b (by omega) h2
      · refine And.intro (zDX hd 0 rfl) (zrdR (v := some (k + 4)) (zDR hd 3 rfl) ?_)
        refine And.intro (zDP hd 4 rfl rfl (by omega) (by omega)) (fun v52 e52 r52 => ?_)
        have f52 : v52 = dW d v (2 * i + 2) := (e52.trans ((congrArg (L1 (k + 4)) (by omega)).trans (vA (2 * i + 1) (by omega))))
        refine And.intro (zDX hd 0 rfl) (zrdR (v := some (k + 4)) (zDR hd 3 rfl) ?_)
        refine And.intro (zDP hd 4 rfl rfl (by omega) (by omega)) (fun v65 e65 r65 => ?_)
        have f65 : v65 = dW d w (2 * j + 2) := (e65.trans ((congrArg (L1 (k + 4)) (by omega)).trans (wA (2 * j + 1) (by omega))))
        refine ⟨_, _, ⟨zW6i r52, zW6i r65⟩, fun z66 c66 => ?_⟩
        refine And.intro c66.2.2 ⟨fun h67 => ?_, fun h67 => ?_⟩
        · refine ⟨((3 - i), (2 - (j + 1)), 0), zlt6 (by omega), [some (zvr (k)), some (zvi (v)), some (zvi (w)), some (zvi (2 * i)), some (zvi (2 * (j + 1)))], ⟨rfl, rfl, rfl, rfl, (congrArg (fun z => some (zvi z)) (by omega)), rfl⟩, i, (j + 1), rfl, rfl, rfl, rfl, rfl, rfl, rfl, (by omega), ?_⟩
          · intro a b h h2
            by_cases e : a = i ∧ b = j
            · rw [e.1, e.2]
              intro q
              have q1 := q.1
              have q2 := q.2
              omega
            · exact hno a b (by omega) h2
        · refine And.intro (Or.inr rfl) ?_
          refine hQ _ ?_
          · first
            | (refine Or.inl ⟨rfl, 2 * i, 2 * j, by omega, by omega, ?_, ?_⟩
               · rw [show 1 + 2 * i = 2 * i + 1 by omega, show 1 + 2 * j = 2 * j + 1 by omega]
                 omega
               · rw [show 2 + 2 * i = 2 * i + 2 by omega, show 2 + 2 * j = 2 * j + 2 by omega]
                 omega)
            | (refine Or.inr ⟨rfl, ?_⟩
               rintro ⟨a, b, rfl | rfl, rfl | rfl, e1, e2⟩
               · exact hno 0 0 (by omega) (by omega) ⟨e1, e2⟩
               · exact hno 0 1 (by omega) (by omega) ⟨e1, e2⟩
               · exact hno 1 0 (by omega) (by omega) ⟨e1, e2⟩
               · exact hno 1 1 (by omega) (by omega) ⟨e1, e2⟩))
