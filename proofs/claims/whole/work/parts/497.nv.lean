/-! nv -/
def T_V_rv : ZT := fun args I L R S Q => ∃ (k : Nat) (c : Nat → Int) (n : Nat) (a : Int) (a_ : Nat) (i : Int) (i_ : Nat) (p : Int) (p_ : Nat) (mk : Int) (fd : Nat) (wd : Nat) (nd : Nat), args = [zvr k, zvi a, zvi i, zvi p] ∧ (zDy zT20 zF20 k R S) ∧ (zRM k c n I) ∧ (tOk c n) ∧ (a = a_ ∧ 1 ≤ a_ ∧ a_ ≤ 8) ∧ (i = i_ ∧ i_ < tFn a_) ∧ (p = p_ ∧ p_ ≤ 5000) ∧ (I k 15 = mk) ∧ (0 ≤ mk ∧ mk ≤ 1) ∧ (I k 17 = fd) ∧ (fd ≤ 199) ∧ (I k 21 = wd) ∧ (wd ≤ 1) ∧ (I k 20 = nd) ∧ (nd ≤ 4) ∧ (I k 18 = -1) ∧ ∀ (v : Int) (I' : ZI) (L' : ZI), (tFc a_ i_ = 84 → I' k 18 = tXf c p_ ∧ I' k 20 = nd ∧ (tXf c p_ = -1 → v = tXe c p_ ∧ I' k 21 = wd + 1 ∧ (mk = 1 → I' (k + 5) (2 * fd + wd) = tXl c p_ ∧ ∀ i, i < tXl c p_ → I' (k + 6) (80 * fd + 40 * wd + i) = tLt c p_ i))) → (tFc a_ i_ ≠ 84 → I' k 18 = tNf c n p_ (tLen (tFc a_ i_)) (tLo (tFc a_ i_)) (tHi (tFc a_ i_)) ∧ I' k 21 = wd ∧ (tNf c n p_ (tLen (tFc a_ i_)) (tLo (tFc a_ i_)) (tHi (tFc a_ i_)) = -1 → v = tNe c n p_ (tLen (tFc a_ i_)) ∧ I' k 20 = nd + 1 ∧ (mk = 1 → L' (k + 4) (5 * fd + nd) = tNv c n p_ (tLen (tFc a_ i_))))) → (∀ c j : Nat, ¬ (c = k ∧ j = 18) → ¬ (c = k ∧ j = 20) → ¬ (c = k ∧ j = 21) → ¬ (c = k + 5 ∧ (mk = 1 ∧ j = 2 * fd + wd)) → ¬ (c = k + 6 ∧ (mk = 1 ∧ 80 * fd + 40 * wd ≤ j ∧ j < 80 * fd + 40 * wd + 40)) → I' c j = I c j) → (∀ c j : Nat, ¬ (c = k ∧ j = 28) → ¬ (c = k + 4 ∧ (mk = 1 ∧ tFc a_ i_ ≠ 84 ∧ j = 5 * fd + nd)) → L' c j = L c j) → Q (some (zvi (v))) I' L' R S
theorem sn_V_rv : ZSnd 4 20 39 T_V_rv := ZSnd.of (zT20_39 3) (by
  rintro args I L R S Q hz ⟨k, c, n, a, a_, i, i_, p, p_, mk, fd, wd, nd, rfl, hD, hX, hc, ha, hi, hp, hmk, hmk2, hfd, hfd2, hwd, hwd2, hnd, hnd2, hf0, hQ⟩
  obtain ⟨x1, x2⟩ := id hX
  have hn4 := hc.1
  have hk40 := hD.1
  have hfn := (tFn_b a_ (by omega)).1
  have hfo := tFc_o a_ (by omega) (by omega) i_ hi.2
  have hln : (tFc a_ i_ = 78 → tLen (tFc a_ i_) = 1) ∧ (tFc a_ i_ ≠ 78 → tLen (tFc a_ i_) = 0) := ⟨fun w => if_pos w, fun w => if_neg w⟩
  refine And.intro rfl ?_
  refine ⟨_, sn_V_fld.up (by decide), ?_⟩
  refine ⟨(a : Int), a_, (i : Int), i_, rfl, (by omega), (by omega), ?_⟩
  intro v2o p2hv p2bhv2
  refine And.intro ⟨(by omega), (zRb rfl)⟩ ⟨fun h10 => ?_, fun h10 => ?_⟩
  · refine And.intro ⟨(by omega), (zRb rfl)⟩ ⟨fun h38 => ?_, fun h38 => ?_⟩
    · refine ⟨_, sn_V_lst.up (by decide), ?_⟩
      refine ⟨(a : Int), a_, (i : Int), i_, rfl, (by omega), (by omega), (fun w => by omega), ?_⟩
      intro v48o p48hv p48bhv2
      refine ⟨_, sn_V_mst.up (by decide), ?_⟩
      refine ⟨(a : Int), a_, (i : Int), i_, rfl, (by omega), (by omega), (fun w => by omega), ?_⟩
      intro v53o p53hv p53bhv2
      refine And.intro (zDX hD 0 rfl) ⟨_, sn_V_num9.up (by decide), ?_⟩
      refine ⟨k, c, n, (p : Int), p_, (0 : Int), (tLen (tFc a_ i_)), (v48o : Int), (v53o : Int), rfl, hD, (by first | exact (zRM_fr hX (fun c j h => rfl)) | (clear hQ; grind [xu])), (by first | exact hc | (clear hQ; grind [xu])), (by omega), (by omega), (by clear hQ; grind [xu]), (Eq.trans (b := ((-1) : Int)) hf0 (by omega)), ?_⟩
      intro v56o I56o L56o p56hf p56bhok p56bbfr p56bbbfrL
      refine And.intro (zDX hD 0 rfl) (zrd (v := mk) ((p56bbfr k 15 (by omega)).trans hmk) ?_)
      refine And.intro (by omega) ⟨fun h65 => ?_, fun h65 => ?_⟩
      · refine And.intro (zDX hD 0 rfl) (zrd (v := nd) ((p56bbfr k 20 (by omega)).trans hnd) ?_)
        refine And.intro (zDX hD 0 rfl) ⟨_, (zWi (by omega)), ?_⟩
        refine hQ _ _ _ ?_ ?_ (fun c j h0 h1 h2 h3 h4 => (zxcj h1 ((p56bbfr c j (by omega)).trans rfl))) (fun c j h0 h1 => ((p56bbbfrL c j (by omega)).trans rfl))
        · intro h8
          first
          | (exfalso; omega)
          | exact ⟨(zxs (by omega) rfl).trans p15hf, (zxcj (by omega) ((p56bbfr k _ (by omega)).trans rfl)).trans hnd, fun h9 => ⟨p15bhv h9, zxe.trans (by omega), fun hm => ⟨(zxu (by omega) rfl).trans (p15bbbhok hm h9).1, fun i hi => (zxu (by omega) rfl).trans ((p15bbbhok hm h9).2 i hi)⟩⟩⟩
        · intro h8
          first
          | (exfalso; omega)
          | (rw [← p48hv, ← p53hv]
             refine ⟨(zxs (by omega) rfl).trans p56hf, (zxcj (by omega) ((p56bbfr k _ (by omega)).trans rfl)).trans hwd, fun h9 => ⟨(p56bhok h9).1, zxe.trans (by omega), fun hm => ?_⟩⟩
             first
             | (exfalso; omega)
             | (have e9 := (p56bhok h9).2
                exact (zxe' (by omega)).trans (by omega)))
      · refine And.intro (zDX hD 0 rfl) (zrdR (v := some (k + 4)) (zDR hD 3 rfl) ?_)
        refine And.intro (zDX hD 0 rfl) (zrd (v := fd) ((p56bbfr k 17 (by omega)).trans hfd) ?_)
        refine And.intro (zDX hD 0 rfl) (zrd (v := nd) ((p56bbfr k 20 (by omega)).trans hnd) ?_)
        refine And.intro (zDX hD 0 rfl) (fun v84 e84 r84 => ?_)
        refine And.intro ⟨(by show 40 ≤ _; omega), (zDP hD 4 rfl rfl (by omega) (by omega))⟩ ⟨_, zW6i r84, ?_⟩
        refine And.intro (zDX hD 0 rfl) (zrd (v := nd) ((p56bbfr k 20 (by omega)).trans hnd) ?_)
        refine And.intro (zDX hD 0 rfl) ⟨_, (zWi (by omega)), ?_⟩
        refine hQ _ _ _ ?_ ?_ (fun c j h0 h1 h2 h3 h4 => (zxcj h1 ((p56bbfr c j (by omega)).trans rfl))) (fun c j h0 h1 => (zxcj (by omega) ((p56bbbfrL c j (by omega)).trans rfl)))
        · intro h8
          first
          | (exfalso; omega)
          | exact ⟨(zxs (by omega) rfl).trans p15hf, (zxcj (by omega) ((p56bbfr k _ (by omega)).trans rfl)).trans hnd, fun h9 => ⟨p15bhv h9, zxe.trans (by omega), fun hm => ⟨(zxu (by omega) rfl).trans (p15bbbhok hm h9).1, fun i hi => (zxu (by omega) rfl).trans ((p15bbbhok hm h9).2 i hi)⟩⟩⟩
        · intro h8
          first
          | (exfalso; omega)
          | (rw [← p48hv, ← p53hv]
             refine ⟨(zxs (by omega) rfl).trans p56hf, (zxcj (by omega) ((p56bbfr k _ (by omega)).trans rfl)).trans hwd, fun h9 => ⟨(p56bhok h9).1, zxe.trans (by omega), fun hm => ?_⟩⟩
             first
             | (exfalso; omega)
             | (have e9 := (p56bhok h9).2
                exact (zxe' (by omega)).trans (by omega)))
    · refine ⟨_, sn_V_lst.up (by decide), ?_⟩
      refine ⟨(a : Int), a_, (i : Int), i_, rfl, (by omega), (by omega), (fun w => by omega), ?_⟩
      intro v48o p48hv p48bhv2
      refine ⟨_, sn_V_mst.up (by decide), ?_⟩
      refine ⟨(a : Int), a_, (i : Int), i_, rfl, (by omega), (by omega), (fun w => by omega), ?_⟩
      intro v53o p53hv p53bhv2
      refine And.intro (zDX hD 0 rfl) ⟨_, sn_V_num9.up (by decide), ?_⟩
      refine ⟨k, c, n, (p : Int), p_, (1 : Int), (tLen (tFc a_ i_)), (v48o : Int), (v53o : Int), rfl, hD, (by first | exact (zRM_fr hX (fun c j h => rfl)) | (clear hQ; grind [xu])), (by first | exact hc | (clear hQ; grind [xu])), (by omega), (by omega), (by clear hQ; grind [xu]), (Eq.trans (b := ((-1) : Int)) hf0 (by omega)), ?_⟩
      intro v56o I56o L56o p56hf p56bhok p56bbfr p56bbbfrL
      refine And.intro (zDX hD 0 rfl) (zrd (v := mk) ((p56bbfr k 15 (by omega)).trans hmk) ?_)
      refine And.intro (by omega) ⟨fun h65 => ?_, fun h65 => ?_⟩
      · refine And.intro (zDX hD 0 rfl) (zrd (v := nd) ((p56bbfr k 20 (by omega)).trans hnd) ?_)
        refine And.intro (zDX hD 0 rfl) ⟨_, (zWi (by omega)), ?_⟩
        refine hQ _ _ _ ?_ ?_ (fun c j h0 h1 h2 h3 h4 => (zxcj h1 ((p56bbfr c j (by omega)).trans rfl))) (fun c j h0 h1 => ((p56bbbfrL c j (by omega)).trans rfl))
        · intro h8
          first
          | (exfalso; omega)
          | exact ⟨(zxs (by omega) rfl).trans p15hf, (zxcj (by omega) ((p56bbfr k _ (by omega)).trans rfl)).trans hnd, fun h9 => ⟨p15bhv h9, zxe.trans (by omega), fun hm => ⟨(zxu (by omega) rfl).trans (p15bbbhok hm h9).1, fun i hi => (zxu (by omega) rfl).trans ((p15bbbhok hm h9).2 i hi)⟩⟩⟩
        · intro h8
          first
          | (exfalso; omega)
          | (rw [← p48hv, ← p53hv]
             refine ⟨(zxs (by omega) rfl).trans p56hf, (zxcj (by omega) ((p56bbfr k _ (by omega)).trans rfl)).trans hwd, fun h9 => ⟨(p56bhok h9).1, zxe.trans (by omega), fun hm => ?_⟩⟩
             first
             | (exfalso; omega)
             | (have e9 := (p56bhok h9).2
                exact (zxe' (by omega)).trans (by omega)))
      · refine And.intro (zDX hD 0 rfl) (zrdR (v := some (k + 4)) (zDR hD 3 rfl) ?_)
        refine And.intro (zDX hD 0 rfl) (zrd (v := fd) ((p56bbfr k 17 (by omega)).trans hfd) ?_)
        refine And.intro (zDX hD 0 rfl) (zrd (v := nd) ((p56bbfr k 20 (by omega)).trans hnd) ?_)
        refine And.intro (zDX hD 0 rfl) (fun v84 e84 r84 => ?_)
        refine And.intro ⟨(by show 40 ≤ _; omega), (zDP hD 4 rfl rfl (by omega) (by omega))⟩ ⟨_, zW6i r84, ?_⟩
        refine And.intro (zDX hD 0 rfl) (zrd (v := nd) ((p56bbfr k 20 (by omega)).trans hnd) ?_)
        refine And.intro (zDX hD 0 rfl) ⟨_, (zWi (by omega)), ?_⟩
        refine hQ _ _ _ ?_ ?_ (fun c j h0 h1 h2 h3 h4 => (zxcj h1 ((p56bbfr c j (by omega)).trans rfl))) (fun c j h0 h1 => (zxcj (by omega) ((p56bbbfrL c j (by omega)).trans rfl)))
        · intro h8
          first
          | (exfalso; omega)
          | exact ⟨(zxs (by omega) rfl).trans p15hf, (zxcj (by omega) ((p56bbfr k _ (by omega)).trans rfl)).trans hnd, fun h9 => ⟨p15bhv h9, zxe.trans (by omega), fun hm => ⟨(zxu (by omega) rfl).trans (p15bbbhok hm h9).1, fun i hi => (zxu (by omega) rfl).trans ((p15bbbhok hm h9).2 i hi)⟩⟩⟩
        · intro h8
          first
          | (exfalso; omega)
          | (rw [← p48hv, ← p53hv]
             refine ⟨(zxs (by omega) rfl).trans p56hf, (zxcj (by omega) ((p56bbfr k _ (by omega)).trans rfl)).trans hwd, fun h9 => ⟨(p56bhok h9).1, zxe.trans (by omega), fun hm => ?_⟩⟩
             first
             | (exfalso; omega)
             | (have e9 := (p56bhok h9).2
                exact (zxe' (by omega)).trans (by omega)))
  · refine And.intro (zDX hD 0 rfl) ⟨_, sn_V_txt.up (by decide), ?_⟩
    refine ⟨k, c, n, (p : Int), p_, mk, fd, wd, rfl, hD, (by first | exact (zRM_fr hX (fun c j h => rfl)) | (clear hQ; grind [xu])), (by first | exact hc | (clear hQ; grind [xu])), (by omega), hmk, (by omega), hfd, (by omega), hwd, (by omega), (Eq.trans (b := ((-1) : Int)) hf0 (by omega)), ?_⟩
    intro v15o I15o p15hf p15bhv p15bbhv2 p15bbbhok p15bbbbfr
    refine And.intro (zDX hD 0 rfl) (zrd (v := wd) ((p15bbbbfr k 21 (by omega) (by omega) (by omega)).trans hwd) ?_)
    refine And.intro (zDX hD 0 rfl) ⟨_, (zWi (by omega)), ?_⟩
    refine hQ _ _ _ ?_ ?_ (fun c j h0 h1 h2 h3 h4 => (zxcj h2 ((p15bbbbfr c j (by omega) (by omega) (by omega)).trans rfl))) (fun c j h0 h1 => rfl)
    · intro h8
      first
      | (exfalso; omega)
      | exact ⟨(zxs (by omega) rfl).trans p15hf, (zxcj (by omega) ((p15bbbbfr k _ (by omega) (by omega) (by omega)).trans rfl)).trans hnd, fun h9 => ⟨p15bhv h9, zxe.trans (by omega), fun hm => ⟨(zxu (by omega) rfl).trans (p15bbbhok hm h9).1, fun i hi => (zxu (by omega) rfl).trans ((p15bbbhok hm h9).2 i hi)⟩⟩⟩
    · intro h8
      first
      | (exfalso; omega)
      | (rw [← p48hv, ← p53hv]
         refine ⟨(zxs (by omega) rfl).trans p56hf, (zxcj (by omega) ((p15bbbbfr k _ (by omega) (by omega) (by omega)).trans rfl)).trans hwd, fun h9 => ⟨(p56bhok h9).1, zxe.trans (by omega), fun hm => ?_⟩⟩
         first
         | (exfalso; omega)
         | (have e9 := (p56bhok h9).2
            exact (zxe' (by omega)).trans (by omega))))
