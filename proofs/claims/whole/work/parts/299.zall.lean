/-! all of a method: its code as its table asks it, its loops by a measure -/
section ZWE
variable {h : Nat} {w : XRow}
set_option maxHeartbeats 4000000 in
theorem zcv_ok (x : XI) : zFok h w x (zcv h w.2.2.2.1 w.2.2.2.2.1 x) := by
  obtain ⟨pc, i, a, b, c⟩ := x
  unfold zcv
  dsimp only
  split
  · exact zo_push (fun _ _ _ _ _ _ _ _ _ => rfl) (fun _ _ => .inl rfl)
  · exact zck_ok fun e => zo_push (fun _ _ _ _ _ _ _ _ _ => rfl) (fun _ _ => .inl (by show some (Value.int _ :: _) = some (Value.int _ :: _); rw [zb8 e]))
  · exact zck_ok fun e => zo_push (fun _ _ _ _ _ _ _ _ _ => rfl) (fun _ _ => .inl (by show some (Value.int _ :: _) = some (Value.int _ :: _); rw [zb16 e]))
  · exact zo_push (fun _ _ _ _ _ _ _ _ _ => rfl) (fun _ _ => .inl (by
      show some (Value.long (Int64.ofNat _) :: _) = some (Value.long (Int64.ofInt (Int.ofNat _)) :: _)
      rw [← Int64.ofInt_eq_ofNat]
      rfl))
  · exact zo_ild (fun lv st v e => by unfold xs1; dsimp only; rw [e])
  · exact zo_ild (fun lv st v e => by unfold xs1; dsimp only; rw [e])
  · exact zo_lld (fun lv st v e => by unfold xs1; dsimp only; rw [e])
  · exact zo_lld (fun lv st v e => by unfold xs1; dsimp only; rw [e])
  · exact zo_ald (fun lv st v e => by unfold xs1; dsimp only; rw [e])
  · exact zo_ald (fun lv st v e => by unfold xs1; dsimp only; rw [e])
  · exact zck_ok fun e => zo_ist (fun lv st v => if_pos (Nat.blt_eq.mp e))
  · exact zck_ok fun e => zo_ist (fun lv st v => if_pos (Nat.blt_eq.mp e))
  · exact zck_ok fun e => zo_lst (fun lv st v => if_pos (Nat.blt_eq.mp e))
  · exact zck_ok fun e => zo_lst (fun lv st v => if_pos (Nat.blt_eq.mp e))
  · exact zck_ok fun e => zo_ast (fun lv st v => if_pos (Nat.blt_eq.mp e))
  · exact zck_ok fun e => zo_ast (fun lv st v => if_pos (Nat.blt_eq.mp e))
  · exact zck_ok fun e => zo_inc e
  · split
    · next e => exact zo_push (fun _ _ _ _ _ _ _ _ _ => rfl) (fun _ _ => .inr (.inl (if_pos (Nat.eq_of_beq_eq_true e))))
    · exact zck_ok fun e => zo_rcS fun st => if_pos (by simp only [Bool.and_eq_true] at e; exact ⟨Nat.eq_of_beq_eq_true e.1, Nat.le_of_ble_eq_true e.2.1, Nat.blt_eq.mp e.2.2⟩)
  · split
    · next e => exact zo_push (fun _ _ _ _ _ _ _ _ _ => rfl) (fun _ _ => .inr (.inl (if_pos (Nat.eq_of_beq_eq_true e))))
    · exact zck_ok fun e => zo_rcS fun st => if_pos (by simp only [Bool.and_eq_true] at e; exact ⟨Nat.eq_of_beq_eq_true e.1, Nat.le_of_ble_eq_true e.2.1, Nat.blt_eq.mp e.2.2⟩)
  · exact zck_ok fun e => zo_push (fun _ _ _ _ _ _ _ _ _ => rfl) (fun _ _ => .inr (.inl (if_pos (Nat.eq_of_beq_eq_true e))))
  · exact zck_ok fun e => zo_push (fun _ _ _ _ _ _ _ _ _ => rfl) (fun _ _ => .inr (.inr (if_pos (by rw [Bool.and_eq_true] at e; exact ⟨Nat.le_of_ble_eq_true e.1, Nat.le_of_ble_eq_true e.2⟩))))
  · exact zo_iop rfl (fun x y st => by show some (Value.int _ :: _) = some (Value.int _ :: _); rw [Int32.ofInt_add])
  · exact zo_iop rfl (fun x y st => by show some (Value.int _ :: _) = some (Value.int _ :: _); rw [Int32.ofInt_sub])
  · exact zo_iop rfl (fun x y st => by show some (Value.int _ :: _) = some (Value.int _ :: _); rw [Int32.ofInt_mul])
  · intro d hd k g Q r fall hk hg ls st I L R S lv q hz hl
    unfold zf_neg at q
    split at q
    · exact X_s2 (by show some (Value.int _ :: _) = some (Value.int _ :: _); rw [Int32.ofInt_neg]) (hk _ _ _ _ _ _ _ q hz hl)
    · exact q.elim
  · exact zo_iop rfl (fun x y st => by show some (Value.int _ :: _) = some (Value.int _ :: _); unfold zand; rw [zof32])
  · exact zo_iop rfl (fun x y st => by show some (Value.int _ :: _) = some (Value.int _ :: _); unfold zor; rw [zof32])
  · exact zo_iop rfl (fun x y st => by show some (Value.int _ :: _) = some (Value.int _ :: _); unfold zxor; rw [zof32])
  · exact zo_iop rfl (fun x y st => by show some (Value.int _ :: _) = some (Value.int _ :: _); unfold zshl; rw [zof32])
  · exact zo_iop rfl (fun x y st => by show some (Value.int _ :: _) = some (Value.int _ :: _); unfold zshr; rw [zof32])
  · exact zo_iop rfl (fun x y st => by show some (Value.int _ :: _) = some (Value.int _ :: _); unfold zushr; rw [zof32])
  · exact zo_lop rfl (fun x y st => by show some (Value.long _ :: _) = some (Value.long _ :: _); rw [Int64.ofInt_add])
  · exact zo_lop rfl (fun x y st => by show some (Value.long _ :: _) = some (Value.long _ :: _); rw [Int64.ofInt_sub])
  · exact zo_lop rfl (fun x y st => by show some (Value.long _ :: _) = some (Value.long _ :: _); rw [Int64.ofInt_mul])
  · intro d hd k g Q r fall hk hg ls st I L R S lv q hz hl
    unfold zf_lneg at q
    split at q
    · exact X_s3 (by show some (Value.long _ :: _) = some (Value.long _ :: _); rw [Int64.ofInt_neg]) (hk _ _ _ _ _ _ _ q hz hl)
    · exact q.elim
  · exact zo_lop rfl (fun x y st => by show some (Value.long _ :: _) = some (Value.long _ :: _); unfold zland; rw [zof64])
  · exact zo_lop rfl (fun x y st => by show some (Value.long _ :: _) = some (Value.long _ :: _); unfold zlor; rw [zof64])
  · exact zo_lsh (fun x y st => by show some (Value.long _ :: _) = some (Value.long _ :: _); unfold zlshl; rw [zof64])
  · exact zo_lsh (fun x y st => by show some (Value.long _ :: _) = some (Value.long _ :: _); unfold zlshr; rw [zof64])
  · exact zo_lsh (fun x y st => by show some (Value.long _ :: _) = some (Value.long _ :: _); unfold zlushr; rw [zof64])
  · intro d hd k g Q r fall hk hg ls st I L R S lv q hz hl
    unfold zf_l2i at q
    split at q
    · obtain ⟨z', ⟨e1, -⟩, q⟩ := q
      exact X_s3 (st' := (zvi z' :: _).map zden) (by show some (Value.int _ :: _) = some (Value.int _ :: _); rw [Int64.toInt32_ofInt, e1]) (hk _ _ _ _ _ _ _ q hz hl)
    · exact q.elim
  · exact zo_i2l
  · exact zo_cv (fun x st => by show some (Value.int _ :: _) = some (Value.int _ :: _); unfold zi2b; rw [zof32])
  · exact zo_cv (fun x st => by show some (Value.int _ :: _) = some (Value.int _ :: _); unfold zi2c; rw [zof32])
  · exact zo_dup
  · exact zo_pop
  · exact zo_pop2
  · exact zo_dup2
  · exact zo_div
  · exact zo_rem
  · exact zo_ldiv
  · exact zo_lrem
  · exact zo_lcmp
  · exact fun d hd k g Q r fall hk hg ls st I L R S lv q hz hl => zgo_br hg rfl q hz hl
  · exact zo_if
  · exact zo_ic2
  · exact zo_nul
  · exact zo_nnl
  · exact zck_ok fun e => zo_sw e
  · exact zck_ok fun e => zo_lk e
  · split
    · next e => exact zo_getI (.inl e)
    · next e => exact zo_getL e
    · next e => exact zo_getR e
    · next e => exact zo_getI (.inr e)
    · exact zo_no
  · split
    · next e => exact zo_putI e
    · next e => exact zo_putL e
    · next e => exact zo_putR e
    · next e => exact zo_putZ e
    · exact zo_no
  · exact zo_aldI
  · exact zo_aldC
  · exact zo_aldB
  · exact zo_aldL
  · exact zo_aldR
  · exact zo_len
  · exact zo_astI
  · exact zo_astL
  · exact zo_astB
  · exact zo_astC
  · exact zo_newA
  · exact zo_new
  · split
    · next e =>
      rw [Nat.eq_of_beq_eq_true e]
      split
      · exact zo_slen
      · exact zo_schar
      · exact zo_no
    · exact zck_ok fun e => zo_inv e
  · split
    · next e => rw [Nat.eq_of_beq_eq_true e]; exact zo_ini
    · exact zck_ok fun e => zo_ins e
  · split
    · next e =>
      rw [Nat.eq_of_beq_eq_true e]
      split
      · exact zo_max
      · exact zo_min
      · exact zo_abs
      · exact zo_lmax
      · exact zo_lmin
      · exact zo_labs
      · exact zo_copy
      · exact zo_no
    · exact zck_ok fun e => zo_inst e
  · split
    · next e => exact zo_ret e
    · exact zo_no
  · split
    · next e => exact zo_reti e
    · next e => exact zo_retz e
    · next e => exact zo_retc e
    · exact zo_no
  · split
    · next e => exact zo_retl e
    · exact zo_no
  · split
    · next e => exact zo_reta (.inl ⟨_, e⟩)
    · next e => exact zo_reta (.inr ⟨_, e⟩)
    · exact zo_no
  · exact zo_no
variable {cuts : List Nat} {K : ZK} {Q : ZQ} {d : Nat}
theorem zblk_ok (hh : h ≤ d) {g : ZK} (hg : zGo d w Q g) {fall : Nat} {k : ZC} (hk : zKo d w Q [] fall k) : ∀ (code : List XI), zKo d w Q code fall (zblk g Q (code.map (zcv h w.2.2.2.1 w.2.2.2.2.1)) k)
  | [] => hk
  | x :: r => zcv_ok x d hh _ _ _ _ _ (zblk_ok hh hg hk r) hg
theorem zfind_ok (nL : Nat) (ret : Option FieldType) : ∀ (bl : XB) (t : Nat), zfind (zcvT h nL ret bl) t = ((xfind bl t).1.map (zcv h nL ret), (xfind bl t).2)
  | [], _ => rfl
  | q :: r, t => by
    show (match Nat.beq q.1 t with
      | true => _
      | false => zfind (zcvT h nL ret r) t) = _
    unfold xfind
    split
    · next e => rw [if_pos (Nat.eq_of_beq_eq_true e)]
    · next e => rw [if_neg (Nat.ne_of_beq_eq_false e)]; exact zfind_ok nL ret r t
def zKok (cuts : List Nat) (d : Nat) (w : XRow) (Q : ZQ) (K : ZK) : Prop := ∀ t, zhas cuts t = true → zKo d w Q (xfind w.2.2.2.2.2 t).1 (xfind w.2.2.2.2.2 t).2 (K t)
theorem zgo_ok {ih : ZK} (hK : zKok cuts d w Q K) (IH : zGo d w Q ih) : zGo d w Q (zgo cuts K ih) := by
  intro t
  unfold zgo
  split
  · next e => exact hK t e
  · exact IH t
theorem zfall_ok {fall : Nat} {k : ZC} (hk : zKo d w Q (xfind w.2.2.2.2.2 fall).1 (xfind w.2.2.2.2.2 fall).2 k) : zKo d w Q [] fall k := fun _ _ _ _ _ _ _ q hz hl => X_go rfl (hk _ _ _ _ _ _ _ q hz hl)
theorem zwp_ok (hh : h ≤ d) (hK : zKok cuts d w Q K) : ∀ f, zGo d w Q (zwp (zcvT h w.2.2.2.1 w.2.2.2.2.1 w.2.2.2.2.2) cuts K Q f) := by
  intro f
  induction f with
  | zero => intro t ls st I L R S lv q; exact q.elim
  | succ f IH =>
    intro t
    have hg := zgo_ok hK IH
    show zKo d w Q _ _ (zblk _ Q (zfind _ t).1 (zgo cuts K _ (zfind _ t).2))
    rw [zfind_ok]
    exact zblk_ok hh hg (zfall_ok (hg _)) _
/-- measures: three numbers, the first one is the most -/
def zlt3 (a b : Nat × Nat × Nat) : Prop := a.1 < b.1 ∨ (a.1 = b.1 ∧ (a.2.1 < b.2.1 ∨ (a.2.1 = b.2.1 ∧ a.2.2 < b.2.2)))
theorem zlt3_ind {C : Nat × Nat × Nat → Prop} (hC : ∀ a, (∀ b, zlt3 b a → C b) → C a) : ∀ a, C a := by
  have h1 : ∀ x y z, (∀ b : Nat × Nat × Nat, b.1 < x → C b) → (∀ b : Nat × Nat × Nat, b.1 = x → b.2.1 < y → C b) → C (x, y, z) := by
    intro x y z
    induction z using Nat.strongRecOn with
    | ind z ihz =>
      intro hx hy
      refine hC _ fun b hb => ?_
      rcases hb with hb | ⟨e1, hb | ⟨e2, hb⟩⟩
      · exact hx b hb
      · exact hy b e1 hb
      · obtain ⟨b1, b2, b3⟩ := b
        dsimp only at e1 e2 hb
        subst e1; subst e2
        exact ihz b3 hb hx hy
  have h2 : ∀ x y, (∀ b : Nat × Nat × Nat, b.1 < x → C b) → ∀ z, C (x, y, z) := by
    intro x y
    induction y using Nat.strongRecOn with
    | ind y ihy =>
      intro hx z
      refine h1 x y z hx fun b e1 hb => ?_
      obtain ⟨b1, b2, b3⟩ := b
      dsimp only at e1 hb
      subst e1
      exact ihy b2 hb hx b3
  have h3 : ∀ x y z, C (x, y, z) := by
    intro x
    induction x using Nat.strongRecOn with
    | ind x ihx =>
      intro y z
      exact h2 x y (fun b hb => ihx b.1 hb b.2.1 b.2.2) z
  intro a
  exact h3 a.1 a.2.1 a.2.2
def zall (l : List Nat) (G : Nat → Prop) : Prop := match l with
  | [] => True
  | a :: r => G a ∧ zall r G
theorem zall_of {G : Nat → Prop} : ∀ {l : List Nat}, zall l G → ∀ t, zhas l t = true → G t
  | [], _, t, h => by cases h
  | a :: r, g, t, h => by
    unfold zhas at h
    split at h
    · next e => rw [← Nat.eq_of_beq_eq_true e]; exact g.1
    · exact zall_of g.2 t h
theorem zlr_lay0 (n : Nat) (args : List ZV) : zlr (zlay n args) (lv_args 0 (args.map zden)) := fun j v hv => by
  have := zlr_lay n args 0 j v hv
  rwa [Nat.zero_add] at this
/-- a method's table, places of its locals -/
def zTab (h c i nL : Nat) (tb : ZB) : Prop := (xP c i).2.2.2.1 = nL ∧ zcvT h (xP c i).2.2.2.1 (xP c i).2.2.2.2.1 (xP c i).2.2.2.2.2 = tb
theorem zTab.mk {h c i nL : Nat} {ret : Option FieldType} {bl : XB} {tb : ZB} (h1 : (xP c i).2.2.2.1 = nL) (h2 : (xP c i).2.2.2.2.1 = ret) (h3 : (xP c i).2.2.2.2.2 = bl) (h4 : zcvT h nL ret bl = tb) : zTab h c i nL tb := by
  subst h1; subst h2; subst h3
  exact ⟨rfl, h4⟩
/-- a method without loops -/
theorem ZSnd.of {c i nL : Nat} {tb : ZB} {T : ZT} (ht : zTab h c i nL tb) (hT : ∀ args I L R S Q, zok I L → T args I L R S Q → Nat.ble (zcats args) nL = true ∧ zforce (zlay nL args) fun ls => zwp tb [] (fun _ _ _ _ _ _ _ => False) Q 100000 0 ls [] I L R S) : ZSnd (h + 1) c i T := by
  obtain ⟨rfl, rfl⟩ := ht
  intro d hd args I L R S Q hz g
  obtain ⟨d, rfl⟩ : ∃ d', d = d' + 1 := ⟨d - 1, by omega⟩
  obtain ⟨h1, h2⟩ := hT args I L R S Q hz g
  refine ⟨by rw [zcats_eq]; exact h1, ?_⟩
  exact zwp_ok (show h ≤ d by omega) (fun _ ht => by cases ht) 100000 0 _ _ _ _ _ _ _ (zforce_ok _ _ h2) hz (zlr_lay0 _ _)
/-- places that are forgotten -/
def zwk : ZL → ZL → Prop
  | [], l => l = []
  | a :: r, l => match l with
    | [] => True
    | none :: r' => zwk r r'
    | some v :: r' => a = some v ∧ zwk r r'
theorem zwk_ok : ∀ {a b : ZL} {lv : List (Nat × Value)}, zwk a b → ∀ {k : Nat}, (∀ i v, zget a i = some v → xlk lv (k + i) = some (zden v)) → ∀ i v, zget b i = some v → xlk lv (k + i) = some (zden v)
  | [], b, lv, h, k, _, i, v, g => by
    have e : b = [] := h
    subst e; cases g
  | x :: r, [], lv, _, k, _, i, v, g => by cases g
  | x :: r, none :: r', lv, h, k, hl, i, v, g => by
    match i, g with
    | i + 1, g =>
      have h2 := zwk_ok (a := r) (b := r') h (k := k + 1) (fun i v e => by have := hl (i + 1) v e; rwa [show k + 1 + i = k + (i + 1) by omega]) i v g
      rwa [show k + 1 + i = k + (i + 1) by omega] at h2
  | x :: r, some w :: r', lv, h, k, hl, i, v, g => by
    obtain ⟨rfl, h⟩ := h
    match i, g with
    | 0, g => exact hl 0 v g
    | i + 1, g =>
      have h2 := zwk_ok (a := r) (b := r') h (k := k + 1) (fun i v e => by have := hl (i + 1) v e; rwa [show k + 1 + i = k + (i + 1) by omega]) i v g
      rwa [show k + 1 + i = k + (i + 1) by omega] at h2
theorem zwk_lr {a b : ZL} {lv : List (Nat × Value)} (h : zwk a b) (hl : zlr a lv) : zlr b lv := fun i v g => by
  have h2 := zwk_ok h (k := 0) (fun i v e => by rw [Nat.zero_add]; exact hl i v e) i v g
  rwa [Nat.zero_add] at h2
/-- a method with loops: what is so at each of the places 'cuts', and a measure that falls from one to the next -/
theorem ZSnd.loops {c i nL : Nat} {tb : ZB} {T : ZT} (ht : zTab h c i nL tb) (hT : ∀ args I L R S Q, zok I L → T args I L R S Q → ∃ (cuts : List Nat) (A : Nat × Nat × Nat → ZK), Nat.ble (zcats args) nL = true ∧
    (zforce (zlay nL args) fun ls => zwp tb cuts (fun t ls st I L R S => ∃ n ls', zwk ls ls' ∧ A n t ls' st I L R S) Q 100000 0 ls [] I L R S) ∧
    zall cuts (fun t => ∀ n ls st I L R S, zok I L → A n t ls st I L R S → zwp tb cuts (fun t ls st I L R S => ∃ n', zlt3 n' n ∧ ∃ ls', zwk ls ls' ∧ A n' t ls' st I L R S) Q 100000 t ls st I L R S)) : ZSnd (h + 1) c i T := by
  obtain ⟨rfl, rfl⟩ := ht
  intro d hd args I L R S Q hz g
  obtain ⟨d, rfl⟩ : ∃ d', d = d' + 1 := ⟨d - 1, by omega⟩
  obtain ⟨cuts, A, h1, h2, h3⟩ := hT args I L R S Q hz g
  have h3 := zall_of h3
  have hloop : ∀ n, ∀ t, zhas cuts t = true → zKo d (xP c i) Q (xfind (xP c i).2.2.2.2.2 t).1 (xfind (xP c i).2.2.2.2.2 t).2 (A n t) := by
    refine zlt3_ind fun n ihn t ht ls st I L R S lv hA hz hl => ?_
    exact zwp_ok (show h ≤ d by omega) (fun t ht ls st I L R S lv q hz hl => by
      obtain ⟨n', q1, ls', qw, q2⟩ := q
      exact ihn n' q1 t ht ls' st I L R S lv q2 hz (zwk_lr qw hl)) 100000 t _ _ _ _ _ _ _ (h3 t ht n ls st I L R S hz hA) hz hl
  refine ⟨by rw [zcats_eq]; exact h1, ?_⟩
  exact zwp_ok (show h ≤ d by omega) (fun t ht ls st I L R S lv q hz hl => by
      obtain ⟨n', ls', qw, q2⟩ := q
      exact hloop n' t ht ls' st I L R S lv q2 hz (zwk_lr qw hl)) 100000 0 _ _ _ _ _ _ _ (zforce_ok _ _ h2) hz (zlr_lay0 _ _)
theorem ZSnd.up {h h' c i : Nat} {T : ZT} (hT : ZSnd h c i T) (hh : h ≤ h') : ZSnd h' c i T := fun d hd => hT d (Nat.le_trans hh hd)
/-- a method laid in -/
def zinl (nL : Nat) (tb : ZB) : ZT := fun args I L R S Q => Nat.ble (zcats args) nL = true ∧ zforce (zlay nL args) fun ls => zwp tb [] (fun _ _ _ _ _ _ _ => False) Q 100000 0 ls [] I L R S
theorem zinl_ok {h c i nL : Nat} {tb : ZB} (ht : zTab h c i nL tb) : ZSnd (h + 1) c i (zinl nL tb) := ZSnd.of ht (fun _ _ _ _ _ _ _ q => q)
end ZWE
