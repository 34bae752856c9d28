/-! lw: longs that wrap: a method may answer, and a loop may go on with, what denotes the same -/
section ZWE
def Qw (Q : ZQ) : ZQ := fun r I L R S => ∃ r', Option.map zden r = Option.map zden r' ∧ Q r' I L R S
theorem zpost_q {Q : ZQ} : zpost (Qw Q) = zpost Q := funext fun v => funext fun m => propext ⟨fun h => by
  obtain ⟨r, I, L, R, S, h1, h2, h3, r', e, q⟩ := h
  exact ⟨r', I, L, R, S, h1.trans e, h2, h3, q⟩, fun h => by
  obtain ⟨r, I, L, R, S, h1, h2, h3, q⟩ := h
  exact ⟨r, I, L, R, S, h1, h2, h3, r, rfl, q⟩⟩
theorem ZSnd.w {h c i : Nat} {T : ZT} (hT : ZSnd h c i (fun args I L R S Q' => ∃ Q, Q' = Qw Q ∧ T args I L R S Q)) : ZSnd h c i T := fun d hd args I L R S Q hz g => by
  have q := hT d hd args I L R S (Qw Q) hz ⟨Q, rfl, g⟩
  rw [zpost_q] at q
  exact q
theorem Qw_l {Q : ZQ} {v w : Int} {I L : ZI} {R : ZR} {S : ZS} (e : Int64.ofInt v = Int64.ofInt w) (q : Q (some (zvl w)) I L R S) : Qw Q (some (zvl v)) I L R S := ⟨some (zvl w), by show some (Value.long (Int64.ofInt v)) = some (Value.long (Int64.ofInt w)); rw [e], q⟩
theorem Qw_r {Q : ZQ} {v : Option ZV} {I L : ZI} {R : ZR} {S : ZS} (q : Q v I L R S) : Qw Q v I L R S := ⟨v, rfl, q⟩
def zwx : ZL → ZL → Prop
  | [], l => l = []
  | a :: r, l => match l with
    | [] => True
    | none :: r' => zwx r r'
    | some v :: r' => (match a with
      | some u => zden u = zden v
      | none => False) ∧ zwx r r'
theorem zwx_ok : ∀ {a b : ZL} {lv : List (Nat × Value)}, zwx a b → ∀ {k : Nat}, (∀ i v, zget a i = some v → xlk lv (k + i) = some (zden v)) → ∀ i v, zget b i = some v → xlk lv (k + i) = some (zden v)
  | [], b, lv, h, k, _, i, v, g => by
    have e : b = [] := h
    subst e; cases g
  | x :: r, [], lv, _, k, _, i, v, g => by cases g
  | x :: r, none :: r', lv, h, k, hl, i, v, g => by
    match i, g with
    | i + 1, g =>
      have h2 := zwx_ok (a := r) (b := r') h (k := k + 1) (fun i v e => by have := hl (i + 1) v e; rwa [show k + 1 + i = k + (i + 1) by omega]) i v g
      rwa [show k + 1 + i = k + (i + 1) by omega] at h2
  | none :: r, some w :: r', lv, h, k, hl, i, v, g => absurd h.1 id
  | some u :: r, some w :: r', lv, h, k, hl, i, v, g => by
    obtain ⟨e0, h⟩ := h
    have e0 : zden u = zden w := e0
    match i, g with
    | 0, g =>
      have e1 : some w = some v := g
      injection e1 with e1
      rw [← e1, ← e0]
      exact hl 0 u rfl
    | i + 1, g =>
      have h2 := zwx_ok (a := r) (b := r') h (k := k + 1) (fun i v e => by have := hl (i + 1) v e; rwa [show k + 1 + i = k + (i + 1) by omega]) i v g
      rwa [show k + 1 + i = k + (i + 1) by omega] at h2
theorem zwx_lr {a b : ZL} {lv : List (Nat × Value)} (h : zwx a b) (hl : zlr a lv) : zlr b lv := fun i v g => by
  have h2 := zwx_ok h (k := 0) (fun i v e => by rw [Nat.zero_add]; exact hl i v e) i v g
  rwa [Nat.zero_add] at h2
theorem ZSnd.loopsw {c i nL : Nat} {tb : ZB} {T : ZT} {h : Nat} (ht : zTab h c i nL tb) (hT : ∀ args I L R S Q, zok I L → T args I L R S Q → ∃ (cuts : List Nat) (A : Nat × Nat × Nat → ZK), Nat.ble (zcats args) nL = true ∧
    (zforce (zlay nL args) fun ls => zwp tb cuts (fun t ls st I L R S => ∃ n ls', zwx ls ls' ∧ A n t ls' st I L R S) Q 100000 0 ls [] I L R S) ∧
    zall cuts (fun t => ∀ n ls st I L R S, zok I L → A n t ls st I L R S → zwp tb cuts (fun t ls st I L R S => ∃ n', zlt3 n' n ∧ ∃ ls', zwx ls ls' ∧ A n' t ls' st I L R S) Q 100000 t ls st I L R S)) : ZSnd (h + 1) c i T := by
  obtain ⟨rfl, rfl⟩ := ht
  intro d hd args I L R S Q hz g
  obtain ⟨d, rfl⟩ : ∃ d', d = d' + 1 := ⟨d - 1, by omega⟩
  obtain ⟨cuts, A, h1, h2, h3⟩ := hT args I L R S Q hz g
  have h3 := zall_of h3
  have hloop : ∀ n, ∀ t, zhas cuts t = true → zKo d (xP c i) Q (xfind (xP c i).2.2.2.2.2 t).1 (xfind (xP c i).2.2.2.2.2 t).2 (A n t) := by
    refine zlt3_ind fun n ihn t ht ls st I L R S lv hA hz hl => ?_
    exact zwp_ok (show h ≤ d by omega) (fun t ht ls st I L R S lv q hz hl => by
      obtain ⟨n', q1, ls', qw, q2⟩ := q
      exact ihn n' q1 t ht ls' st I L R S lv q2 hz (zwx_lr qw hl)) 100000 t _ _ _ _ _ _ _ (h3 t ht n ls st I L R S hz hA) hz hl
  refine ⟨by rw [zcats_eq]; exact h1, ?_⟩
  exact zwp_ok (show h ≤ d by omega) (fun t ht ls st I L R S lv q hz hl => by
      obtain ⟨n', ls', qw, q2⟩ := q
      exact hloop n' t ht ls' st I L R S lv q2 hz (zwx_lr qw hl)) 100000 0 _ _ _ _ _ _ _ (zforce_ok _ _ h2) hz (zlr_lay0 _ _)
theorem zdn_l {x : Int} : zden (zvl x) = zden (zvl (zn6 x)) := by show Value.long (Int64.ofInt x) = Value.long (Int64.ofInt (zn6 x)); rw [zn6_of]
end ZWE
