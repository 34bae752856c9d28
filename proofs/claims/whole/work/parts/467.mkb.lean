/-! OBJECTS that a method makes: where a constructor begins -/
theorem zforce_i : ∀ (ls : ZL) {k : ZL → Prop}, k ls → zforce ls k
  | [], _, h => h
  | _ :: r, _, h => zforce_i r h
theorem zmB {tb : ZB} {cuts : List Nat} {K : ZK} {Q : ZQ} {q c nL nxt : Nat} {args : List ZV} {I L : ZI} {R : ZR} {S : ZS} (l : List (Int × Nat × Nat)) (rest : List ZF) (ls0 : ZL) (hls : zlay nL args = ls0) (h0 : zget ls0 0 = some (zvr q)) (hf : zfind tb 0 = (zf_ald 0 :: zf_ini :: (zmA c l ++ rest), nxt)) (hb : (l.all fun e => decide (0 ≤ e.1 ∧ e.1 < 1000000)) = true) (hn : (l.map fun e => e.2.2).Nodup) (hx : xat S q c) (hq : q < S.2.1)
    (h : ∀ I' L' R' S', zNw q l I L R S I' L' R' S' → zblk (zgo cuts K (zwp tb cuts K Q 99999)) Q rest (zgo cuts K (zwp tb cuts K Q 99999) nxt) ls0 [] I' L' R' S') : zforce (zlay nL args) fun ls => zwp tb cuts K Q 100000 0 ls [] I L R S := by
  rw [hls]
  refine zforce_i ls0 ?_
  show zblk (zgo cuts K (zwp tb cuts K Q 99999)) Q (zfind tb 0).1 (zgo cuts K (zwp tb cuts K Q 99999) (zfind tb 0).2) ls0 [] I L R S
  rw [hf]
  show zf_ald 0 (fun ls st I L R S => zf_ini (zblk (zgo cuts K (zwp tb cuts K Q 99999)) Q (zmA c l ++ rest) (zgo cuts K (zwp tb cuts K Q 99999) nxt)) (zgo cuts K (zwp tb cuts K Q 99999)) Q ls st I L R S) (zgo cuts K (zwp tb cuts K Q 99999)) Q ls0 [] I L R S
  unfold zf_ald
  rw [h0]
  show zblk (zgo cuts K (zwp tb cuts K Q 99999)) Q (zmA c l ++ rest) (zgo cuts K (zwp tb cuts K Q 99999) nxt) ls0 [] I L R S
  exact zmA_at l rest h0 hb hn hx hq h
