/-! CELLS of both objects, as every call finds them -/
def zSh (S : ZS) : Prop := 302 ≤ S.2.1 ∧ ∀ k, Nat.ble 1 k = true → Nat.blt k 302 = true → S.1 k = xsh xmB k
def zRs (R : ZR) : Prop := ∀ e ∈ xfR, R e.1 e.2.1 = some e.2.2
theorem zS_g {S : ZS} (h : zSh S) {k t n : Nat} (e : xsh xmB k = (t, n)) (h1 : Nat.ble 1 k = true) (h2 : Nat.blt k 302 = true) : S.1 k = (t, n) ∧ k < S.2.1 := ⟨(h.2 k h1 h2).trans e, Nat.lt_of_lt_of_le (Nat.blt_eq.mp h2) h.1⟩
theorem zA_g {S : ZS} {k t n : Nat} (h : S.1 k = (t, n) ∧ k < S.2.1) (h1 : Nat.ble 40 k = true) : xat S k t := ⟨Nat.le_of_ble_eq_true h1, h.2, by rw [h.1]⟩
theorem zP_g {S : ZS} {k t n : Nat} (h : S.1 k = (t, n) ∧ k < S.2.1) (hn : Nat.ble n 2147483647 = true) {j : Int} (h0 : 0 ≤ j) (h1 : j < n) : zpl S k t j := ⟨h.2, by rw [h.1], h0, by rw [h.1]; exact h1, by have := Nat.le_of_ble_eq_true hn; omega⟩
theorem zN_g {S : ZS} {k t n : Nat} (h : S.1 k = (t, n) ∧ k < S.2.1) (ht : Nat.ble 100 t = true) : k < S.2.1 ∧ 100 ≤ (S.1 k).1 := ⟨h.2, by rw [h.1]; exact Nat.le_of_ble_eq_true ht⟩
theorem zV_g {S : ZS} {k t n : Nat} (h : S.1 k = (t, n) ∧ k < S.2.1) : ((S.1 k).2 : Int) = n := by rw [h.1]
theorem zR_g {R : ZR} (h : zRs R) (i : Nat) {k j v : Nat} (e : xfR[i]? = some (k, j, v)) : R k j = some v := h _ (List.mem_of_getElem? e)
theorem zRs_xu {R : ZR} {k j : Nat} {v : Option Nat} (h : zRs R) (hn : (xfR.all fun e => !(Nat.beq e.1 k && Nat.beq e.2.1 j)) = true) : zRs (xu R k j v) := by
  intro e he
  have h1 := List.all_eq_true.mp hn e he
  unfold xu
  split
  · next e1 =>
    split
    · next e2 => subst e1; subst e2; rw [Nat.beq_refl, Nat.beq_refl] at h1; cases h1
    · exact h e he
  · exact h e he
theorem zRs_fr {R R' : ZR} (h : zRs R) (hf : ∀ c j, Nat.blt c 302 = true → R' c j = R c j) : zRs R' := fun e he => (hf e.1 e.2.1 (List.all_eq_true.mp (show (xfR.all fun e => Nat.blt e.1 302) = true by decide +kernel) e he)).trans (h e he)
theorem zxu {α : Type} {f : Nat → Nat → α} {k j a b : Nat} {w v : α} (h : ¬ a = k) (e : f a b = v) : xu f k j w a b = v := by unfold xu; rw [if_neg h]; exact e
theorem zxs {α : Type} {f : Nat → Nat → α} {k j a b : Nat} {w v : α} (h : ¬ b = j) (e : f a b = v) : xu f k j w a b = v := by
  unfold xu
  split
  · first | exact e | (rw [if_neg h]; exact e)
  · exact e
theorem zxe {α : Type} {f : Nat → Nat → α} {k j : Nat} {w : α} : xu f k j w k j = w := by unfold xu; rw [if_pos rfl, if_pos rfl]
theorem zxcj {α : Type} {f : Nat → Nat → α} {k j a b : Nat} {w v : α} (h : ¬ (a = k ∧ b = j)) (e : f a b = v) : xu f k j w a b = v := by
  unfold xu
  split
  · next h1 => first | (rw [if_neg (fun h2 => h ⟨h1, h2⟩)]; exact e) | exact e
  · exact e
theorem zcpu {α : Type} {F : Nat → Nat → α} {ks kd sp dp n a b : Nat} {v : α} (h : ¬ a = kd) (e : F a b = v) : xcpF F ks kd sp dp n a b = v := by unfold xcpF; rw [if_neg h]; exact e
theorem zcpj {α : Type} {F : Nat → Nat → α} {ks kd sp dp n a b : Nat} {v : α} (h : ¬ (a = kd ∧ dp ≤ b ∧ b < dp + n)) (e : F a b = v) : xcpF F ks kd sp dp n a b = v := by
  unfold xcpF
  split
  · next h1 => subst h1; unfold va_cpy; rw [if_neg (fun q => h ⟨rfl, q⟩)]; exact e
  · exact e
theorem zdv {w d : Int} {P : Int → Prop} (h0 : 0 ≤ w) (h : ∀ q, q = d → P q) {t : Int} : ∀ q, q = t → (0 ≤ w → q = d) → P q := fun q _ h2 => h q (h2 h0)
theorem zlt1 {a b x y x' y' : Nat} (h : a < b) : zlt3 (a, x, y) (b, x', y') := Or.inl h
theorem zlt2 {a b c x x' : Nat} (h : b < c) : zlt3 (a, b, x) (a, c, x') := Or.inr ⟨rfl, Or.inl h⟩
theorem zlt4 {a b c d : Nat} (h : c < d) : zlt3 (a, b, c) (a, b, d) := Or.inr ⟨rfl, Or.inr ⟨rfl, h⟩⟩
theorem zlt6 {a b c a' b' c' : Nat} (h : a < a' ∨ (a = a' ∧ (b < b' ∨ (b = b' ∧ c < c')))) : zlt3 (a, b, c) (a', b', c') := h
theorem zrdL {x v : Int} {P : Int → Prop} (e : x = v) (g : P v) : ∀ u, u = x → r64 u → P u := fun u h _ => by rw [h, e]; exact g
theorem zS_1 {S : ZS} (h : zSh S) : S.1 1 = (101, 7) ∧ 1 < S.2.1 := zS_g h (xfS_at 0 rfl) rfl rfl
theorem zP_1 {S : ZS} (h : zSh S) {j : Int} (h0 : 0 ≤ j) (h1 : j < 7) : zpl S 1 101 j := zP_g (zS_1 h) rfl h0 h1
theorem zN_1 {S : ZS} (h : zSh S) : 1 < S.2.1 ∧ 100 ≤ (S.1 1).1 := zN_g (zS_1 h) rfl
theorem zV_1 {S : ZS} (h : zSh S) : ((S.1 1).2 : Int) = 7 := zV_g (zS_1 h)
theorem zS_2 {S : ZS} (h : zSh S) : S.1 2 = (100, 10) ∧ 2 < S.2.1 := zS_g h (xfS_at 1 rfl) rfl rfl
theorem zP_2 {S : ZS} (h : zSh S) {j : Int} (h0 : 0 ≤ j) (h1 : j < 10) : zpl S 2 100 j := zP_g (zS_2 h) rfl h0 h1
theorem zN_2 {S : ZS} (h : zSh S) : 2 < S.2.1 ∧ 100 ≤ (S.1 2).1 := zN_g (zS_2 h) rfl
theorem zV_2 {S : ZS} (h : zSh S) : ((S.1 2).2 : Int) = 10 := zV_g (zS_2 h)
theorem zS_3 {S : ZS} (h : zSh S) : S.1 3 = (100, 4) ∧ 3 < S.2.1 := zS_g h (xfS_at 2 rfl) rfl rfl
theorem zP_3 {S : ZS} (h : zSh S) {j : Int} (h0 : 0 ≤ j) (h1 : j < 4) : zpl S 3 100 j := zP_g (zS_3 h) rfl h0 h1
theorem zN_3 {S : ZS} (h : zSh S) : 3 < S.2.1 ∧ 100 ≤ (S.1 3).1 := zN_g (zS_3 h) rfl
theorem zV_3 {S : ZS} (h : zSh S) : ((S.1 3).2 : Int) = 4 := zV_g (zS_3 h)
theorem zS_4 {S : ZS} (h : zSh S) : S.1 4 = (100, 8) ∧ 4 < S.2.1 := zS_g h (xfS_at 3 rfl) rfl rfl
theorem zP_4 {S : ZS} (h : zSh S) {j : Int} (h0 : 0 ≤ j) (h1 : j < 8) : zpl S 4 100 j := zP_g (zS_4 h) rfl h0 h1
theorem zN_4 {S : ZS} (h : zSh S) : 4 < S.2.1 ∧ 100 ≤ (S.1 4).1 := zN_g (zS_4 h) rfl
theorem zV_4 {S : ZS} (h : zSh S) : ((S.1 4).2 : Int) = 8 := zV_g (zS_4 h)
theorem zS_5 {S : ZS} (h : zSh S) : S.1 5 = (100, 64) ∧ 5 < S.2.1 := zS_g h (xfS_at 4 rfl) rfl rfl
theorem zP_5 {S : ZS} (h : zSh S) {j : Int} (h0 : 0 ≤ j) (h1 : j < 64) : zpl S 5 100 j := zP_g (zS_5 h) rfl h0 h1
theorem zN_5 {S : ZS} (h : zSh S) : 5 < S.2.1 ∧ 100 ≤ (S.1 5).1 := zN_g (zS_5 h) rfl
theorem zV_5 {S : ZS} (h : zSh S) : ((S.1 5).2 : Int) = 64 := zV_g (zS_5 h)
theorem zS_40 {S : ZS} (h : zSh S) : S.1 40 = (11, 20) ∧ 40 < S.2.1 := zS_g h (xfS_at 5 rfl) rfl rfl
theorem zA_40 {S : ZS} (h : zSh S) : xat S 40 11 := zA_g (zS_40 h) rfl
theorem zS_41 {S : ZS} (h : zSh S) : S.1 41 = (102, 4000) ∧ 41 < S.2.1 := zS_g h (xfS_at 6 rfl) rfl rfl
theorem zP_41 {S : ZS} (h : zSh S) {j : Int} (h0 : 0 ≤ j) (h1 : j < 4000) : zpl S 41 102 j := zP_g (zS_41 h) rfl h0 h1
theorem zN_41 {S : ZS} (h : zSh S) : 41 < S.2.1 ∧ 100 ≤ (S.1 41).1 := zN_g (zS_41 h) rfl
theorem zV_41 {S : ZS} (h : zSh S) : ((S.1 41).2 : Int) = 4000 := zV_g (zS_41 h)
theorem zS_42 {S : ZS} (h : zSh S) : S.1 42 = (104, 4000) ∧ 42 < S.2.1 := zS_g h (xfS_at 7 rfl) rfl rfl
theorem zP_42 {S : ZS} (h : zSh S) {j : Int} (h0 : 0 ≤ j) (h1 : j < 4000) : zpl S 42 104 j := zP_g (zS_42 h) rfl h0 h1
theorem zN_42 {S : ZS} (h : zSh S) : 42 < S.2.1 ∧ 100 ≤ (S.1 42).1 := zN_g (zS_42 h) rfl
theorem zV_42 {S : ZS} (h : zSh S) : ((S.1 42).2 : Int) = 4000 := zV_g (zS_42 h)
theorem zS_43 {S : ZS} (h : zSh S) : S.1 43 = (2, 13) ∧ 43 < S.2.1 := zS_g h (xfS_at 8 rfl) rfl rfl
theorem zA_43 {S : ZS} (h : zSh S) : xat S 43 2 := zA_g (zS_43 h) rfl
theorem zS_44 {S : ZS} (h : zSh S) : S.1 44 = (100, 200) ∧ 44 < S.2.1 := zS_g h (xfS_at 9 rfl) rfl rfl
theorem zP_44 {S : ZS} (h : zSh S) {j : Int} (h0 : 0 ≤ j) (h1 : j < 200) : zpl S 44 100 j := zP_g (zS_44 h) rfl h0 h1
theorem zN_44 {S : ZS} (h : zSh S) : 44 < S.2.1 ∧ 100 ≤ (S.1 44).1 := zN_g (zS_44 h) rfl
theorem zV_44 {S : ZS} (h : zSh S) : ((S.1 44).2 : Int) = 200 := zV_g (zS_44 h)
theorem zS_45 {S : ZS} (h : zSh S) : S.1 45 = (100, 200) ∧ 45 < S.2.1 := zS_g h (xfS_at 10 rfl) rfl rfl
theorem zP_45 {S : ZS} (h : zSh S) {j : Int} (h0 : 0 ≤ j) (h1 : j < 200) : zpl S 45 100 j := zP_g (zS_45 h) rfl h0 h1
theorem zN_45 {S : ZS} (h : zSh S) : 45 < S.2.1 ∧ 100 ≤ (S.1 45).1 := zN_g (zS_45 h) rfl
theorem zV_45 {S : ZS} (h : zSh S) : ((S.1 45).2 : Int) = 200 := zV_g (zS_45 h)
theorem zS_46 {S : ZS} (h : zSh S) : S.1 46 = (100, 200) ∧ 46 < S.2.1 := zS_g h (xfS_at 11 rfl) rfl rfl
theorem zP_46 {S : ZS} (h : zSh S) {j : Int} (h0 : 0 ≤ j) (h1 : j < 200) : zpl S 46 100 j := zP_g (zS_46 h) rfl h0 h1
theorem zN_46 {S : ZS} (h : zSh S) : 46 < S.2.1 ∧ 100 ≤ (S.1 46).1 := zN_g (zS_46 h) rfl
theorem zV_46 {S : ZS} (h : zSh S) : ((S.1 46).2 : Int) = 200 := zV_g (zS_46 h)
theorem zS_47 {S : ZS} (h : zSh S) : S.1 47 = (101, 1000) ∧ 47 < S.2.1 := zS_g h (xfS_at 12 rfl) rfl rfl
theorem zP_47 {S : ZS} (h : zSh S) {j : Int} (h0 : 0 ≤ j) (h1 : j < 1000) : zpl S 47 101 j := zP_g (zS_47 h) rfl h0 h1
theorem zN_47 {S : ZS} (h : zSh S) : 47 < S.2.1 ∧ 100 ≤ (S.1 47).1 := zN_g (zS_47 h) rfl
theorem zV_47 {S : ZS} (h : zSh S) : ((S.1 47).2 : Int) = 1000 := zV_g (zS_47 h)
theorem zS_48 {S : ZS} (h : zSh S) : S.1 48 = (100, 400) ∧ 48 < S.2.1 := zS_g h (xfS_at 13 rfl) rfl rfl
theorem zP_48 {S : ZS} (h : zSh S) {j : Int} (h0 : 0 ≤ j) (h1 : j < 400) : zpl S 48 100 j := zP_g (zS_48 h) rfl h0 h1
theorem zN_48 {S : ZS} (h : zSh S) : 48 < S.2.1 ∧ 100 ≤ (S.1 48).1 := zN_g (zS_48 h) rfl
theorem zV_48 {S : ZS} (h : zSh S) : ((S.1 48).2 : Int) = 400 := zV_g (zS_48 h)
theorem zS_49 {S : ZS} (h : zSh S) : S.1 49 = (100, 400) ∧ 49 < S.2.1 := zS_g h (xfS_at 14 rfl) rfl rfl
theorem zP_49 {S : ZS} (h : zSh S) {j : Int} (h0 : 0 ≤ j) (h1 : j < 400) : zpl S 49 100 j := zP_g (zS_49 h) rfl h0 h1
theorem zN_49 {S : ZS} (h : zSh S) : 49 < S.2.1 ∧ 100 ≤ (S.1 49).1 := zN_g (zS_49 h) rfl
theorem zV_49 {S : ZS} (h : zSh S) : ((S.1 49).2 : Int) = 400 := zV_g (zS_49 h)
theorem zS_50 {S : ZS} (h : zSh S) : S.1 50 = (104, 4000) ∧ 50 < S.2.1 := zS_g h (xfS_at 15 rfl) rfl rfl
theorem zP_50 {S : ZS} (h : zSh S) {j : Int} (h0 : 0 ≤ j) (h1 : j < 4000) : zpl S 50 104 j := zP_g (zS_50 h) rfl h0 h1
theorem zN_50 {S : ZS} (h : zSh S) : 50 < S.2.1 ∧ 100 ≤ (S.1 50).1 := zN_g (zS_50 h) rfl
theorem zV_50 {S : ZS} (h : zSh S) : ((S.1 50).2 : Int) = 4000 := zV_g (zS_50 h)
theorem zS_51 {S : ZS} (h : zSh S) : S.1 51 = (104, 26000) ∧ 51 < S.2.1 := zS_g h (xfS_at 16 rfl) rfl rfl
theorem zP_51 {S : ZS} (h : zSh S) {j : Int} (h0 : 0 ≤ j) (h1 : j < 26000) : zpl S 51 104 j := zP_g (zS_51 h) rfl h0 h1
theorem zN_51 {S : ZS} (h : zSh S) : 51 < S.2.1 ∧ 100 ≤ (S.1 51).1 := zN_g (zS_51 h) rfl
theorem zV_51 {S : ZS} (h : zSh S) : ((S.1 51).2 : Int) = 26000 := zV_g (zS_51 h)
theorem zS_52 {S : ZS} (h : zSh S) : S.1 52 = (2, 13) ∧ 52 < S.2.1 := zS_g h (xfS_at 17 rfl) rfl rfl
theorem zA_52 {S : ZS} (h : zSh S) : xat S 52 2 := zA_g (zS_52 h) rfl
theorem zS_53 {S : ZS} (h : zSh S) : S.1 53 = (100, 200) ∧ 53 < S.2.1 := zS_g h (xfS_at 18 rfl) rfl rfl
theorem zP_53 {S : ZS} (h : zSh S) {j : Int} (h0 : 0 ≤ j) (h1 : j < 200) : zpl S 53 100 j := zP_g (zS_53 h) rfl h0 h1
theorem zN_53 {S : ZS} (h : zSh S) : 53 < S.2.1 ∧ 100 ≤ (S.1 53).1 := zN_g (zS_53 h) rfl
theorem zV_53 {S : ZS} (h : zSh S) : ((S.1 53).2 : Int) = 200 := zV_g (zS_53 h)
theorem zS_54 {S : ZS} (h : zSh S) : S.1 54 = (100, 200) ∧ 54 < S.2.1 := zS_g h (xfS_at 19 rfl) rfl rfl
theorem zP_54 {S : ZS} (h : zSh S) {j : Int} (h0 : 0 ≤ j) (h1 : j < 200) : zpl S 54 100 j := zP_g (zS_54 h) rfl h0 h1
theorem zN_54 {S : ZS} (h : zSh S) : 54 < S.2.1 ∧ 100 ≤ (S.1 54).1 := zN_g (zS_54 h) rfl
theorem zV_54 {S : ZS} (h : zSh S) : ((S.1 54).2 : Int) = 200 := zV_g (zS_54 h)
theorem zS_55 {S : ZS} (h : zSh S) : S.1 55 = (100, 200) ∧ 55 < S.2.1 := zS_g h (xfS_at 20 rfl) rfl rfl
theorem zP_55 {S : ZS} (h : zSh S) {j : Int} (h0 : 0 ≤ j) (h1 : j < 200) : zpl S 55 100 j := zP_g (zS_55 h) rfl h0 h1
theorem zN_55 {S : ZS} (h : zSh S) : 55 < S.2.1 ∧ 100 ≤ (S.1 55).1 := zN_g (zS_55 h) rfl
theorem zV_55 {S : ZS} (h : zSh S) : ((S.1 55).2 : Int) = 200 := zV_g (zS_55 h)
theorem zS_56 {S : ZS} (h : zSh S) : S.1 56 = (101, 1000) ∧ 56 < S.2.1 := zS_g h (xfS_at 21 rfl) rfl rfl
theorem zP_56 {S : ZS} (h : zSh S) {j : Int} (h0 : 0 ≤ j) (h1 : j < 1000) : zpl S 56 101 j := zP_g (zS_56 h) rfl h0 h1
theorem zN_56 {S : ZS} (h : zSh S) : 56 < S.2.1 ∧ 100 ≤ (S.1 56).1 := zN_g (zS_56 h) rfl
theorem zV_56 {S : ZS} (h : zSh S) : ((S.1 56).2 : Int) = 1000 := zV_g (zS_56 h)
theorem zS_57 {S : ZS} (h : zSh S) : S.1 57 = (100, 400) ∧ 57 < S.2.1 := zS_g h (xfS_at 22 rfl) rfl rfl
theorem zP_57 {S : ZS} (h : zSh S) {j : Int} (h0 : 0 ≤ j) (h1 : j < 400) : zpl S 57 100 j := zP_g (zS_57 h) rfl h0 h1
theorem zN_57 {S : ZS} (h : zSh S) : 57 < S.2.1 ∧ 100 ≤ (S.1 57).1 := zN_g (zS_57 h) rfl
theorem zV_57 {S : ZS} (h : zSh S) : ((S.1 57).2 : Int) = 400 := zV_g (zS_57 h)
theorem zS_58 {S : ZS} (h : zSh S) : S.1 58 = (100, 400) ∧ 58 < S.2.1 := zS_g h (xfS_at 23 rfl) rfl rfl
theorem zP_58 {S : ZS} (h : zSh S) {j : Int} (h0 : 0 ≤ j) (h1 : j < 400) : zpl S 58 100 j := zP_g (zS_58 h) rfl h0 h1
theorem zN_58 {S : ZS} (h : zSh S) : 58 < S.2.1 ∧ 100 ≤ (S.1 58).1 := zN_g (zS_58 h) rfl
theorem zV_58 {S : ZS} (h : zSh S) : ((S.1 58).2 : Int) = 400 := zV_g (zS_58 h)
theorem zS_59 {S : ZS} (h : zSh S) : S.1 59 = (104, 4000) ∧ 59 < S.2.1 := zS_g h (xfS_at 24 rfl) rfl rfl
theorem zP_59 {S : ZS} (h : zSh S) {j : Int} (h0 : 0 ≤ j) (h1 : j < 4000) : zpl S 59 104 j := zP_g (zS_59 h) rfl h0 h1
theorem zN_59 {S : ZS} (h : zSh S) : 59 < S.2.1 ∧ 100 ≤ (S.1 59).1 := zN_g (zS_59 h) rfl
theorem zV_59 {S : ZS} (h : zSh S) : ((S.1 59).2 : Int) = 4000 := zV_g (zS_59 h)
theorem zS_60 {S : ZS} (h : zSh S) : S.1 60 = (104, 26000) ∧ 60 < S.2.1 := zS_g h (xfS_at 25 rfl) rfl rfl
theorem zP_60 {S : ZS} (h : zSh S) {j : Int} (h0 : 0 ≤ j) (h1 : j < 26000) : zpl S 60 104 j := zP_g (zS_60 h) rfl h0 h1
theorem zN_60 {S : ZS} (h : zSh S) : 60 < S.2.1 ∧ 100 ≤ (S.1 60).1 := zN_g (zS_60 h) rfl
theorem zV_60 {S : ZS} (h : zSh S) : ((S.1 60).2 : Int) = 26000 := zV_g (zS_60 h)
theorem zS_61 {S : ZS} (h : zSh S) : S.1 61 = (9, 8) ∧ 61 < S.2.1 := zS_g h (xfS_at 26 rfl) rfl rfl
theorem zA_61 {S : ZS} (h : zSh S) : xat S 61 9 := zA_g (zS_61 h) rfl
theorem zS_62 {S : ZS} (h : zSh S) : S.1 62 = (104, 0) ∧ 62 < S.2.1 := zS_g h (xfS_at 27 rfl) rfl rfl
theorem zP_62 {S : ZS} (h : zSh S) {j : Int} (h0 : 0 ≤ j) (h1 : j < 0) : zpl S 62 104 j := zP_g (zS_62 h) rfl h0 h1
theorem zN_62 {S : ZS} (h : zSh S) : 62 < S.2.1 ∧ 100 ≤ (S.1 62).1 := zN_g (zS_62 h) rfl
theorem zV_62 {S : ZS} (h : zSh S) : ((S.1 62).2 : Int) = 0 := zV_g (zS_62 h)
theorem zS_63 {S : ZS} (h : zSh S) : S.1 63 = (3, 16) ∧ 63 < S.2.1 := zS_g h (xfS_at 28 rfl) rfl rfl
theorem zA_63 {S : ZS} (h : zSh S) : xat S 63 3 := zA_g (zS_63 h) rfl
theorem zS_64 {S : ZS} (h : zSh S) : S.1 64 = (100, 200) ∧ 64 < S.2.1 := zS_g h (xfS_at 29 rfl) rfl rfl
theorem zP_64 {S : ZS} (h : zSh S) {j : Int} (h0 : 0 ≤ j) (h1 : j < 200) : zpl S 64 100 j := zP_g (zS_64 h) rfl h0 h1
theorem zN_64 {S : ZS} (h : zSh S) : 64 < S.2.1 ∧ 100 ≤ (S.1 64).1 := zN_g (zS_64 h) rfl
theorem zV_64 {S : ZS} (h : zSh S) : ((S.1 64).2 : Int) = 200 := zV_g (zS_64 h)
theorem zS_65 {S : ZS} (h : zSh S) : S.1 65 = (7, 3) ∧ 65 < S.2.1 := zS_g h (xfS_at 30 rfl) rfl rfl
theorem zA_65 {S : ZS} (h : zSh S) : xat S 65 7 := zA_g (zS_65 h) rfl
theorem zS_66 {S : ZS} (h : zSh S) : S.1 66 = (100, 96) ∧ 66 < S.2.1 := zS_g h (xfS_at 31 rfl) rfl rfl
theorem zP_66 {S : ZS} (h : zSh S) {j : Int} (h0 : 0 ≤ j) (h1 : j < 96) : zpl S 66 100 j := zP_g (zS_66 h) rfl h0 h1
theorem zN_66 {S : ZS} (h : zSh S) : 66 < S.2.1 ∧ 100 ≤ (S.1 66).1 := zN_g (zS_66 h) rfl
theorem zV_66 {S : ZS} (h : zSh S) : ((S.1 66).2 : Int) = 96 := zV_g (zS_66 h)
theorem zS_67 {S : ZS} (h : zSh S) : S.1 67 = (100, 256) ∧ 67 < S.2.1 := zS_g h (xfS_at 32 rfl) rfl rfl
theorem zP_67 {S : ZS} (h : zSh S) {j : Int} (h0 : 0 ≤ j) (h1 : j < 256) : zpl S 67 100 j := zP_g (zS_67 h) rfl h0 h1
theorem zN_67 {S : ZS} (h : zSh S) : 67 < S.2.1 ∧ 100 ≤ (S.1 67).1 := zN_g (zS_67 h) rfl
theorem zV_67 {S : ZS} (h : zSh S) : ((S.1 67).2 : Int) = 256 := zV_g (zS_67 h)
theorem zS_68 {S : ZS} (h : zSh S) : S.1 68 = (7, 3) ∧ 68 < S.2.1 := zS_g h (xfS_at 33 rfl) rfl rfl
theorem zA_68 {S : ZS} (h : zSh S) : xat S 68 7 := zA_g (zS_68 h) rfl
theorem zS_69 {S : ZS} (h : zSh S) : S.1 69 = (100, 600) ∧ 69 < S.2.1 := zS_g h (xfS_at 34 rfl) rfl rfl
theorem zP_69 {S : ZS} (h : zSh S) {j : Int} (h0 : 0 ≤ j) (h1 : j < 600) : zpl S 69 100 j := zP_g (zS_69 h) rfl h0 h1
theorem zN_69 {S : ZS} (h : zSh S) : 69 < S.2.1 ∧ 100 ≤ (S.1 69).1 := zN_g (zS_69 h) rfl
theorem zV_69 {S : ZS} (h : zSh S) : ((S.1 69).2 : Int) = 600 := zV_g (zS_69 h)
theorem zS_70 {S : ZS} (h : zSh S) : S.1 70 = (7, 3) ∧ 70 < S.2.1 := zS_g h (xfS_at 35 rfl) rfl rfl
theorem zA_70 {S : ZS} (h : zSh S) : xat S 70 7 := zA_g (zS_70 h) rfl
theorem zS_71 {S : ZS} (h : zSh S) : S.1 71 = (100, 300) ∧ 71 < S.2.1 := zS_g h (xfS_at 36 rfl) rfl rfl
theorem zP_71 {S : ZS} (h : zSh S) {j : Int} (h0 : 0 ≤ j) (h1 : j < 300) : zpl S 71 100 j := zP_g (zS_71 h) rfl h0 h1
theorem zN_71 {S : ZS} (h : zSh S) : 71 < S.2.1 ∧ 100 ≤ (S.1 71).1 := zN_g (zS_71 h) rfl
theorem zV_71 {S : ZS} (h : zSh S) : ((S.1 71).2 : Int) = 300 := zV_g (zS_71 h)
theorem zS_72 {S : ZS} (h : zSh S) : S.1 72 = (7, 3) ∧ 72 < S.2.1 := zS_g h (xfS_at 37 rfl) rfl rfl
theorem zA_72 {S : ZS} (h : zSh S) : xat S 72 7 := zA_g (zS_72 h) rfl
theorem zS_73 {S : ZS} (h : zSh S) : S.1 73 = (100, 360) ∧ 73 < S.2.1 := zS_g h (xfS_at 38 rfl) rfl rfl
theorem zP_73 {S : ZS} (h : zSh S) {j : Int} (h0 : 0 ≤ j) (h1 : j < 360) : zpl S 73 100 j := zP_g (zS_73 h) rfl h0 h1
theorem zN_73 {S : ZS} (h : zSh S) : 73 < S.2.1 ∧ 100 ≤ (S.1 73).1 := zN_g (zS_73 h) rfl
theorem zV_73 {S : ZS} (h : zSh S) : ((S.1 73).2 : Int) = 360 := zV_g (zS_73 h)
theorem zS_74 {S : ZS} (h : zSh S) : S.1 74 = (7, 3) ∧ 74 < S.2.1 := zS_g h (xfS_at 39 rfl) rfl rfl
theorem zA_74 {S : ZS} (h : zSh S) : xat S 74 7 := zA_g (zS_74 h) rfl
theorem zS_75 {S : ZS} (h : zSh S) : S.1 75 = (100, 180) ∧ 75 < S.2.1 := zS_g h (xfS_at 40 rfl) rfl rfl
theorem zP_75 {S : ZS} (h : zSh S) {j : Int} (h0 : 0 ≤ j) (h1 : j < 180) : zpl S 75 100 j := zP_g (zS_75 h) rfl h0 h1
theorem zN_75 {S : ZS} (h : zSh S) : 75 < S.2.1 ∧ 100 ≤ (S.1 75).1 := zN_g (zS_75 h) rfl
theorem zV_75 {S : ZS} (h : zSh S) : ((S.1 75).2 : Int) = 180 := zV_g (zS_75 h)
theorem zS_76 {S : ZS} (h : zSh S) : S.1 76 = (7, 3) ∧ 76 < S.2.1 := zS_g h (xfS_at 41 rfl) rfl rfl
theorem zA_76 {S : ZS} (h : zSh S) : xat S 76 7 := zA_g (zS_76 h) rfl
theorem zS_77 {S : ZS} (h : zSh S) : S.1 77 = (100, 360) ∧ 77 < S.2.1 := zS_g h (xfS_at 42 rfl) rfl rfl
theorem zP_77 {S : ZS} (h : zSh S) {j : Int} (h0 : 0 ≤ j) (h1 : j < 360) : zpl S 77 100 j := zP_g (zS_77 h) rfl h0 h1
theorem zN_77 {S : ZS} (h : zSh S) : 77 < S.2.1 ∧ 100 ≤ (S.1 77).1 := zN_g (zS_77 h) rfl
theorem zV_77 {S : ZS} (h : zSh S) : ((S.1 77).2 : Int) = 360 := zV_g (zS_77 h)
theorem zS_78 {S : ZS} (h : zSh S) : S.1 78 = (100, 19520) ∧ 78 < S.2.1 := zS_g h (xfS_at 43 rfl) rfl rfl
theorem zP_78 {S : ZS} (h : zSh S) {j : Int} (h0 : 0 ≤ j) (h1 : j < 19520) : zpl S 78 100 j := zP_g (zS_78 h) rfl h0 h1
theorem zN_78 {S : ZS} (h : zSh S) : 78 < S.2.1 ∧ 100 ≤ (S.1 78).1 := zN_g (zS_78 h) rfl
theorem zV_78 {S : ZS} (h : zSh S) : ((S.1 78).2 : Int) = 19520 := zV_g (zS_78 h)
theorem zS_79 {S : ZS} (h : zSh S) : S.1 79 = (100, 960) ∧ 79 < S.2.1 := zS_g h (xfS_at 44 rfl) rfl rfl
theorem zP_79 {S : ZS} (h : zSh S) {j : Int} (h0 : 0 ≤ j) (h1 : j < 960) : zpl S 79 100 j := zP_g (zS_79 h) rfl h0 h1
theorem zN_79 {S : ZS} (h : zSh S) : 79 < S.2.1 ∧ 100 ≤ (S.1 79).1 := zN_g (zS_79 h) rfl
theorem zV_79 {S : ZS} (h : zSh S) : ((S.1 79).2 : Int) = 960 := zV_g (zS_79 h)
theorem zS_80 {S : ZS} (h : zSh S) : S.1 80 = (100, 960) ∧ 80 < S.2.1 := zS_g h (xfS_at 45 rfl) rfl rfl
theorem zP_80 {S : ZS} (h : zSh S) {j : Int} (h0 : 0 ≤ j) (h1 : j < 960) : zpl S 80 100 j := zP_g (zS_80 h) rfl h0 h1
theorem zN_80 {S : ZS} (h : zSh S) : 80 < S.2.1 ∧ 100 ≤ (S.1 80).1 := zN_g (zS_80 h) rfl
theorem zV_80 {S : ZS} (h : zSh S) : ((S.1 80).2 : Int) = 960 := zV_g (zS_80 h)
theorem zS_81 {S : ZS} (h : zSh S) : S.1 81 = (100, 1020) ∧ 81 < S.2.1 := zS_g h (xfS_at 46 rfl) rfl rfl
theorem zP_81 {S : ZS} (h : zSh S) {j : Int} (h0 : 0 ≤ j) (h1 : j < 1020) : zpl S 81 100 j := zP_g (zS_81 h) rfl h0 h1
theorem zN_81 {S : ZS} (h : zSh S) : 81 < S.2.1 ∧ 100 ≤ (S.1 81).1 := zN_g (zS_81 h) rfl
theorem zV_81 {S : ZS} (h : zSh S) : ((S.1 81).2 : Int) = 1020 := zV_g (zS_81 h)
theorem zS_82 {S : ZS} (h : zSh S) : S.1 82 = (0, 18) ∧ 82 < S.2.1 := zS_g h (xfS_at 47 rfl) rfl rfl
theorem zA_82 {S : ZS} (h : zSh S) : xat S 82 0 := zA_g (zS_82 h) rfl
theorem zS_83 {S : ZS} (h : zSh S) : S.1 83 = (100, 6144) ∧ 83 < S.2.1 := zS_g h (xfS_at 48 rfl) rfl rfl
theorem zP_83 {S : ZS} (h : zSh S) {j : Int} (h0 : 0 ≤ j) (h1 : j < 6144) : zpl S 83 100 j := zP_g (zS_83 h) rfl h0 h1
theorem zN_83 {S : ZS} (h : zSh S) : 83 < S.2.1 ∧ 100 ≤ (S.1 83).1 := zN_g (zS_83 h) rfl
theorem zV_83 {S : ZS} (h : zSh S) : ((S.1 83).2 : Int) = 6144 := zV_g (zS_83 h)
theorem zS_84 {S : ZS} (h : zSh S) : S.1 84 = (103, 1024) ∧ 84 < S.2.1 := zS_g h (xfS_at 49 rfl) rfl rfl
theorem zP_84 {S : ZS} (h : zSh S) {j : Int} (h0 : 0 ≤ j) (h1 : j < 1024) : zpl S 84 103 j := zP_g (zS_84 h) rfl h0 h1
theorem zN_84 {S : ZS} (h : zSh S) : 84 < S.2.1 ∧ 100 ≤ (S.1 84).1 := zN_g (zS_84 h) rfl
theorem zV_84 {S : ZS} (h : zSh S) : ((S.1 84).2 : Int) = 1024 := zV_g (zS_84 h)
theorem zS_85 {S : ZS} (h : zSh S) : S.1 85 = (100, 1024) ∧ 85 < S.2.1 := zS_g h (xfS_at 50 rfl) rfl rfl
theorem zP_85 {S : ZS} (h : zSh S) {j : Int} (h0 : 0 ≤ j) (h1 : j < 1024) : zpl S 85 100 j := zP_g (zS_85 h) rfl h0 h1
theorem zN_85 {S : ZS} (h : zSh S) : 85 < S.2.1 ∧ 100 ≤ (S.1 85).1 := zN_g (zS_85 h) rfl
theorem zV_85 {S : ZS} (h : zSh S) : ((S.1 85).2 : Int) = 1024 := zV_g (zS_85 h)
theorem zS_86 {S : ZS} (h : zSh S) : S.1 86 = (100, 1024) ∧ 86 < S.2.1 := zS_g h (xfS_at 51 rfl) rfl rfl
theorem zP_86 {S : ZS} (h : zSh S) {j : Int} (h0 : 0 ≤ j) (h1 : j < 1024) : zpl S 86 100 j := zP_g (zS_86 h) rfl h0 h1
theorem zN_86 {S : ZS} (h : zSh S) : 86 < S.2.1 ∧ 100 ≤ (S.1 86).1 := zN_g (zS_86 h) rfl
theorem zV_86 {S : ZS} (h : zSh S) : ((S.1 86).2 : Int) = 1024 := zV_g (zS_86 h)
theorem zS_87 {S : ZS} (h : zSh S) : S.1 87 = (100, 1024) ∧ 87 < S.2.1 := zS_g h (xfS_at 52 rfl) rfl rfl
theorem zP_87 {S : ZS} (h : zSh S) {j : Int} (h0 : 0 ≤ j) (h1 : j < 1024) : zpl S 87 100 j := zP_g (zS_87 h) rfl h0 h1
theorem zN_87 {S : ZS} (h : zSh S) : 87 < S.2.1 ∧ 100 ≤ (S.1 87).1 := zN_g (zS_87 h) rfl
theorem zV_87 {S : ZS} (h : zSh S) : ((S.1 87).2 : Int) = 1024 := zV_g (zS_87 h)
theorem zS_88 {S : ZS} (h : zSh S) : S.1 88 = (7, 3) ∧ 88 < S.2.1 := zS_g h (xfS_at 53 rfl) rfl rfl
theorem zA_88 {S : ZS} (h : zSh S) : xat S 88 7 := zA_g (zS_88 h) rfl
theorem zS_89 {S : ZS} (h : zSh S) : S.1 89 = (100, 240) ∧ 89 < S.2.1 := zS_g h (xfS_at 54 rfl) rfl rfl
theorem zP_89 {S : ZS} (h : zSh S) {j : Int} (h0 : 0 ≤ j) (h1 : j < 240) : zpl S 89 100 j := zP_g (zS_89 h) rfl h0 h1
theorem zN_89 {S : ZS} (h : zSh S) : 89 < S.2.1 ∧ 100 ≤ (S.1 89).1 := zN_g (zS_89 h) rfl
theorem zV_89 {S : ZS} (h : zSh S) : ((S.1 89).2 : Int) = 240 := zV_g (zS_89 h)
theorem zS_90 {S : ZS} (h : zSh S) : S.1 90 = (7, 3) ∧ 90 < S.2.1 := zS_g h (xfS_at 55 rfl) rfl rfl
theorem zA_90 {S : ZS} (h : zSh S) : xat S 90 7 := zA_g (zS_90 h) rfl
theorem zS_91 {S : ZS} (h : zSh S) : S.1 91 = (100, 72) ∧ 91 < S.2.1 := zS_g h (xfS_at 56 rfl) rfl rfl
theorem zP_91 {S : ZS} (h : zSh S) {j : Int} (h0 : 0 ≤ j) (h1 : j < 72) : zpl S 91 100 j := zP_g (zS_91 h) rfl h0 h1
theorem zN_91 {S : ZS} (h : zSh S) : 91 < S.2.1 ∧ 100 ≤ (S.1 91).1 := zN_g (zS_91 h) rfl
theorem zV_91 {S : ZS} (h : zSh S) : ((S.1 91).2 : Int) = 72 := zV_g (zS_91 h)
theorem zS_92 {S : ZS} (h : zSh S) : S.1 92 = (100, 12288) ∧ 92 < S.2.1 := zS_g h (xfS_at 57 rfl) rfl rfl
theorem zP_92 {S : ZS} (h : zSh S) {j : Int} (h0 : 0 ≤ j) (h1 : j < 12288) : zpl S 92 100 j := zP_g (zS_92 h) rfl h0 h1
theorem zN_92 {S : ZS} (h : zSh S) : 92 < S.2.1 ∧ 100 ≤ (S.1 92).1 := zN_g (zS_92 h) rfl
theorem zV_92 {S : ZS} (h : zSh S) : ((S.1 92).2 : Int) = 12288 := zV_g (zS_92 h)
theorem zS_93 {S : ZS} (h : zSh S) : S.1 93 = (100, 12) ∧ 93 < S.2.1 := zS_g h (xfS_at 58 rfl) rfl rfl
theorem zP_93 {S : ZS} (h : zSh S) {j : Int} (h0 : 0 ≤ j) (h1 : j < 12) : zpl S 93 100 j := zP_g (zS_93 h) rfl h0 h1
theorem zN_93 {S : ZS} (h : zSh S) : 93 < S.2.1 ∧ 100 ≤ (S.1 93).1 := zN_g (zS_93 h) rfl
theorem zV_93 {S : ZS} (h : zSh S) : ((S.1 93).2 : Int) = 12 := zV_g (zS_93 h)
theorem zS_94 {S : ZS} (h : zSh S) : S.1 94 = (100, 4) ∧ 94 < S.2.1 := zS_g h (xfS_at 59 rfl) rfl rfl
theorem zP_94 {S : ZS} (h : zSh S) {j : Int} (h0 : 0 ≤ j) (h1 : j < 4) : zpl S 94 100 j := zP_g (zS_94 h) rfl h0 h1
theorem zN_94 {S : ZS} (h : zSh S) : 94 < S.2.1 ∧ 100 ≤ (S.1 94).1 := zN_g (zS_94 h) rfl
theorem zV_94 {S : ZS} (h : zSh S) : ((S.1 94).2 : Int) = 4 := zV_g (zS_94 h)
theorem zS_95 {S : ZS} (h : zSh S) : S.1 95 = (100, 4) ∧ 95 < S.2.1 := zS_g h (xfS_at 60 rfl) rfl rfl
theorem zP_95 {S : ZS} (h : zSh S) {j : Int} (h0 : 0 ≤ j) (h1 : j < 4) : zpl S 95 100 j := zP_g (zS_95 h) rfl h0 h1
theorem zN_95 {S : ZS} (h : zSh S) : 95 < S.2.1 ∧ 100 ≤ (S.1 95).1 := zN_g (zS_95 h) rfl
theorem zV_95 {S : ZS} (h : zSh S) : ((S.1 95).2 : Int) = 4 := zV_g (zS_95 h)
theorem zS_96 {S : ZS} (h : zSh S) : S.1 96 = (100, 4) ∧ 96 < S.2.1 := zS_g h (xfS_at 61 rfl) rfl rfl
theorem zP_96 {S : ZS} (h : zSh S) {j : Int} (h0 : 0 ≤ j) (h1 : j < 4) : zpl S 96 100 j := zP_g (zS_96 h) rfl h0 h1
theorem zN_96 {S : ZS} (h : zSh S) : 96 < S.2.1 ∧ 100 ≤ (S.1 96).1 := zN_g (zS_96 h) rfl
theorem zV_96 {S : ZS} (h : zSh S) : ((S.1 96).2 : Int) = 4 := zV_g (zS_96 h)
theorem zS_97 {S : ZS} (h : zSh S) : S.1 97 = (100, 960) ∧ 97 < S.2.1 := zS_g h (xfS_at 62 rfl) rfl rfl
theorem zP_97 {S : ZS} (h : zSh S) {j : Int} (h0 : 0 ≤ j) (h1 : j < 960) : zpl S 97 100 j := zP_g (zS_97 h) rfl h0 h1
theorem zN_97 {S : ZS} (h : zSh S) : 97 < S.2.1 ∧ 100 ≤ (S.1 97).1 := zN_g (zS_97 h) rfl
theorem zV_97 {S : ZS} (h : zSh S) : ((S.1 97).2 : Int) = 960 := zV_g (zS_97 h)
theorem zS_98 {S : ZS} (h : zSh S) : S.1 98 = (6, 7) ∧ 98 < S.2.1 := zS_g h (xfS_at 63 rfl) rfl rfl
theorem zA_98 {S : ZS} (h : zSh S) : xat S 98 6 := zA_g (zS_98 h) rfl
theorem zS_99 {S : ZS} (h : zSh S) : S.1 99 = (100, 1024) ∧ 99 < S.2.1 := zS_g h (xfS_at 64 rfl) rfl rfl
theorem zP_99 {S : ZS} (h : zSh S) {j : Int} (h0 : 0 ≤ j) (h1 : j < 1024) : zpl S 99 100 j := zP_g (zS_99 h) rfl h0 h1
theorem zN_99 {S : ZS} (h : zSh S) : 99 < S.2.1 ∧ 100 ≤ (S.1 99).1 := zN_g (zS_99 h) rfl
theorem zV_99 {S : ZS} (h : zSh S) : ((S.1 99).2 : Int) = 1024 := zV_g (zS_99 h)
theorem zS_100 {S : ZS} (h : zSh S) : S.1 100 = (100, 1024) ∧ 100 < S.2.1 := zS_g h (xfS_at 65 rfl) rfl rfl
theorem zP_100 {S : ZS} (h : zSh S) {j : Int} (h0 : 0 ≤ j) (h1 : j < 1024) : zpl S 100 100 j := zP_g (zS_100 h) rfl h0 h1
theorem zN_100 {S : ZS} (h : zSh S) : 100 < S.2.1 ∧ 100 ≤ (S.1 100).1 := zN_g (zS_100 h) rfl
theorem zV_100 {S : ZS} (h : zSh S) : ((S.1 100).2 : Int) = 1024 := zV_g (zS_100 h)
theorem zS_101 {S : ZS} (h : zSh S) : S.1 101 = (103, 1024) ∧ 101 < S.2.1 := zS_g h (xfS_at 66 rfl) rfl rfl
theorem zP_101 {S : ZS} (h : zSh S) {j : Int} (h0 : 0 ≤ j) (h1 : j < 1024) : zpl S 101 103 j := zP_g (zS_101 h) rfl h0 h1
theorem zN_101 {S : ZS} (h : zSh S) : 101 < S.2.1 ∧ 100 ≤ (S.1 101).1 := zN_g (zS_101 h) rfl
theorem zV_101 {S : ZS} (h : zSh S) : ((S.1 101).2 : Int) = 1024 := zV_g (zS_101 h)
theorem zS_102 {S : ZS} (h : zSh S) : S.1 102 = (101, 7168) ∧ 102 < S.2.1 := zS_g h (xfS_at 67 rfl) rfl rfl
theorem zP_102 {S : ZS} (h : zSh S) {j : Int} (h0 : 0 ≤ j) (h1 : j < 7168) : zpl S 102 101 j := zP_g (zS_102 h) rfl h0 h1
theorem zN_102 {S : ZS} (h : zSh S) : 102 < S.2.1 ∧ 100 ≤ (S.1 102).1 := zN_g (zS_102 h) rfl
theorem zV_102 {S : ZS} (h : zSh S) : ((S.1 102).2 : Int) = 7168 := zV_g (zS_102 h)
theorem zS_103 {S : ZS} (h : zSh S) : S.1 103 = (100, 12) ∧ 103 < S.2.1 := zS_g h (xfS_at 68 rfl) rfl rfl
theorem zP_103 {S : ZS} (h : zSh S) {j : Int} (h0 : 0 ≤ j) (h1 : j < 12) : zpl S 103 100 j := zP_g (zS_103 h) rfl h0 h1
theorem zN_103 {S : ZS} (h : zSh S) : 103 < S.2.1 ∧ 100 ≤ (S.1 103).1 := zN_g (zS_103 h) rfl
theorem zV_103 {S : ZS} (h : zSh S) : ((S.1 103).2 : Int) = 12 := zV_g (zS_103 h)
theorem zS_104 {S : ZS} (h : zSh S) : S.1 104 = (7, 3) ∧ 104 < S.2.1 := zS_g h (xfS_at 69 rfl) rfl rfl
theorem zA_104 {S : ZS} (h : zSh S) : xat S 104 7 := zA_g (zS_104 h) rfl
theorem zS_105 {S : ZS} (h : zSh S) : S.1 105 = (100, 180) ∧ 105 < S.2.1 := zS_g h (xfS_at 70 rfl) rfl rfl
theorem zP_105 {S : ZS} (h : zSh S) {j : Int} (h0 : 0 ≤ j) (h1 : j < 180) : zpl S 105 100 j := zP_g (zS_105 h) rfl h0 h1
theorem zN_105 {S : ZS} (h : zSh S) : 105 < S.2.1 ∧ 100 ≤ (S.1 105).1 := zN_g (zS_105 h) rfl
theorem zV_105 {S : ZS} (h : zSh S) : ((S.1 105).2 : Int) = 180 := zV_g (zS_105 h)
theorem zS_106 {S : ZS} (h : zSh S) : S.1 106 = (1, 19) ∧ 106 < S.2.1 := zS_g h (xfS_at 71 rfl) rfl rfl
theorem zA_106 {S : ZS} (h : zSh S) : xat S 106 1 := zA_g (zS_106 h) rfl
theorem zS_107 {S : ZS} (h : zSh S) : S.1 107 = (7, 3) ∧ 107 < S.2.1 := zS_g h (xfS_at 72 rfl) rfl rfl
theorem zA_107 {S : ZS} (h : zSh S) : xat S 107 7 := zA_g (zS_107 h) rfl
theorem zS_108 {S : ZS} (h : zSh S) : S.1 108 = (100, 360) ∧ 108 < S.2.1 := zS_g h (xfS_at 73 rfl) rfl rfl
theorem zP_108 {S : ZS} (h : zSh S) {j : Int} (h0 : 0 ≤ j) (h1 : j < 360) : zpl S 108 100 j := zP_g (zS_108 h) rfl h0 h1
theorem zN_108 {S : ZS} (h : zSh S) : 108 < S.2.1 ∧ 100 ≤ (S.1 108).1 := zN_g (zS_108 h) rfl
theorem zV_108 {S : ZS} (h : zSh S) : ((S.1 108).2 : Int) = 360 := zV_g (zS_108 h)
theorem zS_109 {S : ZS} (h : zSh S) : S.1 109 = (100, 60) ∧ 109 < S.2.1 := zS_g h (xfS_at 74 rfl) rfl rfl
theorem zP_109 {S : ZS} (h : zSh S) {j : Int} (h0 : 0 ≤ j) (h1 : j < 60) : zpl S 109 100 j := zP_g (zS_109 h) rfl h0 h1
theorem zN_109 {S : ZS} (h : zSh S) : 109 < S.2.1 ∧ 100 ≤ (S.1 109).1 := zN_g (zS_109 h) rfl
theorem zV_109 {S : ZS} (h : zSh S) : ((S.1 109).2 : Int) = 60 := zV_g (zS_109 h)
theorem zS_110 {S : ZS} (h : zSh S) : S.1 110 = (100, 60) ∧ 110 < S.2.1 := zS_g h (xfS_at 75 rfl) rfl rfl
theorem zP_110 {S : ZS} (h : zSh S) {j : Int} (h0 : 0 ≤ j) (h1 : j < 60) : zpl S 110 100 j := zP_g (zS_110 h) rfl h0 h1
theorem zN_110 {S : ZS} (h : zSh S) : 110 < S.2.1 ∧ 100 ≤ (S.1 110).1 := zN_g (zS_110 h) rfl
theorem zV_110 {S : ZS} (h : zSh S) : ((S.1 110).2 : Int) = 60 := zV_g (zS_110 h)
theorem zS_111 {S : ZS} (h : zSh S) : S.1 111 = (7, 3) ∧ 111 < S.2.1 := zS_g h (xfS_at 76 rfl) rfl rfl
theorem zA_111 {S : ZS} (h : zSh S) : xat S 111 7 := zA_g (zS_111 h) rfl
theorem zS_112 {S : ZS} (h : zSh S) : S.1 112 = (100, 240) ∧ 112 < S.2.1 := zS_g h (xfS_at 77 rfl) rfl rfl
theorem zP_112 {S : ZS} (h : zSh S) {j : Int} (h0 : 0 ≤ j) (h1 : j < 240) : zpl S 112 100 j := zP_g (zS_112 h) rfl h0 h1
theorem zN_112 {S : ZS} (h : zSh S) : 112 < S.2.1 ∧ 100 ≤ (S.1 112).1 := zN_g (zS_112 h) rfl
theorem zV_112 {S : ZS} (h : zSh S) : ((S.1 112).2 : Int) = 240 := zV_g (zS_112 h)
theorem zS_113 {S : ZS} (h : zSh S) : S.1 113 = (100, 1950) ∧ 113 < S.2.1 := zS_g h (xfS_at 78 rfl) rfl rfl
theorem zP_113 {S : ZS} (h : zSh S) {j : Int} (h0 : 0 ≤ j) (h1 : j < 1950) : zpl S 113 100 j := zP_g (zS_113 h) rfl h0 h1
theorem zN_113 {S : ZS} (h : zSh S) : 113 < S.2.1 ∧ 100 ≤ (S.1 113).1 := zN_g (zS_113 h) rfl
theorem zV_113 {S : ZS} (h : zSh S) : ((S.1 113).2 : Int) = 1950 := zV_g (zS_113 h)
theorem zS_114 {S : ZS} (h : zSh S) : S.1 114 = (100, 60) ∧ 114 < S.2.1 := zS_g h (xfS_at 79 rfl) rfl rfl
theorem zP_114 {S : ZS} (h : zSh S) {j : Int} (h0 : 0 ≤ j) (h1 : j < 60) : zpl S 114 100 j := zP_g (zS_114 h) rfl h0 h1
theorem zN_114 {S : ZS} (h : zSh S) : 114 < S.2.1 ∧ 100 ≤ (S.1 114).1 := zN_g (zS_114 h) rfl
theorem zV_114 {S : ZS} (h : zSh S) : ((S.1 114).2 : Int) = 60 := zV_g (zS_114 h)
theorem zS_115 {S : ZS} (h : zSh S) : S.1 115 = (100, 60) ∧ 115 < S.2.1 := zS_g h (xfS_at 80 rfl) rfl rfl
theorem zP_115 {S : ZS} (h : zSh S) {j : Int} (h0 : 0 ≤ j) (h1 : j < 60) : zpl S 115 100 j := zP_g (zS_115 h) rfl h0 h1
theorem zN_115 {S : ZS} (h : zSh S) : 115 < S.2.1 ∧ 100 ≤ (S.1 115).1 := zN_g (zS_115 h) rfl
theorem zV_115 {S : ZS} (h : zSh S) : ((S.1 115).2 : Int) = 60 := zV_g (zS_115 h)
theorem zS_116 {S : ZS} (h : zSh S) : S.1 116 = (100, 2048) ∧ 116 < S.2.1 := zS_g h (xfS_at 81 rfl) rfl rfl
theorem zP_116 {S : ZS} (h : zSh S) {j : Int} (h0 : 0 ≤ j) (h1 : j < 2048) : zpl S 116 100 j := zP_g (zS_116 h) rfl h0 h1
theorem zN_116 {S : ZS} (h : zSh S) : 116 < S.2.1 ∧ 100 ≤ (S.1 116).1 := zN_g (zS_116 h) rfl
theorem zV_116 {S : ZS} (h : zSh S) : ((S.1 116).2 : Int) = 2048 := zV_g (zS_116 h)
theorem zS_117 {S : ZS} (h : zSh S) : S.1 117 = (104, 800) ∧ 117 < S.2.1 := zS_g h (xfS_at 82 rfl) rfl rfl
theorem zP_117 {S : ZS} (h : zSh S) {j : Int} (h0 : 0 ≤ j) (h1 : j < 800) : zpl S 117 104 j := zP_g (zS_117 h) rfl h0 h1
theorem zN_117 {S : ZS} (h : zSh S) : 117 < S.2.1 ∧ 100 ≤ (S.1 117).1 := zN_g (zS_117 h) rfl
theorem zV_117 {S : ZS} (h : zSh S) : ((S.1 117).2 : Int) = 800 := zV_g (zS_117 h)
theorem zS_118 {S : ZS} (h : zSh S) : S.1 118 = (1, 19) ∧ 118 < S.2.1 := zS_g h (xfS_at 83 rfl) rfl rfl
theorem zA_118 {S : ZS} (h : zSh S) : xat S 118 1 := zA_g (zS_118 h) rfl
theorem zS_119 {S : ZS} (h : zSh S) : S.1 119 = (7, 3) ∧ 119 < S.2.1 := zS_g h (xfS_at 84 rfl) rfl rfl
theorem zA_119 {S : ZS} (h : zSh S) : xat S 119 7 := zA_g (zS_119 h) rfl
theorem zS_120 {S : ZS} (h : zSh S) : S.1 120 = (100, 360) ∧ 120 < S.2.1 := zS_g h (xfS_at 85 rfl) rfl rfl
theorem zP_120 {S : ZS} (h : zSh S) {j : Int} (h0 : 0 ≤ j) (h1 : j < 360) : zpl S 120 100 j := zP_g (zS_120 h) rfl h0 h1
theorem zN_120 {S : ZS} (h : zSh S) : 120 < S.2.1 ∧ 100 ≤ (S.1 120).1 := zN_g (zS_120 h) rfl
theorem zV_120 {S : ZS} (h : zSh S) : ((S.1 120).2 : Int) = 360 := zV_g (zS_120 h)
theorem zS_121 {S : ZS} (h : zSh S) : S.1 121 = (100, 60) ∧ 121 < S.2.1 := zS_g h (xfS_at 86 rfl) rfl rfl
theorem zP_121 {S : ZS} (h : zSh S) {j : Int} (h0 : 0 ≤ j) (h1 : j < 60) : zpl S 121 100 j := zP_g (zS_121 h) rfl h0 h1
theorem zN_121 {S : ZS} (h : zSh S) : 121 < S.2.1 ∧ 100 ≤ (S.1 121).1 := zN_g (zS_121 h) rfl
theorem zV_121 {S : ZS} (h : zSh S) : ((S.1 121).2 : Int) = 60 := zV_g (zS_121 h)
theorem zS_122 {S : ZS} (h : zSh S) : S.1 122 = (100, 60) ∧ 122 < S.2.1 := zS_g h (xfS_at 87 rfl) rfl rfl
theorem zP_122 {S : ZS} (h : zSh S) {j : Int} (h0 : 0 ≤ j) (h1 : j < 60) : zpl S 122 100 j := zP_g (zS_122 h) rfl h0 h1
theorem zN_122 {S : ZS} (h : zSh S) : 122 < S.2.1 ∧ 100 ≤ (S.1 122).1 := zN_g (zS_122 h) rfl
theorem zV_122 {S : ZS} (h : zSh S) : ((S.1 122).2 : Int) = 60 := zV_g (zS_122 h)
theorem zS_123 {S : ZS} (h : zSh S) : S.1 123 = (7, 3) ∧ 123 < S.2.1 := zS_g h (xfS_at 88 rfl) rfl rfl
theorem zA_123 {S : ZS} (h : zSh S) : xat S 123 7 := zA_g (zS_123 h) rfl
theorem zS_124 {S : ZS} (h : zSh S) : S.1 124 = (100, 240) ∧ 124 < S.2.1 := zS_g h (xfS_at 89 rfl) rfl rfl
theorem zP_124 {S : ZS} (h : zSh S) {j : Int} (h0 : 0 ≤ j) (h1 : j < 240) : zpl S 124 100 j := zP_g (zS_124 h) rfl h0 h1
theorem zN_124 {S : ZS} (h : zSh S) : 124 < S.2.1 ∧ 100 ≤ (S.1 124).1 := zN_g (zS_124 h) rfl
theorem zV_124 {S : ZS} (h : zSh S) : ((S.1 124).2 : Int) = 240 := zV_g (zS_124 h)
theorem zS_125 {S : ZS} (h : zSh S) : S.1 125 = (100, 1950) ∧ 125 < S.2.1 := zS_g h (xfS_at 90 rfl) rfl rfl
theorem zP_125 {S : ZS} (h : zSh S) {j : Int} (h0 : 0 ≤ j) (h1 : j < 1950) : zpl S 125 100 j := zP_g (zS_125 h) rfl h0 h1
theorem zN_125 {S : ZS} (h : zSh S) : 125 < S.2.1 ∧ 100 ≤ (S.1 125).1 := zN_g (zS_125 h) rfl
theorem zV_125 {S : ZS} (h : zSh S) : ((S.1 125).2 : Int) = 1950 := zV_g (zS_125 h)
theorem zS_126 {S : ZS} (h : zSh S) : S.1 126 = (100, 60) ∧ 126 < S.2.1 := zS_g h (xfS_at 91 rfl) rfl rfl
theorem zP_126 {S : ZS} (h : zSh S) {j : Int} (h0 : 0 ≤ j) (h1 : j < 60) : zpl S 126 100 j := zP_g (zS_126 h) rfl h0 h1
theorem zN_126 {S : ZS} (h : zSh S) : 126 < S.2.1 ∧ 100 ≤ (S.1 126).1 := zN_g (zS_126 h) rfl
theorem zV_126 {S : ZS} (h : zSh S) : ((S.1 126).2 : Int) = 60 := zV_g (zS_126 h)
theorem zS_127 {S : ZS} (h : zSh S) : S.1 127 = (100, 60) ∧ 127 < S.2.1 := zS_g h (xfS_at 92 rfl) rfl rfl
theorem zP_127 {S : ZS} (h : zSh S) {j : Int} (h0 : 0 ≤ j) (h1 : j < 60) : zpl S 127 100 j := zP_g (zS_127 h) rfl h0 h1
theorem zN_127 {S : ZS} (h : zSh S) : 127 < S.2.1 ∧ 100 ≤ (S.1 127).1 := zN_g (zS_127 h) rfl
theorem zV_127 {S : ZS} (h : zSh S) : ((S.1 127).2 : Int) = 60 := zV_g (zS_127 h)
theorem zS_128 {S : ZS} (h : zSh S) : S.1 128 = (100, 2048) ∧ 128 < S.2.1 := zS_g h (xfS_at 93 rfl) rfl rfl
theorem zP_128 {S : ZS} (h : zSh S) {j : Int} (h0 : 0 ≤ j) (h1 : j < 2048) : zpl S 128 100 j := zP_g (zS_128 h) rfl h0 h1
theorem zN_128 {S : ZS} (h : zSh S) : 128 < S.2.1 ∧ 100 ≤ (S.1 128).1 := zN_g (zS_128 h) rfl
theorem zV_128 {S : ZS} (h : zSh S) : ((S.1 128).2 : Int) = 2048 := zV_g (zS_128 h)
theorem zS_129 {S : ZS} (h : zSh S) : S.1 129 = (104, 800) ∧ 129 < S.2.1 := zS_g h (xfS_at 94 rfl) rfl rfl
theorem zP_129 {S : ZS} (h : zSh S) {j : Int} (h0 : 0 ≤ j) (h1 : j < 800) : zpl S 129 104 j := zP_g (zS_129 h) rfl h0 h1
theorem zN_129 {S : ZS} (h : zSh S) : 129 < S.2.1 ∧ 100 ≤ (S.1 129).1 := zN_g (zS_129 h) rfl
theorem zV_129 {S : ZS} (h : zSh S) : ((S.1 129).2 : Int) = 800 := zV_g (zS_129 h)
theorem zS_130 {S : ZS} (h : zSh S) : S.1 130 = (8, 7) ∧ 130 < S.2.1 := zS_g h (xfS_at 95 rfl) rfl rfl
theorem zA_130 {S : ZS} (h : zSh S) : xat S 130 8 := zA_g (zS_130 h) rfl
theorem zS_131 {S : ZS} (h : zSh S) : S.1 131 = (104, 400) ∧ 131 < S.2.1 := zS_g h (xfS_at 96 rfl) rfl rfl
theorem zP_131 {S : ZS} (h : zSh S) {j : Int} (h0 : 0 ≤ j) (h1 : j < 400) : zpl S 131 104 j := zP_g (zS_131 h) rfl h0 h1
theorem zN_131 {S : ZS} (h : zSh S) : 131 < S.2.1 ∧ 100 ≤ (S.1 131).1 := zN_g (zS_131 h) rfl
theorem zV_131 {S : ZS} (h : zSh S) : ((S.1 131).2 : Int) = 400 := zV_g (zS_131 h)
theorem zS_132 {S : ZS} (h : zSh S) : S.1 132 = (100, 400) ∧ 132 < S.2.1 := zS_g h (xfS_at 97 rfl) rfl rfl
theorem zP_132 {S : ZS} (h : zSh S) {j : Int} (h0 : 0 ≤ j) (h1 : j < 400) : zpl S 132 100 j := zP_g (zS_132 h) rfl h0 h1
theorem zN_132 {S : ZS} (h : zSh S) : 132 < S.2.1 ∧ 100 ≤ (S.1 132).1 := zN_g (zS_132 h) rfl
theorem zV_132 {S : ZS} (h : zSh S) : ((S.1 132).2 : Int) = 400 := zV_g (zS_132 h)
theorem zS_133 {S : ZS} (h : zSh S) : S.1 133 = (100, 26) ∧ 133 < S.2.1 := zS_g h (xfS_at 98 rfl) rfl rfl
theorem zP_133 {S : ZS} (h : zSh S) {j : Int} (h0 : 0 ≤ j) (h1 : j < 26) : zpl S 133 100 j := zP_g (zS_133 h) rfl h0 h1
theorem zN_133 {S : ZS} (h : zSh S) : 133 < S.2.1 ∧ 100 ≤ (S.1 133).1 := zN_g (zS_133 h) rfl
theorem zV_133 {S : ZS} (h : zSh S) : ((S.1 133).2 : Int) = 26 := zV_g (zS_133 h)
theorem zS_134 {S : ZS} (h : zSh S) : S.1 134 = (8, 7) ∧ 134 < S.2.1 := zS_g h (xfS_at 99 rfl) rfl rfl
theorem zA_134 {S : ZS} (h : zSh S) : xat S 134 8 := zA_g (zS_134 h) rfl
theorem zS_135 {S : ZS} (h : zSh S) : S.1 135 = (104, 400) ∧ 135 < S.2.1 := zS_g h (xfS_at 100 rfl) rfl rfl
theorem zP_135 {S : ZS} (h : zSh S) {j : Int} (h0 : 0 ≤ j) (h1 : j < 400) : zpl S 135 104 j := zP_g (zS_135 h) rfl h0 h1
theorem zN_135 {S : ZS} (h : zSh S) : 135 < S.2.1 ∧ 100 ≤ (S.1 135).1 := zN_g (zS_135 h) rfl
theorem zV_135 {S : ZS} (h : zSh S) : ((S.1 135).2 : Int) = 400 := zV_g (zS_135 h)
theorem zS_136 {S : ZS} (h : zSh S) : S.1 136 = (100, 400) ∧ 136 < S.2.1 := zS_g h (xfS_at 101 rfl) rfl rfl
theorem zP_136 {S : ZS} (h : zSh S) {j : Int} (h0 : 0 ≤ j) (h1 : j < 400) : zpl S 136 100 j := zP_g (zS_136 h) rfl h0 h1
theorem zN_136 {S : ZS} (h : zSh S) : 136 < S.2.1 ∧ 100 ≤ (S.1 136).1 := zN_g (zS_136 h) rfl
theorem zV_136 {S : ZS} (h : zSh S) : ((S.1 136).2 : Int) = 400 := zV_g (zS_136 h)
theorem zS_137 {S : ZS} (h : zSh S) : S.1 137 = (100, 26) ∧ 137 < S.2.1 := zS_g h (xfS_at 102 rfl) rfl rfl
theorem zP_137 {S : ZS} (h : zSh S) {j : Int} (h0 : 0 ≤ j) (h1 : j < 26) : zpl S 137 100 j := zP_g (zS_137 h) rfl h0 h1
theorem zN_137 {S : ZS} (h : zSh S) : 137 < S.2.1 ∧ 100 ≤ (S.1 137).1 := zN_g (zS_137 h) rfl
theorem zV_137 {S : ZS} (h : zSh S) : ((S.1 137).2 : Int) = 26 := zV_g (zS_137 h)
theorem zS_138 {S : ZS} (h : zSh S) : S.1 138 = (4, 18) ∧ 138 < S.2.1 := zS_g h (xfS_at 103 rfl) rfl rfl
theorem zA_138 {S : ZS} (h : zSh S) : xat S 138 4 := zA_g (zS_138 h) rfl
theorem zS_139 {S : ZS} (h : zSh S) : S.1 139 = (101, 26) ∧ 139 < S.2.1 := zS_g h (xfS_at 104 rfl) rfl rfl
theorem zP_139 {S : ZS} (h : zSh S) {j : Int} (h0 : 0 ≤ j) (h1 : j < 26) : zpl S 139 101 j := zP_g (zS_139 h) rfl h0 h1
theorem zN_139 {S : ZS} (h : zSh S) : 139 < S.2.1 ∧ 100 ≤ (S.1 139).1 := zN_g (zS_139 h) rfl
theorem zV_139 {S : ZS} (h : zSh S) : ((S.1 139).2 : Int) = 26 := zV_g (zS_139 h)
theorem zS_140 {S : ZS} (h : zSh S) : S.1 140 = (101, 72) ∧ 140 < S.2.1 := zS_g h (xfS_at 105 rfl) rfl rfl
theorem zP_140 {S : ZS} (h : zSh S) {j : Int} (h0 : 0 ≤ j) (h1 : j < 72) : zpl S 140 101 j := zP_g (zS_140 h) rfl h0 h1
theorem zN_140 {S : ZS} (h : zSh S) : 140 < S.2.1 ∧ 100 ≤ (S.1 140).1 := zN_g (zS_140 h) rfl
theorem zV_140 {S : ZS} (h : zSh S) : ((S.1 140).2 : Int) = 72 := zV_g (zS_140 h)
theorem zS_141 {S : ZS} (h : zSh S) : S.1 141 = (101, 720) ∧ 141 < S.2.1 := zS_g h (xfS_at 106 rfl) rfl rfl
theorem zP_141 {S : ZS} (h : zSh S) {j : Int} (h0 : 0 ≤ j) (h1 : j < 720) : zpl S 141 101 j := zP_g (zS_141 h) rfl h0 h1
theorem zN_141 {S : ZS} (h : zSh S) : 141 < S.2.1 ∧ 100 ≤ (S.1 141).1 := zN_g (zS_141 h) rfl
theorem zV_141 {S : ZS} (h : zSh S) : ((S.1 141).2 : Int) = 720 := zV_g (zS_141 h)
theorem zS_142 {S : ZS} (h : zSh S) : S.1 142 = (101, 20) ∧ 142 < S.2.1 := zS_g h (xfS_at 107 rfl) rfl rfl
theorem zP_142 {S : ZS} (h : zSh S) {j : Int} (h0 : 0 ≤ j) (h1 : j < 20) : zpl S 142 101 j := zP_g (zS_142 h) rfl h0 h1
theorem zN_142 {S : ZS} (h : zSh S) : 142 < S.2.1 ∧ 100 ≤ (S.1 142).1 := zN_g (zS_142 h) rfl
theorem zV_142 {S : ZS} (h : zSh S) : ((S.1 142).2 : Int) = 20 := zV_g (zS_142 h)
theorem zS_143 {S : ZS} (h : zSh S) : S.1 143 = (101, 40) ∧ 143 < S.2.1 := zS_g h (xfS_at 108 rfl) rfl rfl
theorem zP_143 {S : ZS} (h : zSh S) {j : Int} (h0 : 0 ≤ j) (h1 : j < 40) : zpl S 143 101 j := zP_g (zS_143 h) rfl h0 h1
theorem zN_143 {S : ZS} (h : zSh S) : 143 < S.2.1 ∧ 100 ≤ (S.1 143).1 := zN_g (zS_143 h) rfl
theorem zV_143 {S : ZS} (h : zSh S) : ((S.1 143).2 : Int) = 40 := zV_g (zS_143 h)
theorem zS_144 {S : ZS} (h : zSh S) : S.1 144 = (100, 8) ∧ 144 < S.2.1 := zS_g h (xfS_at 109 rfl) rfl rfl
theorem zP_144 {S : ZS} (h : zSh S) {j : Int} (h0 : 0 ≤ j) (h1 : j < 8) : zpl S 144 100 j := zP_g (zS_144 h) rfl h0 h1
theorem zN_144 {S : ZS} (h : zSh S) : 144 < S.2.1 ∧ 100 ≤ (S.1 144).1 := zN_g (zS_144 h) rfl
theorem zV_144 {S : ZS} (h : zSh S) : ((S.1 144).2 : Int) = 8 := zV_g (zS_144 h)
theorem zS_145 {S : ZS} (h : zSh S) : S.1 145 = (10, 13) ∧ 145 < S.2.1 := zS_g h (xfS_at 110 rfl) rfl rfl
theorem zA_145 {S : ZS} (h : zSh S) : xat S 145 10 := zA_g (zS_145 h) rfl
theorem zS_146 {S : ZS} (h : zSh S) : S.1 146 = (100, 400) ∧ 146 < S.2.1 := zS_g h (xfS_at 111 rfl) rfl rfl
theorem zP_146 {S : ZS} (h : zSh S) {j : Int} (h0 : 0 ≤ j) (h1 : j < 400) : zpl S 146 100 j := zP_g (zS_146 h) rfl h0 h1
theorem zN_146 {S : ZS} (h : zSh S) : 146 < S.2.1 ∧ 100 ≤ (S.1 146).1 := zN_g (zS_146 h) rfl
theorem zV_146 {S : ZS} (h : zSh S) : ((S.1 146).2 : Int) = 400 := zV_g (zS_146 h)
theorem zS_147 {S : ZS} (h : zSh S) : S.1 147 = (100, 576) ∧ 147 < S.2.1 := zS_g h (xfS_at 112 rfl) rfl rfl
theorem zP_147 {S : ZS} (h : zSh S) {j : Int} (h0 : 0 ≤ j) (h1 : j < 576) : zpl S 147 100 j := zP_g (zS_147 h) rfl h0 h1
theorem zN_147 {S : ZS} (h : zSh S) : 147 < S.2.1 ∧ 100 ≤ (S.1 147).1 := zN_g (zS_147 h) rfl
theorem zV_147 {S : ZS} (h : zSh S) : ((S.1 147).2 : Int) = 576 := zV_g (zS_147 h)
theorem zS_148 {S : ZS} (h : zSh S) : S.1 148 = (100, 24) ∧ 148 < S.2.1 := zS_g h (xfS_at 113 rfl) rfl rfl
theorem zP_148 {S : ZS} (h : zSh S) {j : Int} (h0 : 0 ≤ j) (h1 : j < 24) : zpl S 148 100 j := zP_g (zS_148 h) rfl h0 h1
theorem zN_148 {S : ZS} (h : zSh S) : 148 < S.2.1 ∧ 100 ≤ (S.1 148).1 := zN_g (zS_148 h) rfl
theorem zV_148 {S : ZS} (h : zSh S) : ((S.1 148).2 : Int) = 24 := zV_g (zS_148 h)
theorem zS_149 {S : ZS} (h : zSh S) : S.1 149 = (103, 24) ∧ 149 < S.2.1 := zS_g h (xfS_at 114 rfl) rfl rfl
theorem zP_149 {S : ZS} (h : zSh S) {j : Int} (h0 : 0 ≤ j) (h1 : j < 24) : zpl S 149 103 j := zP_g (zS_149 h) rfl h0 h1
theorem zN_149 {S : ZS} (h : zSh S) : 149 < S.2.1 ∧ 100 ≤ (S.1 149).1 := zN_g (zS_149 h) rfl
theorem zV_149 {S : ZS} (h : zSh S) : ((S.1 149).2 : Int) = 24 := zV_g (zS_149 h)
theorem zS_150 {S : ZS} (h : zSh S) : S.1 150 = (100, 104) ∧ 150 < S.2.1 := zS_g h (xfS_at 115 rfl) rfl rfl
theorem zP_150 {S : ZS} (h : zSh S) {j : Int} (h0 : 0 ≤ j) (h1 : j < 104) : zpl S 150 100 j := zP_g (zS_150 h) rfl h0 h1
theorem zN_150 {S : ZS} (h : zSh S) : 150 < S.2.1 ∧ 100 ≤ (S.1 150).1 := zN_g (zS_150 h) rfl
theorem zV_150 {S : ZS} (h : zSh S) : ((S.1 150).2 : Int) = 104 := zV_g (zS_150 h)
theorem zS_151 {S : ZS} (h : zSh S) : S.1 151 = (100, 13) ∧ 151 < S.2.1 := zS_g h (xfS_at 116 rfl) rfl rfl
theorem zP_151 {S : ZS} (h : zSh S) {j : Int} (h0 : 0 ≤ j) (h1 : j < 13) : zpl S 151 100 j := zP_g (zS_151 h) rfl h0 h1
theorem zN_151 {S : ZS} (h : zSh S) : 151 < S.2.1 ∧ 100 ≤ (S.1 151).1 := zN_g (zS_151 h) rfl
theorem zV_151 {S : ZS} (h : zSh S) : ((S.1 151).2 : Int) = 13 := zV_g (zS_151 h)
theorem zS_152 {S : ZS} (h : zSh S) : S.1 152 = (103, 13) ∧ 152 < S.2.1 := zS_g h (xfS_at 117 rfl) rfl rfl
theorem zP_152 {S : ZS} (h : zSh S) {j : Int} (h0 : 0 ≤ j) (h1 : j < 13) : zpl S 152 103 j := zP_g (zS_152 h) rfl h0 h1
theorem zN_152 {S : ZS} (h : zSh S) : 152 < S.2.1 ∧ 100 ≤ (S.1 152).1 := zN_g (zS_152 h) rfl
theorem zV_152 {S : ZS} (h : zSh S) : ((S.1 152).2 : Int) = 13 := zV_g (zS_152 h)
theorem zS_153 {S : ZS} (h : zSh S) : S.1 153 = (100, 24) ∧ 153 < S.2.1 := zS_g h (xfS_at 118 rfl) rfl rfl
theorem zP_153 {S : ZS} (h : zSh S) {j : Int} (h0 : 0 ≤ j) (h1 : j < 24) : zpl S 153 100 j := zP_g (zS_153 h) rfl h0 h1
theorem zN_153 {S : ZS} (h : zSh S) : 153 < S.2.1 ∧ 100 ≤ (S.1 153).1 := zN_g (zS_153 h) rfl
theorem zV_153 {S : ZS} (h : zSh S) : ((S.1 153).2 : Int) = 24 := zV_g (zS_153 h)
theorem zS_154 {S : ZS} (h : zSh S) : S.1 154 = (5, 14) ∧ 154 < S.2.1 := zS_g h (xfS_at 119 rfl) rfl rfl
theorem zA_154 {S : ZS} (h : zSh S) : xat S 154 5 := zA_g (zS_154 h) rfl
theorem zS_155 {S : ZS} (h : zSh S) : S.1 155 = (104, 5120) ∧ 155 < S.2.1 := zS_g h (xfS_at 120 rfl) rfl rfl
theorem zP_155 {S : ZS} (h : zSh S) {j : Int} (h0 : 0 ≤ j) (h1 : j < 5120) : zpl S 155 104 j := zP_g (zS_155 h) rfl h0 h1
theorem zN_155 {S : ZS} (h : zSh S) : 155 < S.2.1 ∧ 100 ≤ (S.1 155).1 := zN_g (zS_155 h) rfl
theorem zV_155 {S : ZS} (h : zSh S) : ((S.1 155).2 : Int) = 5120 := zV_g (zS_155 h)
theorem zS_156 {S : ZS} (h : zSh S) : S.1 156 = (100, 10) ∧ 156 < S.2.1 := zS_g h (xfS_at 121 rfl) rfl rfl
theorem zP_156 {S : ZS} (h : zSh S) {j : Int} (h0 : 0 ≤ j) (h1 : j < 10) : zpl S 156 100 j := zP_g (zS_156 h) rfl h0 h1
theorem zN_156 {S : ZS} (h : zSh S) : 156 < S.2.1 ∧ 100 ≤ (S.1 156).1 := zN_g (zS_156 h) rfl
theorem zV_156 {S : ZS} (h : zSh S) : ((S.1 156).2 : Int) = 10 := zV_g (zS_156 h)
theorem zS_157 {S : ZS} (h : zSh S) : S.1 157 = (100, 4800) ∧ 157 < S.2.1 := zS_g h (xfS_at 122 rfl) rfl rfl
theorem zP_157 {S : ZS} (h : zSh S) {j : Int} (h0 : 0 ≤ j) (h1 : j < 4800) : zpl S 157 100 j := zP_g (zS_157 h) rfl h0 h1
theorem zN_157 {S : ZS} (h : zSh S) : 157 < S.2.1 ∧ 100 ≤ (S.1 157).1 := zN_g (zS_157 h) rfl
theorem zV_157 {S : ZS} (h : zSh S) : ((S.1 157).2 : Int) = 4800 := zV_g (zS_157 h)
theorem zS_158 {S : ZS} (h : zSh S) : S.1 158 = (100, 160) ∧ 158 < S.2.1 := zS_g h (xfS_at 123 rfl) rfl rfl
theorem zP_158 {S : ZS} (h : zSh S) {j : Int} (h0 : 0 ≤ j) (h1 : j < 160) : zpl S 158 100 j := zP_g (zS_158 h) rfl h0 h1
theorem zN_158 {S : ZS} (h : zSh S) : 158 < S.2.1 ∧ 100 ≤ (S.1 158).1 := zN_g (zS_158 h) rfl
theorem zV_158 {S : ZS} (h : zSh S) : ((S.1 158).2 : Int) = 160 := zV_g (zS_158 h)
theorem zS_159 {S : ZS} (h : zSh S) : S.1 159 = (103, 10) ∧ 159 < S.2.1 := zS_g h (xfS_at 124 rfl) rfl rfl
theorem zP_159 {S : ZS} (h : zSh S) {j : Int} (h0 : 0 ≤ j) (h1 : j < 10) : zpl S 159 103 j := zP_g (zS_159 h) rfl h0 h1
theorem zN_159 {S : ZS} (h : zSh S) : 159 < S.2.1 ∧ 100 ≤ (S.1 159).1 := zN_g (zS_159 h) rfl
theorem zV_159 {S : ZS} (h : zSh S) : ((S.1 159).2 : Int) = 10 := zV_g (zS_159 h)
theorem zS_160 {S : ZS} (h : zSh S) : S.1 160 = (100, 128) ∧ 160 < S.2.1 := zS_g h (xfS_at 125 rfl) rfl rfl
theorem zP_160 {S : ZS} (h : zSh S) {j : Int} (h0 : 0 ≤ j) (h1 : j < 128) : zpl S 160 100 j := zP_g (zS_160 h) rfl h0 h1
theorem zN_160 {S : ZS} (h : zSh S) : 160 < S.2.1 ∧ 100 ≤ (S.1 160).1 := zN_g (zS_160 h) rfl
theorem zV_160 {S : ZS} (h : zSh S) : ((S.1 160).2 : Int) = 128 := zV_g (zS_160 h)
theorem zS_161 {S : ZS} (h : zSh S) : S.1 161 = (100, 8) ∧ 161 < S.2.1 := zS_g h (xfS_at 126 rfl) rfl rfl
theorem zP_161 {S : ZS} (h : zSh S) {j : Int} (h0 : 0 ≤ j) (h1 : j < 8) : zpl S 161 100 j := zP_g (zS_161 h) rfl h0 h1
theorem zN_161 {S : ZS} (h : zSh S) : 161 < S.2.1 ∧ 100 ≤ (S.1 161).1 := zN_g (zS_161 h) rfl
theorem zV_161 {S : ZS} (h : zSh S) : ((S.1 161).2 : Int) = 8 := zV_g (zS_161 h)
theorem zS_162 {S : ZS} (h : zSh S) : S.1 162 = (100, 64) ∧ 162 < S.2.1 := zS_g h (xfS_at 127 rfl) rfl rfl
theorem zP_162 {S : ZS} (h : zSh S) {j : Int} (h0 : 0 ≤ j) (h1 : j < 64) : zpl S 162 100 j := zP_g (zS_162 h) rfl h0 h1
theorem zN_162 {S : ZS} (h : zSh S) : 162 < S.2.1 ∧ 100 ≤ (S.1 162).1 := zN_g (zS_162 h) rfl
theorem zV_162 {S : ZS} (h : zSh S) : ((S.1 162).2 : Int) = 64 := zV_g (zS_162 h)
theorem zS_163 {S : ZS} (h : zSh S) : S.1 163 = (100, 32) ∧ 163 < S.2.1 := zS_g h (xfS_at 128 rfl) rfl rfl
theorem zP_163 {S : ZS} (h : zSh S) {j : Int} (h0 : 0 ≤ j) (h1 : j < 32) : zpl S 163 100 j := zP_g (zS_163 h) rfl h0 h1
theorem zN_163 {S : ZS} (h : zSh S) : 163 < S.2.1 ∧ 100 ≤ (S.1 163).1 := zN_g (zS_163 h) rfl
theorem zV_163 {S : ZS} (h : zSh S) : ((S.1 163).2 : Int) = 32 := zV_g (zS_163 h)
theorem zS_164 {S : ZS} (h : zSh S) : S.1 164 = (100, 201) ∧ 164 < S.2.1 := zS_g h (xfS_at 129 rfl) rfl rfl
theorem zP_164 {S : ZS} (h : zSh S) {j : Int} (h0 : 0 ≤ j) (h1 : j < 201) : zpl S 164 100 j := zP_g (zS_164 h) rfl h0 h1
theorem zN_164 {S : ZS} (h : zSh S) : 164 < S.2.1 ∧ 100 ≤ (S.1 164).1 := zN_g (zS_164 h) rfl
theorem zV_164 {S : ZS} (h : zSh S) : ((S.1 164).2 : Int) = 201 := zV_g (zS_164 h)
theorem zS_165 {S : ZS} (h : zSh S) : S.1 165 = (21, 51) ∧ 165 < S.2.1 := zS_g h (xfS_at 130 rfl) rfl rfl
theorem zA_165 {S : ZS} (h : zSh S) : xat S 165 21 := zA_g (zS_165 h) rfl
theorem zS_166 {S : ZS} (h : zSh S) : S.1 166 = (100, 4000) ∧ 166 < S.2.1 := zS_g h (xfS_at 131 rfl) rfl rfl
theorem zP_166 {S : ZS} (h : zSh S) {j : Int} (h0 : 0 ≤ j) (h1 : j < 4000) : zpl S 166 100 j := zP_g (zS_166 h) rfl h0 h1
theorem zN_166 {S : ZS} (h : zSh S) : 166 < S.2.1 ∧ 100 ≤ (S.1 166).1 := zN_g (zS_166 h) rfl
theorem zV_166 {S : ZS} (h : zSh S) : ((S.1 166).2 : Int) = 4000 := zV_g (zS_166 h)
theorem zS_167 {S : ZS} (h : zSh S) : S.1 167 = (130, 2) ∧ 167 < S.2.1 := zS_g h (xfS_at 132 rfl) rfl rfl
theorem zP_167 {S : ZS} (h : zSh S) {j : Int} (h0 : 0 ≤ j) (h1 : j < 2) : zpl S 167 130 j := zP_g (zS_167 h) rfl h0 h1
theorem zN_167 {S : ZS} (h : zSh S) : 167 < S.2.1 ∧ 100 ≤ (S.1 167).1 := zN_g (zS_167 h) rfl
theorem zV_167 {S : ZS} (h : zSh S) : ((S.1 167).2 : Int) = 2 := zV_g (zS_167 h)
theorem zS_168 {S : ZS} (h : zSh S) : S.1 168 = (20, 31) ∧ 168 < S.2.1 := zS_g h (xfS_at 133 rfl) rfl rfl
theorem zA_168 {S : ZS} (h : zSh S) : xat S 168 20 := zA_g (zS_168 h) rfl
theorem zS_169 {S : ZS} (h : zSh S) : S.1 169 = (100, 4000) ∧ 169 < S.2.1 := zS_g h (xfS_at 134 rfl) rfl rfl
theorem zP_169 {S : ZS} (h : zSh S) {j : Int} (h0 : 0 ≤ j) (h1 : j < 4000) : zpl S 169 100 j := zP_g (zS_169 h) rfl h0 h1
theorem zN_169 {S : ZS} (h : zSh S) : 169 < S.2.1 ∧ 100 ≤ (S.1 169).1 := zN_g (zS_169 h) rfl
theorem zV_169 {S : ZS} (h : zSh S) : ((S.1 169).2 : Int) = 4000 := zV_g (zS_169 h)
theorem zS_170 {S : ZS} (h : zSh S) : S.1 170 = (100, 200) ∧ 170 < S.2.1 := zS_g h (xfS_at 135 rfl) rfl rfl
theorem zP_170 {S : ZS} (h : zSh S) {j : Int} (h0 : 0 ≤ j) (h1 : j < 200) : zpl S 170 100 j := zP_g (zS_170 h) rfl h0 h1
theorem zN_170 {S : ZS} (h : zSh S) : 170 < S.2.1 ∧ 100 ≤ (S.1 170).1 := zN_g (zS_170 h) rfl
theorem zV_170 {S : ZS} (h : zSh S) : ((S.1 170).2 : Int) = 200 := zV_g (zS_170 h)
theorem zS_171 {S : ZS} (h : zSh S) : S.1 171 = (100, 200) ∧ 171 < S.2.1 := zS_g h (xfS_at 136 rfl) rfl rfl
theorem zP_171 {S : ZS} (h : zSh S) {j : Int} (h0 : 0 ≤ j) (h1 : j < 200) : zpl S 171 100 j := zP_g (zS_171 h) rfl h0 h1
theorem zN_171 {S : ZS} (h : zSh S) : 171 < S.2.1 ∧ 100 ≤ (S.1 171).1 := zN_g (zS_171 h) rfl
theorem zV_171 {S : ZS} (h : zSh S) : ((S.1 171).2 : Int) = 200 := zV_g (zS_171 h)
theorem zS_172 {S : ZS} (h : zSh S) : S.1 172 = (101, 1000) ∧ 172 < S.2.1 := zS_g h (xfS_at 137 rfl) rfl rfl
theorem zP_172 {S : ZS} (h : zSh S) {j : Int} (h0 : 0 ≤ j) (h1 : j < 1000) : zpl S 172 101 j := zP_g (zS_172 h) rfl h0 h1
theorem zN_172 {S : ZS} (h : zSh S) : 172 < S.2.1 ∧ 100 ≤ (S.1 172).1 := zN_g (zS_172 h) rfl
theorem zV_172 {S : ZS} (h : zSh S) : ((S.1 172).2 : Int) = 1000 := zV_g (zS_172 h)
theorem zS_173 {S : ZS} (h : zSh S) : S.1 173 = (100, 400) ∧ 173 < S.2.1 := zS_g h (xfS_at 138 rfl) rfl rfl
theorem zP_173 {S : ZS} (h : zSh S) {j : Int} (h0 : 0 ≤ j) (h1 : j < 400) : zpl S 173 100 j := zP_g (zS_173 h) rfl h0 h1
theorem zN_173 {S : ZS} (h : zSh S) : 173 < S.2.1 ∧ 100 ≤ (S.1 173).1 := zN_g (zS_173 h) rfl
theorem zV_173 {S : ZS} (h : zSh S) : ((S.1 173).2 : Int) = 400 := zV_g (zS_173 h)
theorem zS_174 {S : ZS} (h : zSh S) : S.1 174 = (100, 16000) ∧ 174 < S.2.1 := zS_g h (xfS_at 139 rfl) rfl rfl
theorem zP_174 {S : ZS} (h : zSh S) {j : Int} (h0 : 0 ≤ j) (h1 : j < 16000) : zpl S 174 100 j := zP_g (zS_174 h) rfl h0 h1
theorem zN_174 {S : ZS} (h : zSh S) : 174 < S.2.1 ∧ 100 ≤ (S.1 174).1 := zN_g (zS_174 h) rfl
theorem zV_174 {S : ZS} (h : zSh S) : ((S.1 174).2 : Int) = 16000 := zV_g (zS_174 h)
theorem zS_175 {S : ZS} (h : zSh S) : S.1 175 = (100, 200) ∧ 175 < S.2.1 := zS_g h (xfS_at 140 rfl) rfl rfl
theorem zP_175 {S : ZS} (h : zSh S) {j : Int} (h0 : 0 ≤ j) (h1 : j < 200) : zpl S 175 100 j := zP_g (zS_175 h) rfl h0 h1
theorem zN_175 {S : ZS} (h : zSh S) : 175 < S.2.1 ∧ 100 ≤ (S.1 175).1 := zN_g (zS_175 h) rfl
theorem zV_175 {S : ZS} (h : zSh S) : ((S.1 175).2 : Int) = 200 := zV_g (zS_175 h)
theorem zS_176 {S : ZS} (h : zSh S) : S.1 176 = (100, 200) ∧ 176 < S.2.1 := zS_g h (xfS_at 141 rfl) rfl rfl
theorem zP_176 {S : ZS} (h : zSh S) {j : Int} (h0 : 0 ≤ j) (h1 : j < 200) : zpl S 176 100 j := zP_g (zS_176 h) rfl h0 h1
theorem zN_176 {S : ZS} (h : zSh S) : 176 < S.2.1 ∧ 100 ≤ (S.1 176).1 := zN_g (zS_176 h) rfl
theorem zV_176 {S : ZS} (h : zSh S) : ((S.1 176).2 : Int) = 200 := zV_g (zS_176 h)
theorem zS_177 {S : ZS} (h : zSh S) : S.1 177 = (100, 2000) ∧ 177 < S.2.1 := zS_g h (xfS_at 142 rfl) rfl rfl
theorem zP_177 {S : ZS} (h : zSh S) {j : Int} (h0 : 0 ≤ j) (h1 : j < 2000) : zpl S 177 100 j := zP_g (zS_177 h) rfl h0 h1
theorem zN_177 {S : ZS} (h : zSh S) : 177 < S.2.1 ∧ 100 ≤ (S.1 177).1 := zN_g (zS_177 h) rfl
theorem zV_177 {S : ZS} (h : zSh S) : ((S.1 177).2 : Int) = 2000 := zV_g (zS_177 h)
theorem zS_178 {S : ZS} (h : zSh S) : S.1 178 = (100, 201) ∧ 178 < S.2.1 := zS_g h (xfS_at 143 rfl) rfl rfl
theorem zP_178 {S : ZS} (h : zSh S) {j : Int} (h0 : 0 ≤ j) (h1 : j < 201) : zpl S 178 100 j := zP_g (zS_178 h) rfl h0 h1
theorem zN_178 {S : ZS} (h : zSh S) : 178 < S.2.1 ∧ 100 ≤ (S.1 178).1 := zN_g (zS_178 h) rfl
theorem zV_178 {S : ZS} (h : zSh S) : ((S.1 178).2 : Int) = 201 := zV_g (zS_178 h)
theorem zS_179 {S : ZS} (h : zSh S) : S.1 179 = (100, 201) ∧ 179 < S.2.1 := zS_g h (xfS_at 144 rfl) rfl rfl
theorem zP_179 {S : ZS} (h : zSh S) {j : Int} (h0 : 0 ≤ j) (h1 : j < 201) : zpl S 179 100 j := zP_g (zS_179 h) rfl h0 h1
theorem zN_179 {S : ZS} (h : zSh S) : 179 < S.2.1 ∧ 100 ≤ (S.1 179).1 := zN_g (zS_179 h) rfl
theorem zV_179 {S : ZS} (h : zSh S) : ((S.1 179).2 : Int) = 201 := zV_g (zS_179 h)
theorem zS_180 {S : ZS} (h : zSh S) : S.1 180 = (100, 110000) ∧ 180 < S.2.1 := zS_g h (xfS_at 145 rfl) rfl rfl
theorem zP_180 {S : ZS} (h : zSh S) {j : Int} (h0 : 0 ≤ j) (h1 : j < 110000) : zpl S 180 100 j := zP_g (zS_180 h) rfl h0 h1
theorem zN_180 {S : ZS} (h : zSh S) : 180 < S.2.1 ∧ 100 ≤ (S.1 180).1 := zN_g (zS_180 h) rfl
theorem zV_180 {S : ZS} (h : zSh S) : ((S.1 180).2 : Int) = 110000 := zV_g (zS_180 h)
theorem zS_181 {S : ZS} (h : zSh S) : S.1 181 = (20, 31) ∧ 181 < S.2.1 := zS_g h (xfS_at 146 rfl) rfl rfl
theorem zA_181 {S : ZS} (h : zSh S) : xat S 181 20 := zA_g (zS_181 h) rfl
theorem zS_182 {S : ZS} (h : zSh S) : S.1 182 = (100, 4000) ∧ 182 < S.2.1 := zS_g h (xfS_at 147 rfl) rfl rfl
theorem zP_182 {S : ZS} (h : zSh S) {j : Int} (h0 : 0 ≤ j) (h1 : j < 4000) : zpl S 182 100 j := zP_g (zS_182 h) rfl h0 h1
theorem zN_182 {S : ZS} (h : zSh S) : 182 < S.2.1 ∧ 100 ≤ (S.1 182).1 := zN_g (zS_182 h) rfl
theorem zV_182 {S : ZS} (h : zSh S) : ((S.1 182).2 : Int) = 4000 := zV_g (zS_182 h)
theorem zS_183 {S : ZS} (h : zSh S) : S.1 183 = (100, 200) ∧ 183 < S.2.1 := zS_g h (xfS_at 148 rfl) rfl rfl
theorem zP_183 {S : ZS} (h : zSh S) {j : Int} (h0 : 0 ≤ j) (h1 : j < 200) : zpl S 183 100 j := zP_g (zS_183 h) rfl h0 h1
theorem zN_183 {S : ZS} (h : zSh S) : 183 < S.2.1 ∧ 100 ≤ (S.1 183).1 := zN_g (zS_183 h) rfl
theorem zV_183 {S : ZS} (h : zSh S) : ((S.1 183).2 : Int) = 200 := zV_g (zS_183 h)
theorem zS_184 {S : ZS} (h : zSh S) : S.1 184 = (100, 200) ∧ 184 < S.2.1 := zS_g h (xfS_at 149 rfl) rfl rfl
theorem zP_184 {S : ZS} (h : zSh S) {j : Int} (h0 : 0 ≤ j) (h1 : j < 200) : zpl S 184 100 j := zP_g (zS_184 h) rfl h0 h1
theorem zN_184 {S : ZS} (h : zSh S) : 184 < S.2.1 ∧ 100 ≤ (S.1 184).1 := zN_g (zS_184 h) rfl
theorem zV_184 {S : ZS} (h : zSh S) : ((S.1 184).2 : Int) = 200 := zV_g (zS_184 h)
theorem zS_185 {S : ZS} (h : zSh S) : S.1 185 = (101, 1000) ∧ 185 < S.2.1 := zS_g h (xfS_at 150 rfl) rfl rfl
theorem zP_185 {S : ZS} (h : zSh S) {j : Int} (h0 : 0 ≤ j) (h1 : j < 1000) : zpl S 185 101 j := zP_g (zS_185 h) rfl h0 h1
theorem zN_185 {S : ZS} (h : zSh S) : 185 < S.2.1 ∧ 100 ≤ (S.1 185).1 := zN_g (zS_185 h) rfl
theorem zV_185 {S : ZS} (h : zSh S) : ((S.1 185).2 : Int) = 1000 := zV_g (zS_185 h)
theorem zS_186 {S : ZS} (h : zSh S) : S.1 186 = (100, 400) ∧ 186 < S.2.1 := zS_g h (xfS_at 151 rfl) rfl rfl
theorem zP_186 {S : ZS} (h : zSh S) {j : Int} (h0 : 0 ≤ j) (h1 : j < 400) : zpl S 186 100 j := zP_g (zS_186 h) rfl h0 h1
theorem zN_186 {S : ZS} (h : zSh S) : 186 < S.2.1 ∧ 100 ≤ (S.1 186).1 := zN_g (zS_186 h) rfl
theorem zV_186 {S : ZS} (h : zSh S) : ((S.1 186).2 : Int) = 400 := zV_g (zS_186 h)
theorem zS_187 {S : ZS} (h : zSh S) : S.1 187 = (100, 16000) ∧ 187 < S.2.1 := zS_g h (xfS_at 152 rfl) rfl rfl
theorem zP_187 {S : ZS} (h : zSh S) {j : Int} (h0 : 0 ≤ j) (h1 : j < 16000) : zpl S 187 100 j := zP_g (zS_187 h) rfl h0 h1
theorem zN_187 {S : ZS} (h : zSh S) : 187 < S.2.1 ∧ 100 ≤ (S.1 187).1 := zN_g (zS_187 h) rfl
theorem zV_187 {S : ZS} (h : zSh S) : ((S.1 187).2 : Int) = 16000 := zV_g (zS_187 h)
theorem zS_188 {S : ZS} (h : zSh S) : S.1 188 = (100, 200) ∧ 188 < S.2.1 := zS_g h (xfS_at 153 rfl) rfl rfl
theorem zP_188 {S : ZS} (h : zSh S) {j : Int} (h0 : 0 ≤ j) (h1 : j < 200) : zpl S 188 100 j := zP_g (zS_188 h) rfl h0 h1
theorem zN_188 {S : ZS} (h : zSh S) : 188 < S.2.1 ∧ 100 ≤ (S.1 188).1 := zN_g (zS_188 h) rfl
theorem zV_188 {S : ZS} (h : zSh S) : ((S.1 188).2 : Int) = 200 := zV_g (zS_188 h)
theorem zS_189 {S : ZS} (h : zSh S) : S.1 189 = (100, 200) ∧ 189 < S.2.1 := zS_g h (xfS_at 154 rfl) rfl rfl
theorem zP_189 {S : ZS} (h : zSh S) {j : Int} (h0 : 0 ≤ j) (h1 : j < 200) : zpl S 189 100 j := zP_g (zS_189 h) rfl h0 h1
theorem zN_189 {S : ZS} (h : zSh S) : 189 < S.2.1 ∧ 100 ≤ (S.1 189).1 := zN_g (zS_189 h) rfl
theorem zV_189 {S : ZS} (h : zSh S) : ((S.1 189).2 : Int) = 200 := zV_g (zS_189 h)
theorem zS_190 {S : ZS} (h : zSh S) : S.1 190 = (100, 2000) ∧ 190 < S.2.1 := zS_g h (xfS_at 155 rfl) rfl rfl
theorem zP_190 {S : ZS} (h : zSh S) {j : Int} (h0 : 0 ≤ j) (h1 : j < 2000) : zpl S 190 100 j := zP_g (zS_190 h) rfl h0 h1
theorem zN_190 {S : ZS} (h : zSh S) : 190 < S.2.1 ∧ 100 ≤ (S.1 190).1 := zN_g (zS_190 h) rfl
theorem zV_190 {S : ZS} (h : zSh S) : ((S.1 190).2 : Int) = 2000 := zV_g (zS_190 h)
theorem zS_191 {S : ZS} (h : zSh S) : S.1 191 = (100, 201) ∧ 191 < S.2.1 := zS_g h (xfS_at 156 rfl) rfl rfl
theorem zP_191 {S : ZS} (h : zSh S) {j : Int} (h0 : 0 ≤ j) (h1 : j < 201) : zpl S 191 100 j := zP_g (zS_191 h) rfl h0 h1
theorem zN_191 {S : ZS} (h : zSh S) : 191 < S.2.1 ∧ 100 ≤ (S.1 191).1 := zN_g (zS_191 h) rfl
theorem zV_191 {S : ZS} (h : zSh S) : ((S.1 191).2 : Int) = 201 := zV_g (zS_191 h)
theorem zS_192 {S : ZS} (h : zSh S) : S.1 192 = (100, 201) ∧ 192 < S.2.1 := zS_g h (xfS_at 157 rfl) rfl rfl
theorem zP_192 {S : ZS} (h : zSh S) {j : Int} (h0 : 0 ≤ j) (h1 : j < 201) : zpl S 192 100 j := zP_g (zS_192 h) rfl h0 h1
theorem zN_192 {S : ZS} (h : zSh S) : 192 < S.2.1 ∧ 100 ≤ (S.1 192).1 := zN_g (zS_192 h) rfl
theorem zV_192 {S : ZS} (h : zSh S) : ((S.1 192).2 : Int) = 201 := zV_g (zS_192 h)
theorem zS_193 {S : ZS} (h : zSh S) : S.1 193 = (100, 110000) ∧ 193 < S.2.1 := zS_g h (xfS_at 158 rfl) rfl rfl
theorem zP_193 {S : ZS} (h : zSh S) {j : Int} (h0 : 0 ≤ j) (h1 : j < 110000) : zpl S 193 100 j := zP_g (zS_193 h) rfl h0 h1
theorem zN_193 {S : ZS} (h : zSh S) : 193 < S.2.1 ∧ 100 ≤ (S.1 193).1 := zN_g (zS_193 h) rfl
theorem zV_193 {S : ZS} (h : zSh S) : ((S.1 193).2 : Int) = 110000 := zV_g (zS_193 h)
theorem zS_194 {S : ZS} (h : zSh S) : S.1 194 = (100, 200) ∧ 194 < S.2.1 := zS_g h (xfS_at 159 rfl) rfl rfl
theorem zP_194 {S : ZS} (h : zSh S) {j : Int} (h0 : 0 ≤ j) (h1 : j < 200) : zpl S 194 100 j := zP_g (zS_194 h) rfl h0 h1
theorem zN_194 {S : ZS} (h : zSh S) : 194 < S.2.1 ∧ 100 ≤ (S.1 194).1 := zN_g (zS_194 h) rfl
theorem zV_194 {S : ZS} (h : zSh S) : ((S.1 194).2 : Int) = 200 := zV_g (zS_194 h)
theorem zS_195 {S : ZS} (h : zSh S) : S.1 195 = (100, 16) ∧ 195 < S.2.1 := zS_g h (xfS_at 160 rfl) rfl rfl
theorem zP_195 {S : ZS} (h : zSh S) {j : Int} (h0 : 0 ≤ j) (h1 : j < 16) : zpl S 195 100 j := zP_g (zS_195 h) rfl h0 h1
theorem zN_195 {S : ZS} (h : zSh S) : 195 < S.2.1 ∧ 100 ≤ (S.1 195).1 := zN_g (zS_195 h) rfl
theorem zV_195 {S : ZS} (h : zSh S) : ((S.1 195).2 : Int) = 16 := zV_g (zS_195 h)
theorem zS_196 {S : ZS} (h : zSh S) : S.1 196 = (100, 16) ∧ 196 < S.2.1 := zS_g h (xfS_at 161 rfl) rfl rfl
theorem zP_196 {S : ZS} (h : zSh S) {j : Int} (h0 : 0 ≤ j) (h1 : j < 16) : zpl S 196 100 j := zP_g (zS_196 h) rfl h0 h1
theorem zN_196 {S : ZS} (h : zSh S) : 196 < S.2.1 ∧ 100 ≤ (S.1 196).1 := zN_g (zS_196 h) rfl
theorem zV_196 {S : ZS} (h : zSh S) : ((S.1 196).2 : Int) = 16 := zV_g (zS_196 h)
theorem zS_197 {S : ZS} (h : zSh S) : S.1 197 = (100, 40) ∧ 197 < S.2.1 := zS_g h (xfS_at 162 rfl) rfl rfl
theorem zP_197 {S : ZS} (h : zSh S) {j : Int} (h0 : 0 ≤ j) (h1 : j < 40) : zpl S 197 100 j := zP_g (zS_197 h) rfl h0 h1
theorem zN_197 {S : ZS} (h : zSh S) : 197 < S.2.1 ∧ 100 ≤ (S.1 197).1 := zN_g (zS_197 h) rfl
theorem zV_197 {S : ZS} (h : zSh S) : ((S.1 197).2 : Int) = 40 := zV_g (zS_197 h)
theorem zS_198 {S : ZS} (h : zSh S) : S.1 198 = (100, 40) ∧ 198 < S.2.1 := zS_g h (xfS_at 163 rfl) rfl rfl
theorem zP_198 {S : ZS} (h : zSh S) {j : Int} (h0 : 0 ≤ j) (h1 : j < 40) : zpl S 198 100 j := zP_g (zS_198 h) rfl h0 h1
theorem zN_198 {S : ZS} (h : zSh S) : 198 < S.2.1 ∧ 100 ≤ (S.1 198).1 := zN_g (zS_198 h) rfl
theorem zV_198 {S : ZS} (h : zSh S) : ((S.1 198).2 : Int) = 40 := zV_g (zS_198 h)
theorem zS_199 {S : ZS} (h : zSh S) : S.1 199 = (100, 40) ∧ 199 < S.2.1 := zS_g h (xfS_at 164 rfl) rfl rfl
theorem zP_199 {S : ZS} (h : zSh S) {j : Int} (h0 : 0 ≤ j) (h1 : j < 40) : zpl S 199 100 j := zP_g (zS_199 h) rfl h0 h1
theorem zN_199 {S : ZS} (h : zSh S) : 199 < S.2.1 ∧ 100 ≤ (S.1 199).1 := zN_g (zS_199 h) rfl
theorem zV_199 {S : ZS} (h : zSh S) : ((S.1 199).2 : Int) = 40 := zV_g (zS_199 h)
theorem zS_200 {S : ZS} (h : zSh S) : S.1 200 = (100, 40) ∧ 200 < S.2.1 := zS_g h (xfS_at 165 rfl) rfl rfl
theorem zP_200 {S : ZS} (h : zSh S) {j : Int} (h0 : 0 ≤ j) (h1 : j < 40) : zpl S 200 100 j := zP_g (zS_200 h) rfl h0 h1
theorem zN_200 {S : ZS} (h : zSh S) : 200 < S.2.1 ∧ 100 ≤ (S.1 200).1 := zN_g (zS_200 h) rfl
theorem zV_200 {S : ZS} (h : zSh S) : ((S.1 200).2 : Int) = 40 := zV_g (zS_200 h)
theorem zS_201 {S : ZS} (h : zSh S) : S.1 201 = (100, 40) ∧ 201 < S.2.1 := zS_g h (xfS_at 166 rfl) rfl rfl
theorem zP_201 {S : ZS} (h : zSh S) {j : Int} (h0 : 0 ≤ j) (h1 : j < 40) : zpl S 201 100 j := zP_g (zS_201 h) rfl h0 h1
theorem zN_201 {S : ZS} (h : zSh S) : 201 < S.2.1 ∧ 100 ≤ (S.1 201).1 := zN_g (zS_201 h) rfl
theorem zV_201 {S : ZS} (h : zSh S) : ((S.1 201).2 : Int) = 40 := zV_g (zS_201 h)
theorem zS_202 {S : ZS} (h : zSh S) : S.1 202 = (100, 40) ∧ 202 < S.2.1 := zS_g h (xfS_at 167 rfl) rfl rfl
theorem zP_202 {S : ZS} (h : zSh S) {j : Int} (h0 : 0 ≤ j) (h1 : j < 40) : zpl S 202 100 j := zP_g (zS_202 h) rfl h0 h1
theorem zN_202 {S : ZS} (h : zSh S) : 202 < S.2.1 ∧ 100 ≤ (S.1 202).1 := zN_g (zS_202 h) rfl
theorem zV_202 {S : ZS} (h : zSh S) : ((S.1 202).2 : Int) = 40 := zV_g (zS_202 h)
theorem zS_203 {S : ZS} (h : zSh S) : S.1 203 = (100, 12) ∧ 203 < S.2.1 := zS_g h (xfS_at 168 rfl) rfl rfl
theorem zP_203 {S : ZS} (h : zSh S) {j : Int} (h0 : 0 ≤ j) (h1 : j < 12) : zpl S 203 100 j := zP_g (zS_203 h) rfl h0 h1
theorem zN_203 {S : ZS} (h : zSh S) : 203 < S.2.1 ∧ 100 ≤ (S.1 203).1 := zN_g (zS_203 h) rfl
theorem zV_203 {S : ZS} (h : zSh S) : ((S.1 203).2 : Int) = 12 := zV_g (zS_203 h)
theorem zS_204 {S : ZS} (h : zSh S) : S.1 204 = (100, 30) ∧ 204 < S.2.1 := zS_g h (xfS_at 169 rfl) rfl rfl
theorem zP_204 {S : ZS} (h : zSh S) {j : Int} (h0 : 0 ≤ j) (h1 : j < 30) : zpl S 204 100 j := zP_g (zS_204 h) rfl h0 h1
theorem zN_204 {S : ZS} (h : zSh S) : 204 < S.2.1 ∧ 100 ≤ (S.1 204).1 := zN_g (zS_204 h) rfl
theorem zV_204 {S : ZS} (h : zSh S) : ((S.1 204).2 : Int) = 30 := zV_g (zS_204 h)
theorem zS_205 {S : ZS} (h : zSh S) : S.1 205 = (100, 30) ∧ 205 < S.2.1 := zS_g h (xfS_at 170 rfl) rfl rfl
theorem zP_205 {S : ZS} (h : zSh S) {j : Int} (h0 : 0 ≤ j) (h1 : j < 30) : zpl S 205 100 j := zP_g (zS_205 h) rfl h0 h1
theorem zN_205 {S : ZS} (h : zSh S) : 205 < S.2.1 ∧ 100 ≤ (S.1 205).1 := zN_g (zS_205 h) rfl
theorem zV_205 {S : ZS} (h : zSh S) : ((S.1 205).2 : Int) = 30 := zV_g (zS_205 h)
theorem zS_206 {S : ZS} (h : zSh S) : S.1 206 = (100, 30) ∧ 206 < S.2.1 := zS_g h (xfS_at 171 rfl) rfl rfl
theorem zP_206 {S : ZS} (h : zSh S) {j : Int} (h0 : 0 ≤ j) (h1 : j < 30) : zpl S 206 100 j := zP_g (zS_206 h) rfl h0 h1
theorem zN_206 {S : ZS} (h : zSh S) : 206 < S.2.1 ∧ 100 ≤ (S.1 206).1 := zN_g (zS_206 h) rfl
theorem zV_206 {S : ZS} (h : zSh S) : ((S.1 206).2 : Int) = 30 := zV_g (zS_206 h)
theorem zS_207 {S : ZS} (h : zSh S) : S.1 207 = (100, 30) ∧ 207 < S.2.1 := zS_g h (xfS_at 172 rfl) rfl rfl
theorem zP_207 {S : ZS} (h : zSh S) {j : Int} (h0 : 0 ≤ j) (h1 : j < 30) : zpl S 207 100 j := zP_g (zS_207 h) rfl h0 h1
theorem zN_207 {S : ZS} (h : zSh S) : 207 < S.2.1 ∧ 100 ≤ (S.1 207).1 := zN_g (zS_207 h) rfl
theorem zV_207 {S : ZS} (h : zSh S) : ((S.1 207).2 : Int) = 30 := zV_g (zS_207 h)
theorem zS_208 {S : ZS} (h : zSh S) : S.1 208 = (100, 20) ∧ 208 < S.2.1 := zS_g h (xfS_at 173 rfl) rfl rfl
theorem zP_208 {S : ZS} (h : zSh S) {j : Int} (h0 : 0 ≤ j) (h1 : j < 20) : zpl S 208 100 j := zP_g (zS_208 h) rfl h0 h1
theorem zN_208 {S : ZS} (h : zSh S) : 208 < S.2.1 ∧ 100 ≤ (S.1 208).1 := zN_g (zS_208 h) rfl
theorem zV_208 {S : ZS} (h : zSh S) : ((S.1 208).2 : Int) = 20 := zV_g (zS_208 h)
theorem zS_209 {S : ZS} (h : zSh S) : S.1 209 = (100, 20) ∧ 209 < S.2.1 := zS_g h (xfS_at 174 rfl) rfl rfl
theorem zP_209 {S : ZS} (h : zSh S) {j : Int} (h0 : 0 ≤ j) (h1 : j < 20) : zpl S 209 100 j := zP_g (zS_209 h) rfl h0 h1
theorem zN_209 {S : ZS} (h : zSh S) : 209 < S.2.1 ∧ 100 ≤ (S.1 209).1 := zN_g (zS_209 h) rfl
theorem zV_209 {S : ZS} (h : zSh S) : ((S.1 209).2 : Int) = 20 := zV_g (zS_209 h)
theorem zS_210 {S : ZS} (h : zSh S) : S.1 210 = (100, 20) ∧ 210 < S.2.1 := zS_g h (xfS_at 175 rfl) rfl rfl
theorem zP_210 {S : ZS} (h : zSh S) {j : Int} (h0 : 0 ≤ j) (h1 : j < 20) : zpl S 210 100 j := zP_g (zS_210 h) rfl h0 h1
theorem zN_210 {S : ZS} (h : zSh S) : 210 < S.2.1 ∧ 100 ≤ (S.1 210).1 := zN_g (zS_210 h) rfl
theorem zV_210 {S : ZS} (h : zSh S) : ((S.1 210).2 : Int) = 20 := zV_g (zS_210 h)
theorem zS_211 {S : ZS} (h : zSh S) : S.1 211 = (100, 20) ∧ 211 < S.2.1 := zS_g h (xfS_at 176 rfl) rfl rfl
theorem zP_211 {S : ZS} (h : zSh S) {j : Int} (h0 : 0 ≤ j) (h1 : j < 20) : zpl S 211 100 j := zP_g (zS_211 h) rfl h0 h1
theorem zN_211 {S : ZS} (h : zSh S) : 211 < S.2.1 ∧ 100 ≤ (S.1 211).1 := zN_g (zS_211 h) rfl
theorem zV_211 {S : ZS} (h : zSh S) : ((S.1 211).2 : Int) = 20 := zV_g (zS_211 h)
theorem zS_212 {S : ZS} (h : zSh S) : S.1 212 = (16, 39) ∧ 212 < S.2.1 := zS_g h (xfS_at 177 rfl) rfl rfl
theorem zA_212 {S : ZS} (h : zSh S) : xat S 212 16 := zA_g (zS_212 h) rfl
theorem zS_213 {S : ZS} (h : zSh S) : S.1 213 = (100, 2) ∧ 213 < S.2.1 := zS_g h (xfS_at 178 rfl) rfl rfl
theorem zP_213 {S : ZS} (h : zSh S) {j : Int} (h0 : 0 ≤ j) (h1 : j < 2) : zpl S 213 100 j := zP_g (zS_213 h) rfl h0 h1
theorem zN_213 {S : ZS} (h : zSh S) : 213 < S.2.1 ∧ 100 ≤ (S.1 213).1 := zN_g (zS_213 h) rfl
theorem zV_213 {S : ZS} (h : zSh S) : ((S.1 213).2 : Int) = 2 := zV_g (zS_213 h)
theorem zS_214 {S : ZS} (h : zSh S) : S.1 214 = (101, 20) ∧ 214 < S.2.1 := zS_g h (xfS_at 179 rfl) rfl rfl
theorem zP_214 {S : ZS} (h : zSh S) {j : Int} (h0 : 0 ≤ j) (h1 : j < 20) : zpl S 214 101 j := zP_g (zS_214 h) rfl h0 h1
theorem zN_214 {S : ZS} (h : zSh S) : 214 < S.2.1 ∧ 100 ≤ (S.1 214).1 := zN_g (zS_214 h) rfl
theorem zV_214 {S : ZS} (h : zSh S) : ((S.1 214).2 : Int) = 20 := zV_g (zS_214 h)
theorem zS_215 {S : ZS} (h : zSh S) : S.1 215 = (103, 20) ∧ 215 < S.2.1 := zS_g h (xfS_at 180 rfl) rfl rfl
theorem zP_215 {S : ZS} (h : zSh S) {j : Int} (h0 : 0 ≤ j) (h1 : j < 20) : zpl S 215 103 j := zP_g (zS_215 h) rfl h0 h1
theorem zN_215 {S : ZS} (h : zSh S) : 215 < S.2.1 ∧ 100 ≤ (S.1 215).1 := zN_g (zS_215 h) rfl
theorem zV_215 {S : ZS} (h : zSh S) : ((S.1 215).2 : Int) = 20 := zV_g (zS_215 h)
theorem zS_216 {S : ZS} (h : zSh S) : S.1 216 = (100, 2) ∧ 216 < S.2.1 := zS_g h (xfS_at 181 rfl) rfl rfl
theorem zP_216 {S : ZS} (h : zSh S) {j : Int} (h0 : 0 ≤ j) (h1 : j < 2) : zpl S 216 100 j := zP_g (zS_216 h) rfl h0 h1
theorem zN_216 {S : ZS} (h : zSh S) : 216 < S.2.1 ∧ 100 ≤ (S.1 216).1 := zN_g (zS_216 h) rfl
theorem zV_216 {S : ZS} (h : zSh S) : ((S.1 216).2 : Int) = 2 := zV_g (zS_216 h)
theorem zS_217 {S : ZS} (h : zSh S) : S.1 217 = (100, 120) ∧ 217 < S.2.1 := zS_g h (xfS_at 182 rfl) rfl rfl
theorem zP_217 {S : ZS} (h : zSh S) {j : Int} (h0 : 0 ≤ j) (h1 : j < 120) : zpl S 217 100 j := zP_g (zS_217 h) rfl h0 h1
theorem zN_217 {S : ZS} (h : zSh S) : 217 < S.2.1 ∧ 100 ≤ (S.1 217).1 := zN_g (zS_217 h) rfl
theorem zV_217 {S : ZS} (h : zSh S) : ((S.1 217).2 : Int) = 120 := zV_g (zS_217 h)
theorem zS_218 {S : ZS} (h : zSh S) : S.1 218 = (101, 120) ∧ 218 < S.2.1 := zS_g h (xfS_at 183 rfl) rfl rfl
theorem zP_218 {S : ZS} (h : zSh S) {j : Int} (h0 : 0 ≤ j) (h1 : j < 120) : zpl S 218 101 j := zP_g (zS_218 h) rfl h0 h1
theorem zN_218 {S : ZS} (h : zSh S) : 218 < S.2.1 ∧ 100 ≤ (S.1 218).1 := zN_g (zS_218 h) rfl
theorem zV_218 {S : ZS} (h : zSh S) : ((S.1 218).2 : Int) = 120 := zV_g (zS_218 h)
theorem zS_219 {S : ZS} (h : zSh S) : S.1 219 = (101, 120) ∧ 219 < S.2.1 := zS_g h (xfS_at 184 rfl) rfl rfl
theorem zP_219 {S : ZS} (h : zSh S) {j : Int} (h0 : 0 ≤ j) (h1 : j < 120) : zpl S 219 101 j := zP_g (zS_219 h) rfl h0 h1
theorem zN_219 {S : ZS} (h : zSh S) : 219 < S.2.1 ∧ 100 ≤ (S.1 219).1 := zN_g (zS_219 h) rfl
theorem zV_219 {S : ZS} (h : zSh S) : ((S.1 219).2 : Int) = 120 := zV_g (zS_219 h)
theorem zS_220 {S : ZS} (h : zSh S) : S.1 220 = (101, 120) ∧ 220 < S.2.1 := zS_g h (xfS_at 185 rfl) rfl rfl
theorem zP_220 {S : ZS} (h : zSh S) {j : Int} (h0 : 0 ≤ j) (h1 : j < 120) : zpl S 220 101 j := zP_g (zS_220 h) rfl h0 h1
theorem zN_220 {S : ZS} (h : zSh S) : 220 < S.2.1 ∧ 100 ≤ (S.1 220).1 := zN_g (zS_220 h) rfl
theorem zV_220 {S : ZS} (h : zSh S) : ((S.1 220).2 : Int) = 120 := zV_g (zS_220 h)
theorem zS_221 {S : ZS} (h : zSh S) : S.1 221 = (101, 120) ∧ 221 < S.2.1 := zS_g h (xfS_at 186 rfl) rfl rfl
theorem zP_221 {S : ZS} (h : zSh S) {j : Int} (h0 : 0 ≤ j) (h1 : j < 120) : zpl S 221 101 j := zP_g (zS_221 h) rfl h0 h1
theorem zN_221 {S : ZS} (h : zSh S) : 221 < S.2.1 ∧ 100 ≤ (S.1 221).1 := zN_g (zS_221 h) rfl
theorem zV_221 {S : ZS} (h : zSh S) : ((S.1 221).2 : Int) = 120 := zV_g (zS_221 h)
theorem zS_222 {S : ZS} (h : zSh S) : S.1 222 = (100, 120) ∧ 222 < S.2.1 := zS_g h (xfS_at 187 rfl) rfl rfl
theorem zP_222 {S : ZS} (h : zSh S) {j : Int} (h0 : 0 ≤ j) (h1 : j < 120) : zpl S 222 100 j := zP_g (zS_222 h) rfl h0 h1
theorem zN_222 {S : ZS} (h : zSh S) : 222 < S.2.1 ∧ 100 ≤ (S.1 222).1 := zN_g (zS_222 h) rfl
theorem zV_222 {S : ZS} (h : zSh S) : ((S.1 222).2 : Int) = 120 := zV_g (zS_222 h)
theorem zS_223 {S : ZS} (h : zSh S) : S.1 223 = (100, 120) ∧ 223 < S.2.1 := zS_g h (xfS_at 188 rfl) rfl rfl
theorem zP_223 {S : ZS} (h : zSh S) {j : Int} (h0 : 0 ≤ j) (h1 : j < 120) : zpl S 223 100 j := zP_g (zS_223 h) rfl h0 h1
theorem zN_223 {S : ZS} (h : zSh S) : 223 < S.2.1 ∧ 100 ≤ (S.1 223).1 := zN_g (zS_223 h) rfl
theorem zV_223 {S : ZS} (h : zSh S) : ((S.1 223).2 : Int) = 120 := zV_g (zS_223 h)
theorem zS_224 {S : ZS} (h : zSh S) : S.1 224 = (103, 120) ∧ 224 < S.2.1 := zS_g h (xfS_at 189 rfl) rfl rfl
theorem zP_224 {S : ZS} (h : zSh S) {j : Int} (h0 : 0 ≤ j) (h1 : j < 120) : zpl S 224 103 j := zP_g (zS_224 h) rfl h0 h1
theorem zN_224 {S : ZS} (h : zSh S) : 224 < S.2.1 ∧ 100 ≤ (S.1 224).1 := zN_g (zS_224 h) rfl
theorem zV_224 {S : ZS} (h : zSh S) : ((S.1 224).2 : Int) = 120 := zV_g (zS_224 h)
theorem zS_225 {S : ZS} (h : zSh S) : S.1 225 = (100, 60) ∧ 225 < S.2.1 := zS_g h (xfS_at 190 rfl) rfl rfl
theorem zP_225 {S : ZS} (h : zSh S) {j : Int} (h0 : 0 ≤ j) (h1 : j < 60) : zpl S 225 100 j := zP_g (zS_225 h) rfl h0 h1
theorem zN_225 {S : ZS} (h : zSh S) : 225 < S.2.1 ∧ 100 ≤ (S.1 225).1 := zN_g (zS_225 h) rfl
theorem zV_225 {S : ZS} (h : zSh S) : ((S.1 225).2 : Int) = 60 := zV_g (zS_225 h)
theorem zS_226 {S : ZS} (h : zSh S) : S.1 226 = (100, 60) ∧ 226 < S.2.1 := zS_g h (xfS_at 191 rfl) rfl rfl
theorem zP_226 {S : ZS} (h : zSh S) {j : Int} (h0 : 0 ≤ j) (h1 : j < 60) : zpl S 226 100 j := zP_g (zS_226 h) rfl h0 h1
theorem zN_226 {S : ZS} (h : zSh S) : 226 < S.2.1 ∧ 100 ≤ (S.1 226).1 := zN_g (zS_226 h) rfl
theorem zV_226 {S : ZS} (h : zSh S) : ((S.1 226).2 : Int) = 60 := zV_g (zS_226 h)
theorem zS_227 {S : ZS} (h : zSh S) : S.1 227 = (101, 2048) ∧ 227 < S.2.1 := zS_g h (xfS_at 192 rfl) rfl rfl
theorem zP_227 {S : ZS} (h : zSh S) {j : Int} (h0 : 0 ≤ j) (h1 : j < 2048) : zpl S 227 101 j := zP_g (zS_227 h) rfl h0 h1
theorem zN_227 {S : ZS} (h : zSh S) : 227 < S.2.1 ∧ 100 ≤ (S.1 227).1 := zN_g (zS_227 h) rfl
theorem zV_227 {S : ZS} (h : zSh S) : ((S.1 227).2 : Int) = 2048 := zV_g (zS_227 h)
theorem zS_228 {S : ZS} (h : zSh S) : S.1 228 = (100, 3000) ∧ 228 < S.2.1 := zS_g h (xfS_at 193 rfl) rfl rfl
theorem zP_228 {S : ZS} (h : zSh S) {j : Int} (h0 : 0 ≤ j) (h1 : j < 3000) : zpl S 228 100 j := zP_g (zS_228 h) rfl h0 h1
theorem zN_228 {S : ZS} (h : zSh S) : 228 < S.2.1 ∧ 100 ≤ (S.1 228).1 := zN_g (zS_228 h) rfl
theorem zV_228 {S : ZS} (h : zSh S) : ((S.1 228).2 : Int) = 3000 := zV_g (zS_228 h)
theorem zS_229 {S : ZS} (h : zSh S) : S.1 229 = (100, 2000) ∧ 229 < S.2.1 := zS_g h (xfS_at 194 rfl) rfl rfl
theorem zP_229 {S : ZS} (h : zSh S) {j : Int} (h0 : 0 ≤ j) (h1 : j < 2000) : zpl S 229 100 j := zP_g (zS_229 h) rfl h0 h1
theorem zN_229 {S : ZS} (h : zSh S) : 229 < S.2.1 ∧ 100 ≤ (S.1 229).1 := zN_g (zS_229 h) rfl
theorem zV_229 {S : ZS} (h : zSh S) : ((S.1 229).2 : Int) = 2000 := zV_g (zS_229 h)
theorem zS_230 {S : ZS} (h : zSh S) : S.1 230 = (100, 8) ∧ 230 < S.2.1 := zS_g h (xfS_at 195 rfl) rfl rfl
theorem zP_230 {S : ZS} (h : zSh S) {j : Int} (h0 : 0 ≤ j) (h1 : j < 8) : zpl S 230 100 j := zP_g (zS_230 h) rfl h0 h1
theorem zN_230 {S : ZS} (h : zSh S) : 230 < S.2.1 ∧ 100 ≤ (S.1 230).1 := zN_g (zS_230 h) rfl
theorem zV_230 {S : ZS} (h : zSh S) : ((S.1 230).2 : Int) = 8 := zV_g (zS_230 h)
theorem zS_231 {S : ZS} (h : zSh S) : S.1 231 = (100, 8) ∧ 231 < S.2.1 := zS_g h (xfS_at 196 rfl) rfl rfl
theorem zP_231 {S : ZS} (h : zSh S) {j : Int} (h0 : 0 ≤ j) (h1 : j < 8) : zpl S 231 100 j := zP_g (zS_231 h) rfl h0 h1
theorem zN_231 {S : ZS} (h : zSh S) : 231 < S.2.1 ∧ 100 ≤ (S.1 231).1 := zN_g (zS_231 h) rfl
theorem zV_231 {S : ZS} (h : zSh S) : ((S.1 231).2 : Int) = 8 := zV_g (zS_231 h)
theorem zS_232 {S : ZS} (h : zSh S) : S.1 232 = (100, 2400) ∧ 232 < S.2.1 := zS_g h (xfS_at 197 rfl) rfl rfl
theorem zP_232 {S : ZS} (h : zSh S) {j : Int} (h0 : 0 ≤ j) (h1 : j < 2400) : zpl S 232 100 j := zP_g (zS_232 h) rfl h0 h1
theorem zN_232 {S : ZS} (h : zSh S) : 232 < S.2.1 ∧ 100 ≤ (S.1 232).1 := zN_g (zS_232 h) rfl
theorem zV_232 {S : ZS} (h : zSh S) : ((S.1 232).2 : Int) = 2400 := zV_g (zS_232 h)
theorem zS_233 {S : ZS} (h : zSh S) : S.1 233 = (100, 2600) ∧ 233 < S.2.1 := zS_g h (xfS_at 198 rfl) rfl rfl
theorem zP_233 {S : ZS} (h : zSh S) {j : Int} (h0 : 0 ≤ j) (h1 : j < 2600) : zpl S 233 100 j := zP_g (zS_233 h) rfl h0 h1
theorem zN_233 {S : ZS} (h : zSh S) : 233 < S.2.1 ∧ 100 ≤ (S.1 233).1 := zN_g (zS_233 h) rfl
theorem zV_233 {S : ZS} (h : zSh S) : ((S.1 233).2 : Int) = 2600 := zV_g (zS_233 h)
theorem zS_234 {S : ZS} (h : zSh S) : S.1 234 = (12, 67) ∧ 234 < S.2.1 := zS_g h (xfS_at 199 rfl) rfl rfl
theorem zA_234 {S : ZS} (h : zSh S) : xat S 234 12 := zA_g (zS_234 h) rfl
theorem zS_235 {S : ZS} (h : zSh S) : S.1 235 = (100, 400) ∧ 235 < S.2.1 := zS_g h (xfS_at 200 rfl) rfl rfl
theorem zP_235 {S : ZS} (h : zSh S) {j : Int} (h0 : 0 ≤ j) (h1 : j < 400) : zpl S 235 100 j := zP_g (zS_235 h) rfl h0 h1
theorem zN_235 {S : ZS} (h : zSh S) : 235 < S.2.1 ∧ 100 ≤ (S.1 235).1 := zN_g (zS_235 h) rfl
theorem zV_235 {S : ZS} (h : zSh S) : ((S.1 235).2 : Int) = 400 := zV_g (zS_235 h)
theorem zS_236 {S : ZS} (h : zSh S) : S.1 236 = (100, 2) ∧ 236 < S.2.1 := zS_g h (xfS_at 201 rfl) rfl rfl
theorem zP_236 {S : ZS} (h : zSh S) {j : Int} (h0 : 0 ≤ j) (h1 : j < 2) : zpl S 236 100 j := zP_g (zS_236 h) rfl h0 h1
theorem zN_236 {S : ZS} (h : zSh S) : 236 < S.2.1 ∧ 100 ≤ (S.1 236).1 := zN_g (zS_236 h) rfl
theorem zV_236 {S : ZS} (h : zSh S) : ((S.1 236).2 : Int) = 2 := zV_g (zS_236 h)
theorem zS_237 {S : ZS} (h : zSh S) : S.1 237 = (100, 800) ∧ 237 < S.2.1 := zS_g h (xfS_at 202 rfl) rfl rfl
theorem zP_237 {S : ZS} (h : zSh S) {j : Int} (h0 : 0 ≤ j) (h1 : j < 800) : zpl S 237 100 j := zP_g (zS_237 h) rfl h0 h1
theorem zN_237 {S : ZS} (h : zSh S) : 237 < S.2.1 ∧ 100 ≤ (S.1 237).1 := zN_g (zS_237 h) rfl
theorem zV_237 {S : ZS} (h : zSh S) : ((S.1 237).2 : Int) = 800 := zV_g (zS_237 h)
theorem zS_238 {S : ZS} (h : zSh S) : S.1 238 = (100, 1200) ∧ 238 < S.2.1 := zS_g h (xfS_at 203 rfl) rfl rfl
theorem zP_238 {S : ZS} (h : zSh S) {j : Int} (h0 : 0 ≤ j) (h1 : j < 1200) : zpl S 238 100 j := zP_g (zS_238 h) rfl h0 h1
theorem zN_238 {S : ZS} (h : zSh S) : 238 < S.2.1 ∧ 100 ≤ (S.1 238).1 := zN_g (zS_238 h) rfl
theorem zV_238 {S : ZS} (h : zSh S) : ((S.1 238).2 : Int) = 1200 := zV_g (zS_238 h)
theorem zS_239 {S : ZS} (h : zSh S) : S.1 239 = (100, 1200) ∧ 239 < S.2.1 := zS_g h (xfS_at 204 rfl) rfl rfl
theorem zP_239 {S : ZS} (h : zSh S) {j : Int} (h0 : 0 ≤ j) (h1 : j < 1200) : zpl S 239 100 j := zP_g (zS_239 h) rfl h0 h1
theorem zN_239 {S : ZS} (h : zSh S) : 239 < S.2.1 ∧ 100 ≤ (S.1 239).1 := zN_g (zS_239 h) rfl
theorem zV_239 {S : ZS} (h : zSh S) : ((S.1 239).2 : Int) = 1200 := zV_g (zS_239 h)
theorem zS_240 {S : ZS} (h : zSh S) : S.1 240 = (100, 1200) ∧ 240 < S.2.1 := zS_g h (xfS_at 205 rfl) rfl rfl
theorem zP_240 {S : ZS} (h : zSh S) {j : Int} (h0 : 0 ≤ j) (h1 : j < 1200) : zpl S 240 100 j := zP_g (zS_240 h) rfl h0 h1
theorem zN_240 {S : ZS} (h : zSh S) : 240 < S.2.1 ∧ 100 ≤ (S.1 240).1 := zN_g (zS_240 h) rfl
theorem zV_240 {S : ZS} (h : zSh S) : ((S.1 240).2 : Int) = 1200 := zV_g (zS_240 h)
theorem zS_241 {S : ZS} (h : zSh S) : S.1 241 = (100, 1200) ∧ 241 < S.2.1 := zS_g h (xfS_at 206 rfl) rfl rfl
theorem zP_241 {S : ZS} (h : zSh S) {j : Int} (h0 : 0 ≤ j) (h1 : j < 1200) : zpl S 241 100 j := zP_g (zS_241 h) rfl h0 h1
theorem zN_241 {S : ZS} (h : zSh S) : 241 < S.2.1 ∧ 100 ≤ (S.1 241).1 := zN_g (zS_241 h) rfl
theorem zV_241 {S : ZS} (h : zSh S) : ((S.1 241).2 : Int) = 1200 := zV_g (zS_241 h)
theorem zS_242 {S : ZS} (h : zSh S) : S.1 242 = (100, 1200) ∧ 242 < S.2.1 := zS_g h (xfS_at 207 rfl) rfl rfl
theorem zP_242 {S : ZS} (h : zSh S) {j : Int} (h0 : 0 ≤ j) (h1 : j < 1200) : zpl S 242 100 j := zP_g (zS_242 h) rfl h0 h1
theorem zN_242 {S : ZS} (h : zSh S) : 242 < S.2.1 ∧ 100 ≤ (S.1 242).1 := zN_g (zS_242 h) rfl
theorem zV_242 {S : ZS} (h : zSh S) : ((S.1 242).2 : Int) = 1200 := zV_g (zS_242 h)
theorem zS_243 {S : ZS} (h : zSh S) : S.1 243 = (100, 1200) ∧ 243 < S.2.1 := zS_g h (xfS_at 208 rfl) rfl rfl
theorem zP_243 {S : ZS} (h : zSh S) {j : Int} (h0 : 0 ≤ j) (h1 : j < 1200) : zpl S 243 100 j := zP_g (zS_243 h) rfl h0 h1
theorem zN_243 {S : ZS} (h : zSh S) : 243 < S.2.1 ∧ 100 ≤ (S.1 243).1 := zN_g (zS_243 h) rfl
theorem zV_243 {S : ZS} (h : zSh S) : ((S.1 243).2 : Int) = 1200 := zV_g (zS_243 h)
theorem zS_244 {S : ZS} (h : zSh S) : S.1 244 = (100, 52) ∧ 244 < S.2.1 := zS_g h (xfS_at 209 rfl) rfl rfl
theorem zP_244 {S : ZS} (h : zSh S) {j : Int} (h0 : 0 ≤ j) (h1 : j < 52) : zpl S 244 100 j := zP_g (zS_244 h) rfl h0 h1
theorem zN_244 {S : ZS} (h : zSh S) : 244 < S.2.1 ∧ 100 ≤ (S.1 244).1 := zN_g (zS_244 h) rfl
theorem zV_244 {S : ZS} (h : zSh S) : ((S.1 244).2 : Int) = 52 := zV_g (zS_244 h)
theorem zS_245 {S : ZS} (h : zSh S) : S.1 245 = (100, 2000) ∧ 245 < S.2.1 := zS_g h (xfS_at 210 rfl) rfl rfl
theorem zP_245 {S : ZS} (h : zSh S) {j : Int} (h0 : 0 ≤ j) (h1 : j < 2000) : zpl S 245 100 j := zP_g (zS_245 h) rfl h0 h1
theorem zN_245 {S : ZS} (h : zSh S) : 245 < S.2.1 ∧ 100 ≤ (S.1 245).1 := zN_g (zS_245 h) rfl
theorem zV_245 {S : ZS} (h : zSh S) : ((S.1 245).2 : Int) = 2000 := zV_g (zS_245 h)
theorem zS_246 {S : ZS} (h : zSh S) : S.1 246 = (100, 2000) ∧ 246 < S.2.1 := zS_g h (xfS_at 211 rfl) rfl rfl
theorem zP_246 {S : ZS} (h : zSh S) {j : Int} (h0 : 0 ≤ j) (h1 : j < 2000) : zpl S 246 100 j := zP_g (zS_246 h) rfl h0 h1
theorem zN_246 {S : ZS} (h : zSh S) : 246 < S.2.1 ∧ 100 ≤ (S.1 246).1 := zN_g (zS_246 h) rfl
theorem zV_246 {S : ZS} (h : zSh S) : ((S.1 246).2 : Int) = 2000 := zV_g (zS_246 h)
theorem zS_247 {S : ZS} (h : zSh S) : S.1 247 = (100, 4) ∧ 247 < S.2.1 := zS_g h (xfS_at 212 rfl) rfl rfl
theorem zP_247 {S : ZS} (h : zSh S) {j : Int} (h0 : 0 ≤ j) (h1 : j < 4) : zpl S 247 100 j := zP_g (zS_247 h) rfl h0 h1
theorem zN_247 {S : ZS} (h : zSh S) : 247 < S.2.1 ∧ 100 ≤ (S.1 247).1 := zN_g (zS_247 h) rfl
theorem zV_247 {S : ZS} (h : zSh S) : ((S.1 247).2 : Int) = 4 := zV_g (zS_247 h)
theorem zS_248 {S : ZS} (h : zSh S) : S.1 248 = (100, 4) ∧ 248 < S.2.1 := zS_g h (xfS_at 213 rfl) rfl rfl
theorem zP_248 {S : ZS} (h : zSh S) {j : Int} (h0 : 0 ≤ j) (h1 : j < 4) : zpl S 248 100 j := zP_g (zS_248 h) rfl h0 h1
theorem zN_248 {S : ZS} (h : zSh S) : 248 < S.2.1 ∧ 100 ≤ (S.1 248).1 := zN_g (zS_248 h) rfl
theorem zV_248 {S : ZS} (h : zSh S) : ((S.1 248).2 : Int) = 4 := zV_g (zS_248 h)
theorem zS_249 {S : ZS} (h : zSh S) : S.1 249 = (100, 4) ∧ 249 < S.2.1 := zS_g h (xfS_at 214 rfl) rfl rfl
theorem zP_249 {S : ZS} (h : zSh S) {j : Int} (h0 : 0 ≤ j) (h1 : j < 4) : zpl S 249 100 j := zP_g (zS_249 h) rfl h0 h1
theorem zN_249 {S : ZS} (h : zSh S) : 249 < S.2.1 ∧ 100 ≤ (S.1 249).1 := zN_g (zS_249 h) rfl
theorem zV_249 {S : ZS} (h : zSh S) : ((S.1 249).2 : Int) = 4 := zV_g (zS_249 h)
theorem zS_250 {S : ZS} (h : zSh S) : S.1 250 = (100, 64) ∧ 250 < S.2.1 := zS_g h (xfS_at 215 rfl) rfl rfl
theorem zP_250 {S : ZS} (h : zSh S) {j : Int} (h0 : 0 ≤ j) (h1 : j < 64) : zpl S 250 100 j := zP_g (zS_250 h) rfl h0 h1
theorem zN_250 {S : ZS} (h : zSh S) : 250 < S.2.1 ∧ 100 ≤ (S.1 250).1 := zN_g (zS_250 h) rfl
theorem zV_250 {S : ZS} (h : zSh S) : ((S.1 250).2 : Int) = 64 := zV_g (zS_250 h)
theorem zS_251 {S : ZS} (h : zSh S) : S.1 251 = (101, 72) ∧ 251 < S.2.1 := zS_g h (xfS_at 216 rfl) rfl rfl
theorem zP_251 {S : ZS} (h : zSh S) {j : Int} (h0 : 0 ≤ j) (h1 : j < 72) : zpl S 251 101 j := zP_g (zS_251 h) rfl h0 h1
theorem zN_251 {S : ZS} (h : zSh S) : 251 < S.2.1 ∧ 100 ≤ (S.1 251).1 := zN_g (zS_251 h) rfl
theorem zV_251 {S : ZS} (h : zSh S) : ((S.1 251).2 : Int) = 72 := zV_g (zS_251 h)
theorem zS_252 {S : ZS} (h : zSh S) : S.1 252 = (101, 20) ∧ 252 < S.2.1 := zS_g h (xfS_at 217 rfl) rfl rfl
theorem zP_252 {S : ZS} (h : zSh S) {j : Int} (h0 : 0 ≤ j) (h1 : j < 20) : zpl S 252 101 j := zP_g (zS_252 h) rfl h0 h1
theorem zN_252 {S : ZS} (h : zSh S) : 252 < S.2.1 ∧ 100 ≤ (S.1 252).1 := zN_g (zS_252 h) rfl
theorem zV_252 {S : ZS} (h : zSh S) : ((S.1 252).2 : Int) = 20 := zV_g (zS_252 h)
theorem zS_253 {S : ZS} (h : zSh S) : S.1 253 = (101, 26) ∧ 253 < S.2.1 := zS_g h (xfS_at 218 rfl) rfl rfl
theorem zP_253 {S : ZS} (h : zSh S) {j : Int} (h0 : 0 ≤ j) (h1 : j < 26) : zpl S 253 101 j := zP_g (zS_253 h) rfl h0 h1
theorem zN_253 {S : ZS} (h : zSh S) : 253 < S.2.1 ∧ 100 ≤ (S.1 253).1 := zN_g (zS_253 h) rfl
theorem zV_253 {S : ZS} (h : zSh S) : ((S.1 253).2 : Int) = 26 := zV_g (zS_253 h)
theorem zS_254 {S : ZS} (h : zSh S) : S.1 254 = (100, 40) ∧ 254 < S.2.1 := zS_g h (xfS_at 219 rfl) rfl rfl
theorem zP_254 {S : ZS} (h : zSh S) {j : Int} (h0 : 0 ≤ j) (h1 : j < 40) : zpl S 254 100 j := zP_g (zS_254 h) rfl h0 h1
theorem zN_254 {S : ZS} (h : zSh S) : 254 < S.2.1 ∧ 100 ≤ (S.1 254).1 := zN_g (zS_254 h) rfl
theorem zV_254 {S : ZS} (h : zSh S) : ((S.1 254).2 : Int) = 40 := zV_g (zS_254 h)
theorem zS_255 {S : ZS} (h : zSh S) : S.1 255 = (100, 8) ∧ 255 < S.2.1 := zS_g h (xfS_at 220 rfl) rfl rfl
theorem zP_255 {S : ZS} (h : zSh S) {j : Int} (h0 : 0 ≤ j) (h1 : j < 8) : zpl S 255 100 j := zP_g (zS_255 h) rfl h0 h1
theorem zN_255 {S : ZS} (h : zSh S) : 255 < S.2.1 ∧ 100 ≤ (S.1 255).1 := zN_g (zS_255 h) rfl
theorem zV_255 {S : ZS} (h : zSh S) : ((S.1 255).2 : Int) = 8 := zV_g (zS_255 h)
theorem zS_256 {S : ZS} (h : zSh S) : S.1 256 = (100, 12) ∧ 256 < S.2.1 := zS_g h (xfS_at 221 rfl) rfl rfl
theorem zP_256 {S : ZS} (h : zSh S) {j : Int} (h0 : 0 ≤ j) (h1 : j < 12) : zpl S 256 100 j := zP_g (zS_256 h) rfl h0 h1
theorem zN_256 {S : ZS} (h : zSh S) : 256 < S.2.1 ∧ 100 ≤ (S.1 256).1 := zN_g (zS_256 h) rfl
theorem zV_256 {S : ZS} (h : zSh S) : ((S.1 256).2 : Int) = 12 := zV_g (zS_256 h)
theorem zS_257 {S : ZS} (h : zSh S) : S.1 257 = (100, 20) ∧ 257 < S.2.1 := zS_g h (xfS_at 222 rfl) rfl rfl
theorem zP_257 {S : ZS} (h : zSh S) {j : Int} (h0 : 0 ≤ j) (h1 : j < 20) : zpl S 257 100 j := zP_g (zS_257 h) rfl h0 h1
theorem zN_257 {S : ZS} (h : zSh S) : 257 < S.2.1 ∧ 100 ≤ (S.1 257).1 := zN_g (zS_257 h) rfl
theorem zV_257 {S : ZS} (h : zSh S) : ((S.1 257).2 : Int) = 20 := zV_g (zS_257 h)
theorem zS_258 {S : ZS} (h : zSh S) : S.1 258 = (100, 2) ∧ 258 < S.2.1 := zS_g h (xfS_at 223 rfl) rfl rfl
theorem zP_258 {S : ZS} (h : zSh S) {j : Int} (h0 : 0 ≤ j) (h1 : j < 2) : zpl S 258 100 j := zP_g (zS_258 h) rfl h0 h1
theorem zN_258 {S : ZS} (h : zSh S) : 258 < S.2.1 ∧ 100 ≤ (S.1 258).1 := zN_g (zS_258 h) rfl
theorem zV_258 {S : ZS} (h : zSh S) : ((S.1 258).2 : Int) = 2 := zV_g (zS_258 h)
theorem zS_259 {S : ZS} (h : zSh S) : S.1 259 = (100, 16) ∧ 259 < S.2.1 := zS_g h (xfS_at 224 rfl) rfl rfl
theorem zP_259 {S : ZS} (h : zSh S) {j : Int} (h0 : 0 ≤ j) (h1 : j < 16) : zpl S 259 100 j := zP_g (zS_259 h) rfl h0 h1
theorem zN_259 {S : ZS} (h : zSh S) : 259 < S.2.1 ∧ 100 ≤ (S.1 259).1 := zN_g (zS_259 h) rfl
theorem zV_259 {S : ZS} (h : zSh S) : ((S.1 259).2 : Int) = 16 := zV_g (zS_259 h)
theorem zS_260 {S : ZS} (h : zSh S) : S.1 260 = (100, 16) ∧ 260 < S.2.1 := zS_g h (xfS_at 225 rfl) rfl rfl
theorem zP_260 {S : ZS} (h : zSh S) {j : Int} (h0 : 0 ≤ j) (h1 : j < 16) : zpl S 260 100 j := zP_g (zS_260 h) rfl h0 h1
theorem zN_260 {S : ZS} (h : zSh S) : 260 < S.2.1 ∧ 100 ≤ (S.1 260).1 := zN_g (zS_260 h) rfl
theorem zV_260 {S : ZS} (h : zSh S) : ((S.1 260).2 : Int) = 16 := zV_g (zS_260 h)
theorem zS_261 {S : ZS} (h : zSh S) : S.1 261 = (100, 16) ∧ 261 < S.2.1 := zS_g h (xfS_at 226 rfl) rfl rfl
theorem zP_261 {S : ZS} (h : zSh S) {j : Int} (h0 : 0 ≤ j) (h1 : j < 16) : zpl S 261 100 j := zP_g (zS_261 h) rfl h0 h1
theorem zN_261 {S : ZS} (h : zSh S) : 261 < S.2.1 ∧ 100 ≤ (S.1 261).1 := zN_g (zS_261 h) rfl
theorem zV_261 {S : ZS} (h : zSh S) : ((S.1 261).2 : Int) = 16 := zV_g (zS_261 h)
theorem zS_262 {S : ZS} (h : zSh S) : S.1 262 = (100, 16) ∧ 262 < S.2.1 := zS_g h (xfS_at 227 rfl) rfl rfl
theorem zP_262 {S : ZS} (h : zSh S) {j : Int} (h0 : 0 ≤ j) (h1 : j < 16) : zpl S 262 100 j := zP_g (zS_262 h) rfl h0 h1
theorem zN_262 {S : ZS} (h : zSh S) : 262 < S.2.1 ∧ 100 ≤ (S.1 262).1 := zN_g (zS_262 h) rfl
theorem zV_262 {S : ZS} (h : zSh S) : ((S.1 262).2 : Int) = 16 := zV_g (zS_262 h)
theorem zS_263 {S : ZS} (h : zSh S) : S.1 263 = (100, 16) ∧ 263 < S.2.1 := zS_g h (xfS_at 228 rfl) rfl rfl
theorem zP_263 {S : ZS} (h : zSh S) {j : Int} (h0 : 0 ≤ j) (h1 : j < 16) : zpl S 263 100 j := zP_g (zS_263 h) rfl h0 h1
theorem zN_263 {S : ZS} (h : zSh S) : 263 < S.2.1 ∧ 100 ≤ (S.1 263).1 := zN_g (zS_263 h) rfl
theorem zV_263 {S : ZS} (h : zSh S) : ((S.1 263).2 : Int) = 16 := zV_g (zS_263 h)
theorem zS_264 {S : ZS} (h : zSh S) : S.1 264 = (100, 16) ∧ 264 < S.2.1 := zS_g h (xfS_at 229 rfl) rfl rfl
theorem zP_264 {S : ZS} (h : zSh S) {j : Int} (h0 : 0 ≤ j) (h1 : j < 16) : zpl S 264 100 j := zP_g (zS_264 h) rfl h0 h1
theorem zN_264 {S : ZS} (h : zSh S) : 264 < S.2.1 ∧ 100 ≤ (S.1 264).1 := zN_g (zS_264 h) rfl
theorem zV_264 {S : ZS} (h : zSh S) : ((S.1 264).2 : Int) = 16 := zV_g (zS_264 h)
theorem zS_265 {S : ZS} (h : zSh S) : S.1 265 = (101, 1152) ∧ 265 < S.2.1 := zS_g h (xfS_at 230 rfl) rfl rfl
theorem zP_265 {S : ZS} (h : zSh S) {j : Int} (h0 : 0 ≤ j) (h1 : j < 1152) : zpl S 265 101 j := zP_g (zS_265 h) rfl h0 h1
theorem zN_265 {S : ZS} (h : zSh S) : 265 < S.2.1 ∧ 100 ≤ (S.1 265).1 := zN_g (zS_265 h) rfl
theorem zV_265 {S : ZS} (h : zSh S) : ((S.1 265).2 : Int) = 1152 := zV_g (zS_265 h)
theorem zS_266 {S : ZS} (h : zSh S) : S.1 266 = (100, 16) ∧ 266 < S.2.1 := zS_g h (xfS_at 231 rfl) rfl rfl
theorem zP_266 {S : ZS} (h : zSh S) {j : Int} (h0 : 0 ≤ j) (h1 : j < 16) : zpl S 266 100 j := zP_g (zS_266 h) rfl h0 h1
theorem zN_266 {S : ZS} (h : zSh S) : 266 < S.2.1 ∧ 100 ≤ (S.1 266).1 := zN_g (zS_266 h) rfl
theorem zV_266 {S : ZS} (h : zSh S) : ((S.1 266).2 : Int) = 16 := zV_g (zS_266 h)
theorem zS_267 {S : ZS} (h : zSh S) : S.1 267 = (101, 64) ∧ 267 < S.2.1 := zS_g h (xfS_at 232 rfl) rfl rfl
theorem zP_267 {S : ZS} (h : zSh S) {j : Int} (h0 : 0 ≤ j) (h1 : j < 64) : zpl S 267 101 j := zP_g (zS_267 h) rfl h0 h1
theorem zN_267 {S : ZS} (h : zSh S) : 267 < S.2.1 ∧ 100 ≤ (S.1 267).1 := zN_g (zS_267 h) rfl
theorem zV_267 {S : ZS} (h : zSh S) : ((S.1 267).2 : Int) = 64 := zV_g (zS_267 h)
theorem zS_268 {S : ZS} (h : zSh S) : S.1 268 = (13, 21) ∧ 268 < S.2.1 := zS_g h (xfS_at 233 rfl) rfl rfl
theorem zA_268 {S : ZS} (h : zSh S) : xat S 268 13 := zA_g (zS_268 h) rfl
theorem zS_269 {S : ZS} (h : zSh S) : S.1 269 = (100, 24) ∧ 269 < S.2.1 := zS_g h (xfS_at 234 rfl) rfl rfl
theorem zP_269 {S : ZS} (h : zSh S) {j : Int} (h0 : 0 ≤ j) (h1 : j < 24) : zpl S 269 100 j := zP_g (zS_269 h) rfl h0 h1
theorem zN_269 {S : ZS} (h : zSh S) : 269 < S.2.1 ∧ 100 ≤ (S.1 269).1 := zN_g (zS_269 h) rfl
theorem zV_269 {S : ZS} (h : zSh S) : ((S.1 269).2 : Int) = 24 := zV_g (zS_269 h)
theorem zS_270 {S : ZS} (h : zSh S) : S.1 270 = (100, 400) ∧ 270 < S.2.1 := zS_g h (xfS_at 235 rfl) rfl rfl
theorem zP_270 {S : ZS} (h : zSh S) {j : Int} (h0 : 0 ≤ j) (h1 : j < 400) : zpl S 270 100 j := zP_g (zS_270 h) rfl h0 h1
theorem zN_270 {S : ZS} (h : zSh S) : 270 < S.2.1 ∧ 100 ≤ (S.1 270).1 := zN_g (zS_270 h) rfl
theorem zV_270 {S : ZS} (h : zSh S) : ((S.1 270).2 : Int) = 400 := zV_g (zS_270 h)
theorem zS_271 {S : ZS} (h : zSh S) : S.1 271 = (100, 8) ∧ 271 < S.2.1 := zS_g h (xfS_at 236 rfl) rfl rfl
theorem zP_271 {S : ZS} (h : zSh S) {j : Int} (h0 : 0 ≤ j) (h1 : j < 8) : zpl S 271 100 j := zP_g (zS_271 h) rfl h0 h1
theorem zN_271 {S : ZS} (h : zSh S) : 271 < S.2.1 ∧ 100 ≤ (S.1 271).1 := zN_g (zS_271 h) rfl
theorem zV_271 {S : ZS} (h : zSh S) : ((S.1 271).2 : Int) = 8 := zV_g (zS_271 h)
theorem zS_272 {S : ZS} (h : zSh S) : S.1 272 = (100, 5600) ∧ 272 < S.2.1 := zS_g h (xfS_at 237 rfl) rfl rfl
theorem zP_272 {S : ZS} (h : zSh S) {j : Int} (h0 : 0 ≤ j) (h1 : j < 5600) : zpl S 272 100 j := zP_g (zS_272 h) rfl h0 h1
theorem zN_272 {S : ZS} (h : zSh S) : 272 < S.2.1 ∧ 100 ≤ (S.1 272).1 := zN_g (zS_272 h) rfl
theorem zV_272 {S : ZS} (h : zSh S) : ((S.1 272).2 : Int) = 5600 := zV_g (zS_272 h)
theorem zS_273 {S : ZS} (h : zSh S) : S.1 273 = (103, 24) ∧ 273 < S.2.1 := zS_g h (xfS_at 238 rfl) rfl rfl
theorem zP_273 {S : ZS} (h : zSh S) {j : Int} (h0 : 0 ≤ j) (h1 : j < 24) : zpl S 273 103 j := zP_g (zS_273 h) rfl h0 h1
theorem zN_273 {S : ZS} (h : zSh S) : 273 < S.2.1 ∧ 100 ≤ (S.1 273).1 := zN_g (zS_273 h) rfl
theorem zV_273 {S : ZS} (h : zSh S) : ((S.1 273).2 : Int) = 24 := zV_g (zS_273 h)
theorem zS_274 {S : ZS} (h : zSh S) : S.1 274 = (100, 24) ∧ 274 < S.2.1 := zS_g h (xfS_at 239 rfl) rfl rfl
theorem zP_274 {S : ZS} (h : zSh S) {j : Int} (h0 : 0 ≤ j) (h1 : j < 24) : zpl S 274 100 j := zP_g (zS_274 h) rfl h0 h1
theorem zN_274 {S : ZS} (h : zSh S) : 274 < S.2.1 ∧ 100 ≤ (S.1 274).1 := zN_g (zS_274 h) rfl
theorem zV_274 {S : ZS} (h : zSh S) : ((S.1 274).2 : Int) = 24 := zV_g (zS_274 h)
theorem zS_275 {S : ZS} (h : zSh S) : S.1 275 = (100, 24) ∧ 275 < S.2.1 := zS_g h (xfS_at 240 rfl) rfl rfl
theorem zP_275 {S : ZS} (h : zSh S) {j : Int} (h0 : 0 ≤ j) (h1 : j < 24) : zpl S 275 100 j := zP_g (zS_275 h) rfl h0 h1
theorem zN_275 {S : ZS} (h : zSh S) : 275 < S.2.1 ∧ 100 ≤ (S.1 275).1 := zN_g (zS_275 h) rfl
theorem zV_275 {S : ZS} (h : zSh S) : ((S.1 275).2 : Int) = 24 := zV_g (zS_275 h)
theorem zS_276 {S : ZS} (h : zSh S) : S.1 276 = (103, 24) ∧ 276 < S.2.1 := zS_g h (xfS_at 241 rfl) rfl rfl
theorem zP_276 {S : ZS} (h : zSh S) {j : Int} (h0 : 0 ≤ j) (h1 : j < 24) : zpl S 276 103 j := zP_g (zS_276 h) rfl h0 h1
theorem zN_276 {S : ZS} (h : zSh S) : 276 < S.2.1 ∧ 100 ≤ (S.1 276).1 := zN_g (zS_276 h) rfl
theorem zV_276 {S : ZS} (h : zSh S) : ((S.1 276).2 : Int) = 24 := zV_g (zS_276 h)
theorem zS_277 {S : ZS} (h : zSh S) : S.1 277 = (100, 13) ∧ 277 < S.2.1 := zS_g h (xfS_at 242 rfl) rfl rfl
theorem zP_277 {S : ZS} (h : zSh S) {j : Int} (h0 : 0 ≤ j) (h1 : j < 13) : zpl S 277 100 j := zP_g (zS_277 h) rfl h0 h1
theorem zN_277 {S : ZS} (h : zSh S) : 277 < S.2.1 ∧ 100 ≤ (S.1 277).1 := zN_g (zS_277 h) rfl
theorem zV_277 {S : ZS} (h : zSh S) : ((S.1 277).2 : Int) = 13 := zV_g (zS_277 h)
theorem zS_278 {S : ZS} (h : zSh S) : S.1 278 = (100, 104) ∧ 278 < S.2.1 := zS_g h (xfS_at 243 rfl) rfl rfl
theorem zP_278 {S : ZS} (h : zSh S) {j : Int} (h0 : 0 ≤ j) (h1 : j < 104) : zpl S 278 100 j := zP_g (zS_278 h) rfl h0 h1
theorem zN_278 {S : ZS} (h : zSh S) : 278 < S.2.1 ∧ 100 ≤ (S.1 278).1 := zN_g (zS_278 h) rfl
theorem zV_278 {S : ZS} (h : zSh S) : ((S.1 278).2 : Int) = 104 := zV_g (zS_278 h)
theorem zS_279 {S : ZS} (h : zSh S) : S.1 279 = (103, 13) ∧ 279 < S.2.1 := zS_g h (xfS_at 244 rfl) rfl rfl
theorem zP_279 {S : ZS} (h : zSh S) {j : Int} (h0 : 0 ≤ j) (h1 : j < 13) : zpl S 279 103 j := zP_g (zS_279 h) rfl h0 h1
theorem zN_279 {S : ZS} (h : zSh S) : 279 < S.2.1 ∧ 100 ≤ (S.1 279).1 := zN_g (zS_279 h) rfl
theorem zV_279 {S : ZS} (h : zSh S) : ((S.1 279).2 : Int) = 13 := zV_g (zS_279 h)
theorem zS_280 {S : ZS} (h : zSh S) : S.1 280 = (19, 32) ∧ 280 < S.2.1 := zS_g h (xfS_at 245 rfl) rfl rfl
theorem zA_280 {S : ZS} (h : zSh S) : xat S 280 19 := zA_g (zS_280 h) rfl
theorem zS_281 {S : ZS} (h : zSh S) : S.1 281 = (100, 64) ∧ 281 < S.2.1 := zS_g h (xfS_at 246 rfl) rfl rfl
theorem zP_281 {S : ZS} (h : zSh S) {j : Int} (h0 : 0 ≤ j) (h1 : j < 64) : zpl S 281 100 j := zP_g (zS_281 h) rfl h0 h1
theorem zN_281 {S : ZS} (h : zSh S) : 281 < S.2.1 ∧ 100 ≤ (S.1 281).1 := zN_g (zS_281 h) rfl
theorem zV_281 {S : ZS} (h : zSh S) : ((S.1 281).2 : Int) = 64 := zV_g (zS_281 h)
theorem zS_282 {S : ZS} (h : zSh S) : S.1 282 = (100, 512) ∧ 282 < S.2.1 := zS_g h (xfS_at 247 rfl) rfl rfl
theorem zP_282 {S : ZS} (h : zSh S) {j : Int} (h0 : 0 ≤ j) (h1 : j < 512) : zpl S 282 100 j := zP_g (zS_282 h) rfl h0 h1
theorem zN_282 {S : ZS} (h : zSh S) : 282 < S.2.1 ∧ 100 ≤ (S.1 282).1 := zN_g (zS_282 h) rfl
theorem zV_282 {S : ZS} (h : zSh S) : ((S.1 282).2 : Int) = 512 := zV_g (zS_282 h)
theorem zS_283 {S : ZS} (h : zSh S) : S.1 283 = (100, 64) ∧ 283 < S.2.1 := zS_g h (xfS_at 248 rfl) rfl rfl
theorem zP_283 {S : ZS} (h : zSh S) {j : Int} (h0 : 0 ≤ j) (h1 : j < 64) : zpl S 283 100 j := zP_g (zS_283 h) rfl h0 h1
theorem zN_283 {S : ZS} (h : zSh S) : 283 < S.2.1 ∧ 100 ≤ (S.1 283).1 := zN_g (zS_283 h) rfl
theorem zV_283 {S : ZS} (h : zSh S) : ((S.1 283).2 : Int) = 64 := zV_g (zS_283 h)
theorem zS_284 {S : ZS} (h : zSh S) : S.1 284 = (100, 8) ∧ 284 < S.2.1 := zS_g h (xfS_at 249 rfl) rfl rfl
theorem zP_284 {S : ZS} (h : zSh S) {j : Int} (h0 : 0 ≤ j) (h1 : j < 8) : zpl S 284 100 j := zP_g (zS_284 h) rfl h0 h1
theorem zN_284 {S : ZS} (h : zSh S) : 284 < S.2.1 ∧ 100 ≤ (S.1 284).1 := zN_g (zS_284 h) rfl
theorem zV_284 {S : ZS} (h : zSh S) : ((S.1 284).2 : Int) = 8 := zV_g (zS_284 h)
theorem zS_285 {S : ZS} (h : zSh S) : S.1 285 = (100, 8) ∧ 285 < S.2.1 := zS_g h (xfS_at 250 rfl) rfl rfl
theorem zP_285 {S : ZS} (h : zSh S) {j : Int} (h0 : 0 ≤ j) (h1 : j < 8) : zpl S 285 100 j := zP_g (zS_285 h) rfl h0 h1
theorem zN_285 {S : ZS} (h : zSh S) : 285 < S.2.1 ∧ 100 ≤ (S.1 285).1 := zN_g (zS_285 h) rfl
theorem zV_285 {S : ZS} (h : zSh S) : ((S.1 285).2 : Int) = 8 := zV_g (zS_285 h)
theorem zS_286 {S : ZS} (h : zSh S) : S.1 286 = (100, 32) ∧ 286 < S.2.1 := zS_g h (xfS_at 251 rfl) rfl rfl
theorem zP_286 {S : ZS} (h : zSh S) {j : Int} (h0 : 0 ≤ j) (h1 : j < 32) : zpl S 286 100 j := zP_g (zS_286 h) rfl h0 h1
theorem zN_286 {S : ZS} (h : zSh S) : 286 < S.2.1 ∧ 100 ≤ (S.1 286).1 := zN_g (zS_286 h) rfl
theorem zV_286 {S : ZS} (h : zSh S) : ((S.1 286).2 : Int) = 32 := zV_g (zS_286 h)
theorem zS_287 {S : ZS} (h : zSh S) : S.1 287 = (100, 11) ∧ 287 < S.2.1 := zS_g h (xfS_at 252 rfl) rfl rfl
theorem zP_287 {S : ZS} (h : zSh S) {j : Int} (h0 : 0 ≤ j) (h1 : j < 11) : zpl S 287 100 j := zP_g (zS_287 h) rfl h0 h1
theorem zN_287 {S : ZS} (h : zSh S) : 287 < S.2.1 ∧ 100 ≤ (S.1 287).1 := zN_g (zS_287 h) rfl
theorem zV_287 {S : ZS} (h : zSh S) : ((S.1 287).2 : Int) = 11 := zV_g (zS_287 h)
theorem zS_288 {S : ZS} (h : zSh S) : S.1 288 = (100, 88) ∧ 288 < S.2.1 := zS_g h (xfS_at 253 rfl) rfl rfl
theorem zP_288 {S : ZS} (h : zSh S) {j : Int} (h0 : 0 ≤ j) (h1 : j < 88) : zpl S 288 100 j := zP_g (zS_288 h) rfl h0 h1
theorem zN_288 {S : ZS} (h : zSh S) : 288 < S.2.1 ∧ 100 ≤ (S.1 288).1 := zN_g (zS_288 h) rfl
theorem zV_288 {S : ZS} (h : zSh S) : ((S.1 288).2 : Int) = 88 := zV_g (zS_288 h)
theorem zS_289 {S : ZS} (h : zSh S) : S.1 289 = (100, 88) ∧ 289 < S.2.1 := zS_g h (xfS_at 254 rfl) rfl rfl
theorem zP_289 {S : ZS} (h : zSh S) {j : Int} (h0 : 0 ≤ j) (h1 : j < 88) : zpl S 289 100 j := zP_g (zS_289 h) rfl h0 h1
theorem zN_289 {S : ZS} (h : zSh S) : 289 < S.2.1 ∧ 100 ≤ (S.1 289).1 := zN_g (zS_289 h) rfl
theorem zV_289 {S : ZS} (h : zSh S) : ((S.1 289).2 : Int) = 88 := zV_g (zS_289 h)
theorem zS_290 {S : ZS} (h : zSh S) : S.1 290 = (100, 5632) ∧ 290 < S.2.1 := zS_g h (xfS_at 255 rfl) rfl rfl
theorem zP_290 {S : ZS} (h : zSh S) {j : Int} (h0 : 0 ≤ j) (h1 : j < 5632) : zpl S 290 100 j := zP_g (zS_290 h) rfl h0 h1
theorem zN_290 {S : ZS} (h : zSh S) : 290 < S.2.1 ∧ 100 ≤ (S.1 290).1 := zN_g (zS_290 h) rfl
theorem zV_290 {S : ZS} (h : zSh S) : ((S.1 290).2 : Int) = 5632 := zV_g (zS_290 h)
theorem zS_291 {S : ZS} (h : zSh S) : S.1 291 = (100, 2560) ∧ 291 < S.2.1 := zS_g h (xfS_at 256 rfl) rfl rfl
theorem zP_291 {S : ZS} (h : zSh S) {j : Int} (h0 : 0 ≤ j) (h1 : j < 2560) : zpl S 291 100 j := zP_g (zS_291 h) rfl h0 h1
theorem zN_291 {S : ZS} (h : zSh S) : 291 < S.2.1 ∧ 100 ≤ (S.1 291).1 := zN_g (zS_291 h) rfl
theorem zV_291 {S : ZS} (h : zSh S) : ((S.1 291).2 : Int) = 2560 := zV_g (zS_291 h)
theorem zS_292 {S : ZS} (h : zSh S) : S.1 292 = (100, 320) ∧ 292 < S.2.1 := zS_g h (xfS_at 257 rfl) rfl rfl
theorem zP_292 {S : ZS} (h : zSh S) {j : Int} (h0 : 0 ≤ j) (h1 : j < 320) : zpl S 292 100 j := zP_g (zS_292 h) rfl h0 h1
theorem zN_292 {S : ZS} (h : zSh S) : 292 < S.2.1 ∧ 100 ≤ (S.1 292).1 := zN_g (zS_292 h) rfl
theorem zV_292 {S : ZS} (h : zSh S) : ((S.1 292).2 : Int) = 320 := zV_g (zS_292 h)
theorem zS_293 {S : ZS} (h : zSh S) : S.1 293 = (100, 256) ∧ 293 < S.2.1 := zS_g h (xfS_at 258 rfl) rfl rfl
theorem zP_293 {S : ZS} (h : zSh S) {j : Int} (h0 : 0 ≤ j) (h1 : j < 256) : zpl S 293 100 j := zP_g (zS_293 h) rfl h0 h1
theorem zN_293 {S : ZS} (h : zSh S) : 293 < S.2.1 ∧ 100 ≤ (S.1 293).1 := zN_g (zS_293 h) rfl
theorem zV_293 {S : ZS} (h : zSh S) : ((S.1 293).2 : Int) = 256 := zV_g (zS_293 h)
theorem zS_294 {S : ZS} (h : zSh S) : S.1 294 = (100, 300) ∧ 294 < S.2.1 := zS_g h (xfS_at 259 rfl) rfl rfl
theorem zP_294 {S : ZS} (h : zSh S) {j : Int} (h0 : 0 ≤ j) (h1 : j < 300) : zpl S 294 100 j := zP_g (zS_294 h) rfl h0 h1
theorem zN_294 {S : ZS} (h : zSh S) : 294 < S.2.1 ∧ 100 ≤ (S.1 294).1 := zN_g (zS_294 h) rfl
theorem zV_294 {S : ZS} (h : zSh S) : ((S.1 294).2 : Int) = 300 := zV_g (zS_294 h)
theorem zS_295 {S : ZS} (h : zSh S) : S.1 295 = (100, 160) ∧ 295 < S.2.1 := zS_g h (xfS_at 260 rfl) rfl rfl
theorem zP_295 {S : ZS} (h : zSh S) {j : Int} (h0 : 0 ≤ j) (h1 : j < 160) : zpl S 295 100 j := zP_g (zS_295 h) rfl h0 h1
theorem zN_295 {S : ZS} (h : zSh S) : 295 < S.2.1 ∧ 100 ≤ (S.1 295).1 := zN_g (zS_295 h) rfl
theorem zV_295 {S : ZS} (h : zSh S) : ((S.1 295).2 : Int) = 160 := zV_g (zS_295 h)
theorem zS_296 {S : ZS} (h : zSh S) : S.1 296 = (103, 10) ∧ 296 < S.2.1 := zS_g h (xfS_at 261 rfl) rfl rfl
theorem zP_296 {S : ZS} (h : zSh S) {j : Int} (h0 : 0 ≤ j) (h1 : j < 10) : zpl S 296 103 j := zP_g (zS_296 h) rfl h0 h1
theorem zN_296 {S : ZS} (h : zSh S) : 296 < S.2.1 ∧ 100 ≤ (S.1 296).1 := zN_g (zS_296 h) rfl
theorem zV_296 {S : ZS} (h : zSh S) : ((S.1 296).2 : Int) = 10 := zV_g (zS_296 h)
theorem zS_297 {S : ZS} (h : zSh S) : S.1 297 = (100, 60) ∧ 297 < S.2.1 := zS_g h (xfS_at 262 rfl) rfl rfl
theorem zP_297 {S : ZS} (h : zSh S) {j : Int} (h0 : 0 ≤ j) (h1 : j < 60) : zpl S 297 100 j := zP_g (zS_297 h) rfl h0 h1
theorem zN_297 {S : ZS} (h : zSh S) : 297 < S.2.1 ∧ 100 ≤ (S.1 297).1 := zN_g (zS_297 h) rfl
theorem zV_297 {S : ZS} (h : zSh S) : ((S.1 297).2 : Int) = 60 := zV_g (zS_297 h)
theorem zS_298 {S : ZS} (h : zSh S) : S.1 298 = (100, 100) ∧ 298 < S.2.1 := zS_g h (xfS_at 263 rfl) rfl rfl
theorem zP_298 {S : ZS} (h : zSh S) {j : Int} (h0 : 0 ≤ j) (h1 : j < 100) : zpl S 298 100 j := zP_g (zS_298 h) rfl h0 h1
theorem zN_298 {S : ZS} (h : zSh S) : 298 < S.2.1 ∧ 100 ≤ (S.1 298).1 := zN_g (zS_298 h) rfl
theorem zV_298 {S : ZS} (h : zSh S) : ((S.1 298).2 : Int) = 100 := zV_g (zS_298 h)
theorem zS_299 {S : ZS} (h : zSh S) : S.1 299 = (100, 100) ∧ 299 < S.2.1 := zS_g h (xfS_at 264 rfl) rfl rfl
theorem zP_299 {S : ZS} (h : zSh S) {j : Int} (h0 : 0 ≤ j) (h1 : j < 100) : zpl S 299 100 j := zP_g (zS_299 h) rfl h0 h1
theorem zN_299 {S : ZS} (h : zSh S) : 299 < S.2.1 ∧ 100 ≤ (S.1 299).1 := zN_g (zS_299 h) rfl
theorem zV_299 {S : ZS} (h : zSh S) : ((S.1 299).2 : Int) = 100 := zV_g (zS_299 h)
theorem zS_300 {S : ZS} (h : zSh S) : S.1 300 = (100, 100) ∧ 300 < S.2.1 := zS_g h (xfS_at 265 rfl) rfl rfl
theorem zP_300 {S : ZS} (h : zSh S) {j : Int} (h0 : 0 ≤ j) (h1 : j < 100) : zpl S 300 100 j := zP_g (zS_300 h) rfl h0 h1
theorem zN_300 {S : ZS} (h : zSh S) : 300 < S.2.1 ∧ 100 ≤ (S.1 300).1 := zN_g (zS_300 h) rfl
theorem zV_300 {S : ZS} (h : zSh S) : ((S.1 300).2 : Int) = 100 := zV_g (zS_300 h)
theorem zS_301 {S : ZS} (h : zSh S) : S.1 301 = (100, 100) ∧ 301 < S.2.1 := zS_g h (xfS_at 266 rfl) rfl rfl
theorem zP_301 {S : ZS} (h : zSh S) {j : Int} (h0 : 0 ≤ j) (h1 : j < 100) : zpl S 301 100 j := zP_g (zS_301 h) rfl h0 h1
theorem zN_301 {S : ZS} (h : zSh S) : 301 < S.2.1 ∧ 100 ≤ (S.1 301).1 := zN_g (zS_301 h) rfl
theorem zV_301 {S : ZS} (h : zSh S) : ((S.1 301).2 : Int) = 100 := zV_g (zS_301 h)
theorem zR_40_0 {R : ZR} (h : zRs R) : R 40 0 = some 41 := zR_g h 0 rfl
theorem zR_40_2 {R : ZR} (h : zRs R) : R 40 2 = some 42 := zR_g h 1 rfl
theorem zR_40_6 {R : ZR} (h : zRs R) : R 40 6 = some 61 := zR_g h 2 rfl
theorem zR_40_8 {R : ZR} (h : zRs R) : R 40 8 = some 63 := zR_g h 3 rfl
theorem zR_40_9 {R : ZR} (h : zRs R) : R 40 9 = some 82 := zR_g h 4 rfl
theorem zR_40_10 {R : ZR} (h : zRs R) : R 40 10 = some 98 := zR_g h 5 rfl
theorem zR_40_11 {R : ZR} (h : zRs R) : R 40 11 = some 104 := zR_g h 6 rfl
theorem zR_40_17 {R : ZR} (h : zRs R) : R 40 17 = some 138 := zR_g h 7 rfl
theorem zR_40_18 {R : ZR} (h : zRs R) : R 40 18 = some 145 := zR_g h 8 rfl
theorem zR_40_19 {R : ZR} (h : zRs R) : R 40 19 = some 154 := zR_g h 9 rfl
theorem zR_43_3 {R : ZR} (h : zRs R) : R 43 3 = some 44 := zR_g h 10 rfl
theorem zR_43_4 {R : ZR} (h : zRs R) : R 43 4 = some 45 := zR_g h 11 rfl
theorem zR_43_5 {R : ZR} (h : zRs R) : R 43 5 = some 46 := zR_g h 12 rfl
theorem zR_43_6 {R : ZR} (h : zRs R) : R 43 6 = some 47 := zR_g h 13 rfl
theorem zR_43_7 {R : ZR} (h : zRs R) : R 43 7 = some 48 := zR_g h 14 rfl
theorem zR_43_8 {R : ZR} (h : zRs R) : R 43 8 = some 49 := zR_g h 15 rfl
theorem zR_43_9 {R : ZR} (h : zRs R) : R 43 9 = some 50 := zR_g h 16 rfl
theorem zR_43_11 {R : ZR} (h : zRs R) : R 43 11 = some 51 := zR_g h 17 rfl
theorem zR_52_3 {R : ZR} (h : zRs R) : R 52 3 = some 53 := zR_g h 18 rfl
theorem zR_52_4 {R : ZR} (h : zRs R) : R 52 4 = some 54 := zR_g h 19 rfl
theorem zR_52_5 {R : ZR} (h : zRs R) : R 52 5 = some 55 := zR_g h 20 rfl
theorem zR_52_6 {R : ZR} (h : zRs R) : R 52 6 = some 56 := zR_g h 21 rfl
theorem zR_52_7 {R : ZR} (h : zRs R) : R 52 7 = some 57 := zR_g h 22 rfl
theorem zR_52_8 {R : ZR} (h : zRs R) : R 52 8 = some 58 := zR_g h 23 rfl
theorem zR_52_9 {R : ZR} (h : zRs R) : R 52 9 = some 59 := zR_g h 24 rfl
theorem zR_52_11 {R : ZR} (h : zRs R) : R 52 11 = some 60 := zR_g h 25 rfl
theorem zR_63_1 {R : ZR} (h : zRs R) : R 63 1 = some 64 := zR_g h 26 rfl
theorem zR_63_2 {R : ZR} (h : zRs R) : R 63 2 = some 65 := zR_g h 27 rfl
theorem zR_63_3 {R : ZR} (h : zRs R) : R 63 3 = some 67 := zR_g h 28 rfl
theorem zR_63_4 {R : ZR} (h : zRs R) : R 63 4 = some 68 := zR_g h 29 rfl
theorem zR_63_5 {R : ZR} (h : zRs R) : R 63 5 = some 70 := zR_g h 30 rfl
theorem zR_63_6 {R : ZR} (h : zRs R) : R 63 6 = some 72 := zR_g h 31 rfl
theorem zR_63_7 {R : ZR} (h : zRs R) : R 63 7 = some 74 := zR_g h 32 rfl
theorem zR_63_8 {R : ZR} (h : zRs R) : R 63 8 = some 76 := zR_g h 33 rfl
theorem zR_63_9 {R : ZR} (h : zRs R) : R 63 9 = some 78 := zR_g h 34 rfl
theorem zR_63_10 {R : ZR} (h : zRs R) : R 63 10 = some 79 := zR_g h 35 rfl
theorem zR_63_11 {R : ZR} (h : zRs R) : R 63 11 = some 80 := zR_g h 36 rfl
theorem zR_63_12 {R : ZR} (h : zRs R) : R 63 12 = some 81 := zR_g h 37 rfl
theorem zR_65_0 {R : ZR} (h : zRs R) : R 65 0 = some 66 := zR_g h 38 rfl
theorem zR_68_0 {R : ZR} (h : zRs R) : R 68 0 = some 69 := zR_g h 39 rfl
theorem zR_70_0 {R : ZR} (h : zRs R) : R 70 0 = some 71 := zR_g h 40 rfl
theorem zR_72_0 {R : ZR} (h : zRs R) : R 72 0 = some 73 := zR_g h 41 rfl
theorem zR_74_0 {R : ZR} (h : zRs R) : R 74 0 = some 75 := zR_g h 42 rfl
theorem zR_76_0 {R : ZR} (h : zRs R) : R 76 0 = some 77 := zR_g h 43 rfl
theorem zR_82_5 {R : ZR} (h : zRs R) : R 82 5 = some 83 := zR_g h 44 rfl
theorem zR_82_6 {R : ZR} (h : zRs R) : R 82 6 = some 84 := zR_g h 45 rfl
theorem zR_82_7 {R : ZR} (h : zRs R) : R 82 7 = some 85 := zR_g h 46 rfl
theorem zR_82_8 {R : ZR} (h : zRs R) : R 82 8 = some 86 := zR_g h 47 rfl
theorem zR_82_9 {R : ZR} (h : zRs R) : R 82 9 = some 87 := zR_g h 48 rfl
theorem zR_82_10 {R : ZR} (h : zRs R) : R 82 10 = some 88 := zR_g h 49 rfl
theorem zR_82_11 {R : ZR} (h : zRs R) : R 82 11 = some 90 := zR_g h 50 rfl
theorem zR_82_12 {R : ZR} (h : zRs R) : R 82 12 = some 92 := zR_g h 51 rfl
theorem zR_82_13 {R : ZR} (h : zRs R) : R 82 13 = some 93 := zR_g h 52 rfl
theorem zR_82_14 {R : ZR} (h : zRs R) : R 82 14 = some 94 := zR_g h 53 rfl
theorem zR_82_15 {R : ZR} (h : zRs R) : R 82 15 = some 95 := zR_g h 54 rfl
theorem zR_82_16 {R : ZR} (h : zRs R) : R 82 16 = some 96 := zR_g h 55 rfl
theorem zR_82_17 {R : ZR} (h : zRs R) : R 82 17 = some 97 := zR_g h 56 rfl
theorem zR_88_0 {R : ZR} (h : zRs R) : R 88 0 = some 89 := zR_g h 57 rfl
theorem zR_90_0 {R : ZR} (h : zRs R) : R 90 0 = some 91 := zR_g h 58 rfl
theorem zR_98_0 {R : ZR} (h : zRs R) : R 98 0 = some 82 := zR_g h 59 rfl
theorem zR_98_1 {R : ZR} (h : zRs R) : R 98 1 = some 99 := zR_g h 60 rfl
theorem zR_98_2 {R : ZR} (h : zRs R) : R 98 2 = some 100 := zR_g h 61 rfl
theorem zR_98_3 {R : ZR} (h : zRs R) : R 98 3 = some 101 := zR_g h 62 rfl
theorem zR_98_4 {R : ZR} (h : zRs R) : R 98 4 = some 102 := zR_g h 63 rfl
theorem zR_98_6 {R : ZR} (h : zRs R) : R 98 6 = some 103 := zR_g h 64 rfl
theorem zR_104_0 {R : ZR} (h : zRs R) : R 104 0 = some 105 := zR_g h 65 rfl
theorem zR_106_1 {R : ZR} (h : zRs R) : R 106 1 = some 107 := zR_g h 66 rfl
theorem zR_106_5 {R : ZR} (h : zRs R) : R 106 5 = some 109 := zR_g h 67 rfl
theorem zR_106_7 {R : ZR} (h : zRs R) : R 106 7 = some 110 := zR_g h 68 rfl
theorem zR_106_8 {R : ZR} (h : zRs R) : R 106 8 = some 111 := zR_g h 69 rfl
theorem zR_106_10 {R : ZR} (h : zRs R) : R 106 10 = some 113 := zR_g h 70 rfl
theorem zR_106_12 {R : ZR} (h : zRs R) : R 106 12 = some 114 := zR_g h 71 rfl
theorem zR_106_14 {R : ZR} (h : zRs R) : R 106 14 = some 115 := zR_g h 72 rfl
theorem zR_106_15 {R : ZR} (h : zRs R) : R 106 15 = some 116 := zR_g h 73 rfl
theorem zR_106_16 {R : ZR} (h : zRs R) : R 106 16 = some 117 := zR_g h 74 rfl
theorem zR_107_0 {R : ZR} (h : zRs R) : R 107 0 = some 108 := zR_g h 75 rfl
theorem zR_111_0 {R : ZR} (h : zRs R) : R 111 0 = some 112 := zR_g h 76 rfl
theorem zR_118_1 {R : ZR} (h : zRs R) : R 118 1 = some 119 := zR_g h 77 rfl
theorem zR_118_5 {R : ZR} (h : zRs R) : R 118 5 = some 121 := zR_g h 78 rfl
theorem zR_118_7 {R : ZR} (h : zRs R) : R 118 7 = some 122 := zR_g h 79 rfl
theorem zR_118_8 {R : ZR} (h : zRs R) : R 118 8 = some 123 := zR_g h 80 rfl
theorem zR_118_10 {R : ZR} (h : zRs R) : R 118 10 = some 125 := zR_g h 81 rfl
theorem zR_118_12 {R : ZR} (h : zRs R) : R 118 12 = some 126 := zR_g h 82 rfl
theorem zR_118_14 {R : ZR} (h : zRs R) : R 118 14 = some 127 := zR_g h 83 rfl
theorem zR_118_15 {R : ZR} (h : zRs R) : R 118 15 = some 128 := zR_g h 84 rfl
theorem zR_118_16 {R : ZR} (h : zRs R) : R 118 16 = some 129 := zR_g h 85 rfl
theorem zR_119_0 {R : ZR} (h : zRs R) : R 119 0 = some 120 := zR_g h 86 rfl
theorem zR_123_0 {R : ZR} (h : zRs R) : R 123 0 = some 124 := zR_g h 87 rfl
theorem zR_130_0 {R : ZR} (h : zRs R) : R 130 0 = some 131 := zR_g h 88 rfl
theorem zR_130_5 {R : ZR} (h : zRs R) : R 130 5 = some 132 := zR_g h 89 rfl
theorem zR_130_6 {R : ZR} (h : zRs R) : R 130 6 = some 133 := zR_g h 90 rfl
theorem zR_134_0 {R : ZR} (h : zRs R) : R 134 0 = some 135 := zR_g h 91 rfl
theorem zR_134_5 {R : ZR} (h : zRs R) : R 134 5 = some 136 := zR_g h 92 rfl
theorem zR_134_6 {R : ZR} (h : zRs R) : R 134 6 = some 137 := zR_g h 93 rfl
theorem zR_138_1 {R : ZR} (h : zRs R) : R 138 1 = some 139 := zR_g h 94 rfl
theorem zR_138_2 {R : ZR} (h : zRs R) : R 138 2 = some 140 := zR_g h 95 rfl
theorem zR_138_4 {R : ZR} (h : zRs R) : R 138 4 = some 141 := zR_g h 96 rfl
theorem zR_138_5 {R : ZR} (h : zRs R) : R 138 5 = some 142 := zR_g h 97 rfl
theorem zR_138_7 {R : ZR} (h : zRs R) : R 138 7 = some 143 := zR_g h 98 rfl
theorem zR_138_9 {R : ZR} (h : zRs R) : R 138 9 = some 144 := zR_g h 99 rfl
theorem zR_145_0 {R : ZR} (h : zRs R) : R 145 0 = some 146 := zR_g h 100 rfl
theorem zR_145_2 {R : ZR} (h : zRs R) : R 145 2 = some 147 := zR_g h 101 rfl
theorem zR_145_3 {R : ZR} (h : zRs R) : R 145 3 = some 148 := zR_g h 102 rfl
theorem zR_145_4 {R : ZR} (h : zRs R) : R 145 4 = some 149 := zR_g h 103 rfl
theorem zR_145_6 {R : ZR} (h : zRs R) : R 145 6 = some 150 := zR_g h 104 rfl
theorem zR_145_7 {R : ZR} (h : zRs R) : R 145 7 = some 151 := zR_g h 105 rfl
theorem zR_145_8 {R : ZR} (h : zRs R) : R 145 8 = some 152 := zR_g h 106 rfl
theorem zR_145_12 {R : ZR} (h : zRs R) : R 145 12 = some 153 := zR_g h 107 rfl
theorem zR_154_1 {R : ZR} (h : zRs R) : R 154 1 = some 155 := zR_g h 108 rfl
theorem zR_154_2 {R : ZR} (h : zRs R) : R 154 2 = some 156 := zR_g h 109 rfl
theorem zR_154_3 {R : ZR} (h : zRs R) : R 154 3 = some 157 := zR_g h 110 rfl
theorem zR_154_4 {R : ZR} (h : zRs R) : R 154 4 = some 158 := zR_g h 111 rfl
theorem zR_154_5 {R : ZR} (h : zRs R) : R 154 5 = some 159 := zR_g h 112 rfl
theorem zR_154_7 {R : ZR} (h : zRs R) : R 154 7 = some 160 := zR_g h 113 rfl
theorem zR_154_9 {R : ZR} (h : zRs R) : R 154 9 = some 161 := zR_g h 114 rfl
theorem zR_154_10 {R : ZR} (h : zRs R) : R 154 10 = some 162 := zR_g h 115 rfl
theorem zR_154_11 {R : ZR} (h : zRs R) : R 154 11 = some 163 := zR_g h 116 rfl
theorem zR_154_12 {R : ZR} (h : zRs R) : R 154 12 = some 164 := zR_g h 117 rfl
theorem zR_165_1 {R : ZR} (h : zRs R) : R 165 1 = some 166 := zR_g h 118 rfl
theorem zR_165_3 {R : ZR} (h : zRs R) : R 165 3 = some 167 := zR_g h 119 rfl
theorem zR_165_8 {R : ZR} (h : zRs R) : R 165 8 = some 194 := zR_g h 120 rfl
theorem zR_165_9 {R : ZR} (h : zRs R) : R 165 9 = some 195 := zR_g h 121 rfl
theorem zR_165_10 {R : ZR} (h : zRs R) : R 165 10 = some 196 := zR_g h 122 rfl
theorem zR_165_16 {R : ZR} (h : zRs R) : R 165 16 = some 197 := zR_g h 123 rfl
theorem zR_165_17 {R : ZR} (h : zRs R) : R 165 17 = some 198 := zR_g h 124 rfl
theorem zR_165_18 {R : ZR} (h : zRs R) : R 165 18 = some 199 := zR_g h 125 rfl
theorem zR_165_19 {R : ZR} (h : zRs R) : R 165 19 = some 200 := zR_g h 126 rfl
theorem zR_165_20 {R : ZR} (h : zRs R) : R 165 20 = some 201 := zR_g h 127 rfl
theorem zR_165_21 {R : ZR} (h : zRs R) : R 165 21 = some 202 := zR_g h 128 rfl
theorem zR_165_23 {R : ZR} (h : zRs R) : R 165 23 = some 203 := zR_g h 129 rfl
theorem zR_165_25 {R : ZR} (h : zRs R) : R 165 25 = some 204 := zR_g h 130 rfl
theorem zR_165_26 {R : ZR} (h : zRs R) : R 165 26 = some 205 := zR_g h 131 rfl
theorem zR_165_27 {R : ZR} (h : zRs R) : R 165 27 = some 206 := zR_g h 132 rfl
theorem zR_165_28 {R : ZR} (h : zRs R) : R 165 28 = some 207 := zR_g h 133 rfl
theorem zR_165_36 {R : ZR} (h : zRs R) : R 165 36 = some 208 := zR_g h 134 rfl
theorem zR_165_37 {R : ZR} (h : zRs R) : R 165 37 = some 209 := zR_g h 135 rfl
theorem zR_165_38 {R : ZR} (h : zRs R) : R 165 38 = some 210 := zR_g h 136 rfl
theorem zR_165_39 {R : ZR} (h : zRs R) : R 165 39 = some 211 := zR_g h 137 rfl
theorem zR_165_40 {R : ZR} (h : zRs R) : R 165 40 = some 212 := zR_g h 138 rfl
theorem zR_165_47 {R : ZR} (h : zRs R) : R 165 47 = some 234 := zR_g h 139 rfl
theorem zR_165_48 {R : ZR} (h : zRs R) : R 165 48 = some 268 := zR_g h 140 rfl
theorem zR_165_50 {R : ZR} (h : zRs R) : R 165 50 = some 280 := zR_g h 141 rfl
theorem zR_167_0 {R : ZR} (h : zRs R) : R 167 0 = some 168 := zR_g h 142 rfl
theorem zR_167_1 {R : ZR} (h : zRs R) : R 167 1 = some 181 := zR_g h 143 rfl
theorem zR_168_2 {R : ZR} (h : zRs R) : R 168 2 = some 169 := zR_g h 144 rfl
theorem zR_168_5 {R : ZR} (h : zRs R) : R 168 5 = some 170 := zR_g h 145 rfl
theorem zR_168_6 {R : ZR} (h : zRs R) : R 168 6 = some 171 := zR_g h 146 rfl
theorem zR_168_7 {R : ZR} (h : zRs R) : R 168 7 = some 172 := zR_g h 147 rfl
theorem zR_168_8 {R : ZR} (h : zRs R) : R 168 8 = some 173 := zR_g h 148 rfl
theorem zR_168_9 {R : ZR} (h : zRs R) : R 168 9 = some 174 := zR_g h 149 rfl
theorem zR_168_10 {R : ZR} (h : zRs R) : R 168 10 = some 175 := zR_g h 150 rfl
theorem zR_168_11 {R : ZR} (h : zRs R) : R 168 11 = some 176 := zR_g h 151 rfl
theorem zR_168_12 {R : ZR} (h : zRs R) : R 168 12 = some 177 := zR_g h 152 rfl
theorem zR_168_23 {R : ZR} (h : zRs R) : R 168 23 = some 178 := zR_g h 153 rfl
theorem zR_168_24 {R : ZR} (h : zRs R) : R 168 24 = some 179 := zR_g h 154 rfl
theorem zR_168_25 {R : ZR} (h : zRs R) : R 168 25 = some 180 := zR_g h 155 rfl
theorem zR_181_2 {R : ZR} (h : zRs R) : R 181 2 = some 182 := zR_g h 156 rfl
theorem zR_181_5 {R : ZR} (h : zRs R) : R 181 5 = some 183 := zR_g h 157 rfl
theorem zR_181_6 {R : ZR} (h : zRs R) : R 181 6 = some 184 := zR_g h 158 rfl
theorem zR_181_7 {R : ZR} (h : zRs R) : R 181 7 = some 185 := zR_g h 159 rfl
theorem zR_181_8 {R : ZR} (h : zRs R) : R 181 8 = some 186 := zR_g h 160 rfl
theorem zR_181_9 {R : ZR} (h : zRs R) : R 181 9 = some 187 := zR_g h 161 rfl
theorem zR_181_10 {R : ZR} (h : zRs R) : R 181 10 = some 188 := zR_g h 162 rfl
theorem zR_181_11 {R : ZR} (h : zRs R) : R 181 11 = some 189 := zR_g h 163 rfl
theorem zR_181_12 {R : ZR} (h : zRs R) : R 181 12 = some 190 := zR_g h 164 rfl
theorem zR_181_23 {R : ZR} (h : zRs R) : R 181 23 = some 191 := zR_g h 165 rfl
theorem zR_181_24 {R : ZR} (h : zRs R) : R 181 24 = some 192 := zR_g h 166 rfl
theorem zR_181_25 {R : ZR} (h : zRs R) : R 181 25 = some 193 := zR_g h 167 rfl
theorem zR_212_1 {R : ZR} (h : zRs R) : R 212 1 = some 213 := zR_g h 168 rfl
theorem zR_212_2 {R : ZR} (h : zRs R) : R 212 2 = some 214 := zR_g h 169 rfl
theorem zR_212_3 {R : ZR} (h : zRs R) : R 212 3 = some 215 := zR_g h 170 rfl
theorem zR_212_4 {R : ZR} (h : zRs R) : R 212 4 = some 216 := zR_g h 171 rfl
theorem zR_212_5 {R : ZR} (h : zRs R) : R 212 5 = some 217 := zR_g h 172 rfl
theorem zR_212_6 {R : ZR} (h : zRs R) : R 212 6 = some 218 := zR_g h 173 rfl
theorem zR_212_7 {R : ZR} (h : zRs R) : R 212 7 = some 219 := zR_g h 174 rfl
theorem zR_212_8 {R : ZR} (h : zRs R) : R 212 8 = some 220 := zR_g h 175 rfl
theorem zR_212_9 {R : ZR} (h : zRs R) : R 212 9 = some 221 := zR_g h 176 rfl
theorem zR_212_10 {R : ZR} (h : zRs R) : R 212 10 = some 222 := zR_g h 177 rfl
theorem zR_212_11 {R : ZR} (h : zRs R) : R 212 11 = some 223 := zR_g h 178 rfl
theorem zR_212_12 {R : ZR} (h : zRs R) : R 212 12 = some 224 := zR_g h 179 rfl
theorem zR_212_14 {R : ZR} (h : zRs R) : R 212 14 = some 225 := zR_g h 180 rfl
theorem zR_212_15 {R : ZR} (h : zRs R) : R 212 15 = some 226 := zR_g h 181 rfl
theorem zR_212_16 {R : ZR} (h : zRs R) : R 212 16 = some 227 := zR_g h 182 rfl
theorem zR_212_18 {R : ZR} (h : zRs R) : R 212 18 = some 228 := zR_g h 183 rfl
theorem zR_212_20 {R : ZR} (h : zRs R) : R 212 20 = some 229 := zR_g h 184 rfl
theorem zR_212_26 {R : ZR} (h : zRs R) : R 212 26 = some 230 := zR_g h 185 rfl
theorem zR_212_27 {R : ZR} (h : zRs R) : R 212 27 = some 231 := zR_g h 186 rfl
theorem zR_212_28 {R : ZR} (h : zRs R) : R 212 28 = some 232 := zR_g h 187 rfl
theorem zR_212_30 {R : ZR} (h : zRs R) : R 212 30 = some 233 := zR_g h 188 rfl
theorem zR_234_2 {R : ZR} (h : zRs R) : R 234 2 = some 235 := zR_g h 189 rfl
theorem zR_234_4 {R : ZR} (h : zRs R) : R 234 4 = some 236 := zR_g h 190 rfl
theorem zR_234_5 {R : ZR} (h : zRs R) : R 234 5 = some 237 := zR_g h 191 rfl
theorem zR_234_6 {R : ZR} (h : zRs R) : R 234 6 = some 238 := zR_g h 192 rfl
theorem zR_234_7 {R : ZR} (h : zRs R) : R 234 7 = some 239 := zR_g h 193 rfl
theorem zR_234_8 {R : ZR} (h : zRs R) : R 234 8 = some 240 := zR_g h 194 rfl
theorem zR_234_9 {R : ZR} (h : zRs R) : R 234 9 = some 241 := zR_g h 195 rfl
theorem zR_234_10 {R : ZR} (h : zRs R) : R 234 10 = some 242 := zR_g h 196 rfl
theorem zR_234_11 {R : ZR} (h : zRs R) : R 234 11 = some 243 := zR_g h 197 rfl
theorem zR_234_12 {R : ZR} (h : zRs R) : R 234 12 = some 244 := zR_g h 198 rfl
theorem zR_234_13 {R : ZR} (h : zRs R) : R 234 13 = some 245 := zR_g h 199 rfl
theorem zR_234_14 {R : ZR} (h : zRs R) : R 234 14 = some 246 := zR_g h 200 rfl
theorem zR_234_22 {R : ZR} (h : zRs R) : R 234 22 = some 247 := zR_g h 201 rfl
theorem zR_234_23 {R : ZR} (h : zRs R) : R 234 23 = some 248 := zR_g h 202 rfl
theorem zR_234_24 {R : ZR} (h : zRs R) : R 234 24 = some 249 := zR_g h 203 rfl
theorem zR_234_26 {R : ZR} (h : zRs R) : R 234 26 = some 250 := zR_g h 204 rfl
theorem zR_234_29 {R : ZR} (h : zRs R) : R 234 29 = some 251 := zR_g h 205 rfl
theorem zR_234_31 {R : ZR} (h : zRs R) : R 234 31 = some 252 := zR_g h 206 rfl
theorem zR_234_33 {R : ZR} (h : zRs R) : R 234 33 = some 253 := zR_g h 207 rfl
theorem zR_234_37 {R : ZR} (h : zRs R) : R 234 37 = some 254 := zR_g h 208 rfl
theorem zR_234_39 {R : ZR} (h : zRs R) : R 234 39 = some 255 := zR_g h 209 rfl
theorem zR_234_41 {R : ZR} (h : zRs R) : R 234 41 = some 256 := zR_g h 210 rfl
theorem zR_234_43 {R : ZR} (h : zRs R) : R 234 43 = some 257 := zR_g h 211 rfl
theorem zR_234_54 {R : ZR} (h : zRs R) : R 234 54 = some 258 := zR_g h 212 rfl
theorem zR_234_56 {R : ZR} (h : zRs R) : R 234 56 = some 259 := zR_g h 213 rfl
theorem zR_234_57 {R : ZR} (h : zRs R) : R 234 57 = some 260 := zR_g h 214 rfl
theorem zR_234_58 {R : ZR} (h : zRs R) : R 234 58 = some 261 := zR_g h 215 rfl
theorem zR_234_59 {R : ZR} (h : zRs R) : R 234 59 = some 262 := zR_g h 216 rfl
theorem zR_234_60 {R : ZR} (h : zRs R) : R 234 60 = some 263 := zR_g h 217 rfl
theorem zR_234_61 {R : ZR} (h : zRs R) : R 234 61 = some 264 := zR_g h 218 rfl
theorem zR_234_62 {R : ZR} (h : zRs R) : R 234 62 = some 265 := zR_g h 219 rfl
theorem zR_234_63 {R : ZR} (h : zRs R) : R 234 63 = some 266 := zR_g h 220 rfl
theorem zR_234_64 {R : ZR} (h : zRs R) : R 234 64 = some 267 := zR_g h 221 rfl
theorem zR_268_4 {R : ZR} (h : zRs R) : R 268 4 = some 269 := zR_g h 222 rfl
theorem zR_268_6 {R : ZR} (h : zRs R) : R 268 6 = some 270 := zR_g h 223 rfl
theorem zR_268_8 {R : ZR} (h : zRs R) : R 268 8 = some 271 := zR_g h 224 rfl
theorem zR_268_9 {R : ZR} (h : zRs R) : R 268 9 = some 272 := zR_g h 225 rfl
theorem zR_268_10 {R : ZR} (h : zRs R) : R 268 10 = some 273 := zR_g h 226 rfl
theorem zR_268_12 {R : ZR} (h : zRs R) : R 268 12 = some 274 := zR_g h 227 rfl
theorem zR_268_13 {R : ZR} (h : zRs R) : R 268 13 = some 275 := zR_g h 228 rfl
theorem zR_268_14 {R : ZR} (h : zRs R) : R 268 14 = some 276 := zR_g h 229 rfl
theorem zR_268_16 {R : ZR} (h : zRs R) : R 268 16 = some 277 := zR_g h 230 rfl
theorem zR_268_17 {R : ZR} (h : zRs R) : R 268 17 = some 278 := zR_g h 231 rfl
theorem zR_268_18 {R : ZR} (h : zRs R) : R 268 18 = some 279 := zR_g h 232 rfl
theorem zR_280_1 {R : ZR} (h : zRs R) : R 280 1 = some 281 := zR_g h 233 rfl
theorem zR_280_3 {R : ZR} (h : zRs R) : R 280 3 = some 282 := zR_g h 234 rfl
theorem zR_280_4 {R : ZR} (h : zRs R) : R 280 4 = some 283 := zR_g h 235 rfl
theorem zR_280_5 {R : ZR} (h : zRs R) : R 280 5 = some 284 := zR_g h 236 rfl
theorem zR_280_6 {R : ZR} (h : zRs R) : R 280 6 = some 285 := zR_g h 237 rfl
theorem zR_280_7 {R : ZR} (h : zRs R) : R 280 7 = some 286 := zR_g h 238 rfl
theorem zR_280_9 {R : ZR} (h : zRs R) : R 280 9 = some 287 := zR_g h 239 rfl
theorem zR_280_10 {R : ZR} (h : zRs R) : R 280 10 = some 288 := zR_g h 240 rfl
theorem zR_280_11 {R : ZR} (h : zRs R) : R 280 11 = some 289 := zR_g h 241 rfl
theorem zR_280_12 {R : ZR} (h : zRs R) : R 280 12 = some 290 := zR_g h 242 rfl
theorem zR_280_13 {R : ZR} (h : zRs R) : R 280 13 = some 291 := zR_g h 243 rfl
theorem zR_280_14 {R : ZR} (h : zRs R) : R 280 14 = some 292 := zR_g h 244 rfl
theorem zR_280_16 {R : ZR} (h : zRs R) : R 280 16 = some 293 := zR_g h 245 rfl
theorem zR_280_18 {R : ZR} (h : zRs R) : R 280 18 = some 294 := zR_g h 246 rfl
theorem zR_280_19 {R : ZR} (h : zRs R) : R 280 19 = some 295 := zR_g h 247 rfl
theorem zR_280_20 {R : ZR} (h : zRs R) : R 280 20 = some 296 := zR_g h 248 rfl
theorem zR_280_23 {R : ZR} (h : zRs R) : R 280 23 = some 297 := zR_g h 249 rfl
theorem zR_280_25 {R : ZR} (h : zRs R) : R 280 25 = some 298 := zR_g h 250 rfl
theorem zR_280_26 {R : ZR} (h : zRs R) : R 280 26 = some 299 := zR_g h 251 rfl
theorem zR_280_27 {R : ZR} (h : zRs R) : R 280 27 = some 300 := zR_g h 252 rfl
theorem zR_280_28 {R : ZR} (h : zRs R) : R 280 28 = some 301 := zR_g h 253 rfl
