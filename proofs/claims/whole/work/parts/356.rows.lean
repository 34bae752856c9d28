/-! ROWS of six numbers -/
def zRw (rm k : Nat) (R : ZR) (S : ZS) : Prop := (40 ≤ k ∧ rm ≤ 100) ∧ R k 0 = some (k + 1) ∧ S.1 k = (7, 3) ∧ S.1 (k + 1) = (100, 6 * rm) ∧ k + 1 < S.2.1
theorem zWX {rm k : Nat} {R : ZR} {S : ZS} (h : zRw rm k R S) : xat S k 7 := ⟨h.1.1, by have := h.2.2.2.2; omega, by rw [h.2.2.1]⟩
theorem zWP {rm k : Nat} {R : ZR} {S : ZS} (h : zRw rm k R S) {j : Int} (h0 : 0 ≤ j) (h1 : j < 6 * rm) : zpl S (k + 1) 100 j := ⟨h.2.2.2.2, by rw [h.2.2.2.1], h0, by rw [h.2.2.2.1]; show j < ((6 * rm : Nat) : Int); omega, by have := h.1.2; omega⟩
theorem zWR {rm k : Nat} {R : ZR} {S : ZS} (h : zRw rm k R S) : R k 0 = some (k + 1) := h.2.1
def zRT (k rm c : Nat) (f : Nat → Nat → Int) (I : ZI) : Prop := I k 1 = rm ∧ I k 2 = c ∧ c ≤ rm ∧ ∀ x y : Nat, x < c → y < 6 → I (k + 1) (6 * x + y) = f x y
theorem zRT_fr {k rm c : Nat} {f : Nat → Nat → Int} {I I' : ZI} (h : zRT k rm c f I) (hf : ∀ c j, (c = k ∧ (j = 1 ∨ j = 2)) ∨ c = k + 1 → I' c j = I c j) : zRT k rm c f I' :=
  ⟨(hf k 1 (by omega)).trans h.1, (hf k 2 (by omega)).trans h.2.1, h.2.2.1, fun x y q w => (hf (k + 1) _ (by omega)).trans (h.2.2.2 x y q w)⟩
def up2z (f : Nat → Nat → Int) (x y : Nat) (v : Int) (a b : Nat) : Int := if a = x ∧ b = y then v else f a b
theorem up2z_at {f : Nat → Nat → Int} {x y : Nat} {v : Int} : up2z f x y v x y = v := if_pos ⟨rfl, rfl⟩
theorem up2z_ne {f : Nat → Nat → Int} {x y a b : Nat} {v : Int} (h : ¬ (a = x ∧ b = y)) : up2z f x y v a b = f a b := if_neg h
def upR (f : Nat → Nat → Int) (c : Nat) (a b d e g : Int) (x y : Nat) : Int := if x = c then (if y = 0 then a else if y = 1 then b else if y = 2 then d else if y = 3 then e else if y = 4 then g else 0) else f x y
theorem upR_ne {f : Nat → Nat → Int} {c x y : Nat} {a b d e g : Int} (h : x ≠ c) : upR f c a b d e g x y = f x y := if_neg h
theorem zRw_65 {R : ZR} {S : ZS} (hR : zRs R) (hS : zSh S) : zRw 16 65 R S := ⟨⟨by decide, by decide⟩, zR_65_0 hR, (zS_65 hS).1, (zS_66 hS).1, (zS_66 hS).2⟩
theorem zRw_68 {R : ZR} {S : ZS} (hR : zRs R) (hS : zSh S) : zRw 100 68 R S := ⟨⟨by decide, by decide⟩, zR_68_0 hR, (zS_68 hS).1, (zS_69 hS).1, (zS_69 hS).2⟩
theorem zRw_70 {R : ZR} {S : ZS} (hR : zRs R) (hS : zSh S) : zRw 50 70 R S := ⟨⟨by decide, by decide⟩, zR_70_0 hR, (zS_70 hS).1, (zS_71 hS).1, (zS_71 hS).2⟩
theorem zRw_72 {R : ZR} {S : ZS} (hR : zRs R) (hS : zSh S) : zRw 60 72 R S := ⟨⟨by decide, by decide⟩, zR_72_0 hR, (zS_72 hS).1, (zS_73 hS).1, (zS_73 hS).2⟩
theorem zRw_74 {R : ZR} {S : ZS} (hR : zRs R) (hS : zSh S) : zRw 30 74 R S := ⟨⟨by decide, by decide⟩, zR_74_0 hR, (zS_74 hS).1, (zS_75 hS).1, (zS_75 hS).2⟩
theorem zRw_76 {R : ZR} {S : ZS} (hR : zRs R) (hS : zSh S) : zRw 60 76 R S := ⟨⟨by decide, by decide⟩, zR_76_0 hR, (zS_76 hS).1, (zS_77 hS).1, (zS_77 hS).2⟩
theorem zRw_88 {R : ZR} {S : ZS} (hR : zRs R) (hS : zSh S) : zRw 40 88 R S := ⟨⟨by decide, by decide⟩, zR_88_0 hR, (zS_88 hS).1, (zS_89 hS).1, (zS_89 hS).2⟩
theorem zRw_90 {R : ZR} {S : ZS} (hR : zRs R) (hS : zSh S) : zRw 12 90 R S := ⟨⟨by decide, by decide⟩, zR_90_0 hR, (zS_90 hS).1, (zS_91 hS).1, (zS_91 hS).2⟩
theorem zRw_104 {R : ZR} {S : ZS} (hR : zRs R) (hS : zSh S) : zRw 30 104 R S := ⟨⟨by decide, by decide⟩, zR_104_0 hR, (zS_104 hS).1, (zS_105 hS).1, (zS_105 hS).2⟩
theorem zRw_107 {R : ZR} {S : ZS} (hR : zRs R) (hS : zSh S) : zRw 60 107 R S := ⟨⟨by decide, by decide⟩, zR_107_0 hR, (zS_107 hS).1, (zS_108 hS).1, (zS_108 hS).2⟩
theorem zRw_111 {R : ZR} {S : ZS} (hR : zRs R) (hS : zSh S) : zRw 40 111 R S := ⟨⟨by decide, by decide⟩, zR_111_0 hR, (zS_111 hS).1, (zS_112 hS).1, (zS_112 hS).2⟩
theorem zRw_119 {R : ZR} {S : ZS} (hR : zRs R) (hS : zSh S) : zRw 60 119 R S := ⟨⟨by decide, by decide⟩, zR_119_0 hR, (zS_119 hS).1, (zS_120 hS).1, (zS_120 hS).2⟩
theorem zRw_123 {R : ZR} {S : ZS} (hR : zRs R) (hS : zSh S) : zRw 40 123 R S := ⟨⟨by decide, by decide⟩, zR_123_0 hR, (zS_123 hS).1, (zS_124 hS).1, (zS_124 hS).2⟩
theorem zRw_1_1 {k : Nat} {R : ZR} {S : ZS} (h : zDy zT1 zF1 k R S) : zRw 60 (k + 1) R S := ⟨⟨by have := h.1; omega, by decide⟩, zDR h 9 rfl, h.2.2.1 1 _ _ rfl, h.2.2.1 2 _ _ rfl, by have := h.2.1; have e : zT1.length = 12 := rfl; omega⟩
theorem zRw_1_5 {k : Nat} {R : ZR} {S : ZS} (h : zDy zT1 zF1 k R S) : zRw 40 (k + 5) R S := ⟨⟨by have := h.1; omega, by decide⟩, zDR h 10 rfl, h.2.2.1 5 _ _ rfl, h.2.2.1 6 _ _ rfl, by have := h.2.1; have e : zT1.length = 12 := rfl; omega⟩
