
/-! THE LAW, with the routes counted -/
/-- one call's contract: the class's side tells the range of the answer, the reference's need not; the reference's side is told what the class's side keeps of the new state (J) -/
def zTF {St : Type} (ref m : Nat) (cal : St → Nat) (P : ZP St) (fr : ZI → ZI → ZR → ZS → ZI → ZI → ZR → ZS → Prop) (sp : St → Int → Int → Int → Int → Int → St × Int) : ZT := fun args I L R S Q => ∃ (σ : St) (a1 a2 a3 a4 a5 : Int), args = zvr ref :: zpick m a1 a2 a3 a4 a5 ∧ (r32 a1 ∧ r32 a2 ∧ r32 a3 ∧ r32 a4 ∧ r32 a5) ∧ zSh S ∧ 2 * cal σ ≤ 3078 ∧ P σ I L R S ∧
  ∀ I' L' R' S', P (sp σ a1 a2 a3 a4 a5).1 I' L' R' S' → fr I L R S I' L' R' S' → zrng m (sp σ a1 a2 a3 a4 a5).2 → Q (some (zans m (sp σ a1 a2 a3 a4 a5).2)) I' L' R' S'
def zTG {St : Type} (ref m : Nat) (cal : St → Nat) (J : St → Prop) (P : ZP St) (fr : ZI → ZI → ZR → ZS → ZI → ZI → ZR → ZS → Prop) (sp : St → Int → Int → Int → Int → Int → St × Int) : ZT := fun args I L R S Q => ∃ (σ : St) (a1 a2 a3 a4 a5 : Int), args = zvr ref :: zpick m a1 a2 a3 a4 a5 ∧ (r32 a1 ∧ r32 a2 ∧ r32 a3 ∧ r32 a4 ∧ r32 a5) ∧ zSh S ∧ (2 * cal σ ≤ 3078 ∧ J (sp σ a1 a2 a3 a4 a5).1) ∧ P σ I L R S ∧
  ∀ I' L' R' S', P (sp σ a1 a2 a3 a4 a5).1 I' L' R' S' → fr I L R S I' L' R' S' → Q (some (zans m (sp σ a1 a2 a3 a4 a5).2)) I' L' R' S'
set_option maxHeartbeats 4000000 in
theorem law_gen2 {St : Type} {PA PB : ZP St} {sp : ZSp St} {cal : St → Nat} {J : St → Prop} (hJ : ∀ σ I L R S, PA σ I L R S → J σ) (hA : ∀ m, m < 49 → ZSnd 200 11 (zIA.getD m 0) (zTF 40 m cal PA zfA (sp m))) (hB : ∀ m, m < 49 → ZSnd 200 21 (zIB.getD m 0) (zTG 165 m cal J PB zfB (sp m)))
    (kA : ∀ σ σ2 I L R S I' L' R' S', PA σ I L R S → PB σ2 I' L' R' S' → zfB I L R S I' L' R' S' → PA σ I' L' R' S') (kB : ∀ σ σ2 I L R S I' L' R' S', PB σ I L R S → PA σ2 I' L' R' S' → zfA I L R S I' L' R' S' → PB σ I' L' R' S')
    (hc0 : ∀ m σ a1 a2 a3 a4 a5, m ≠ 14 → cal (sp m σ a1 a2 a3 a4 a5).1 ≤ cal σ) (hc1 : ∀ σ a1 a2 a3 a4 a5, cal (sp 14 σ a1 a2 a3 a4 a5).1 ≤ cal σ + 1)
    (room : ∀ σ I L R S, PB σ I L R S → S.2.1 ≤ 600000 ∧ S.2.2 ≤ 7302250) {N : Nat} (hN : N ≤ 3072) {σ0 : St} {I0 L0 : ZI} {R0 : ZR} {S0 : ZS} (z0 : zok I0 L0) (s0 : S0.1 0 = (100, N)) (sh0 : zSh S0) (pA0 : PA σ0 I0 L0 R0 S0) (pB0 : PB σ0 I0 L0 R0 S0) (cal0 : cal σ0 = 0) :
    ∃ (cuts : List Nat) (A : Nat × Nat × Nat → ZK), (∃ n, A n 18 [some (zvr 0), some (zvr 40), some (zvr 165), some (zvi 0)] [] I0 L0 R0 S0) ∧ zhas cuts 18 = true ∧
      zall cuts (fun t => ∀ n ls st I L R S, zok I L → A n t ls st I L R S → zwp (zt22_0 200) cuts (fun t ls st I L R S => ∃ n', zlt3 n' n ∧ A n' t ls st I L R S) (fun r _ _ _ S => r = some (zvi 1) ∧ S.2.1 ≤ 600000 ∧ S.2.2 ≤ 7302250) 100000 t ls st I L R S) := by
  refine ⟨[18], fun n t ls st I L R S => match t with
    | 18 => ∃ (i : Int) (σ : St), n = ((N + 6 - i).toNat, 0, 0) ∧ ls = [some (zvr 0), some (zvr 40), some (zvr 165), some (zvi i)] ∧ st = [] ∧ ((0 ≤ i ∧ i ≤ 3078) ∧ 2 * (cal σ : Int) ≤ i) ∧ S.1 0 = (100, N) ∧ zSh S ∧ PA σ I L R S ∧ PB σ I L R S
    | _ => False, ⟨_, 0, σ0, rfl, rfl, rfl, ⟨⟨by omega, by omega⟩, by omega⟩, s0, sh0, pA0, pB0⟩, rfl, ?_, True.intro⟩
  rintro n ls st I L R S hz ⟨i, σ, rfl, rfl, rfl, ⟨⟨hi, hi2⟩, hi3⟩, s0, hS, pA, pB⟩
  refine And.intro ⟨z0r hS, by rw [s0]; exact Nat.le_refl 100⟩ (zrdN (v := (N : Int)) (by rw [s0]) ?_)
  refine And.intro ⟨(by omega), (by omega)⟩ ⟨fun h => ?_, fun h => ?_⟩
  · exact And.intro (Or.inr rfl) ⟨rfl, room _ _ _ _ _ pB⟩
  refine And.intro (z0p hS s0 hN (by omega) (by omega)) (fun v0 e0 q0 => ?_)
  refine And.intro zr_and (And.intro (And.intro (fun _ => ?_) (And.intro (fun _ => ?_) (And.intro (fun _ => ?_) (And.intro (fun _ => ?_) (And.intro (fun _ => ?_) (And.intro (fun _ => ?_) (And.intro (fun _ => ?_) (And.intro (fun _ => ?_) (And.intro (fun _ => ?_) (And.intro (fun _ => ?_) (And.intro (fun _ => ?_) (And.intro (fun _ => ?_) (And.intro (fun _ => ?_) (And.intro (fun _ => ?_) (And.intro (fun _ => ?_) (And.intro (fun _ => ?_) (And.intro (fun _ => ?_) (And.intro (fun _ => ?_) (And.intro (fun _ => ?_) (And.intro (fun _ => ?_) (And.intro (fun _ => ?_) (And.intro (fun _ => ?_) (And.intro (fun _ => ?_) (And.intro (fun _ => ?_) (And.intro (fun _ => ?_) (And.intro (fun _ => ?_) (And.intro (fun _ => ?_) (And.intro (fun _ => ?_) (And.intro (fun _ => ?_) (And.intro (fun _ => ?_) (And.intro (fun _ => ?_) (And.intro (fun _ => ?_) (And.intro (fun _ => ?_) (And.intro (fun _ => ?_) (And.intro (fun _ => ?_) (And.intro (fun _ => ?_) (And.intro (fun _ => ?_) (And.intro (fun _ => ?_) (And.intro (fun _ => ?_) (And.intro (fun _ => ?_) (And.intro (fun _ => ?_) (And.intro (fun _ => ?_) (And.intro (fun _ => ?_) (And.intro (fun _ => ?_) (And.intro (fun _ => ?_) (And.intro (fun _ => ?_) (And.intro (fun _ => ?_) (And.intro (fun _ => ?_) (And.intro (fun _ => ?_) True.intro))))))))))))))))))))))))))))))))))))))))))))))))) (fun _ => ?_))
  · refine And.intro (z0p hS s0 hN (by omega) (by omega)) (fun a1 e1 r1 => ?_)
    refine And.intro (z0p hS s0 hN (by omega) (by omega)) (fun a2 e2 r2 => ?_)
    refine And.intro (z0p hS s0 hN (by omega) (by omega)) (fun a3 e3 r3 => ?_)
    refine And.intro (z0p hS s0 hN (by omega) (by omega)) (fun a4 e4 r4 => ?_)
    refine And.intro (z0p hS s0 hN (by omega) (by omega)) (fun a5 e5 r5 => ?_)
    refine And.intro (zA_40 hS) ⟨_, hA 0 (by decide), ?_⟩
    refine ⟨σ, a1, a2, a3, a4, a5, rfl, ⟨r1, r2, r3, r4, r5⟩, hS, (by omega), pA, ?_⟩
    intro I1 L1 R1 S1 pA1 fA wA
    have hS1 := zSh_A hS fA
    have s1 : S1.1 0 = (100, N) := by rw [fA.1]; exact s0
    have pB1 := kB _ _ _ _ _ _ _ _ _ _ pB pA1 fA
    refine And.intro (z0p hS1 s1 hN (by omega) (by omega)) (zrd (v := a1) ((fA.2 0 _ (by omega)).1.trans e1.symm) ?_)
    refine And.intro (z0p hS1 s1 hN (by omega) (by omega)) (zrd (v := a2) ((fA.2 0 _ (by omega)).1.trans e2.symm) ?_)
    refine And.intro (z0p hS1 s1 hN (by omega) (by omega)) (zrd (v := a3) ((fA.2 0 _ (by omega)).1.trans e3.symm) ?_)
    refine And.intro (z0p hS1 s1 hN (by omega) (by omega)) (zrd (v := a4) ((fA.2 0 _ (by omega)).1.trans e4.symm) ?_)
    refine And.intro (z0p hS1 s1 hN (by omega) (by omega)) (zrd (v := a5) ((fA.2 0 _ (by omega)).1.trans e5.symm) ?_)
    refine And.intro (zA_165 hS1) ⟨_, hB 0 (by decide), ?_⟩
    refine ⟨σ, a1, a2, a3, a4, a5, rfl, ⟨r1, r2, r3, r4, r5⟩, hS1, ⟨(by omega), hJ _ _ _ _ _ pA1⟩, pB1, ?_⟩
    intro I2 L2 R2 S2 pB2 fB
    have pA2 := kA _ _ _ _ _ _ _ _ _ _ pA1 pB2 fB
    refine And.intro ⟨wA, wA⟩ (And.intro (fun _ => ?_) (fun h => absurd rfl h))
    have hk := hc0 0 σ a1 a2 a3 a4 a5 (by decide)
    exact ⟨_, zlt1 (by omega), _, _, rfl, rfl, rfl, ⟨⟨by omega, by omega⟩, by omega⟩, (fB.1.2 0 (z0r hS1)).trans s1, zSh_B hS1 fB, pA2, pB2⟩
  · refine And.intro (z0p hS s0 hN (by omega) (by omega)) (fun a1 e1 r1 => ?_)
    refine And.intro (zA_40 hS) ⟨_, hA 1 (by decide), ?_⟩
    refine ⟨σ, a1, 0, 0, 0, 0, rfl, ⟨r1, (zRb rfl), (zRb rfl), (zRb rfl), (zRb rfl)⟩, hS, (by omega), pA, ?_⟩
    intro I1 L1 R1 S1 pA1 fA wA
    have hS1 := zSh_A hS fA
    have s1 : S1.1 0 = (100, N) := by rw [fA.1]; exact s0
    have pB1 := kB _ _ _ _ _ _ _ _ _ _ pB pA1 fA
    refine And.intro (z0p hS1 s1 hN (by omega) (by omega)) (zrd (v := a1) ((fA.2 0 _ (by omega)).1.trans e1.symm) ?_)
    refine And.intro (zA_165 hS1) ⟨_, hB 1 (by decide), ?_⟩
    refine ⟨σ, a1, 0, 0, 0, 0, rfl, ⟨r1, (zRb rfl), (zRb rfl), (zRb rfl), (zRb rfl)⟩, hS1, ⟨(by omega), hJ _ _ _ _ _ pA1⟩, pB1, ?_⟩
    intro I2 L2 R2 S2 pB2 fB
    have pA2 := kA _ _ _ _ _ _ _ _ _ _ pA1 pB2 fB
    refine And.intro ⟨wA, wA⟩ (And.intro (fun _ => ?_) (fun h => absurd rfl h))
    have hk := hc0 1 σ a1 0 0 0 0 (by decide)
    exact ⟨_, zlt1 (by omega), _, _, rfl, rfl, rfl, ⟨⟨by omega, by omega⟩, by omega⟩, (fB.1.2 0 (z0r hS1)).trans s1, zSh_B hS1 fB, pA2, pB2⟩
  · refine And.intro (z0p hS s0 hN (by omega) (by omega)) (fun a1 e1 r1 => ?_)
    refine And.intro (zA_40 hS) ⟨_, hA 2 (by decide), ?_⟩
    refine ⟨σ, a1, 0, 0, 0, 0, rfl, ⟨r1, (zRb rfl), (zRb rfl), (zRb rfl), (zRb rfl)⟩, hS, (by omega), pA, ?_⟩
    intro I1 L1 R1 S1 pA1 fA wA
    have hS1 := zSh_A hS fA
    have s1 : S1.1 0 = (100, N) := by rw [fA.1]; exact s0
    have pB1 := kB _ _ _ _ _ _ _ _ _ _ pB pA1 fA
    refine And.intro (z0p hS1 s1 hN (by omega) (by omega)) (zrd (v := a1) ((fA.2 0 _ (by omega)).1.trans e1.symm) ?_)
    refine And.intro (zA_165 hS1) ⟨_, hB 2 (by decide), ?_⟩
    refine ⟨σ, a1, 0, 0, 0, 0, rfl, ⟨r1, (zRb rfl), (zRb rfl), (zRb rfl), (zRb rfl)⟩, hS1, ⟨(by omega), hJ _ _ _ _ _ pA1⟩, pB1, ?_⟩
    intro I2 L2 R2 S2 pB2 fB
    have pA2 := kA _ _ _ _ _ _ _ _ _ _ pA1 pB2 fB
    refine And.intro ⟨wA, wA⟩ (And.intro (fun _ => ?_) (fun h => absurd rfl h))
    have hk := hc0 2 σ a1 0 0 0 0 (by decide)
    exact ⟨_, zlt1 (by omega), _, _, rfl, rfl, rfl, ⟨⟨by omega, by omega⟩, by omega⟩, (fB.1.2 0 (z0r hS1)).trans s1, zSh_B hS1 fB, pA2, pB2⟩
  · refine And.intro (z0p hS s0 hN (by omega) (by omega)) (fun a1 e1 r1 => ?_)
    refine And.intro (zA_40 hS) ⟨_, hA 3 (by decide), ?_⟩
    refine ⟨σ, a1, 0, 0, 0, 0, rfl, ⟨r1, (zRb rfl), (zRb rfl), (zRb rfl), (zRb rfl)⟩, hS, (by omega), pA, ?_⟩
    intro I1 L1 R1 S1 pA1 fA wA
    have hS1 := zSh_A hS fA
    have s1 : S1.1 0 = (100, N) := by rw [fA.1]; exact s0
    have pB1 := kB _ _ _ _ _ _ _ _ _ _ pB pA1 fA
    refine And.intro (z0p hS1 s1 hN (by omega) (by omega)) (zrd (v := a1) ((fA.2 0 _ (by omega)).1.trans e1.symm) ?_)
    refine And.intro (zA_165 hS1) ⟨_, hB 3 (by decide), ?_⟩
    refine ⟨σ, a1, 0, 0, 0, 0, rfl, ⟨r1, (zRb rfl), (zRb rfl), (zRb rfl), (zRb rfl)⟩, hS1, ⟨(by omega), hJ _ _ _ _ _ pA1⟩, pB1, ?_⟩
    intro I2 L2 R2 S2 pB2 fB
    have pA2 := kA _ _ _ _ _ _ _ _ _ _ pA1 pB2 fB
    refine And.intro ⟨wA, wA⟩ (And.intro (fun _ => ?_) (fun h => absurd rfl h))
    have hk := hc0 3 σ a1 0 0 0 0 (by decide)
    exact ⟨_, zlt1 (by omega), _, _, rfl, rfl, rfl, ⟨⟨by omega, by omega⟩, by omega⟩, (fB.1.2 0 (z0r hS1)).trans s1, zSh_B hS1 fB, pA2, pB2⟩
  · refine And.intro (z0p hS s0 hN (by omega) (by omega)) (fun a1 e1 r1 => ?_)
    refine And.intro (z0p hS s0 hN (by omega) (by omega)) (fun a2 e2 r2 => ?_)
    refine And.intro (zA_40 hS) ⟨_, hA 4 (by decide), ?_⟩
    refine ⟨σ, a1, a2, 0, 0, 0, rfl, ⟨r1, r2, (zRb rfl), (zRb rfl), (zRb rfl)⟩, hS, (by omega), pA, ?_⟩
    intro I1 L1 R1 S1 pA1 fA wA
    have hS1 := zSh_A hS fA
    have s1 : S1.1 0 = (100, N) := by rw [fA.1]; exact s0
    have pB1 := kB _ _ _ _ _ _ _ _ _ _ pB pA1 fA
    refine And.intro (z0p hS1 s1 hN (by omega) (by omega)) (zrd (v := a1) ((fA.2 0 _ (by omega)).1.trans e1.symm) ?_)
    refine And.intro (z0p hS1 s1 hN (by omega) (by omega)) (zrd (v := a2) ((fA.2 0 _ (by omega)).1.trans e2.symm) ?_)
    refine And.intro (zA_165 hS1) ⟨_, hB 4 (by decide), ?_⟩
    refine ⟨σ, a1, a2, 0, 0, 0, rfl, ⟨r1, r2, (zRb rfl), (zRb rfl), (zRb rfl)⟩, hS1, ⟨(by omega), hJ _ _ _ _ _ pA1⟩, pB1, ?_⟩
    intro I2 L2 R2 S2 pB2 fB
    have pA2 := kA _ _ _ _ _ _ _ _ _ _ pA1 pB2 fB
    refine ⟨_, _, ⟨zW6i wA, zW6i wA⟩, fun z cz => ?_⟩
    refine And.intro cz.2.2 (And.intro (fun _ => ?_) (fun h => absurd h (by omega)))
    have hk := hc0 4 σ a1 a2 0 0 0 (by decide)
    exact ⟨_, zlt1 (by omega), _, _, rfl, rfl, rfl, ⟨⟨by omega, by omega⟩, by omega⟩, (fB.1.2 0 (z0r hS1)).trans s1, zSh_B hS1 fB, pA2, pB2⟩
  · refine And.intro (z0p hS s0 hN (by omega) (by omega)) (fun a1 e1 r1 => ?_)
    refine And.intro (zA_40 hS) ⟨_, hA 5 (by decide), ?_⟩
    refine ⟨σ, a1, 0, 0, 0, 0, rfl, ⟨r1, (zRb rfl), (zRb rfl), (zRb rfl), (zRb rfl)⟩, hS, (by omega), pA, ?_⟩
    intro I1 L1 R1 S1 pA1 fA wA
    have hS1 := zSh_A hS fA
    have s1 : S1.1 0 = (100, N) := by rw [fA.1]; exact s0
    have pB1 := kB _ _ _ _ _ _ _ _ _ _ pB pA1 fA
    refine And.intro (z0p hS1 s1 hN (by omega) (by omega)) (zrd (v := a1) ((fA.2 0 _ (by omega)).1.trans e1.symm) ?_)
    refine And.intro (zA_165 hS1) ⟨_, hB 5 (by decide), ?_⟩
    refine ⟨σ, a1, 0, 0, 0, 0, rfl, ⟨r1, (zRb rfl), (zRb rfl), (zRb rfl), (zRb rfl)⟩, hS1, ⟨(by omega), hJ _ _ _ _ _ pA1⟩, pB1, ?_⟩
    intro I2 L2 R2 S2 pB2 fB
    have pA2 := kA _ _ _ _ _ _ _ _ _ _ pA1 pB2 fB
    refine And.intro ⟨wA, wA⟩ (And.intro (fun _ => ?_) (fun h => absurd rfl h))
    have hk := hc0 5 σ a1 0 0 0 0 (by decide)
    exact ⟨_, zlt1 (by omega), _, _, rfl, rfl, rfl, ⟨⟨by omega, by omega⟩, by omega⟩, (fB.1.2 0 (z0r hS1)).trans s1, zSh_B hS1 fB, pA2, pB2⟩
  · refine And.intro (zA_40 hS) ⟨_, hA 6 (by decide), ?_⟩
    refine ⟨σ, 0, 0, 0, 0, 0, rfl, ⟨(zRb rfl), (zRb rfl), (zRb rfl), (zRb rfl), (zRb rfl)⟩, hS, (by omega), pA, ?_⟩
    intro I1 L1 R1 S1 pA1 fA wA
    have hS1 := zSh_A hS fA
    have s1 : S1.1 0 = (100, N) := by rw [fA.1]; exact s0
    have pB1 := kB _ _ _ _ _ _ _ _ _ _ pB pA1 fA
    refine And.intro (zA_165 hS1) ⟨_, hB 6 (by decide), ?_⟩
    refine ⟨σ, 0, 0, 0, 0, 0, rfl, ⟨(zRb rfl), (zRb rfl), (zRb rfl), (zRb rfl), (zRb rfl)⟩, hS1, ⟨(by omega), hJ _ _ _ _ _ pA1⟩, pB1, ?_⟩
    intro I2 L2 R2 S2 pB2 fB
    have pA2 := kA _ _ _ _ _ _ _ _ _ _ pA1 pB2 fB
    refine And.intro ⟨wA, wA⟩ (And.intro (fun _ => ?_) (fun h => absurd rfl h))
    have hk := hc0 6 σ 0 0 0 0 0 (by decide)
    exact ⟨_, zlt1 (by omega), _, _, rfl, rfl, rfl, ⟨⟨by omega, by omega⟩, by omega⟩, (fB.1.2 0 (z0r hS1)).trans s1, zSh_B hS1 fB, pA2, pB2⟩
  · refine And.intro (z0p hS s0 hN (by omega) (by omega)) (fun a1 e1 r1 => ?_)
    refine And.intro (z0p hS s0 hN (by omega) (by omega)) (fun a2 e2 r2 => ?_)
    refine And.intro (zA_40 hS) ⟨_, hA 7 (by decide), ?_⟩
    refine ⟨σ, a1, a2, 0, 0, 0, rfl, ⟨r1, r2, (zRb rfl), (zRb rfl), (zRb rfl)⟩, hS, (by omega), pA, ?_⟩
    intro I1 L1 R1 S1 pA1 fA wA
    have hS1 := zSh_A hS fA
    have s1 : S1.1 0 = (100, N) := by rw [fA.1]; exact s0
    have pB1 := kB _ _ _ _ _ _ _ _ _ _ pB pA1 fA
    refine And.intro (z0p hS1 s1 hN (by omega) (by omega)) (zrd (v := a1) ((fA.2 0 _ (by omega)).1.trans e1.symm) ?_)
    refine And.intro (z0p hS1 s1 hN (by omega) (by omega)) (zrd (v := a2) ((fA.2 0 _ (by omega)).1.trans e2.symm) ?_)
    refine And.intro (zA_165 hS1) ⟨_, hB 7 (by decide), ?_⟩
    refine ⟨σ, a1, a2, 0, 0, 0, rfl, ⟨r1, r2, (zRb rfl), (zRb rfl), (zRb rfl)⟩, hS1, ⟨(by omega), hJ _ _ _ _ _ pA1⟩, pB1, ?_⟩
    intro I2 L2 R2 S2 pB2 fB
    have pA2 := kA _ _ _ _ _ _ _ _ _ _ pA1 pB2 fB
    refine And.intro ⟨wA, wA⟩ (And.intro (fun _ => ?_) (fun h => absurd rfl h))
    have hk := hc0 7 σ a1 a2 0 0 0 (by decide)
    exact ⟨_, zlt1 (by omega), _, _, rfl, rfl, rfl, ⟨⟨by omega, by omega⟩, by omega⟩, (fB.1.2 0 (z0r hS1)).trans s1, zSh_B hS1 fB, pA2, pB2⟩
  · refine And.intro (z0p hS s0 hN (by omega) (by omega)) (fun a1 e1 r1 => ?_)
    refine And.intro (zA_40 hS) ⟨_, hA 8 (by decide), ?_⟩
    refine ⟨σ, a1, 0, 0, 0, 0, rfl, ⟨r1, (zRb rfl), (zRb rfl), (zRb rfl), (zRb rfl)⟩, hS, (by omega), pA, ?_⟩
    intro I1 L1 R1 S1 pA1 fA wA
    have hS1 := zSh_A hS fA
    have s1 : S1.1 0 = (100, N) := by rw [fA.1]; exact s0
    have pB1 := kB _ _ _ _ _ _ _ _ _ _ pB pA1 fA
    refine And.intro (z0p hS1 s1 hN (by omega) (by omega)) (zrd (v := a1) ((fA.2 0 _ (by omega)).1.trans e1.symm) ?_)
    refine And.intro (zA_165 hS1) ⟨_, hB 8 (by decide), ?_⟩
    refine ⟨σ, a1, 0, 0, 0, 0, rfl, ⟨r1, (zRb rfl), (zRb rfl), (zRb rfl), (zRb rfl)⟩, hS1, ⟨(by omega), hJ _ _ _ _ _ pA1⟩, pB1, ?_⟩
    intro I2 L2 R2 S2 pB2 fB
    have pA2 := kA _ _ _ _ _ _ _ _ _ _ pA1 pB2 fB
    refine And.intro ⟨wA, wA⟩ (And.intro (fun _ => ?_) (fun h => absurd rfl h))
    have hk := hc0 8 σ a1 0 0 0 0 (by decide)
    exact ⟨_, zlt1 (by omega), _, _, rfl, rfl, rfl, ⟨⟨by omega, by omega⟩, by omega⟩, (fB.1.2 0 (z0r hS1)).trans s1, zSh_B hS1 fB, pA2, pB2⟩
  · refine And.intro (z0p hS s0 hN (by omega) (by omega)) (fun a1 e1 r1 => ?_)
    refine And.intro (zA_40 hS) ⟨_, hA 9 (by decide), ?_⟩
    refine ⟨σ, a1, 0, 0, 0, 0, rfl, ⟨r1, (zRb rfl), (zRb rfl), (zRb rfl), (zRb rfl)⟩, hS, (by omega), pA, ?_⟩
    intro I1 L1 R1 S1 pA1 fA wA
    have hS1 := zSh_A hS fA
    have s1 : S1.1 0 = (100, N) := by rw [fA.1]; exact s0
    have pB1 := kB _ _ _ _ _ _ _ _ _ _ pB pA1 fA
    refine And.intro (z0p hS1 s1 hN (by omega) (by omega)) (zrd (v := a1) ((fA.2 0 _ (by omega)).1.trans e1.symm) ?_)
    refine And.intro (zA_165 hS1) ⟨_, hB 9 (by decide), ?_⟩
    refine ⟨σ, a1, 0, 0, 0, 0, rfl, ⟨r1, (zRb rfl), (zRb rfl), (zRb rfl), (zRb rfl)⟩, hS1, ⟨(by omega), hJ _ _ _ _ _ pA1⟩, pB1, ?_⟩
    intro I2 L2 R2 S2 pB2 fB
    have pA2 := kA _ _ _ _ _ _ _ _ _ _ pA1 pB2 fB
    refine And.intro ⟨wA, wA⟩ (And.intro (fun _ => ?_) (fun h => absurd rfl h))
    have hk := hc0 9 σ a1 0 0 0 0 (by decide)
    exact ⟨_, zlt1 (by omega), _, _, rfl, rfl, rfl, ⟨⟨by omega, by omega⟩, by omega⟩, (fB.1.2 0 (z0r hS1)).trans s1, zSh_B hS1 fB, pA2, pB2⟩
  · refine And.intro (z0p hS s0 hN (by omega) (by omega)) (fun a1 e1 r1 => ?_)
    refine And.intro (z0p hS s0 hN (by omega) (by omega)) (fun a2 e2 r2 => ?_)
    refine And.intro (z0p hS s0 hN (by omega) (by omega)) (fun a3 e3 r3 => ?_)
    refine And.intro (z0p hS s0 hN (by omega) (by omega)) (fun a4 e4 r4 => ?_)
    refine And.intro r4 ?_
    refine And.intro (z0p hS s0 hN (by omega) (by omega)) (fun a5 e5 r5 => ?_)
    refine And.intro r5 ?_
    refine And.intro (zA_40 hS) ⟨_, hA 10 (by decide), ?_⟩
    refine ⟨σ, a1, a2, a3, a4, a5, rfl, ⟨r1, r2, r3, r4, r5⟩, hS, (by omega), pA, ?_⟩
    intro I1 L1 R1 S1 pA1 fA wA
    have hS1 := zSh_A hS fA
    have s1 : S1.1 0 = (100, N) := by rw [fA.1]; exact s0
    have pB1 := kB _ _ _ _ _ _ _ _ _ _ pB pA1 fA
    refine And.intro (z0p hS1 s1 hN (by omega) (by omega)) (zrd (v := a1) ((fA.2 0 _ (by omega)).1.trans e1.symm) ?_)
    refine And.intro (z0p hS1 s1 hN (by omega) (by omega)) (zrd (v := a2) ((fA.2 0 _ (by omega)).1.trans e2.symm) ?_)
    refine And.intro (z0p hS1 s1 hN (by omega) (by omega)) (zrd (v := a3) ((fA.2 0 _ (by omega)).1.trans e3.symm) ?_)
    refine And.intro (z0p hS1 s1 hN (by omega) (by omega)) (zrd (v := a4) ((fA.2 0 _ (by omega)).1.trans e4.symm) ?_)
    refine And.intro r4 ?_
    refine And.intro (z0p hS1 s1 hN (by omega) (by omega)) (zrd (v := a5) ((fA.2 0 _ (by omega)).1.trans e5.symm) ?_)
    refine And.intro r5 ?_
    refine And.intro (zA_165 hS1) ⟨_, hB 10 (by decide), ?_⟩
    refine ⟨σ, a1, a2, a3, a4, a5, rfl, ⟨r1, r2, r3, r4, r5⟩, hS1, ⟨(by omega), hJ _ _ _ _ _ pA1⟩, pB1, ?_⟩
    intro I2 L2 R2 S2 pB2 fB
    have pA2 := kA _ _ _ _ _ _ _ _ _ _ pA1 pB2 fB
    refine And.intro ⟨wA, wA⟩ (And.intro (fun _ => ?_) (fun h => absurd rfl h))
    have hk := hc0 10 σ a1 a2 a3 a4 a5 (by decide)
    exact ⟨_, zlt1 (by omega), _, _, rfl, rfl, rfl, ⟨⟨by omega, by omega⟩, by omega⟩, (fB.1.2 0 (z0r hS1)).trans s1, zSh_B hS1 fB, pA2, pB2⟩
  · refine And.intro (z0p hS s0 hN (by omega) (by omega)) (fun a1 e1 r1 => ?_)
    refine And.intro (z0p hS s0 hN (by omega) (by omega)) (fun a2 e2 r2 => ?_)
    refine And.intro (z0p hS s0 hN (by omega) (by omega)) (fun a3 e3 r3 => ?_)
    refine And.intro (z0p hS s0 hN (by omega) (by omega)) (fun a4 e4 r4 => ?_)
    refine And.intro (z0p hS s0 hN (by omega) (by omega)) (fun a5 e5 r5 => ?_)
    refine And.intro (zA_40 hS) ⟨_, hA 11 (by decide), ?_⟩
    refine ⟨σ, a1, a2, a3, a4, a5, rfl, ⟨r1, r2, r3, r4, r5⟩, hS, (by omega), pA, ?_⟩
    intro I1 L1 R1 S1 pA1 fA wA
    have hS1 := zSh_A hS fA
    have s1 : S1.1 0 = (100, N) := by rw [fA.1]; exact s0
    have pB1 := kB _ _ _ _ _ _ _ _ _ _ pB pA1 fA
    refine And.intro (z0p hS1 s1 hN (by omega) (by omega)) (zrd (v := a1) ((fA.2 0 _ (by omega)).1.trans e1.symm) ?_)
    refine And.intro (z0p hS1 s1 hN (by omega) (by omega)) (zrd (v := a2) ((fA.2 0 _ (by omega)).1.trans e2.symm) ?_)
    refine And.intro (z0p hS1 s1 hN (by omega) (by omega)) (zrd (v := a3) ((fA.2 0 _ (by omega)).1.trans e3.symm) ?_)
    refine And.intro (z0p hS1 s1 hN (by omega) (by omega)) (zrd (v := a4) ((fA.2 0 _ (by omega)).1.trans e4.symm) ?_)
    refine And.intro (z0p hS1 s1 hN (by omega) (by omega)) (zrd (v := a5) ((fA.2 0 _ (by omega)).1.trans e5.symm) ?_)
    refine And.intro (zA_165 hS1) ⟨_, hB 11 (by decide), ?_⟩
    refine ⟨σ, a1, a2, a3, a4, a5, rfl, ⟨r1, r2, r3, r4, r5⟩, hS1, ⟨(by omega), hJ _ _ _ _ _ pA1⟩, pB1, ?_⟩
    intro I2 L2 R2 S2 pB2 fB
    have pA2 := kA _ _ _ _ _ _ _ _ _ _ pA1 pB2 fB
    refine And.intro ⟨wA, wA⟩ (And.intro (fun _ => ?_) (fun h => absurd rfl h))
    have hk := hc0 11 σ a1 a2 a3 a4 a5 (by decide)
    exact ⟨_, zlt1 (by omega), _, _, rfl, rfl, rfl, ⟨⟨by omega, by omega⟩, by omega⟩, (fB.1.2 0 (z0r hS1)).trans s1, zSh_B hS1 fB, pA2, pB2⟩
  · refine And.intro (z0p hS s0 hN (by omega) (by omega)) (fun a1 e1 r1 => ?_)
    refine And.intro (z0p hS s0 hN (by omega) (by omega)) (fun a2 e2 r2 => ?_)
    refine And.intro (z0p hS s0 hN (by omega) (by omega)) (fun a3 e3 r3 => ?_)
    refine And.intro (zA_40 hS) ⟨_, hA 12 (by decide), ?_⟩
    refine ⟨σ, a1, a2, a3, 0, 0, rfl, ⟨r1, r2, r3, (zRb rfl), (zRb rfl)⟩, hS, (by omega), pA, ?_⟩
    intro I1 L1 R1 S1 pA1 fA wA
    have hS1 := zSh_A hS fA
    have s1 : S1.1 0 = (100, N) := by rw [fA.1]; exact s0
    have pB1 := kB _ _ _ _ _ _ _ _ _ _ pB pA1 fA
    refine And.intro (z0p hS1 s1 hN (by omega) (by omega)) (zrd (v := a1) ((fA.2 0 _ (by omega)).1.trans e1.symm) ?_)
    refine And.intro (z0p hS1 s1 hN (by omega) (by omega)) (zrd (v := a2) ((fA.2 0 _ (by omega)).1.trans e2.symm) ?_)
    refine And.intro (z0p hS1 s1 hN (by omega) (by omega)) (zrd (v := a3) ((fA.2 0 _ (by omega)).1.trans e3.symm) ?_)
    refine And.intro (zA_165 hS1) ⟨_, hB 12 (by decide), ?_⟩
    refine ⟨σ, a1, a2, a3, 0, 0, rfl, ⟨r1, r2, r3, (zRb rfl), (zRb rfl)⟩, hS1, ⟨(by omega), hJ _ _ _ _ _ pA1⟩, pB1, ?_⟩
    intro I2 L2 R2 S2 pB2 fB
    have pA2 := kA _ _ _ _ _ _ _ _ _ _ pA1 pB2 fB
    refine And.intro ⟨wA, wA⟩ (And.intro (fun _ => ?_) (fun h => absurd rfl h))
    have hk := hc0 12 σ a1 a2 a3 0 0 (by decide)
    exact ⟨_, zlt1 (by omega), _, _, rfl, rfl, rfl, ⟨⟨by omega, by omega⟩, by omega⟩, (fB.1.2 0 (z0r hS1)).trans s1, zSh_B hS1 fB, pA2, pB2⟩
  · refine And.intro (z0p hS s0 hN (by omega) (by omega)) (fun a1 e1 r1 => ?_)
    refine And.intro (z0p hS s0 hN (by omega) (by omega)) (fun a2 e2 r2 => ?_)
    refine And.intro (z0p hS s0 hN (by omega) (by omega)) (fun a3 e3 r3 => ?_)
    refine And.intro (z0p hS s0 hN (by omega) (by omega)) (fun a4 e4 r4 => ?_)
    refine And.intro (zA_40 hS) ⟨_, hA 13 (by decide), ?_⟩
    refine ⟨σ, a1, a2, a3, a4, 0, rfl, ⟨r1, r2, r3, r4, (zRb rfl)⟩, hS, (by omega), pA, ?_⟩
    intro I1 L1 R1 S1 pA1 fA wA
    have hS1 := zSh_A hS fA
    have s1 : S1.1 0 = (100, N) := by rw [fA.1]; exact s0
    have pB1 := kB _ _ _ _ _ _ _ _ _ _ pB pA1 fA
    refine And.intro (z0p hS1 s1 hN (by omega) (by omega)) (zrd (v := a1) ((fA.2 0 _ (by omega)).1.trans e1.symm) ?_)
    refine And.intro (z0p hS1 s1 hN (by omega) (by omega)) (zrd (v := a2) ((fA.2 0 _ (by omega)).1.trans e2.symm) ?_)
    refine And.intro (z0p hS1 s1 hN (by omega) (by omega)) (zrd (v := a3) ((fA.2 0 _ (by omega)).1.trans e3.symm) ?_)
    refine And.intro (z0p hS1 s1 hN (by omega) (by omega)) (zrd (v := a4) ((fA.2 0 _ (by omega)).1.trans e4.symm) ?_)
    refine And.intro (zA_165 hS1) ⟨_, hB 13 (by decide), ?_⟩
    refine ⟨σ, a1, a2, a3, a4, 0, rfl, ⟨r1, r2, r3, r4, (zRb rfl)⟩, hS1, ⟨(by omega), hJ _ _ _ _ _ pA1⟩, pB1, ?_⟩
    intro I2 L2 R2 S2 pB2 fB
    have pA2 := kA _ _ _ _ _ _ _ _ _ _ pA1 pB2 fB
    refine And.intro ⟨wA, wA⟩ (And.intro (fun _ => ?_) (fun h => absurd rfl h))
    have hk := hc0 13 σ a1 a2 a3 a4 0 (by decide)
    exact ⟨_, zlt1 (by omega), _, _, rfl, rfl, rfl, ⟨⟨by omega, by omega⟩, by omega⟩, (fB.1.2 0 (z0r hS1)).trans s1, zSh_B hS1 fB, pA2, pB2⟩
  · refine And.intro (z0p hS s0 hN (by omega) (by omega)) (fun a1 e1 r1 => ?_)
    refine And.intro (zA_40 hS) ⟨_, hA 14 (by decide), ?_⟩
    refine ⟨σ, a1, 0, 0, 0, 0, rfl, ⟨r1, (zRb rfl), (zRb rfl), (zRb rfl), (zRb rfl)⟩, hS, (by omega), pA, ?_⟩
    intro I1 L1 R1 S1 pA1 fA wA
    have hS1 := zSh_A hS fA
    have s1 : S1.1 0 = (100, N) := by rw [fA.1]; exact s0
    have pB1 := kB _ _ _ _ _ _ _ _ _ _ pB pA1 fA
    refine And.intro (z0p hS1 s1 hN (by omega) (by omega)) (zrd (v := a1) ((fA.2 0 _ (by omega)).1.trans e1.symm) ?_)
    refine And.intro (zA_165 hS1) ⟨_, hB 14 (by decide), ?_⟩
    refine ⟨σ, a1, 0, 0, 0, 0, rfl, ⟨r1, (zRb rfl), (zRb rfl), (zRb rfl), (zRb rfl)⟩, hS1, ⟨(by omega), hJ _ _ _ _ _ pA1⟩, pB1, ?_⟩
    intro I2 L2 R2 S2 pB2 fB
    have pA2 := kA _ _ _ _ _ _ _ _ _ _ pA1 pB2 fB
    refine And.intro ⟨wA, wA⟩ (And.intro (fun _ => ?_) (fun h => absurd rfl h))
    have hk := hc1 σ a1 0 0 0 0
    exact ⟨_, zlt1 (by omega), _, _, rfl, rfl, rfl, ⟨⟨by omega, by omega⟩, by omega⟩, (fB.1.2 0 (z0r hS1)).trans s1, zSh_B hS1 fB, pA2, pB2⟩
  · refine And.intro (z0p hS s0 hN (by omega) (by omega)) (fun a1 e1 r1 => ?_)
    refine And.intro (z0p hS s0 hN (by omega) (by omega)) (fun a2 e2 r2 => ?_)
    refine And.intro (z0p hS s0 hN (by omega) (by omega)) (fun a3 e3 r3 => ?_)
    refine And.intro (zA_40 hS) ⟨_, hA 15 (by decide), ?_⟩
    refine ⟨σ, a1, a2, a3, 0, 0, rfl, ⟨r1, r2, r3, (zRb rfl), (zRb rfl)⟩, hS, (by omega), pA, ?_⟩
    intro I1 L1 R1 S1 pA1 fA wA
    have hS1 := zSh_A hS fA
    have s1 : S1.1 0 = (100, N) := by rw [fA.1]; exact s0
    have pB1 := kB _ _ _ _ _ _ _ _ _ _ pB pA1 fA
    refine And.intro (z0p hS1 s1 hN (by omega) (by omega)) (zrd (v := a1) ((fA.2 0 _ (by omega)).1.trans e1.symm) ?_)
    refine And.intro (z0p hS1 s1 hN (by omega) (by omega)) (zrd (v := a2) ((fA.2 0 _ (by omega)).1.trans e2.symm) ?_)
    refine And.intro (z0p hS1 s1 hN (by omega) (by omega)) (zrd (v := a3) ((fA.2 0 _ (by omega)).1.trans e3.symm) ?_)
    refine And.intro (zA_165 hS1) ⟨_, hB 15 (by decide), ?_⟩
    refine ⟨σ, a1, a2, a3, 0, 0, rfl, ⟨r1, r2, r3, (zRb rfl), (zRb rfl)⟩, hS1, ⟨(by omega), hJ _ _ _ _ _ pA1⟩, pB1, ?_⟩
    intro I2 L2 R2 S2 pB2 fB
    have pA2 := kA _ _ _ _ _ _ _ _ _ _ pA1 pB2 fB
    refine And.intro ⟨wA, wA⟩ (And.intro (fun _ => ?_) (fun h => absurd rfl h))
    have hk := hc0 15 σ a1 a2 a3 0 0 (by decide)
    exact ⟨_, zlt1 (by omega), _, _, rfl, rfl, rfl, ⟨⟨by omega, by omega⟩, by omega⟩, (fB.1.2 0 (z0r hS1)).trans s1, zSh_B hS1 fB, pA2, pB2⟩
  · refine And.intro (z0p hS s0 hN (by omega) (by omega)) (fun a1 e1 r1 => ?_)
    refine And.intro (zA_40 hS) ⟨_, hA 16 (by decide), ?_⟩
    refine ⟨σ, a1, 0, 0, 0, 0, rfl, ⟨r1, (zRb rfl), (zRb rfl), (zRb rfl), (zRb rfl)⟩, hS, (by omega), pA, ?_⟩
    intro I1 L1 R1 S1 pA1 fA wA
    have hS1 := zSh_A hS fA
    have s1 : S1.1 0 = (100, N) := by rw [fA.1]; exact s0
    have pB1 := kB _ _ _ _ _ _ _ _ _ _ pB pA1 fA
    refine And.intro (z0p hS1 s1 hN (by omega) (by omega)) (zrd (v := a1) ((fA.2 0 _ (by omega)).1.trans e1.symm) ?_)
    refine And.intro (zA_165 hS1) ⟨_, hB 16 (by decide), ?_⟩
    refine ⟨σ, a1, 0, 0, 0, 0, rfl, ⟨r1, (zRb rfl), (zRb rfl), (zRb rfl), (zRb rfl)⟩, hS1, ⟨(by omega), hJ _ _ _ _ _ pA1⟩, pB1, ?_⟩
    intro I2 L2 R2 S2 pB2 fB
    have pA2 := kA _ _ _ _ _ _ _ _ _ _ pA1 pB2 fB
    refine ⟨_, _, ⟨zW6i wA, zW6i wA⟩, fun z cz => ?_⟩
    refine And.intro cz.2.2 (And.intro (fun _ => ?_) (fun h => absurd h (by omega)))
    have hk := hc0 16 σ a1 0 0 0 0 (by decide)
    exact ⟨_, zlt1 (by omega), _, _, rfl, rfl, rfl, ⟨⟨by omega, by omega⟩, by omega⟩, (fB.1.2 0 (z0r hS1)).trans s1, zSh_B hS1 fB, pA2, pB2⟩
  · refine And.intro (z0p hS s0 hN (by omega) (by omega)) (fun a1 e1 r1 => ?_)
    refine And.intro (z0p hS s0 hN (by omega) (by omega)) (fun a2 e2 r2 => ?_)
    refine And.intro (zA_40 hS) ⟨_, hA 17 (by decide), ?_⟩
    refine ⟨σ, a1, a2, 0, 0, 0, rfl, ⟨r1, r2, (zRb rfl), (zRb rfl), (zRb rfl)⟩, hS, (by omega), pA, ?_⟩
    intro I1 L1 R1 S1 pA1 fA wA
    have hS1 := zSh_A hS fA
    have s1 : S1.1 0 = (100, N) := by rw [fA.1]; exact s0
    have pB1 := kB _ _ _ _ _ _ _ _ _ _ pB pA1 fA
    refine And.intro (z0p hS1 s1 hN (by omega) (by omega)) (zrd (v := a1) ((fA.2 0 _ (by omega)).1.trans e1.symm) ?_)
    refine And.intro (z0p hS1 s1 hN (by omega) (by omega)) (zrd (v := a2) ((fA.2 0 _ (by omega)).1.trans e2.symm) ?_)
    refine And.intro (zA_165 hS1) ⟨_, hB 17 (by decide), ?_⟩
    refine ⟨σ, a1, a2, 0, 0, 0, rfl, ⟨r1, r2, (zRb rfl), (zRb rfl), (zRb rfl)⟩, hS1, ⟨(by omega), hJ _ _ _ _ _ pA1⟩, pB1, ?_⟩
    intro I2 L2 R2 S2 pB2 fB
    have pA2 := kA _ _ _ _ _ _ _ _ _ _ pA1 pB2 fB
    refine And.intro ⟨wA, wA⟩ (And.intro (fun _ => ?_) (fun h => absurd rfl h))
    have hk := hc0 17 σ a1 a2 0 0 0 (by decide)
    exact ⟨_, zlt1 (by omega), _, _, rfl, rfl, rfl, ⟨⟨by omega, by omega⟩, by omega⟩, (fB.1.2 0 (z0r hS1)).trans s1, zSh_B hS1 fB, pA2, pB2⟩
  · refine And.intro (z0p hS s0 hN (by omega) (by omega)) (fun a1 e1 r1 => ?_)
    refine And.intro (z0p hS s0 hN (by omega) (by omega)) (fun a2 e2 r2 => ?_)
    refine And.intro (z0p hS s0 hN (by omega) (by omega)) (fun a3 e3 r3 => ?_)
    refine And.intro (z0p hS s0 hN (by omega) (by omega)) (fun a4 e4 r4 => ?_)
    refine And.intro (zA_40 hS) ⟨_, hA 18 (by decide), ?_⟩
    refine ⟨σ, a1, a2, a3, a4, 0, rfl, ⟨r1, r2, r3, r4, (zRb rfl)⟩, hS, (by omega), pA, ?_⟩
    intro I1 L1 R1 S1 pA1 fA wA
    have hS1 := zSh_A hS fA
    have s1 : S1.1 0 = (100, N) := by rw [fA.1]; exact s0
    have pB1 := kB _ _ _ _ _ _ _ _ _ _ pB pA1 fA
    refine And.intro (z0p hS1 s1 hN (by omega) (by omega)) (zrd (v := a1) ((fA.2 0 _ (by omega)).1.trans e1.symm) ?_)
    refine And.intro (z0p hS1 s1 hN (by omega) (by omega)) (zrd (v := a2) ((fA.2 0 _ (by omega)).1.trans e2.symm) ?_)
    refine And.intro (z0p hS1 s1 hN (by omega) (by omega)) (zrd (v := a3) ((fA.2 0 _ (by omega)).1.trans e3.symm) ?_)
    refine And.intro (z0p hS1 s1 hN (by omega) (by omega)) (zrd (v := a4) ((fA.2 0 _ (by omega)).1.trans e4.symm) ?_)
    refine And.intro (zA_165 hS1) ⟨_, hB 18 (by decide), ?_⟩
    refine ⟨σ, a1, a2, a3, a4, 0, rfl, ⟨r1, r2, r3, r4, (zRb rfl)⟩, hS1, ⟨(by omega), hJ _ _ _ _ _ pA1⟩, pB1, ?_⟩
    intro I2 L2 R2 S2 pB2 fB
    have pA2 := kA _ _ _ _ _ _ _ _ _ _ pA1 pB2 fB
    refine And.intro ⟨wA, wA⟩ (And.intro (fun _ => ?_) (fun h => absurd rfl h))
    have hk := hc0 18 σ a1 a2 a3 a4 0 (by decide)
    exact ⟨_, zlt1 (by omega), _, _, rfl, rfl, rfl, ⟨⟨by omega, by omega⟩, by omega⟩, (fB.1.2 0 (z0r hS1)).trans s1, zSh_B hS1 fB, pA2, pB2⟩
  · refine And.intro (zA_40 hS) ⟨_, hA 19 (by decide), ?_⟩
    refine ⟨σ, 0, 0, 0, 0, 0, rfl, ⟨(zRb rfl), (zRb rfl), (zRb rfl), (zRb rfl), (zRb rfl)⟩, hS, (by omega), pA, ?_⟩
    intro I1 L1 R1 S1 pA1 fA wA
    have hS1 := zSh_A hS fA
    have s1 : S1.1 0 = (100, N) := by rw [fA.1]; exact s0
    have pB1 := kB _ _ _ _ _ _ _ _ _ _ pB pA1 fA
    refine And.intro (zA_165 hS1) ⟨_, hB 19 (by decide), ?_⟩
    refine ⟨σ, 0, 0, 0, 0, 0, rfl, ⟨(zRb rfl), (zRb rfl), (zRb rfl), (zRb rfl), (zRb rfl)⟩, hS1, ⟨(by omega), hJ _ _ _ _ _ pA1⟩, pB1, ?_⟩
    intro I2 L2 R2 S2 pB2 fB
    have pA2 := kA _ _ _ _ _ _ _ _ _ _ pA1 pB2 fB
    refine And.intro ⟨wA, wA⟩ (And.intro (fun _ => ?_) (fun h => absurd rfl h))
    have hk := hc0 19 σ 0 0 0 0 0 (by decide)
    exact ⟨_, zlt1 (by omega), _, _, rfl, rfl, rfl, ⟨⟨by omega, by omega⟩, by omega⟩, (fB.1.2 0 (z0r hS1)).trans s1, zSh_B hS1 fB, pA2, pB2⟩
  · refine And.intro (zA_40 hS) ⟨_, hA 20 (by decide), ?_⟩
    refine ⟨σ, 0, 0, 0, 0, 0, rfl, ⟨(zRb rfl), (zRb rfl), (zRb rfl), (zRb rfl), (zRb rfl)⟩, hS, (by omega), pA, ?_⟩
    intro I1 L1 R1 S1 pA1 fA wA
    have hS1 := zSh_A hS fA
    have s1 : S1.1 0 = (100, N) := by rw [fA.1]; exact s0
    have pB1 := kB _ _ _ _ _ _ _ _ _ _ pB pA1 fA
    refine And.intro (zA_165 hS1) ⟨_, hB 20 (by decide), ?_⟩
    refine ⟨σ, 0, 0, 0, 0, 0, rfl, ⟨(zRb rfl), (zRb rfl), (zRb rfl), (zRb rfl), (zRb rfl)⟩, hS1, ⟨(by omega), hJ _ _ _ _ _ pA1⟩, pB1, ?_⟩
    intro I2 L2 R2 S2 pB2 fB
    have pA2 := kA _ _ _ _ _ _ _ _ _ _ pA1 pB2 fB
    refine And.intro ⟨wA, wA⟩ (And.intro (fun _ => ?_) (fun h => absurd rfl h))
    have hk := hc0 20 σ 0 0 0 0 0 (by decide)
    exact ⟨_, zlt1 (by omega), _, _, rfl, rfl, rfl, ⟨⟨by omega, by omega⟩, by omega⟩, (fB.1.2 0 (z0r hS1)).trans s1, zSh_B hS1 fB, pA2, pB2⟩
  · refine And.intro (z0p hS s0 hN (by omega) (by omega)) (fun a1 e1 r1 => ?_)
    refine And.intro (z0p hS s0 hN (by omega) (by omega)) (fun a2 e2 r2 => ?_)
    refine And.intro (zA_40 hS) ⟨_, hA 21 (by decide), ?_⟩
    refine ⟨σ, a1, a2, 0, 0, 0, rfl, ⟨r1, r2, (zRb rfl), (zRb rfl), (zRb rfl)⟩, hS, (by omega), pA, ?_⟩
    intro I1 L1 R1 S1 pA1 fA wA
    have hS1 := zSh_A hS fA
    have s1 : S1.1 0 = (100, N) := by rw [fA.1]; exact s0
    have pB1 := kB _ _ _ _ _ _ _ _ _ _ pB pA1 fA
    refine And.intro (z0p hS1 s1 hN (by omega) (by omega)) (zrd (v := a1) ((fA.2 0 _ (by omega)).1.trans e1.symm) ?_)
    refine And.intro (z0p hS1 s1 hN (by omega) (by omega)) (zrd (v := a2) ((fA.2 0 _ (by omega)).1.trans e2.symm) ?_)
    refine And.intro (zA_165 hS1) ⟨_, hB 21 (by decide), ?_⟩
    refine ⟨σ, a1, a2, 0, 0, 0, rfl, ⟨r1, r2, (zRb rfl), (zRb rfl), (zRb rfl)⟩, hS1, ⟨(by omega), hJ _ _ _ _ _ pA1⟩, pB1, ?_⟩
    intro I2 L2 R2 S2 pB2 fB
    have pA2 := kA _ _ _ _ _ _ _ _ _ _ pA1 pB2 fB
    refine And.intro ⟨wA, wA⟩ (And.intro (fun _ => ?_) (fun h => absurd rfl h))
    have hk := hc0 21 σ a1 a2 0 0 0 (by decide)
    exact ⟨_, zlt1 (by omega), _, _, rfl, rfl, rfl, ⟨⟨by omega, by omega⟩, by omega⟩, (fB.1.2 0 (z0r hS1)).trans s1, zSh_B hS1 fB, pA2, pB2⟩
  · refine And.intro (z0p hS s0 hN (by omega) (by omega)) (fun a1 e1 r1 => ?_)
    refine And.intro (zA_40 hS) ⟨_, hA 22 (by decide), ?_⟩
    refine ⟨σ, a1, 0, 0, 0, 0, rfl, ⟨r1, (zRb rfl), (zRb rfl), (zRb rfl), (zRb rfl)⟩, hS, (by omega), pA, ?_⟩
    intro I1 L1 R1 S1 pA1 fA wA
    have hS1 := zSh_A hS fA
    have s1 : S1.1 0 = (100, N) := by rw [fA.1]; exact s0
    have pB1 := kB _ _ _ _ _ _ _ _ _ _ pB pA1 fA
    refine And.intro (z0p hS1 s1 hN (by omega) (by omega)) (zrd (v := a1) ((fA.2 0 _ (by omega)).1.trans e1.symm) ?_)
    refine And.intro (zA_165 hS1) ⟨_, hB 22 (by decide), ?_⟩
    refine ⟨σ, a1, 0, 0, 0, 0, rfl, ⟨r1, (zRb rfl), (zRb rfl), (zRb rfl), (zRb rfl)⟩, hS1, ⟨(by omega), hJ _ _ _ _ _ pA1⟩, pB1, ?_⟩
    intro I2 L2 R2 S2 pB2 fB
    have pA2 := kA _ _ _ _ _ _ _ _ _ _ pA1 pB2 fB
    refine And.intro ⟨wA, wA⟩ (And.intro (fun _ => ?_) (fun h => absurd rfl h))
    have hk := hc0 22 σ a1 0 0 0 0 (by decide)
    exact ⟨_, zlt1 (by omega), _, _, rfl, rfl, rfl, ⟨⟨by omega, by omega⟩, by omega⟩, (fB.1.2 0 (z0r hS1)).trans s1, zSh_B hS1 fB, pA2, pB2⟩
  · refine And.intro (z0p hS s0 hN (by omega) (by omega)) (fun a1 e1 r1 => ?_)
    refine And.intro (z0p hS s0 hN (by omega) (by omega)) (fun a2 e2 r2 => ?_)
    refine And.intro (z0p hS s0 hN (by omega) (by omega)) (fun a3 e3 r3 => ?_)
    refine And.intro (zA_40 hS) ⟨_, hA 23 (by decide), ?_⟩
    refine ⟨σ, a1, a2, a3, 0, 0, rfl, ⟨r1, r2, r3, (zRb rfl), (zRb rfl)⟩, hS, (by omega), pA, ?_⟩
    intro I1 L1 R1 S1 pA1 fA wA
    have hS1 := zSh_A hS fA
    have s1 : S1.1 0 = (100, N) := by rw [fA.1]; exact s0
    have pB1 := kB _ _ _ _ _ _ _ _ _ _ pB pA1 fA
    refine And.intro (z0p hS1 s1 hN (by omega) (by omega)) (zrd (v := a1) ((fA.2 0 _ (by omega)).1.trans e1.symm) ?_)
    refine And.intro (z0p hS1 s1 hN (by omega) (by omega)) (zrd (v := a2) ((fA.2 0 _ (by omega)).1.trans e2.symm) ?_)
    refine And.intro (z0p hS1 s1 hN (by omega) (by omega)) (zrd (v := a3) ((fA.2 0 _ (by omega)).1.trans e3.symm) ?_)
    refine And.intro (zA_165 hS1) ⟨_, hB 23 (by decide), ?_⟩
    refine ⟨σ, a1, a2, a3, 0, 0, rfl, ⟨r1, r2, r3, (zRb rfl), (zRb rfl)⟩, hS1, ⟨(by omega), hJ _ _ _ _ _ pA1⟩, pB1, ?_⟩
    intro I2 L2 R2 S2 pB2 fB
    have pA2 := kA _ _ _ _ _ _ _ _ _ _ pA1 pB2 fB
    refine And.intro ⟨wA, wA⟩ (And.intro (fun _ => ?_) (fun h => absurd rfl h))
    have hk := hc0 23 σ a1 a2 a3 0 0 (by decide)
    exact ⟨_, zlt1 (by omega), _, _, rfl, rfl, rfl, ⟨⟨by omega, by omega⟩, by omega⟩, (fB.1.2 0 (z0r hS1)).trans s1, zSh_B hS1 fB, pA2, pB2⟩
  · refine And.intro (zA_40 hS) ⟨_, hA 24 (by decide), ?_⟩
    refine ⟨σ, 0, 0, 0, 0, 0, rfl, ⟨(zRb rfl), (zRb rfl), (zRb rfl), (zRb rfl), (zRb rfl)⟩, hS, (by omega), pA, ?_⟩
    intro I1 L1 R1 S1 pA1 fA wA
    have hS1 := zSh_A hS fA
    have s1 : S1.1 0 = (100, N) := by rw [fA.1]; exact s0
    have pB1 := kB _ _ _ _ _ _ _ _ _ _ pB pA1 fA
    refine And.intro (zA_165 hS1) ⟨_, hB 24 (by decide), ?_⟩
    refine ⟨σ, 0, 0, 0, 0, 0, rfl, ⟨(zRb rfl), (zRb rfl), (zRb rfl), (zRb rfl), (zRb rfl)⟩, hS1, ⟨(by omega), hJ _ _ _ _ _ pA1⟩, pB1, ?_⟩
    intro I2 L2 R2 S2 pB2 fB
    have pA2 := kA _ _ _ _ _ _ _ _ _ _ pA1 pB2 fB
    refine And.intro ⟨wA, wA⟩ (And.intro (fun _ => ?_) (fun h => absurd rfl h))
    have hk := hc0 24 σ 0 0 0 0 0 (by decide)
    exact ⟨_, zlt1 (by omega), _, _, rfl, rfl, rfl, ⟨⟨by omega, by omega⟩, by omega⟩, (fB.1.2 0 (z0r hS1)).trans s1, zSh_B hS1 fB, pA2, pB2⟩
  · refine And.intro (zA_40 hS) ⟨_, hA 25 (by decide), ?_⟩
    refine ⟨σ, 0, 0, 0, 0, 0, rfl, ⟨(zRb rfl), (zRb rfl), (zRb rfl), (zRb rfl), (zRb rfl)⟩, hS, (by omega), pA, ?_⟩
    intro I1 L1 R1 S1 pA1 fA wA
    have hS1 := zSh_A hS fA
    have s1 : S1.1 0 = (100, N) := by rw [fA.1]; exact s0
    have pB1 := kB _ _ _ _ _ _ _ _ _ _ pB pA1 fA
    refine And.intro (zA_165 hS1) ⟨_, hB 25 (by decide), ?_⟩
    refine ⟨σ, 0, 0, 0, 0, 0, rfl, ⟨(zRb rfl), (zRb rfl), (zRb rfl), (zRb rfl), (zRb rfl)⟩, hS1, ⟨(by omega), hJ _ _ _ _ _ pA1⟩, pB1, ?_⟩
    intro I2 L2 R2 S2 pB2 fB
    have pA2 := kA _ _ _ _ _ _ _ _ _ _ pA1 pB2 fB
    refine And.intro ⟨wA, wA⟩ (And.intro (fun _ => ?_) (fun h => absurd rfl h))
    have hk := hc0 25 σ 0 0 0 0 0 (by decide)
    exact ⟨_, zlt1 (by omega), _, _, rfl, rfl, rfl, ⟨⟨by omega, by omega⟩, by omega⟩, (fB.1.2 0 (z0r hS1)).trans s1, zSh_B hS1 fB, pA2, pB2⟩
  · refine And.intro (z0p hS s0 hN (by omega) (by omega)) (fun a1 e1 r1 => ?_)
    refine And.intro (z0p hS s0 hN (by omega) (by omega)) (fun a2 e2 r2 => ?_)
    refine And.intro (zA_40 hS) ⟨_, hA 26 (by decide), ?_⟩
    refine ⟨σ, a1, a2, 0, 0, 0, rfl, ⟨r1, r2, (zRb rfl), (zRb rfl), (zRb rfl)⟩, hS, (by omega), pA, ?_⟩
    intro I1 L1 R1 S1 pA1 fA wA
    have hS1 := zSh_A hS fA
    have s1 : S1.1 0 = (100, N) := by rw [fA.1]; exact s0
    have pB1 := kB _ _ _ _ _ _ _ _ _ _ pB pA1 fA
    refine And.intro (z0p hS1 s1 hN (by omega) (by omega)) (zrd (v := a1) ((fA.2 0 _ (by omega)).1.trans e1.symm) ?_)
    refine And.intro (z0p hS1 s1 hN (by omega) (by omega)) (zrd (v := a2) ((fA.2 0 _ (by omega)).1.trans e2.symm) ?_)
    refine And.intro (zA_165 hS1) ⟨_, hB 26 (by decide), ?_⟩
    refine ⟨σ, a1, a2, 0, 0, 0, rfl, ⟨r1, r2, (zRb rfl), (zRb rfl), (zRb rfl)⟩, hS1, ⟨(by omega), hJ _ _ _ _ _ pA1⟩, pB1, ?_⟩
    intro I2 L2 R2 S2 pB2 fB
    have pA2 := kA _ _ _ _ _ _ _ _ _ _ pA1 pB2 fB
    refine And.intro ⟨wA, wA⟩ (And.intro (fun _ => ?_) (fun h => absurd rfl h))
    have hk := hc0 26 σ a1 a2 0 0 0 (by decide)
    exact ⟨_, zlt1 (by omega), _, _, rfl, rfl, rfl, ⟨⟨by omega, by omega⟩, by omega⟩, (fB.1.2 0 (z0r hS1)).trans s1, zSh_B hS1 fB, pA2, pB2⟩
  · refine And.intro (z0p hS s0 hN (by omega) (by omega)) (fun a1 e1 r1 => ?_)
    refine And.intro (zA_40 hS) ⟨_, hA 27 (by decide), ?_⟩
    refine ⟨σ, a1, 0, 0, 0, 0, rfl, ⟨r1, (zRb rfl), (zRb rfl), (zRb rfl), (zRb rfl)⟩, hS, (by omega), pA, ?_⟩
    intro I1 L1 R1 S1 pA1 fA wA
    have hS1 := zSh_A hS fA
    have s1 : S1.1 0 = (100, N) := by rw [fA.1]; exact s0
    have pB1 := kB _ _ _ _ _ _ _ _ _ _ pB pA1 fA
    refine And.intro (z0p hS1 s1 hN (by omega) (by omega)) (zrd (v := a1) ((fA.2 0 _ (by omega)).1.trans e1.symm) ?_)
    refine And.intro (zA_165 hS1) ⟨_, hB 27 (by decide), ?_⟩
    refine ⟨σ, a1, 0, 0, 0, 0, rfl, ⟨r1, (zRb rfl), (zRb rfl), (zRb rfl), (zRb rfl)⟩, hS1, ⟨(by omega), hJ _ _ _ _ _ pA1⟩, pB1, ?_⟩
    intro I2 L2 R2 S2 pB2 fB
    have pA2 := kA _ _ _ _ _ _ _ _ _ _ pA1 pB2 fB
    refine And.intro ⟨wA, wA⟩ (And.intro (fun _ => ?_) (fun h => absurd rfl h))
    have hk := hc0 27 σ a1 0 0 0 0 (by decide)
    exact ⟨_, zlt1 (by omega), _, _, rfl, rfl, rfl, ⟨⟨by omega, by omega⟩, by omega⟩, (fB.1.2 0 (z0r hS1)).trans s1, zSh_B hS1 fB, pA2, pB2⟩
  · refine And.intro (zA_40 hS) ⟨_, hA 28 (by decide), ?_⟩
    refine ⟨σ, 0, 0, 0, 0, 0, rfl, ⟨(zRb rfl), (zRb rfl), (zRb rfl), (zRb rfl), (zRb rfl)⟩, hS, (by omega), pA, ?_⟩
    intro I1 L1 R1 S1 pA1 fA wA
    have hS1 := zSh_A hS fA
    have s1 : S1.1 0 = (100, N) := by rw [fA.1]; exact s0
    have pB1 := kB _ _ _ _ _ _ _ _ _ _ pB pA1 fA
    refine And.intro (zA_165 hS1) ⟨_, hB 28 (by decide), ?_⟩
    refine ⟨σ, 0, 0, 0, 0, 0, rfl, ⟨(zRb rfl), (zRb rfl), (zRb rfl), (zRb rfl), (zRb rfl)⟩, hS1, ⟨(by omega), hJ _ _ _ _ _ pA1⟩, pB1, ?_⟩
    intro I2 L2 R2 S2 pB2 fB
    have pA2 := kA _ _ _ _ _ _ _ _ _ _ pA1 pB2 fB
    refine And.intro ⟨wA, wA⟩ (And.intro (fun _ => ?_) (fun h => absurd rfl h))
    have hk := hc0 28 σ 0 0 0 0 0 (by decide)
    exact ⟨_, zlt1 (by omega), _, _, rfl, rfl, rfl, ⟨⟨by omega, by omega⟩, by omega⟩, (fB.1.2 0 (z0r hS1)).trans s1, zSh_B hS1 fB, pA2, pB2⟩
  · refine And.intro (zA_40 hS) ⟨_, hA 29 (by decide), ?_⟩
    refine ⟨σ, 0, 0, 0, 0, 0, rfl, ⟨(zRb rfl), (zRb rfl), (zRb rfl), (zRb rfl), (zRb rfl)⟩, hS, (by omega), pA, ?_⟩
    intro I1 L1 R1 S1 pA1 fA wA
    have hS1 := zSh_A hS fA
    have s1 : S1.1 0 = (100, N) := by rw [fA.1]; exact s0
    have pB1 := kB _ _ _ _ _ _ _ _ _ _ pB pA1 fA
    refine And.intro (zA_165 hS1) ⟨_, hB 29 (by decide), ?_⟩
    refine ⟨σ, 0, 0, 0, 0, 0, rfl, ⟨(zRb rfl), (zRb rfl), (zRb rfl), (zRb rfl), (zRb rfl)⟩, hS1, ⟨(by omega), hJ _ _ _ _ _ pA1⟩, pB1, ?_⟩
    intro I2 L2 R2 S2 pB2 fB
    have pA2 := kA _ _ _ _ _ _ _ _ _ _ pA1 pB2 fB
    refine And.intro ⟨wA, wA⟩ (And.intro (fun _ => ?_) (fun h => absurd rfl h))
    have hk := hc0 29 σ 0 0 0 0 0 (by decide)
    exact ⟨_, zlt1 (by omega), _, _, rfl, rfl, rfl, ⟨⟨by omega, by omega⟩, by omega⟩, (fB.1.2 0 (z0r hS1)).trans s1, zSh_B hS1 fB, pA2, pB2⟩
  · refine And.intro (z0p hS s0 hN (by omega) (by omega)) (fun a1 e1 r1 => ?_)
    refine And.intro (zA_40 hS) ⟨_, hA 30 (by decide), ?_⟩
    refine ⟨σ, a1, 0, 0, 0, 0, rfl, ⟨r1, (zRb rfl), (zRb rfl), (zRb rfl), (zRb rfl)⟩, hS, (by omega), pA, ?_⟩
    intro I1 L1 R1 S1 pA1 fA wA
    have hS1 := zSh_A hS fA
    have s1 : S1.1 0 = (100, N) := by rw [fA.1]; exact s0
    have pB1 := kB _ _ _ _ _ _ _ _ _ _ pB pA1 fA
    refine And.intro (z0p hS1 s1 hN (by omega) (by omega)) (zrd (v := a1) ((fA.2 0 _ (by omega)).1.trans e1.symm) ?_)
    refine And.intro (zA_165 hS1) ⟨_, hB 30 (by decide), ?_⟩
    refine ⟨σ, a1, 0, 0, 0, 0, rfl, ⟨r1, (zRb rfl), (zRb rfl), (zRb rfl), (zRb rfl)⟩, hS1, ⟨(by omega), hJ _ _ _ _ _ pA1⟩, pB1, ?_⟩
    intro I2 L2 R2 S2 pB2 fB
    have pA2 := kA _ _ _ _ _ _ _ _ _ _ pA1 pB2 fB
    refine And.intro ⟨wA, wA⟩ (And.intro (fun _ => ?_) (fun h => absurd rfl h))
    have hk := hc0 30 σ a1 0 0 0 0 (by decide)
    exact ⟨_, zlt1 (by omega), _, _, rfl, rfl, rfl, ⟨⟨by omega, by omega⟩, by omega⟩, (fB.1.2 0 (z0r hS1)).trans s1, zSh_B hS1 fB, pA2, pB2⟩
  · refine And.intro (z0p hS s0 hN (by omega) (by omega)) (fun a1 e1 r1 => ?_)
    refine And.intro (zA_40 hS) ⟨_, hA 31 (by decide), ?_⟩
    refine ⟨σ, a1, 0, 0, 0, 0, rfl, ⟨r1, (zRb rfl), (zRb rfl), (zRb rfl), (zRb rfl)⟩, hS, (by omega), pA, ?_⟩
    intro I1 L1 R1 S1 pA1 fA wA
    have hS1 := zSh_A hS fA
    have s1 : S1.1 0 = (100, N) := by rw [fA.1]; exact s0
    have pB1 := kB _ _ _ _ _ _ _ _ _ _ pB pA1 fA
    refine And.intro (z0p hS1 s1 hN (by omega) (by omega)) (zrd (v := a1) ((fA.2 0 _ (by omega)).1.trans e1.symm) ?_)
    refine And.intro (zA_165 hS1) ⟨_, hB 31 (by decide), ?_⟩
    refine ⟨σ, a1, 0, 0, 0, 0, rfl, ⟨r1, (zRb rfl), (zRb rfl), (zRb rfl), (zRb rfl)⟩, hS1, ⟨(by omega), hJ _ _ _ _ _ pA1⟩, pB1, ?_⟩
    intro I2 L2 R2 S2 pB2 fB
    have pA2 := kA _ _ _ _ _ _ _ _ _ _ pA1 pB2 fB
    refine ⟨_, _, ⟨zW6i wA, zW6i wA⟩, fun z cz => ?_⟩
    refine And.intro cz.2.2 (And.intro (fun _ => ?_) (fun h => absurd h (by omega)))
    have hk := hc0 31 σ a1 0 0 0 0 (by decide)
    exact ⟨_, zlt1 (by omega), _, _, rfl, rfl, rfl, ⟨⟨by omega, by omega⟩, by omega⟩, (fB.1.2 0 (z0r hS1)).trans s1, zSh_B hS1 fB, pA2, pB2⟩
  · refine And.intro (z0p hS s0 hN (by omega) (by omega)) (fun a1 e1 r1 => ?_)
    refine And.intro (zA_40 hS) ⟨_, hA 32 (by decide), ?_⟩
    refine ⟨σ, a1, 0, 0, 0, 0, rfl, ⟨r1, (zRb rfl), (zRb rfl), (zRb rfl), (zRb rfl)⟩, hS, (by omega), pA, ?_⟩
    intro I1 L1 R1 S1 pA1 fA wA
    have hS1 := zSh_A hS fA
    have s1 : S1.1 0 = (100, N) := by rw [fA.1]; exact s0
    have pB1 := kB _ _ _ _ _ _ _ _ _ _ pB pA1 fA
    refine And.intro (z0p hS1 s1 hN (by omega) (by omega)) (zrd (v := a1) ((fA.2 0 _ (by omega)).1.trans e1.symm) ?_)
    refine And.intro (zA_165 hS1) ⟨_, hB 32 (by decide), ?_⟩
    refine ⟨σ, a1, 0, 0, 0, 0, rfl, ⟨r1, (zRb rfl), (zRb rfl), (zRb rfl), (zRb rfl)⟩, hS1, ⟨(by omega), hJ _ _ _ _ _ pA1⟩, pB1, ?_⟩
    intro I2 L2 R2 S2 pB2 fB
    have pA2 := kA _ _ _ _ _ _ _ _ _ _ pA1 pB2 fB
    refine And.intro ⟨wA, wA⟩ (And.intro (fun _ => ?_) (fun h => absurd rfl h))
    have hk := hc0 32 σ a1 0 0 0 0 (by decide)
    exact ⟨_, zlt1 (by omega), _, _, rfl, rfl, rfl, ⟨⟨by omega, by omega⟩, by omega⟩, (fB.1.2 0 (z0r hS1)).trans s1, zSh_B hS1 fB, pA2, pB2⟩
  · refine And.intro (z0p hS s0 hN (by omega) (by omega)) (fun a1 e1 r1 => ?_)
    refine And.intro (zA_40 hS) ⟨_, hA 33 (by decide), ?_⟩
    refine ⟨σ, a1, 0, 0, 0, 0, rfl, ⟨r1, (zRb rfl), (zRb rfl), (zRb rfl), (zRb rfl)⟩, hS, (by omega), pA, ?_⟩
    intro I1 L1 R1 S1 pA1 fA wA
    have hS1 := zSh_A hS fA
    have s1 : S1.1 0 = (100, N) := by rw [fA.1]; exact s0
    have pB1 := kB _ _ _ _ _ _ _ _ _ _ pB pA1 fA
    refine And.intro (z0p hS1 s1 hN (by omega) (by omega)) (zrd (v := a1) ((fA.2 0 _ (by omega)).1.trans e1.symm) ?_)
    refine And.intro (zA_165 hS1) ⟨_, hB 33 (by decide), ?_⟩
    refine ⟨σ, a1, 0, 0, 0, 0, rfl, ⟨r1, (zRb rfl), (zRb rfl), (zRb rfl), (zRb rfl)⟩, hS1, ⟨(by omega), hJ _ _ _ _ _ pA1⟩, pB1, ?_⟩
    intro I2 L2 R2 S2 pB2 fB
    have pA2 := kA _ _ _ _ _ _ _ _ _ _ pA1 pB2 fB
    refine And.intro ⟨wA, wA⟩ (And.intro (fun _ => ?_) (fun h => absurd rfl h))
    have hk := hc0 33 σ a1 0 0 0 0 (by decide)
    exact ⟨_, zlt1 (by omega), _, _, rfl, rfl, rfl, ⟨⟨by omega, by omega⟩, by omega⟩, (fB.1.2 0 (z0r hS1)).trans s1, zSh_B hS1 fB, pA2, pB2⟩
  · refine And.intro (zA_40 hS) ⟨_, hA 34 (by decide), ?_⟩
    refine ⟨σ, 0, 0, 0, 0, 0, rfl, ⟨(zRb rfl), (zRb rfl), (zRb rfl), (zRb rfl), (zRb rfl)⟩, hS, (by omega), pA, ?_⟩
    intro I1 L1 R1 S1 pA1 fA wA
    have hS1 := zSh_A hS fA
    have s1 : S1.1 0 = (100, N) := by rw [fA.1]; exact s0
    have pB1 := kB _ _ _ _ _ _ _ _ _ _ pB pA1 fA
    refine And.intro (zA_165 hS1) ⟨_, hB 34 (by decide), ?_⟩
    refine ⟨σ, 0, 0, 0, 0, 0, rfl, ⟨(zRb rfl), (zRb rfl), (zRb rfl), (zRb rfl), (zRb rfl)⟩, hS1, ⟨(by omega), hJ _ _ _ _ _ pA1⟩, pB1, ?_⟩
    intro I2 L2 R2 S2 pB2 fB
    have pA2 := kA _ _ _ _ _ _ _ _ _ _ pA1 pB2 fB
    refine And.intro ⟨wA, wA⟩ (And.intro (fun _ => ?_) (fun h => absurd rfl h))
    have hk := hc0 34 σ 0 0 0 0 0 (by decide)
    exact ⟨_, zlt1 (by omega), _, _, rfl, rfl, rfl, ⟨⟨by omega, by omega⟩, by omega⟩, (fB.1.2 0 (z0r hS1)).trans s1, zSh_B hS1 fB, pA2, pB2⟩
  · refine And.intro (z0p hS s0 hN (by omega) (by omega)) (fun a1 e1 r1 => ?_)
    refine And.intro (zA_40 hS) ⟨_, hA 35 (by decide), ?_⟩
    refine ⟨σ, a1, 0, 0, 0, 0, rfl, ⟨r1, (zRb rfl), (zRb rfl), (zRb rfl), (zRb rfl)⟩, hS, (by omega), pA, ?_⟩
    intro I1 L1 R1 S1 pA1 fA wA
    have hS1 := zSh_A hS fA
    have s1 : S1.1 0 = (100, N) := by rw [fA.1]; exact s0
    have pB1 := kB _ _ _ _ _ _ _ _ _ _ pB pA1 fA
    refine And.intro (z0p hS1 s1 hN (by omega) (by omega)) (zrd (v := a1) ((fA.2 0 _ (by omega)).1.trans e1.symm) ?_)
    refine And.intro (zA_165 hS1) ⟨_, hB 35 (by decide), ?_⟩
    refine ⟨σ, a1, 0, 0, 0, 0, rfl, ⟨r1, (zRb rfl), (zRb rfl), (zRb rfl), (zRb rfl)⟩, hS1, ⟨(by omega), hJ _ _ _ _ _ pA1⟩, pB1, ?_⟩
    intro I2 L2 R2 S2 pB2 fB
    have pA2 := kA _ _ _ _ _ _ _ _ _ _ pA1 pB2 fB
    refine And.intro ⟨wA, wA⟩ (And.intro (fun _ => ?_) (fun h => absurd rfl h))
    have hk := hc0 35 σ a1 0 0 0 0 (by decide)
    exact ⟨_, zlt1 (by omega), _, _, rfl, rfl, rfl, ⟨⟨by omega, by omega⟩, by omega⟩, (fB.1.2 0 (z0r hS1)).trans s1, zSh_B hS1 fB, pA2, pB2⟩
  · refine And.intro (zA_40 hS) ⟨_, hA 36 (by decide), ?_⟩
    refine ⟨σ, 0, 0, 0, 0, 0, rfl, ⟨(zRb rfl), (zRb rfl), (zRb rfl), (zRb rfl), (zRb rfl)⟩, hS, (by omega), pA, ?_⟩
    intro I1 L1 R1 S1 pA1 fA wA
    have hS1 := zSh_A hS fA
    have s1 : S1.1 0 = (100, N) := by rw [fA.1]; exact s0
    have pB1 := kB _ _ _ _ _ _ _ _ _ _ pB pA1 fA
    refine And.intro (zA_165 hS1) ⟨_, hB 36 (by decide), ?_⟩
    refine ⟨σ, 0, 0, 0, 0, 0, rfl, ⟨(zRb rfl), (zRb rfl), (zRb rfl), (zRb rfl), (zRb rfl)⟩, hS1, ⟨(by omega), hJ _ _ _ _ _ pA1⟩, pB1, ?_⟩
    intro I2 L2 R2 S2 pB2 fB
    have pA2 := kA _ _ _ _ _ _ _ _ _ _ pA1 pB2 fB
    refine And.intro ⟨wA, wA⟩ (And.intro (fun _ => ?_) (fun h => absurd rfl h))
    have hk := hc0 36 σ 0 0 0 0 0 (by decide)
    exact ⟨_, zlt1 (by omega), _, _, rfl, rfl, rfl, ⟨⟨by omega, by omega⟩, by omega⟩, (fB.1.2 0 (z0r hS1)).trans s1, zSh_B hS1 fB, pA2, pB2⟩
  · refine And.intro (z0p hS s0 hN (by omega) (by omega)) (fun a1 e1 r1 => ?_)
    refine And.intro (zA_40 hS) ⟨_, hA 37 (by decide), ?_⟩
    refine ⟨σ, a1, 0, 0, 0, 0, rfl, ⟨r1, (zRb rfl), (zRb rfl), (zRb rfl), (zRb rfl)⟩, hS, (by omega), pA, ?_⟩
    intro I1 L1 R1 S1 pA1 fA wA
    have hS1 := zSh_A hS fA
    have s1 : S1.1 0 = (100, N) := by rw [fA.1]; exact s0
    have pB1 := kB _ _ _ _ _ _ _ _ _ _ pB pA1 fA
    refine And.intro (z0p hS1 s1 hN (by omega) (by omega)) (zrd (v := a1) ((fA.2 0 _ (by omega)).1.trans e1.symm) ?_)
    refine And.intro (zA_165 hS1) ⟨_, hB 37 (by decide), ?_⟩
    refine ⟨σ, a1, 0, 0, 0, 0, rfl, ⟨r1, (zRb rfl), (zRb rfl), (zRb rfl), (zRb rfl)⟩, hS1, ⟨(by omega), hJ _ _ _ _ _ pA1⟩, pB1, ?_⟩
    intro I2 L2 R2 S2 pB2 fB
    have pA2 := kA _ _ _ _ _ _ _ _ _ _ pA1 pB2 fB
    refine And.intro ⟨wA, wA⟩ (And.intro (fun _ => ?_) (fun h => absurd rfl h))
    have hk := hc0 37 σ a1 0 0 0 0 (by decide)
    exact ⟨_, zlt1 (by omega), _, _, rfl, rfl, rfl, ⟨⟨by omega, by omega⟩, by omega⟩, (fB.1.2 0 (z0r hS1)).trans s1, zSh_B hS1 fB, pA2, pB2⟩
  · refine And.intro (zA_40 hS) ⟨_, hA 38 (by decide), ?_⟩
    refine ⟨σ, 0, 0, 0, 0, 0, rfl, ⟨(zRb rfl), (zRb rfl), (zRb rfl), (zRb rfl), (zRb rfl)⟩, hS, (by omega), pA, ?_⟩
    intro I1 L1 R1 S1 pA1 fA wA
    have hS1 := zSh_A hS fA
    have s1 : S1.1 0 = (100, N) := by rw [fA.1]; exact s0
    have pB1 := kB _ _ _ _ _ _ _ _ _ _ pB pA1 fA
    refine And.intro (zA_165 hS1) ⟨_, hB 38 (by decide), ?_⟩
    refine ⟨σ, 0, 0, 0, 0, 0, rfl, ⟨(zRb rfl), (zRb rfl), (zRb rfl), (zRb rfl), (zRb rfl)⟩, hS1, ⟨(by omega), hJ _ _ _ _ _ pA1⟩, pB1, ?_⟩
    intro I2 L2 R2 S2 pB2 fB
    have pA2 := kA _ _ _ _ _ _ _ _ _ _ pA1 pB2 fB
    refine And.intro ⟨wA, wA⟩ (And.intro (fun _ => ?_) (fun h => absurd rfl h))
    have hk := hc0 38 σ 0 0 0 0 0 (by decide)
    exact ⟨_, zlt1 (by omega), _, _, rfl, rfl, rfl, ⟨⟨by omega, by omega⟩, by omega⟩, (fB.1.2 0 (z0r hS1)).trans s1, zSh_B hS1 fB, pA2, pB2⟩
  · refine And.intro (z0p hS s0 hN (by omega) (by omega)) (fun a1 e1 r1 => ?_)
    refine And.intro (z0p hS s0 hN (by omega) (by omega)) (fun a2 e2 r2 => ?_)
    refine And.intro (zA_40 hS) ⟨_, hA 39 (by decide), ?_⟩
    refine ⟨σ, a1, a2, 0, 0, 0, rfl, ⟨r1, r2, (zRb rfl), (zRb rfl), (zRb rfl)⟩, hS, (by omega), pA, ?_⟩
    intro I1 L1 R1 S1 pA1 fA wA
    have hS1 := zSh_A hS fA
    have s1 : S1.1 0 = (100, N) := by rw [fA.1]; exact s0
    have pB1 := kB _ _ _ _ _ _ _ _ _ _ pB pA1 fA
    refine And.intro (z0p hS1 s1 hN (by omega) (by omega)) (zrd (v := a1) ((fA.2 0 _ (by omega)).1.trans e1.symm) ?_)
    refine And.intro (z0p hS1 s1 hN (by omega) (by omega)) (zrd (v := a2) ((fA.2 0 _ (by omega)).1.trans e2.symm) ?_)
    refine And.intro (zA_165 hS1) ⟨_, hB 39 (by decide), ?_⟩
    refine ⟨σ, a1, a2, 0, 0, 0, rfl, ⟨r1, r2, (zRb rfl), (zRb rfl), (zRb rfl)⟩, hS1, ⟨(by omega), hJ _ _ _ _ _ pA1⟩, pB1, ?_⟩
    intro I2 L2 R2 S2 pB2 fB
    have pA2 := kA _ _ _ _ _ _ _ _ _ _ pA1 pB2 fB
    refine And.intro ⟨wA, wA⟩ (And.intro (fun _ => ?_) (fun h => absurd rfl h))
    have hk := hc0 39 σ a1 a2 0 0 0 (by decide)
    exact ⟨_, zlt1 (by omega), _, _, rfl, rfl, rfl, ⟨⟨by omega, by omega⟩, by omega⟩, (fB.1.2 0 (z0r hS1)).trans s1, zSh_B hS1 fB, pA2, pB2⟩
  · refine And.intro (z0p hS s0 hN (by omega) (by omega)) (fun a1 e1 r1 => ?_)
    refine And.intro (zA_40 hS) ⟨_, hA 40 (by decide), ?_⟩
    refine ⟨σ, a1, 0, 0, 0, 0, rfl, ⟨r1, (zRb rfl), (zRb rfl), (zRb rfl), (zRb rfl)⟩, hS, (by omega), pA, ?_⟩
    intro I1 L1 R1 S1 pA1 fA wA
    have hS1 := zSh_A hS fA
    have s1 : S1.1 0 = (100, N) := by rw [fA.1]; exact s0
    have pB1 := kB _ _ _ _ _ _ _ _ _ _ pB pA1 fA
    refine And.intro (z0p hS1 s1 hN (by omega) (by omega)) (zrd (v := a1) ((fA.2 0 _ (by omega)).1.trans e1.symm) ?_)
    refine And.intro (zA_165 hS1) ⟨_, hB 40 (by decide), ?_⟩
    refine ⟨σ, a1, 0, 0, 0, 0, rfl, ⟨r1, (zRb rfl), (zRb rfl), (zRb rfl), (zRb rfl)⟩, hS1, ⟨(by omega), hJ _ _ _ _ _ pA1⟩, pB1, ?_⟩
    intro I2 L2 R2 S2 pB2 fB
    have pA2 := kA _ _ _ _ _ _ _ _ _ _ pA1 pB2 fB
    refine And.intro ⟨wA, wA⟩ (And.intro (fun _ => ?_) (fun h => absurd rfl h))
    have hk := hc0 40 σ a1 0 0 0 0 (by decide)
    exact ⟨_, zlt1 (by omega), _, _, rfl, rfl, rfl, ⟨⟨by omega, by omega⟩, by omega⟩, (fB.1.2 0 (z0r hS1)).trans s1, zSh_B hS1 fB, pA2, pB2⟩
  · refine And.intro (zA_40 hS) ⟨_, hA 41 (by decide), ?_⟩
    refine ⟨σ, 0, 0, 0, 0, 0, rfl, ⟨(zRb rfl), (zRb rfl), (zRb rfl), (zRb rfl), (zRb rfl)⟩, hS, (by omega), pA, ?_⟩
    intro I1 L1 R1 S1 pA1 fA wA
    have hS1 := zSh_A hS fA
    have s1 : S1.1 0 = (100, N) := by rw [fA.1]; exact s0
    have pB1 := kB _ _ _ _ _ _ _ _ _ _ pB pA1 fA
    refine And.intro (zA_165 hS1) ⟨_, hB 41 (by decide), ?_⟩
    refine ⟨σ, 0, 0, 0, 0, 0, rfl, ⟨(zRb rfl), (zRb rfl), (zRb rfl), (zRb rfl), (zRb rfl)⟩, hS1, ⟨(by omega), hJ _ _ _ _ _ pA1⟩, pB1, ?_⟩
    intro I2 L2 R2 S2 pB2 fB
    have pA2 := kA _ _ _ _ _ _ _ _ _ _ pA1 pB2 fB
    refine And.intro ⟨wA, wA⟩ (And.intro (fun _ => ?_) (fun h => absurd rfl h))
    have hk := hc0 41 σ 0 0 0 0 0 (by decide)
    exact ⟨_, zlt1 (by omega), _, _, rfl, rfl, rfl, ⟨⟨by omega, by omega⟩, by omega⟩, (fB.1.2 0 (z0r hS1)).trans s1, zSh_B hS1 fB, pA2, pB2⟩
  · refine And.intro (z0p hS s0 hN (by omega) (by omega)) (fun a1 e1 r1 => ?_)
    refine And.intro (z0p hS s0 hN (by omega) (by omega)) (fun a2 e2 r2 => ?_)
    refine And.intro (z0p hS s0 hN (by omega) (by omega)) (fun a3 e3 r3 => ?_)
    refine And.intro (zA_40 hS) ⟨_, hA 42 (by decide), ?_⟩
    refine ⟨σ, a1, a2, a3, 0, 0, rfl, ⟨r1, r2, r3, (zRb rfl), (zRb rfl)⟩, hS, (by omega), pA, ?_⟩
    intro I1 L1 R1 S1 pA1 fA wA
    have hS1 := zSh_A hS fA
    have s1 : S1.1 0 = (100, N) := by rw [fA.1]; exact s0
    have pB1 := kB _ _ _ _ _ _ _ _ _ _ pB pA1 fA
    refine And.intro (z0p hS1 s1 hN (by omega) (by omega)) (zrd (v := a1) ((fA.2 0 _ (by omega)).1.trans e1.symm) ?_)
    refine And.intro (z0p hS1 s1 hN (by omega) (by omega)) (zrd (v := a2) ((fA.2 0 _ (by omega)).1.trans e2.symm) ?_)
    refine And.intro (z0p hS1 s1 hN (by omega) (by omega)) (zrd (v := a3) ((fA.2 0 _ (by omega)).1.trans e3.symm) ?_)
    refine And.intro (zA_165 hS1) ⟨_, hB 42 (by decide), ?_⟩
    refine ⟨σ, a1, a2, a3, 0, 0, rfl, ⟨r1, r2, r3, (zRb rfl), (zRb rfl)⟩, hS1, ⟨(by omega), hJ _ _ _ _ _ pA1⟩, pB1, ?_⟩
    intro I2 L2 R2 S2 pB2 fB
    have pA2 := kA _ _ _ _ _ _ _ _ _ _ pA1 pB2 fB
    refine And.intro ⟨wA, wA⟩ (And.intro (fun _ => ?_) (fun h => absurd rfl h))
    have hk := hc0 42 σ a1 a2 a3 0 0 (by decide)
    exact ⟨_, zlt1 (by omega), _, _, rfl, rfl, rfl, ⟨⟨by omega, by omega⟩, by omega⟩, (fB.1.2 0 (z0r hS1)).trans s1, zSh_B hS1 fB, pA2, pB2⟩
  · refine And.intro (z0p hS s0 hN (by omega) (by omega)) (fun a1 e1 r1 => ?_)
    refine And.intro (zA_40 hS) ⟨_, hA 43 (by decide), ?_⟩
    refine ⟨σ, a1, 0, 0, 0, 0, rfl, ⟨r1, (zRb rfl), (zRb rfl), (zRb rfl), (zRb rfl)⟩, hS, (by omega), pA, ?_⟩
    intro I1 L1 R1 S1 pA1 fA wA
    have hS1 := zSh_A hS fA
    have s1 : S1.1 0 = (100, N) := by rw [fA.1]; exact s0
    have pB1 := kB _ _ _ _ _ _ _ _ _ _ pB pA1 fA
    refine And.intro (z0p hS1 s1 hN (by omega) (by omega)) (zrd (v := a1) ((fA.2 0 _ (by omega)).1.trans e1.symm) ?_)
    refine And.intro (zA_165 hS1) ⟨_, hB 43 (by decide), ?_⟩
    refine ⟨σ, a1, 0, 0, 0, 0, rfl, ⟨r1, (zRb rfl), (zRb rfl), (zRb rfl), (zRb rfl)⟩, hS1, ⟨(by omega), hJ _ _ _ _ _ pA1⟩, pB1, ?_⟩
    intro I2 L2 R2 S2 pB2 fB
    have pA2 := kA _ _ _ _ _ _ _ _ _ _ pA1 pB2 fB
    refine And.intro ⟨wA, wA⟩ (And.intro (fun _ => ?_) (fun h => absurd rfl h))
    have hk := hc0 43 σ a1 0 0 0 0 (by decide)
    exact ⟨_, zlt1 (by omega), _, _, rfl, rfl, rfl, ⟨⟨by omega, by omega⟩, by omega⟩, (fB.1.2 0 (z0r hS1)).trans s1, zSh_B hS1 fB, pA2, pB2⟩
  · refine And.intro (z0p hS s0 hN (by omega) (by omega)) (fun a1 e1 r1 => ?_)
    refine And.intro (zA_40 hS) ⟨_, hA 44 (by decide), ?_⟩
    refine ⟨σ, a1, 0, 0, 0, 0, rfl, ⟨r1, (zRb rfl), (zRb rfl), (zRb rfl), (zRb rfl)⟩, hS, (by omega), pA, ?_⟩
    intro I1 L1 R1 S1 pA1 fA wA
    have hS1 := zSh_A hS fA
    have s1 : S1.1 0 = (100, N) := by rw [fA.1]; exact s0
    have pB1 := kB _ _ _ _ _ _ _ _ _ _ pB pA1 fA
    refine And.intro (z0p hS1 s1 hN (by omega) (by omega)) (zrd (v := a1) ((fA.2 0 _ (by omega)).1.trans e1.symm) ?_)
    refine And.intro (zA_165 hS1) ⟨_, hB 44 (by decide), ?_⟩
    refine ⟨σ, a1, 0, 0, 0, 0, rfl, ⟨r1, (zRb rfl), (zRb rfl), (zRb rfl), (zRb rfl)⟩, hS1, ⟨(by omega), hJ _ _ _ _ _ pA1⟩, pB1, ?_⟩
    intro I2 L2 R2 S2 pB2 fB
    have pA2 := kA _ _ _ _ _ _ _ _ _ _ pA1 pB2 fB
    refine And.intro ⟨wA, wA⟩ (And.intro (fun _ => ?_) (fun h => absurd rfl h))
    have hk := hc0 44 σ a1 0 0 0 0 (by decide)
    exact ⟨_, zlt1 (by omega), _, _, rfl, rfl, rfl, ⟨⟨by omega, by omega⟩, by omega⟩, (fB.1.2 0 (z0r hS1)).trans s1, zSh_B hS1 fB, pA2, pB2⟩
  · refine And.intro (z0p hS s0 hN (by omega) (by omega)) (fun a1 e1 r1 => ?_)
    refine And.intro (z0p hS s0 hN (by omega) (by omega)) (fun a2 e2 r2 => ?_)
    refine And.intro (zA_40 hS) ⟨_, hA 45 (by decide), ?_⟩
    refine ⟨σ, a1, a2, 0, 0, 0, rfl, ⟨r1, r2, (zRb rfl), (zRb rfl), (zRb rfl)⟩, hS, (by omega), pA, ?_⟩
    intro I1 L1 R1 S1 pA1 fA wA
    have hS1 := zSh_A hS fA
    have s1 : S1.1 0 = (100, N) := by rw [fA.1]; exact s0
    have pB1 := kB _ _ _ _ _ _ _ _ _ _ pB pA1 fA
    refine And.intro (z0p hS1 s1 hN (by omega) (by omega)) (zrd (v := a1) ((fA.2 0 _ (by omega)).1.trans e1.symm) ?_)
    refine And.intro (z0p hS1 s1 hN (by omega) (by omega)) (zrd (v := a2) ((fA.2 0 _ (by omega)).1.trans e2.symm) ?_)
    refine And.intro (zA_165 hS1) ⟨_, hB 45 (by decide), ?_⟩
    refine ⟨σ, a1, a2, 0, 0, 0, rfl, ⟨r1, r2, (zRb rfl), (zRb rfl), (zRb rfl)⟩, hS1, ⟨(by omega), hJ _ _ _ _ _ pA1⟩, pB1, ?_⟩
    intro I2 L2 R2 S2 pB2 fB
    have pA2 := kA _ _ _ _ _ _ _ _ _ _ pA1 pB2 fB
    refine And.intro ⟨wA, wA⟩ (And.intro (fun _ => ?_) (fun h => absurd rfl h))
    have hk := hc0 45 σ a1 a2 0 0 0 (by decide)
    exact ⟨_, zlt1 (by omega), _, _, rfl, rfl, rfl, ⟨⟨by omega, by omega⟩, by omega⟩, (fB.1.2 0 (z0r hS1)).trans s1, zSh_B hS1 fB, pA2, pB2⟩
  · refine And.intro (z0p hS s0 hN (by omega) (by omega)) (fun a1 e1 r1 => ?_)
    refine And.intro (z0p hS s0 hN (by omega) (by omega)) (fun a2 e2 r2 => ?_)
    refine And.intro (z0p hS s0 hN (by omega) (by omega)) (fun a3 e3 r3 => ?_)
    refine And.intro (zA_40 hS) ⟨_, hA 46 (by decide), ?_⟩
    refine ⟨σ, a1, a2, a3, 0, 0, rfl, ⟨r1, r2, r3, (zRb rfl), (zRb rfl)⟩, hS, (by omega), pA, ?_⟩
    intro I1 L1 R1 S1 pA1 fA wA
    have hS1 := zSh_A hS fA
    have s1 : S1.1 0 = (100, N) := by rw [fA.1]; exact s0
    have pB1 := kB _ _ _ _ _ _ _ _ _ _ pB pA1 fA
    refine And.intro (z0p hS1 s1 hN (by omega) (by omega)) (zrd (v := a1) ((fA.2 0 _ (by omega)).1.trans e1.symm) ?_)
    refine And.intro (z0p hS1 s1 hN (by omega) (by omega)) (zrd (v := a2) ((fA.2 0 _ (by omega)).1.trans e2.symm) ?_)
    refine And.intro (z0p hS1 s1 hN (by omega) (by omega)) (zrd (v := a3) ((fA.2 0 _ (by omega)).1.trans e3.symm) ?_)
    refine And.intro (zA_165 hS1) ⟨_, hB 46 (by decide), ?_⟩
    refine ⟨σ, a1, a2, a3, 0, 0, rfl, ⟨r1, r2, r3, (zRb rfl), (zRb rfl)⟩, hS1, ⟨(by omega), hJ _ _ _ _ _ pA1⟩, pB1, ?_⟩
    intro I2 L2 R2 S2 pB2 fB
    have pA2 := kA _ _ _ _ _ _ _ _ _ _ pA1 pB2 fB
    refine And.intro ⟨wA, wA⟩ (And.intro (fun _ => ?_) (fun h => absurd rfl h))
    have hk := hc0 46 σ a1 a2 a3 0 0 (by decide)
    exact ⟨_, zlt1 (by omega), _, _, rfl, rfl, rfl, ⟨⟨by omega, by omega⟩, by omega⟩, (fB.1.2 0 (z0r hS1)).trans s1, zSh_B hS1 fB, pA2, pB2⟩
  · refine And.intro (z0p hS s0 hN (by omega) (by omega)) (fun a1 e1 r1 => ?_)
    refine And.intro (z0p hS s0 hN (by omega) (by omega)) (fun a2 e2 r2 => ?_)
    refine And.intro (z0p hS s0 hN (by omega) (by omega)) (fun a3 e3 r3 => ?_)
    refine And.intro (z0p hS s0 hN (by omega) (by omega)) (fun a4 e4 r4 => ?_)
    refine And.intro (zA_40 hS) ⟨_, hA 47 (by decide), ?_⟩
    refine ⟨σ, a1, a2, a3, a4, 0, rfl, ⟨r1, r2, r3, r4, (zRb rfl)⟩, hS, (by omega), pA, ?_⟩
    intro I1 L1 R1 S1 pA1 fA wA
    have hS1 := zSh_A hS fA
    have s1 : S1.1 0 = (100, N) := by rw [fA.1]; exact s0
    have pB1 := kB _ _ _ _ _ _ _ _ _ _ pB pA1 fA
    refine And.intro (z0p hS1 s1 hN (by omega) (by omega)) (zrd (v := a1) ((fA.2 0 _ (by omega)).1.trans e1.symm) ?_)
    refine And.intro (z0p hS1 s1 hN (by omega) (by omega)) (zrd (v := a2) ((fA.2 0 _ (by omega)).1.trans e2.symm) ?_)
    refine And.intro (z0p hS1 s1 hN (by omega) (by omega)) (zrd (v := a3) ((fA.2 0 _ (by omega)).1.trans e3.symm) ?_)
    refine And.intro (z0p hS1 s1 hN (by omega) (by omega)) (zrd (v := a4) ((fA.2 0 _ (by omega)).1.trans e4.symm) ?_)
    refine And.intro (zA_165 hS1) ⟨_, hB 47 (by decide), ?_⟩
    refine ⟨σ, a1, a2, a3, a4, 0, rfl, ⟨r1, r2, r3, r4, (zRb rfl)⟩, hS1, ⟨(by omega), hJ _ _ _ _ _ pA1⟩, pB1, ?_⟩
    intro I2 L2 R2 S2 pB2 fB
    have pA2 := kA _ _ _ _ _ _ _ _ _ _ pA1 pB2 fB
    refine And.intro ⟨wA, wA⟩ (And.intro (fun _ => ?_) (fun h => absurd rfl h))
    have hk := hc0 47 σ a1 a2 a3 a4 0 (by decide)
    exact ⟨_, zlt1 (by omega), _, _, rfl, rfl, rfl, ⟨⟨by omega, by omega⟩, by omega⟩, (fB.1.2 0 (z0r hS1)).trans s1, zSh_B hS1 fB, pA2, pB2⟩
  · refine And.intro (zA_40 hS) ⟨_, hA 48 (by decide), ?_⟩
    refine ⟨σ, 0, 0, 0, 0, 0, rfl, ⟨(zRb rfl), (zRb rfl), (zRb rfl), (zRb rfl), (zRb rfl)⟩, hS, (by omega), pA, ?_⟩
    intro I1 L1 R1 S1 pA1 fA wA
    have hS1 := zSh_A hS fA
    have s1 : S1.1 0 = (100, N) := by rw [fA.1]; exact s0
    have pB1 := kB _ _ _ _ _ _ _ _ _ _ pB pA1 fA
    refine And.intro (zA_165 hS1) ⟨_, hB 48 (by decide), ?_⟩
    refine ⟨σ, 0, 0, 0, 0, 0, rfl, ⟨(zRb rfl), (zRb rfl), (zRb rfl), (zRb rfl), (zRb rfl)⟩, hS1, ⟨(by omega), hJ _ _ _ _ _ pA1⟩, pB1, ?_⟩
    intro I2 L2 R2 S2 pB2 fB
    have pA2 := kA _ _ _ _ _ _ _ _ _ _ pA1 pB2 fB
    refine And.intro ⟨wA, wA⟩ (And.intro (fun _ => ?_) (fun h => absurd rfl h))
    have hk := hc0 48 σ 0 0 0 0 0 (by decide)
    exact ⟨_, zlt1 (by omega), _, _, rfl, rfl, rfl, ⟨⟨by omega, by omega⟩, by omega⟩, (fB.1.2 0 (z0r hS1)).trans s1, zSh_B hS1 fB, pA2, pB2⟩
  · exact ⟨_, zlt1 (by omega), _, _, rfl, rfl, rfl, ⟨⟨by omega, by omega⟩, by omega⟩, s0, hS, pA, pB⟩
