/-! THE TEXTS OF THE CLASS, as they lie at the start -/
theorem ts_ref : ∀ i, i < 29 → Cond.stringRef (tsc i) (tsi i) (tst i) ∈ tables_1 := fun i hi => xsub_in _ _ (show xsub tables_1 (tsL.map fun e => Cond.stringRef (xcn e.1) e.2.1 e.2.2.1) = true by decide +kernel) _ ((by decide +kernel : ∀ i, i < 29 → Cond.stringRef (tsc i) (tsi i) (tst i) ∈ tsL.map fun e => Cond.stringRef (xcn e.1) e.2.1 e.2.2.1) i hi)
def tsw (i : Nat) : List Cond := .exactly (.string (tsc i) (tsi i)) "java/lang/String" :: .eq (.field (.string (tsc i) (tsi i)) "java/lang/String" "code\x72" "B") (.int 0) :: .arrayOf (.field (.string (tsc i) (tsi i)) "java/lang/String" "value" "[B") .byte :: .eq (.length (.field (.string (tsc i) (tsi i)) "java/lang/String" "value" "[B")) (.int (Int32.ofNat (tsb i).length)) :: (List.range (tsb i).length).map fun j => .eq (.elem (.field (.string (tsc i) (tsi i)) "java/lang/String" "value" "[B") (.int (Int32.ofNat j))) (.int (tsf i j))
theorem ts_sub : xsub (flatC (Jvm.Cond.and given_1 narrow_1)) ((List.range 29).flatMap tsw) = true := by decide +kernel
theorem ts_w {i : Nat} (hi : i < 29) {w : Cond} (hw : w ∈ tsw i) : w ∈ flatC (Jvm.Cond.and given_1 narrow_1) := xsub_in _ _ ts_sub _ (List.mem_flatMap.mpr ⟨i, List.mem_range.mpr hi, hw⟩)
theorem ts_ex : ∀ i, i < 29 → Cond.exactly (.string (tsc i) (tsi i)) "java/lang/String" ∈ flatC (Jvm.Cond.and given_1 narrow_1) := fun i hi => ts_w hi List.mem_cons_self
theorem ts_co : ∀ i, i < 29 → Cond.eq (.field (.string (tsc i) (tsi i)) "java/lang/String" "code\x72" "B") (.int 0) ∈ flatC (Jvm.Cond.and given_1 narrow_1) := fun i hi => ts_w hi (List.mem_cons_of_mem _ List.mem_cons_self)
theorem ts_ar : ∀ i, i < 29 → Cond.arrayOf (.field (.string (tsc i) (tsi i)) "java/lang/String" "value" "[B") .byte ∈ flatC (Jvm.Cond.and given_1 narrow_1) := fun i hi => ts_w hi (List.mem_cons_of_mem _ (List.mem_cons_of_mem _ List.mem_cons_self))
theorem ts_le : ∀ i, i < 29 → Cond.eq (.length (.field (.string (tsc i) (tsi i)) "java/lang/String" "value" "[B")) (.int (Int32.ofNat (tsb i).length)) ∈ flatC (Jvm.Cond.and given_1 narrow_1) := fun i hi => ts_w hi (List.mem_cons_of_mem _ (List.mem_cons_of_mem _ (List.mem_cons_of_mem _ List.mem_cons_self)))
theorem ts_el : ∀ i, i < 29 → ∀ j, j < (tsb i).length → Cond.eq (.elem (.field (.string (tsc i) (tsi i)) "java/lang/String" "value" "[B") (.int (Int32.ofNat j))) (.int (tsf i j)) ∈ flatC (Jvm.Cond.and given_1 narrow_1) := fun i hi j hj => ts_w hi (List.mem_cons_of_mem _ (List.mem_cons_of_mem _ (List.mem_cons_of_mem _ (List.mem_cons_of_mem _ (List.mem_map.mpr ⟨j, List.mem_range.mpr hj, rfl⟩)))))
theorem ts_n : ∀ i, i < 29 → (tsb i).length < 2 ^ 31 := by decide +kernel
theorem t_texts {args : Array Value} {s : State} (hts : ∀ w ∈ tables_1, w.before args s = true) (hgv : (Jvm.Cond.and given_1 narrow_1).before args s = true) :
    ∃ q : Nat → Nat × Nat, ∀ i, i < 29 → vk_R (tsc i) (tsi i) (tst i) (q i).1 s ∧ tX (fun a => s.heap.size ≤ a) (q i).1 (q i).2 (tsb i).length (tsf i) s := by
  have hs := flat_of_before _ hgv
  have hA : ∀ a : Nat, a < s.heap.size → ¬ (fun a => s.heap.size ≤ a) a := fun a h => Nat.not_le.mpr h
  have z1 : va_Z "java/lang/String" "COMPACT_STRINGS" "Z" (.int 1) (fun a => s.heap.size ≤ a) s s.heap := va_Zof (hts _ (xsub_in _ [_] (by decide +kernel) _ List.mem_cons_self)) (hts _ (xsub_in _ [_] (by decide +kernel) _ List.mem_cons_self)) (va_eqt (hs (.eq (.static "java/lang/String" "COMPACT_STRINGS" "Z") (.int 1)) (by decide +kernel))) hA
  have z2 : va_Zq "jdk/internal/util/Preconditions" "SIOOBE_FORMATTER" "Ljava/util/function/BiFunction;" (fun a => s.heap.size ≤ a) s s.heap := va_Zqof (hts _ (xsub_in _ [_] (by decide +kernel) _ List.mem_cons_self)) (hts _ (xsub_in _ [_] (by decide +kernel) _ List.mem_cons_self)) (hs (.isRef (.static "jdk/internal/util/Preconditions" "SIOOBE_FORMATTER" "Ljava/util/function/BiFunction;")) (by decide +kernel)) hA
  have h0 : ∀ i : Nat, ∃ q : Nat × Nat, i < 29 → vk_R (tsc i) (tsi i) (tst i) q.1 s ∧ tX (fun a => s.heap.size ≤ a) q.1 q.2 (tsb i).length (tsf i) s := by
    intro i
    by_cases hi : i < 29
    · obtain ⟨a, c, cA, kA, q1, q2, q3, q4, q5, q6, -⟩ := Cond.exactly_spec (args := args) (first := s) (o := none) (s := s) (idx := []) (t := .string (tsc i) (tsi i)) (cls := "java/lang/String") (hs _ (ts_ex i hi))
      obtain ⟨t, ht, hT⟩ := va_Tof (f := fun j => .int (tsf i j)) (A := fun a => s.heap.size ≤ a) (ts_n i hi) (hs _ (ts_ar i hi)) (va_eqt (hs _ (ts_le i hi))) (fun j hj => va_eqt (hs _ (ts_el i hi j hj))) hA
      exact ⟨(a, t), fun _ => ⟨vk_R.of (hts _ (ts_ref i hi)) q1, z1, z2, ⟨cA, q3, q5, by rw [q6]; exact q2, hA a (Array.getElem?_eq_some_iff.mp q3).1⟩, vk_OFof q1 (va_eqt (hs _ (ts_co i hi))) hA, vk_OFof q1 ht hA, hT⟩⟩
    · exact ⟨(0, 0), fun h => absurd h hi⟩
  obtain ⟨ad, had⟩ := Classical.axiomOfChoice h0
  exact ⟨ad, had⟩
