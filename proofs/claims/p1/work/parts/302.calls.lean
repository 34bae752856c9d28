/-! CALLS on a fresh object, one by one -/
theorem pq_feed_11 {I L : ZI} {R : ZR} {S : ZS} {Q : ZQ} (hF : zFr 40 165 I L R S) (a0 : Int) (r0 : r32 a0) (a1 : Int) (r1 : r32 a1) (a2 : Int) (r2 : r32 a2) (a3 : Int) (r3 : r32 a3) (a4 : Int) (r4 : r32 a4) (hQ : ∀ I' L' R', zEq 40 165 I L R I' L' R' → Q (some (zvi 1)) I' L' R' S) : zinl 6 (zt11_20 20) [zvr 40, zvi a0, zvi a1, zvi a2, zvi a3, zvi a4] I L R S Q := by
  refine And.intro rfl ?_
  refine And.intro (zak hF xs_40 rfl) (zrd (v := 0) (zfI (k := 40) (j := 1) hF zi_40_1 rfl) ?_)
  refine And.intro ⟨(zRb rfl), (zRb rfl)⟩ (zbt rfl ?_)
  refine And.intro (zak hF xs_40 rfl) (Exists.intro _ (And.intro (zinl_ok (zT11_21 19)) (And.intro rfl ?_)))
  refine And.intro (zRb rfl) (zbf rfl ?_)
  refine And.intro (zak hF xs_40 rfl) (zrd (v := 0) (zfI (k := 40) (j := 1) hF zi_40_1 rfl) ?_)
  refine And.intro ⟨(zRb rfl), (zRb rfl)⟩ (zbf rfl ?_)
  refine And.intro (zak hF xs_40 rfl) (zrdR (v := some 41) (zfR (k := 40) (j := 0) hF zr_40_0 rfl) ?_)
  refine And.intro (zak hF xs_40 rfl) (zrd (v := 0) (zfI (k := 40) (j := 1) hF zi_40_1 rfl) ?_)
  refine And.intro ⟨zx0 rfl, (Or.inl ⟨(zplk hF xs_41 rfl rfl), zi2b_r.1, zi2b_r.2⟩)⟩ ?_
  refine And.intro (zak hF xs_40 rfl) (zrd (v := 0) (zfI (k := 40) (j := 1) hF zi_40_1 rfl) ?_)
  refine And.intro ⟨(zak hF xs_40 rfl), (zRb rfl)⟩ ?_
  refine And.intro (zRb rfl) (zbf rfl ?_)
  refine And.intro (zak hF xs_40 rfl) (zrd (v := 1) rfl ?_)
  refine And.intro ⟨(zRb rfl), (zRb rfl)⟩ (zbf rfl ?_)
  refine And.intro (zak hF xs_40 rfl) (zrdR (v := some 41) (zfR (k := 40) (j := 0) hF zr_40_0 rfl) ?_)
  refine And.intro (zak hF xs_40 rfl) (zrd (v := 1) rfl ?_)
  refine And.intro ⟨zx0 rfl, (Or.inl ⟨(zplk hF xs_41 rfl rfl), zi2b_r.1, zi2b_r.2⟩)⟩ ?_
  refine And.intro (zak hF xs_40 rfl) (zrd (v := 1) rfl ?_)
  refine And.intro ⟨(zak hF xs_40 rfl), (zRb rfl)⟩ ?_
  refine And.intro (zRb rfl) (zbf rfl ?_)
  refine And.intro (zak hF xs_40 rfl) (zrd (v := 2) rfl ?_)
  refine And.intro ⟨(zRb rfl), (zRb rfl)⟩ (zbf rfl ?_)
  refine And.intro (zak hF xs_40 rfl) (zrdR (v := some 41) (zfR (k := 40) (j := 0) hF zr_40_0 rfl) ?_)
  refine And.intro (zak hF xs_40 rfl) (zrd (v := 2) rfl ?_)
  refine And.intro ⟨zx0 rfl, (Or.inl ⟨(zplk hF xs_41 rfl rfl), zi2b_r.1, zi2b_r.2⟩)⟩ ?_
  refine And.intro (zak hF xs_40 rfl) (zrd (v := 2) rfl ?_)
  refine And.intro ⟨(zak hF xs_40 rfl), (zRb rfl)⟩ ?_
  refine And.intro (zRb rfl) (zbf rfl ?_)
  refine And.intro (zak hF xs_40 rfl) (zrd (v := 3) rfl ?_)
  refine And.intro ⟨(zRb rfl), (zRb rfl)⟩ (zbf rfl ?_)
  refine And.intro (zak hF xs_40 rfl) (zrdR (v := some 41) (zfR (k := 40) (j := 0) hF zr_40_0 rfl) ?_)
  refine And.intro (zak hF xs_40 rfl) (zrd (v := 3) rfl ?_)
  refine And.intro ⟨zx0 rfl, (Or.inl ⟨(zplk hF xs_41 rfl rfl), zi2b_r.1, zi2b_r.2⟩)⟩ ?_
  refine And.intro (zak hF xs_40 rfl) (zrd (v := 3) rfl ?_)
  refine And.intro ⟨(zak hF xs_40 rfl), (zRb rfl)⟩ ?_
  refine And.intro (zRb rfl) (zbt rfl ?_)
  refine And.intro (zak hF xs_40 rfl) (Exists.intro _ (And.intro (zinl_ok (zT11_21 19)) (And.intro rfl ?_)))
  refine And.intro (zRb rfl) (zbf rfl ?_)
  refine And.intro (zak hF xs_40 rfl) (zrd (v := 4) rfl ?_)
  refine And.intro ⟨(zRb rfl), (zRb rfl)⟩ (zbf rfl ?_)
  refine And.intro (zak hF xs_40 rfl) (zrdR (v := some 41) (zfR (k := 40) (j := 0) hF zr_40_0 rfl) ?_)
  refine And.intro (zak hF xs_40 rfl) (zrd (v := 4) rfl ?_)
  refine And.intro ⟨zx0 rfl, (Or.inl ⟨(zplk hF xs_41 rfl rfl), zi2b_r.1, zi2b_r.2⟩)⟩ ?_
  refine And.intro (zak hF xs_40 rfl) (zrd (v := 4) rfl ?_)
  refine And.intro ⟨(zak hF xs_40 rfl), (zRb rfl)⟩ ?_
  refine And.intro (zRb rfl) (zbf rfl ?_)
  refine And.intro (zak hF xs_40 rfl) (zrd (v := 5) rfl ?_)
  refine And.intro ⟨(zRb rfl), (zRb rfl)⟩ (zbf rfl ?_)
  refine And.intro (zak hF xs_40 rfl) (zrdR (v := some 41) (zfR (k := 40) (j := 0) hF zr_40_0 rfl) ?_)
  refine And.intro (zak hF xs_40 rfl) (zrd (v := 5) rfl ?_)
  refine And.intro ⟨zx0 rfl, (Or.inl ⟨(zplk hF xs_41 rfl rfl), zi2b_r.1, zi2b_r.2⟩)⟩ ?_
  refine And.intro (zak hF xs_40 rfl) (zrd (v := 5) rfl ?_)
  refine And.intro ⟨(zak hF xs_40 rfl), (zRb rfl)⟩ ?_
  refine And.intro (zRb rfl) (zbf rfl ?_)
  refine And.intro (zak hF xs_40 rfl) (zrd (v := 6) rfl ?_)
  refine And.intro ⟨(zRb rfl), (zRb rfl)⟩ (zbf rfl ?_)
  refine And.intro (zak hF xs_40 rfl) (zrdR (v := some 41) (zfR (k := 40) (j := 0) hF zr_40_0 rfl) ?_)
  refine And.intro (zak hF xs_40 rfl) (zrd (v := 6) rfl ?_)
  refine And.intro ⟨zx0 rfl, (Or.inl ⟨(zplk hF xs_41 rfl rfl), zi2b_r.1, zi2b_r.2⟩)⟩ ?_
  refine And.intro (zak hF xs_40 rfl) (zrd (v := 6) rfl ?_)
  refine And.intro ⟨(zak hF xs_40 rfl), (zRb rfl)⟩ ?_
  refine And.intro (zRb rfl) (zbf rfl ?_)
  refine And.intro (zak hF xs_40 rfl) (zrd (v := 7) rfl ?_)
  refine And.intro ⟨(zRb rfl), (zRb rfl)⟩ (zbf rfl ?_)
  refine And.intro (zak hF xs_40 rfl) (zrdR (v := some 41) (zfR (k := 40) (j := 0) hF zr_40_0 rfl) ?_)
  refine And.intro (zak hF xs_40 rfl) (zrd (v := 7) rfl ?_)
  refine And.intro ⟨zx0 rfl, (Or.inl ⟨(zplk hF xs_41 rfl rfl), zi2b_r.1, zi2b_r.2⟩)⟩ ?_
  refine And.intro (zak hF xs_40 rfl) (zrd (v := 7) rfl ?_)
  refine And.intro ⟨(zak hF xs_40 rfl), (zRb rfl)⟩ ?_
  refine And.intro (zRb rfl) (zbt rfl ?_)
  refine And.intro (zak hF xs_40 rfl) (Exists.intro _ (And.intro (zinl_ok (zT11_21 19)) (And.intro rfl ?_)))
  refine And.intro (zRb rfl) (zbf rfl ?_)
  refine And.intro (zak hF xs_40 rfl) (zrd (v := 8) rfl ?_)
  refine And.intro ⟨(zRb rfl), (zRb rfl)⟩ (zbf rfl ?_)
  refine And.intro (zak hF xs_40 rfl) (zrdR (v := some 41) (zfR (k := 40) (j := 0) hF zr_40_0 rfl) ?_)
  refine And.intro (zak hF xs_40 rfl) (zrd (v := 8) rfl ?_)
  refine And.intro ⟨zx0 rfl, (Or.inl ⟨(zplk hF xs_41 rfl rfl), zi2b_r.1, zi2b_r.2⟩)⟩ ?_
  refine And.intro (zak hF xs_40 rfl) (zrd (v := 8) rfl ?_)
  refine And.intro ⟨(zak hF xs_40 rfl), (zRb rfl)⟩ ?_
  refine And.intro (zRb rfl) (zbf rfl ?_)
  refine And.intro (zak hF xs_40 rfl) (zrd (v := 9) rfl ?_)
  refine And.intro ⟨(zRb rfl), (zRb rfl)⟩ (zbf rfl ?_)
  refine And.intro (zak hF xs_40 rfl) (zrdR (v := some 41) (zfR (k := 40) (j := 0) hF zr_40_0 rfl) ?_)
  refine And.intro (zak hF xs_40 rfl) (zrd (v := 9) rfl ?_)
  refine And.intro ⟨zx0 rfl, (Or.inl ⟨(zplk hF xs_41 rfl rfl), zi2b_r.1, zi2b_r.2⟩)⟩ ?_
  refine And.intro (zak hF xs_40 rfl) (zrd (v := 9) rfl ?_)
  refine And.intro ⟨(zak hF xs_40 rfl), (zRb rfl)⟩ ?_
  refine And.intro (zRb rfl) (zbf rfl ?_)
  refine And.intro (zak hF xs_40 rfl) (zrd (v := 10) rfl ?_)
  refine And.intro ⟨(zRb rfl), (zRb rfl)⟩ (zbf rfl ?_)
  refine And.intro (zak hF xs_40 rfl) (zrdR (v := some 41) (zfR (k := 40) (j := 0) hF zr_40_0 rfl) ?_)
  refine And.intro (zak hF xs_40 rfl) (zrd (v := 10) rfl ?_)
  refine And.intro ⟨zx0 rfl, (Or.inl ⟨(zplk hF xs_41 rfl rfl), zi2b_r.1, zi2b_r.2⟩)⟩ ?_
  refine And.intro (zak hF xs_40 rfl) (zrd (v := 10) rfl ?_)
  refine And.intro ⟨(zak hF xs_40 rfl), (zRb rfl)⟩ ?_
  refine And.intro (zRb rfl) (zbf rfl ?_)
  refine And.intro (zak hF xs_40 rfl) (zrd (v := 11) rfl ?_)
  refine And.intro ⟨(zRb rfl), (zRb rfl)⟩ (zbf rfl ?_)
  refine And.intro (zak hF xs_40 rfl) (zrdR (v := some 41) (zfR (k := 40) (j := 0) hF zr_40_0 rfl) ?_)
  refine And.intro (zak hF xs_40 rfl) (zrd (v := 11) rfl ?_)
  refine And.intro ⟨zx0 rfl, (Or.inl ⟨(zplk hF xs_41 rfl rfl), zi2b_r.1, zi2b_r.2⟩)⟩ ?_
  refine And.intro (zak hF xs_40 rfl) (zrd (v := 11) rfl ?_)
  refine And.intro ⟨(zak hF xs_40 rfl), (zRb rfl)⟩ ?_
  refine And.intro (zRb rfl) (zbt rfl ?_)
  refine And.intro (zak hF xs_40 rfl) (Exists.intro _ (And.intro (zinl_ok (zT11_21 19)) (And.intro rfl ?_)))
  refine And.intro (zRb rfl) (zbf rfl ?_)
  refine And.intro (zak hF xs_40 rfl) (zrd (v := 12) rfl ?_)
  refine And.intro ⟨(zRb rfl), (zRb rfl)⟩ (zbf rfl ?_)
  refine And.intro (zak hF xs_40 rfl) (zrdR (v := some 41) (zfR (k := 40) (j := 0) hF zr_40_0 rfl) ?_)
  refine And.intro (zak hF xs_40 rfl) (zrd (v := 12) rfl ?_)
  refine And.intro ⟨zx0 rfl, (Or.inl ⟨(zplk hF xs_41 rfl rfl), zi2b_r.1, zi2b_r.2⟩)⟩ ?_
  refine And.intro (zak hF xs_40 rfl) (zrd (v := 12) rfl ?_)
  refine And.intro ⟨(zak hF xs_40 rfl), (zRb rfl)⟩ ?_
  refine And.intro (zRb rfl) (zbf rfl ?_)
  refine And.intro (zak hF xs_40 rfl) (zrd (v := 13) rfl ?_)
  refine And.intro ⟨(zRb rfl), (zRb rfl)⟩ (zbf rfl ?_)
  refine And.intro (zak hF xs_40 rfl) (zrdR (v := some 41) (zfR (k := 40) (j := 0) hF zr_40_0 rfl) ?_)
  refine And.intro (zak hF xs_40 rfl) (zrd (v := 13) rfl ?_)
  refine And.intro ⟨zx0 rfl, (Or.inl ⟨(zplk hF xs_41 rfl rfl), zi2b_r.1, zi2b_r.2⟩)⟩ ?_
  refine And.intro (zak hF xs_40 rfl) (zrd (v := 13) rfl ?_)
  refine And.intro ⟨(zak hF xs_40 rfl), (zRb rfl)⟩ ?_
  refine And.intro (zRb rfl) (zbf rfl ?_)
  refine And.intro (zak hF xs_40 rfl) (zrd (v := 14) rfl ?_)
  refine And.intro ⟨(zRb rfl), (zRb rfl)⟩ (zbf rfl ?_)
  refine And.intro (zak hF xs_40 rfl) (zrdR (v := some 41) (zfR (k := 40) (j := 0) hF zr_40_0 rfl) ?_)
  refine And.intro (zak hF xs_40 rfl) (zrd (v := 14) rfl ?_)
  refine And.intro ⟨zx0 rfl, (Or.inl ⟨(zplk hF xs_41 rfl rfl), zi2b_r.1, zi2b_r.2⟩)⟩ ?_
  refine And.intro (zak hF xs_40 rfl) (zrd (v := 14) rfl ?_)
  refine And.intro ⟨(zak hF xs_40 rfl), (zRb rfl)⟩ ?_
  refine And.intro (zRb rfl) (zbf rfl ?_)
  refine And.intro (zak hF xs_40 rfl) (zrd (v := 15) rfl ?_)
  refine And.intro ⟨(zRb rfl), (zRb rfl)⟩ (zbf rfl ?_)
  refine And.intro (zak hF xs_40 rfl) (zrdR (v := some 41) (zfR (k := 40) (j := 0) hF zr_40_0 rfl) ?_)
  refine And.intro (zak hF xs_40 rfl) (zrd (v := 15) rfl ?_)
  refine And.intro ⟨zx0 rfl, (Or.inl ⟨(zplk hF xs_41 rfl rfl), zi2b_r.1, zi2b_r.2⟩)⟩ ?_
  refine And.intro (zak hF xs_40 rfl) (zrd (v := 15) rfl ?_)
  refine And.intro ⟨(zak hF xs_40 rfl), (zRb rfl)⟩ ?_
  refine And.intro (zRb rfl) (zbt rfl ?_)
  refine And.intro (zak hF xs_40 rfl) (Exists.intro _ (And.intro (zinl_ok (zT11_21 19)) (And.intro rfl ?_)))
  refine And.intro (zRb rfl) (zbf rfl ?_)
  refine And.intro (zak hF xs_40 rfl) (zrd (v := 16) rfl ?_)
  refine And.intro ⟨(zRb rfl), (zRb rfl)⟩ (zbf rfl ?_)
  refine And.intro (zak hF xs_40 rfl) (zrdR (v := some 41) (zfR (k := 40) (j := 0) hF zr_40_0 rfl) ?_)
  refine And.intro (zak hF xs_40 rfl) (zrd (v := 16) rfl ?_)
  refine And.intro ⟨zx0 rfl, (Or.inl ⟨(zplk hF xs_41 rfl rfl), zi2b_r.1, zi2b_r.2⟩)⟩ ?_
  refine And.intro (zak hF xs_40 rfl) (zrd (v := 16) rfl ?_)
  refine And.intro ⟨(zak hF xs_40 rfl), (zRb rfl)⟩ ?_
  refine And.intro (zRb rfl) (zbf rfl ?_)
  refine And.intro (zak hF xs_40 rfl) (zrd (v := 17) rfl ?_)
  refine And.intro ⟨(zRb rfl), (zRb rfl)⟩ (zbf rfl ?_)
  refine And.intro (zak hF xs_40 rfl) (zrdR (v := some 41) (zfR (k := 40) (j := 0) hF zr_40_0 rfl) ?_)
  refine And.intro (zak hF xs_40 rfl) (zrd (v := 17) rfl ?_)
  refine And.intro ⟨zx0 rfl, (Or.inl ⟨(zplk hF xs_41 rfl rfl), zi2b_r.1, zi2b_r.2⟩)⟩ ?_
  refine And.intro (zak hF xs_40 rfl) (zrd (v := 17) rfl ?_)
  refine And.intro ⟨(zak hF xs_40 rfl), (zRb rfl)⟩ ?_
  refine And.intro (zRb rfl) (zbf rfl ?_)
  refine And.intro (zak hF xs_40 rfl) (zrd (v := 18) rfl ?_)
  refine And.intro ⟨(zRb rfl), (zRb rfl)⟩ (zbf rfl ?_)
  refine And.intro (zak hF xs_40 rfl) (zrdR (v := some 41) (zfR (k := 40) (j := 0) hF zr_40_0 rfl) ?_)
  refine And.intro (zak hF xs_40 rfl) (zrd (v := 18) rfl ?_)
  refine And.intro ⟨zx0 rfl, (Or.inl ⟨(zplk hF xs_41 rfl rfl), zi2b_r.1, zi2b_r.2⟩)⟩ ?_
  refine And.intro (zak hF xs_40 rfl) (zrd (v := 18) rfl ?_)
  refine And.intro ⟨(zak hF xs_40 rfl), (zRb rfl)⟩ ?_
  refine And.intro (zRb rfl) (zbf rfl ?_)
  refine And.intro (zak hF xs_40 rfl) (zrd (v := 19) rfl ?_)
  refine And.intro ⟨(zRb rfl), (zRb rfl)⟩ (zbf rfl ?_)
  refine And.intro (zak hF xs_40 rfl) (zrdR (v := some 41) (zfR (k := 40) (j := 0) hF zr_40_0 rfl) ?_)
  refine And.intro (zak hF xs_40 rfl) (zrd (v := 19) rfl ?_)
  refine And.intro ⟨zx0 rfl, (Or.inl ⟨(zplk hF xs_41 rfl rfl), zi2b_r.1, zi2b_r.2⟩)⟩ ?_
  refine And.intro (zak hF xs_40 rfl) (zrd (v := 19) rfl ?_)
  refine And.intro ⟨(zak hF xs_40 rfl), (zRb rfl)⟩ ?_
  refine And.intro (zRb rfl) (zbt rfl ?_)
  refine And.intro (zak hF xs_40 rfl) (Exists.intro _ (And.intro (zinl_ok (zT11_22 19)) (And.intro rfl ?_)))
  refine And.intro (zak hF xs_40 rfl) (Exists.intro _ (And.intro (zinl_ok (zT11_1 18)) (And.intro rfl ?_)))
  refine And.intro (zRb rfl) (zbt rfl ?_)
  refine And.intro ⟨(zak hF xs_40 rfl), (zRb rfl)⟩ ?_
  refine And.intro (zRb rfl) (zbt rfl ?_)
  refine And.intro ⟨(zRb rfl), (zRb rfl)⟩ (zbf rfl ?_)
  refine And.intro (Or.inr rfl) ?_
  refine And.intro (Or.inr rfl) ?_
  refine hQ _ _ _ ?_
  exact ⟨fun k j h => (zu_o h rfl).trans ((zu_o h rfl).trans ((zu_o h rfl).trans ((zu_o h rfl).trans ((zu_o h rfl).trans ((zu_o h rfl).trans ((zu_o h rfl).trans ((zu_o h rfl).trans ((zu_o h rfl).trans ((zu_o h rfl).trans ((zu_o h rfl).trans ((zu_o h rfl).trans ((zu_o h rfl).trans ((zu_o h rfl).trans ((zu_o h rfl).trans ((zu_o h rfl).trans ((zu_o h rfl).trans ((zu_o h rfl).trans ((zu_o h rfl).trans ((zu_o h rfl).trans ((zu_o h rfl).trans ((zu_o h rfl).trans ((zu_o h rfl).trans ((zu_o h rfl).trans ((zu_o h rfl).trans ((zu_o h rfl).trans ((zu_o h rfl).trans ((zu_o h rfl).trans ((zu_o h rfl).trans ((zu_o h rfl).trans ((zu_o h rfl).trans ((zu_o h rfl).trans ((zu_o h rfl).trans ((zu_o h rfl).trans ((zu_o h rfl).trans ((zu_o h rfl).trans ((zu_o h rfl).trans ((zu_o h rfl).trans ((zu_o h rfl).trans ((zu_o h rfl).trans ((zu_o h rfl).trans (rfl))))))))))))))))))))))))))))))))))))))))), fun k j h => rfl, fun k j h => rfl⟩
theorem pq_feed_21 {I L : ZI} {R : ZR} {S : ZS} {Q : ZQ} (hF : zFr 165 302 I L R S) (a0 : Int) (r0 : r32 a0) (a1 : Int) (r1 : r32 a1) (a2 : Int) (r2 : r32 a2) (a3 : Int) (r3 : r32 a3) (a4 : Int) (r4 : r32 a4) (hQ : ∀ I' L' R', zEq 165 302 I L R I' L' R' → Q (some (zvi 1)) I' L' R' S) : zinl 6 (zt21_21 20) [zvr 165, zvi a0, zvi a1, zvi a2, zvi a3, zvi a4] I L R S Q := by
  refine And.intro rfl ?_
  refine And.intro (zak hF xs_165 rfl) (zrd (v := 0) (zfI (k := 165) (j := 2) hF zi_165_2 rfl) ?_)
  refine And.intro ⟨(zRb rfl), (zRb rfl)⟩ (zbt rfl ?_)
  refine And.intro (zak hF xs_165 rfl) (Exists.intro _ (And.intro (zinl_ok (zT21_48 19)) (And.intro rfl ?_)))
  refine And.intro ⟨(zak hF xs_165 rfl), (zRb rfl)⟩ ?_
  refine And.intro (zRb rfl) (zbt rfl ?_)
  refine And.intro (Or.inl rfl) ?_
  refine And.intro (zRb rfl) (zbt rfl ?_)
  refine And.intro (zak hF xs_165 rfl) (Exists.intro _ (And.intro (zinl_ok (zT21_34 19)) (And.intro rfl ?_)))
  refine And.intro (zRb rfl) (zbf rfl ?_)
  refine And.intro (zak hF xs_165 rfl) (zrdR (v := some 166) (zfR (k := 165) (j := 1) hF zr_165_1 rfl) ?_)
  refine And.intro (zak hF xs_165 rfl) (zrd (v := 0) (zfI (k := 165) (j := 2) hF zi_165_2 rfl) ?_)
  refine And.intro ⟨zx0 rfl, (zplk hF xs_166 rfl rfl), zr_and⟩ ?_
  refine And.intro (zak hF xs_165 rfl) (zrd (v := 0) (zfI (k := 165) (j := 2) hF zi_165_2 rfl) ?_)
  refine And.intro ⟨(zak hF xs_165 rfl), (zRb rfl)⟩ ?_
  refine And.intro (zRb rfl) (zbf rfl ?_)
  refine And.intro (zak hF xs_165 rfl) (zrdR (v := some 166) (zfR (k := 165) (j := 1) hF zr_165_1 rfl) ?_)
  refine And.intro (zak hF xs_165 rfl) (zrd (v := 1) rfl ?_)
  refine And.intro ⟨zx0 rfl, (zplk hF xs_166 rfl rfl), zr_and⟩ ?_
  refine And.intro (zak hF xs_165 rfl) (zrd (v := 1) rfl ?_)
  refine And.intro ⟨(zak hF xs_165 rfl), (zRb rfl)⟩ ?_
  refine And.intro (zRb rfl) (zbf rfl ?_)
  refine And.intro (zak hF xs_165 rfl) (zrdR (v := some 166) (zfR (k := 165) (j := 1) hF zr_165_1 rfl) ?_)
  refine And.intro (zak hF xs_165 rfl) (zrd (v := 2) rfl ?_)
  refine And.intro ⟨zx0 rfl, (zplk hF xs_166 rfl rfl), zr_and⟩ ?_
  refine And.intro (zak hF xs_165 rfl) (zrd (v := 2) rfl ?_)
  refine And.intro ⟨(zak hF xs_165 rfl), (zRb rfl)⟩ ?_
  refine And.intro (zRb rfl) (zbf rfl ?_)
  refine And.intro (zak hF xs_165 rfl) (zrdR (v := some 166) (zfR (k := 165) (j := 1) hF zr_165_1 rfl) ?_)
  refine And.intro (zak hF xs_165 rfl) (zrd (v := 3) rfl ?_)
  refine And.intro ⟨zx0 rfl, (zplk hF xs_166 rfl rfl), zr_and⟩ ?_
  refine And.intro (zak hF xs_165 rfl) (zrd (v := 3) rfl ?_)
  refine And.intro ⟨(zak hF xs_165 rfl), (zRb rfl)⟩ ?_
  refine And.intro (zRb rfl) (zbt rfl ?_)
  refine And.intro (zak hF xs_165 rfl) (Exists.intro _ (And.intro (zinl_ok (zT21_34 19)) (And.intro rfl ?_)))
  refine And.intro (zRb rfl) (zbf rfl ?_)
  refine And.intro (zak hF xs_165 rfl) (zrdR (v := some 166) (zfR (k := 165) (j := 1) hF zr_165_1 rfl) ?_)
  refine And.intro (zak hF xs_165 rfl) (zrd (v := 4) rfl ?_)
  refine And.intro ⟨zx0 rfl, (zplk hF xs_166 rfl rfl), zr_and⟩ ?_
  refine And.intro (zak hF xs_165 rfl) (zrd (v := 4) rfl ?_)
  refine And.intro ⟨(zak hF xs_165 rfl), (zRb rfl)⟩ ?_
  refine And.intro (zRb rfl) (zbf rfl ?_)
  refine And.intro (zak hF xs_165 rfl) (zrdR (v := some 166) (zfR (k := 165) (j := 1) hF zr_165_1 rfl) ?_)
  refine And.intro (zak hF xs_165 rfl) (zrd (v := 5) rfl ?_)
  refine And.intro ⟨zx0 rfl, (zplk hF xs_166 rfl rfl), zr_and⟩ ?_
  refine And.intro (zak hF xs_165 rfl) (zrd (v := 5) rfl ?_)
  refine And.intro ⟨(zak hF xs_165 rfl), (zRb rfl)⟩ ?_
  refine And.intro (zRb rfl) (zbf rfl ?_)
  refine And.intro (zak hF xs_165 rfl) (zrdR (v := some 166) (zfR (k := 165) (j := 1) hF zr_165_1 rfl) ?_)
  refine And.intro (zak hF xs_165 rfl) (zrd (v := 6) rfl ?_)
  refine And.intro ⟨zx0 rfl, (zplk hF xs_166 rfl rfl), zr_and⟩ ?_
  refine And.intro (zak hF xs_165 rfl) (zrd (v := 6) rfl ?_)
  refine And.intro ⟨(zak hF xs_165 rfl), (zRb rfl)⟩ ?_
  refine And.intro (zRb rfl) (zbf rfl ?_)
  refine And.intro (zak hF xs_165 rfl) (zrdR (v := some 166) (zfR (k := 165) (j := 1) hF zr_165_1 rfl) ?_)
  refine And.intro (zak hF xs_165 rfl) (zrd (v := 7) rfl ?_)
  refine And.intro ⟨zx0 rfl, (zplk hF xs_166 rfl rfl), zr_and⟩ ?_
  refine And.intro (zak hF xs_165 rfl) (zrd (v := 7) rfl ?_)
  refine And.intro ⟨(zak hF xs_165 rfl), (zRb rfl)⟩ ?_
  refine And.intro (zRb rfl) (zbt rfl ?_)
  refine And.intro (zak hF xs_165 rfl) (Exists.intro _ (And.intro (zinl_ok (zT21_34 19)) (And.intro rfl ?_)))
  refine And.intro (zRb rfl) (zbf rfl ?_)
  refine And.intro (zak hF xs_165 rfl) (zrdR (v := some 166) (zfR (k := 165) (j := 1) hF zr_165_1 rfl) ?_)
  refine And.intro (zak hF xs_165 rfl) (zrd (v := 8) rfl ?_)
  refine And.intro ⟨zx0 rfl, (zplk hF xs_166 rfl rfl), zr_and⟩ ?_
  refine And.intro (zak hF xs_165 rfl) (zrd (v := 8) rfl ?_)
  refine And.intro ⟨(zak hF xs_165 rfl), (zRb rfl)⟩ ?_
  refine And.intro (zRb rfl) (zbf rfl ?_)
  refine And.intro (zak hF xs_165 rfl) (zrdR (v := some 166) (zfR (k := 165) (j := 1) hF zr_165_1 rfl) ?_)
  refine And.intro (zak hF xs_165 rfl) (zrd (v := 9) rfl ?_)
  refine And.intro ⟨zx0 rfl, (zplk hF xs_166 rfl rfl), zr_and⟩ ?_
  refine And.intro (zak hF xs_165 rfl) (zrd (v := 9) rfl ?_)
  refine And.intro ⟨(zak hF xs_165 rfl), (zRb rfl)⟩ ?_
  refine And.intro (zRb rfl) (zbf rfl ?_)
  refine And.intro (zak hF xs_165 rfl) (zrdR (v := some 166) (zfR (k := 165) (j := 1) hF zr_165_1 rfl) ?_)
  refine And.intro (zak hF xs_165 rfl) (zrd (v := 10) rfl ?_)
  refine And.intro ⟨zx0 rfl, (zplk hF xs_166 rfl rfl), zr_and⟩ ?_
  refine And.intro (zak hF xs_165 rfl) (zrd (v := 10) rfl ?_)
  refine And.intro ⟨(zak hF xs_165 rfl), (zRb rfl)⟩ ?_
  refine And.intro (zRb rfl) (zbf rfl ?_)
  refine And.intro (zak hF xs_165 rfl) (zrdR (v := some 166) (zfR (k := 165) (j := 1) hF zr_165_1 rfl) ?_)
  refine And.intro (zak hF xs_165 rfl) (zrd (v := 11) rfl ?_)
  refine And.intro ⟨zx0 rfl, (zplk hF xs_166 rfl rfl), zr_and⟩ ?_
  refine And.intro (zak hF xs_165 rfl) (zrd (v := 11) rfl ?_)
  refine And.intro ⟨(zak hF xs_165 rfl), (zRb rfl)⟩ ?_
  refine And.intro (zRb rfl) (zbt rfl ?_)
  refine And.intro (zak hF xs_165 rfl) (Exists.intro _ (And.intro (zinl_ok (zT21_34 19)) (And.intro rfl ?_)))
  refine And.intro (zRb rfl) (zbf rfl ?_)
  refine And.intro (zak hF xs_165 rfl) (zrdR (v := some 166) (zfR (k := 165) (j := 1) hF zr_165_1 rfl) ?_)
  refine And.intro (zak hF xs_165 rfl) (zrd (v := 12) rfl ?_)
  refine And.intro ⟨zx0 rfl, (zplk hF xs_166 rfl rfl), zr_and⟩ ?_
  refine And.intro (zak hF xs_165 rfl) (zrd (v := 12) rfl ?_)
  refine And.intro ⟨(zak hF xs_165 rfl), (zRb rfl)⟩ ?_
  refine And.intro (zRb rfl) (zbf rfl ?_)
  refine And.intro (zak hF xs_165 rfl) (zrdR (v := some 166) (zfR (k := 165) (j := 1) hF zr_165_1 rfl) ?_)
  refine And.intro (zak hF xs_165 rfl) (zrd (v := 13) rfl ?_)
  refine And.intro ⟨zx0 rfl, (zplk hF xs_166 rfl rfl), zr_and⟩ ?_
  refine And.intro (zak hF xs_165 rfl) (zrd (v := 13) rfl ?_)
  refine And.intro ⟨(zak hF xs_165 rfl), (zRb rfl)⟩ ?_
  refine And.intro (zRb rfl) (zbf rfl ?_)
  refine And.intro (zak hF xs_165 rfl) (zrdR (v := some 166) (zfR (k := 165) (j := 1) hF zr_165_1 rfl) ?_)
  refine And.intro (zak hF xs_165 rfl) (zrd (v := 14) rfl ?_)
  refine And.intro ⟨zx0 rfl, (zplk hF xs_166 rfl rfl), zr_and⟩ ?_
  refine And.intro (zak hF xs_165 rfl) (zrd (v := 14) rfl ?_)
  refine And.intro ⟨(zak hF xs_165 rfl), (zRb rfl)⟩ ?_
  refine And.intro (zRb rfl) (zbf rfl ?_)
  refine And.intro (zak hF xs_165 rfl) (zrdR (v := some 166) (zfR (k := 165) (j := 1) hF zr_165_1 rfl) ?_)
  refine And.intro (zak hF xs_165 rfl) (zrd (v := 15) rfl ?_)
  refine And.intro ⟨zx0 rfl, (zplk hF xs_166 rfl rfl), zr_and⟩ ?_
  refine And.intro (zak hF xs_165 rfl) (zrd (v := 15) rfl ?_)
  refine And.intro ⟨(zak hF xs_165 rfl), (zRb rfl)⟩ ?_
  refine And.intro (zRb rfl) (zbt rfl ?_)
  refine And.intro (zak hF xs_165 rfl) (Exists.intro _ (And.intro (zinl_ok (zT21_34 19)) (And.intro rfl ?_)))
  refine And.intro (zRb rfl) (zbf rfl ?_)
  refine And.intro (zak hF xs_165 rfl) (zrdR (v := some 166) (zfR (k := 165) (j := 1) hF zr_165_1 rfl) ?_)
  refine And.intro (zak hF xs_165 rfl) (zrd (v := 16) rfl ?_)
  refine And.intro ⟨zx0 rfl, (zplk hF xs_166 rfl rfl), zr_and⟩ ?_
  refine And.intro (zak hF xs_165 rfl) (zrd (v := 16) rfl ?_)
  refine And.intro ⟨(zak hF xs_165 rfl), (zRb rfl)⟩ ?_
  refine And.intro (zRb rfl) (zbf rfl ?_)
  refine And.intro (zak hF xs_165 rfl) (zrdR (v := some 166) (zfR (k := 165) (j := 1) hF zr_165_1 rfl) ?_)
  refine And.intro (zak hF xs_165 rfl) (zrd (v := 17) rfl ?_)
  refine And.intro ⟨zx0 rfl, (zplk hF xs_166 rfl rfl), zr_and⟩ ?_
  refine And.intro (zak hF xs_165 rfl) (zrd (v := 17) rfl ?_)
  refine And.intro ⟨(zak hF xs_165 rfl), (zRb rfl)⟩ ?_
  refine And.intro (zRb rfl) (zbf rfl ?_)
  refine And.intro (zak hF xs_165 rfl) (zrdR (v := some 166) (zfR (k := 165) (j := 1) hF zr_165_1 rfl) ?_)
  refine And.intro (zak hF xs_165 rfl) (zrd (v := 18) rfl ?_)
  refine And.intro ⟨zx0 rfl, (zplk hF xs_166 rfl rfl), zr_and⟩ ?_
  refine And.intro (zak hF xs_165 rfl) (zrd (v := 18) rfl ?_)
  refine And.intro ⟨(zak hF xs_165 rfl), (zRb rfl)⟩ ?_
  refine And.intro (zRb rfl) (zbf rfl ?_)
  refine And.intro (zak hF xs_165 rfl) (zrdR (v := some 166) (zfR (k := 165) (j := 1) hF zr_165_1 rfl) ?_)
  refine And.intro (zak hF xs_165 rfl) (zrd (v := 19) rfl ?_)
  refine And.intro ⟨zx0 rfl, (zplk hF xs_166 rfl rfl), zr_and⟩ ?_
  refine And.intro (zak hF xs_165 rfl) (zrd (v := 19) rfl ?_)
  refine And.intro ⟨(zak hF xs_165 rfl), (zRb rfl)⟩ ?_
  refine And.intro (zRb rfl) (zbt rfl ?_)
  refine And.intro (Or.inr rfl) ?_
  refine hQ _ _ _ ?_
  exact ⟨fun k j h => (zu_o h rfl).trans ((zu_o h rfl).trans ((zu_o h rfl).trans ((zu_o h rfl).trans ((zu_o h rfl).trans ((zu_o h rfl).trans ((zu_o h rfl).trans ((zu_o h rfl).trans ((zu_o h rfl).trans ((zu_o h rfl).trans ((zu_o h rfl).trans ((zu_o h rfl).trans ((zu_o h rfl).trans ((zu_o h rfl).trans ((zu_o h rfl).trans ((zu_o h rfl).trans ((zu_o h rfl).trans ((zu_o h rfl).trans ((zu_o h rfl).trans ((zu_o h rfl).trans ((zu_o h rfl).trans ((zu_o h rfl).trans ((zu_o h rfl).trans ((zu_o h rfl).trans ((zu_o h rfl).trans ((zu_o h rfl).trans ((zu_o h rfl).trans ((zu_o h rfl).trans ((zu_o h rfl).trans ((zu_o h rfl).trans ((zu_o h rfl).trans ((zu_o h rfl).trans ((zu_o h rfl).trans ((zu_o h rfl).trans ((zu_o h rfl).trans ((zu_o h rfl).trans ((zu_o h rfl).trans ((zu_o h rfl).trans ((zu_o h rfl).trans ((zu_o h rfl).trans ((zu_o h rfl).trans (rfl))))))))))))))))))))))))))))))))))))))))), fun k j h => rfl, fun k j h => rfl⟩
theorem pq_end_11 {I L : ZI} {R : ZR} {S : ZS} {Q : ZQ} (hF : zFr 40 165 I L R S) (a0 : Int) (r0 : r32 a0) (hQ : ∀ v : Int, ((a0 = 0 → v = 1) ∧ (a0 ≠ 0 → v = 0)) → ∀ I' L' R', zEq 40 165 I L R I' L' R' → Q (some (zvi v)) I' L' R' S) : zinl 2 (zt11_15 20) [zvr 40, zvi a0] I L R S Q := by
  refine And.intro rfl ?_
  refine And.intro (by assumption) (And.intro (fun h1 => ?_) (fun h1 => ?_))
  · refine And.intro (zak hF xs_40 rfl) (Exists.intro _ (And.intro (zinl_ok (zT11_22 19)) (And.intro rfl ?_)))
    refine And.intro (zak hF xs_40 rfl) (Exists.intro _ (And.intro (zinl_ok (zT11_1 18)) (And.intro rfl ?_)))
    refine And.intro (zRb rfl) (zbf rfl ?_)
    refine And.intro ⟨(zak hF xs_40 rfl), (zRb rfl)⟩ ?_
    refine And.intro (zRb rfl) (zbf rfl ?_)
    refine And.intro ⟨(zRb rfl), (zRb rfl)⟩ (zbt rfl ?_)
    refine And.intro (Or.inl rfl) ?_
    refine And.intro (Or.inl rfl) ?_
    refine hQ 0 (by omega) _ _ _ ?_
    exact ⟨fun k j h => (zu_o h rfl).trans (rfl), fun k j h => rfl, fun k j h => rfl⟩
  · refine And.intro (zak hF xs_40 rfl) (zrd (v := 0) (zfI (k := 40) (j := 1) hF zi_40_1 rfl) ?_)
    refine And.intro ⟨(by assumption), (zRb rfl)⟩ (And.intro (fun h2 => ?_) (fun h2 => ?_))
    · refine And.intro ⟨(zak hF xs_40 rfl), (by assumption)⟩ ?_
      refine And.intro (zak hF xs_40 rfl) (Exists.intro _ (And.intro (zinl_ok (zT11_22 19)) (And.intro rfl ?_)))
      refine And.intro (zak hF xs_40 rfl) (Exists.intro _ (And.intro (zinl_ok (zT11_1 18)) (And.intro rfl ?_)))
      refine And.intro (zRb rfl) (zbt rfl ?_)
      refine And.intro ⟨(zak hF xs_40 rfl), (zRb rfl)⟩ ?_
      refine And.intro (zRb rfl) (zbt rfl ?_)
      refine And.intro ⟨(zRb rfl), (zRb rfl)⟩ (zbf rfl ?_)
      refine And.intro (Or.inr rfl) ?_
      refine And.intro (Or.inr rfl) ?_
      refine hQ 1 (by omega) _ _ _ ?_
      exact ⟨fun k j h => (zu_o h rfl).trans ((zu_o h rfl).trans (rfl)), fun k j h => rfl, fun k j h => rfl⟩
    · refine And.intro (zak hF xs_40 rfl) (Exists.intro _ (And.intro (zinl_ok (zT11_22 19)) (And.intro rfl ?_)))
      refine And.intro (zak hF xs_40 rfl) (Exists.intro _ (And.intro (zinl_ok (zT11_1 18)) (And.intro rfl ?_)))
      refine And.intro (zRb rfl) (zbf rfl ?_)
      refine And.intro ⟨(zak hF xs_40 rfl), (zRb rfl)⟩ ?_
      refine And.intro (zRb rfl) (zbf rfl ?_)
      refine And.intro ⟨(zRb rfl), (zRb rfl)⟩ (zbt rfl ?_)
      refine And.intro (Or.inl rfl) ?_
      refine And.intro (Or.inl rfl) ?_
      refine hQ 0 (by omega) _ _ _ ?_
      exact ⟨fun k j h => (zu_o h rfl).trans (rfl), fun k j h => rfl, fun k j h => rfl⟩
theorem pq_end_21 {I L : ZI} {R : ZR} {S : ZS} {Q : ZQ} (hF : zFr 165 302 I L R S) (a0 : Int) (r0 : r32 a0) (hQ : ∀ v : Int, ((a0 = 0 → v = 1) ∧ (a0 ≠ 0 → v = 0)) → ∀ I' L' R', zEq 165 302 I L R I' L' R' → Q (some (zvi v)) I' L' R' S) : zinl 2 (zt21_16 20) [zvr 165, zvi a0] I L R S Q := by
  refine And.intro rfl ?_
  refine And.intro (by assumption) (And.intro (fun h1 => ?_) (fun h1 => ?_))
  · refine And.intro (zak hF xs_165 rfl) (Exists.intro _ (And.intro (zinl_ok (zT21_48 19)) (And.intro rfl ?_)))
    refine And.intro ⟨(zak hF xs_165 rfl), (zRb rfl)⟩ ?_
    refine And.intro (zRb rfl) (zbf rfl ?_)
    refine And.intro (Or.inr rfl) ?_
    refine And.intro (zRb rfl) (zbf rfl ?_)
    refine And.intro (Or.inl rfl) ?_
    refine hQ 0 (by omega) _ _ _ ?_
    exact ⟨fun k j h => (zu_o h rfl).trans (rfl), fun k j h => rfl, fun k j h => rfl⟩
  · refine And.intro (zak hF xs_165 rfl) (zrd (v := 0) (zfI (k := 165) (j := 2) hF zi_165_2 rfl) ?_)
    refine And.intro ⟨(by assumption), (zRb rfl)⟩ (And.intro (fun h2 => ?_) (fun h2 => ?_))
    · refine And.intro (zak hF xs_165 rfl) (Exists.intro _ (And.intro (zinl_ok (zT21_48 19)) (And.intro rfl ?_)))
      refine And.intro ⟨(zak hF xs_165 rfl), (zRb rfl)⟩ ?_
      refine And.intro (zRb rfl) (zbt rfl ?_)
      refine And.intro (Or.inl rfl) ?_
      refine And.intro (zRb rfl) (zbt rfl ?_)
      refine And.intro ⟨(zak hF xs_165 rfl), (by assumption)⟩ ?_
      refine And.intro (Or.inr rfl) ?_
      refine hQ 1 (by omega) _ _ _ ?_
      exact ⟨fun k j h => (zu_o h rfl).trans ((zu_o h rfl).trans (rfl)), fun k j h => rfl, fun k j h => rfl⟩
    · refine And.intro (zak hF xs_165 rfl) (Exists.intro _ (And.intro (zinl_ok (zT21_48 19)) (And.intro rfl ?_)))
      refine And.intro ⟨(zak hF xs_165 rfl), (zRb rfl)⟩ ?_
      refine And.intro (zRb rfl) (zbf rfl ?_)
      refine And.intro (Or.inr rfl) ?_
      refine And.intro (zRb rfl) (zbf rfl ?_)
      refine And.intro (Or.inl rfl) ?_
      refine hQ 0 (by omega) _ _ _ ?_
      exact ⟨fun k j h => (zu_o h rfl).trans (rfl), fun k j h => rfl, fun k j h => rfl⟩
theorem pq_sheets_11 {I L : ZI} {R : ZR} {S : ZS} {Q : ZQ} (hF : zFr 40 165 I L R S) (a0 : Int) (r0 : r32 a0) (hQ : ∀ v : Int, (((a0 = 0 ∨ a0 = 1) → v = -2) ∧ (¬ (a0 = 0 ∨ a0 = 1) → v = -1)) → ∀ I' L' R', zEq 40 165 I L R I' L' R' → Q (some (zvi v)) I' L' R' S) : zinl 5 (zt11_47 20) [zvr 40, zvi a0] I L R S Q := by
  refine And.intro rfl ?_
  refine And.intro (by assumption) (And.intro (fun h1 => ?_) (fun h1 => ?_))
  · refine And.intro (zak hF xs_40 rfl) (zrd (v := 0) (zfI (k := 40) (j := 7) hF zi_40_7 rfl) ?_)
    refine And.intro ⟨(zRb rfl), (zRb rfl)⟩ (zbf rfl ?_)
    refine And.intro (zak hF xs_40 rfl) (zrdR (v := some 63) (zfR (k := 40) (j := 8) hF zr_40_8 rfl) ?_)
    refine And.intro (zak hF xs_63 rfl) (zrd (v := 0) (zfI (k := 63) (j := 15) hF zi_63_15 rfl) ?_)
    refine And.intro ⟨(zRb rfl), (zRb rfl)⟩ (zbt rfl ?_)
    refine And.intro (zak hF xs_40 rfl) (zrd (v := 0) (zfI (k := 40) (j := 7) hF zi_40_7 rfl) ?_)
    refine And.intro ⟨(zak hF xs_40 rfl), (zRb rfl)⟩ ?_
    refine And.intro (zak hF xs_40 rfl) (Exists.intro _ (And.intro (zinl_ok (zT11_51 19)) (And.intro rfl ?_)))
    refine And.intro (zak hF xs_40 rfl) (zrd (v := 0) (zfI (k := 40) (j := 1) hF zi_40_1 rfl) ?_)
    refine And.intro ⟨(zRb rfl), (zRb rfl)⟩ (zbt rfl ?_)
    refine And.intro ⟨(zak hF xs_40 rfl), (zRb rfl)⟩ ?_
    refine And.intro (zak hF xs_40 rfl) (zrdR (v := some 61) (zfR (k := 40) (j := 6) hF zr_40_6 rfl) ?_)
    refine And.intro (zak hF xs_40 rfl) (zrdR (v := some 42) (zfR (k := 40) (j := 2) hF zr_40_2 rfl) ?_)
    refine And.intro (zak hF xs_40 rfl) (zrdR (v := some 52) (zfR (k := 40) (j := 5) hF zr_40_5 rfl) ?_)
    refine And.intro (zak hF xs_61 rfl) (Exists.intro _ (And.intro (zinl_ok (zT9_3 19)) (And.intro rfl ?_)))
    refine And.intro (zak hF xs_61 rfl) ?_
    refine And.intro (zlnk hF xs_42 rfl rfl) (zrdN (v := 4000) (zlnv hF xs_42 rfl) ?_)
    refine And.intro ⟨(zRb rfl), (zRb rfl)⟩ ?_
    refine And.intro ⟨(zak hF xs_61 rfl), (zRb rfl)⟩ ?_
    refine And.intro ⟨(zak hF xs_61 rfl), (zRb rfl)⟩ ?_
    refine And.intro ⟨(zak hF xs_61 rfl), (zRb rfl)⟩ ?_
    refine And.intro ⟨(zak hF xs_61 rfl), (zRb rfl)⟩ ?_
    refine And.intro ⟨(zak hF xs_61 rfl), (zRb rfl)⟩ ?_
    refine And.intro (by assumption) (And.intro (fun h => absurd h (by omega)) (fun _ => ?_))
    refine And.intro ⟨(zak hF xs_61 rfl), Or.inr rfl⟩ ?_
    refine And.intro (zak hF xs_61 rfl) ?_
    refine And.intro (zak hF xs_61 rfl) (zrdR (v := some 52) rfl ?_)
    refine And.intro (zak hF xs_52 rfl) (Exists.intro _ (And.intro (zinl_ok (zT2_2 18)) (And.intro rfl ?_)))
    refine And.intro ⟨(zak hF xs_52 rfl), (by assumption)⟩ ?_
    refine And.intro ⟨(zak hF xs_52 rfl), (zRb rfl)⟩ ?_
    refine And.intro ⟨(zak hF xs_52 rfl), (zRb rfl)⟩ ?_
    refine And.intro ⟨(zak hF xs_52 rfl), (zRb rfl)⟩ ?_
    refine And.intro (zak hF xs_61 rfl) (zrd (v := 1) rfl ?_)
    refine And.intro (zRb rfl) (zbf rfl ?_)
    refine And.intro (zak hF xs_61 rfl) (Exists.intro _ (And.intro (zinl_ok (zT9_19 18)) (And.intro rfl ?_)))
    refine And.intro (zak hF xs_61 rfl) (Exists.intro _ (And.intro (zinl_ok (zT9_25 17)) (And.intro rfl ?_)))
    refine And.intro (zak hF xs_61 rfl) (zrd (v := 0) rfl ?_)
    refine And.intro (zak hF xs_61 rfl) (zrd (v := 0) rfl ?_)
    refine And.intro ⟨(zRb rfl), (zRb rfl)⟩ (zbt rfl ?_)
    refine And.intro (zak hF xs_61 rfl) (Exists.intro _ (And.intro (zinl_ok (zT9_14 17)) (And.intro rfl ?_)))
    refine And.intro (zak hF xs_61 rfl) (zrd (v := 0) rfl ?_)
    refine And.intro (zak hF xs_61 rfl) (zrd (v := 0) rfl ?_)
    refine And.intro ⟨(zRb rfl), (zRb rfl)⟩ (zbt rfl ?_)
    refine And.intro ⟨(zRb rfl), (zRb rfl)⟩ (zbf rfl ?_)
    refine And.intro (zak hF xs_61 rfl) (zrd (v := 0) rfl ?_)
    refine And.intro (zak hF xs_61 rfl) (Exists.intro _ (And.intro (zinl_ok (zT9_2 17)) (And.intro rfl ?_)))
    refine And.intro (zak hF xs_61 rfl) (zrd (v := (-1)) rfl ?_)
    refine And.intro ⟨(zRb rfl), (zRb rfl)⟩ (zbf rfl ?_)
    refine And.intro ⟨(zak hF xs_61 rfl), (zRb rfl)⟩ ?_
    refine And.intro (zak hF xs_61 rfl) (zrd (v := 0) rfl ?_)
    refine And.intro ⟨(zRb rfl), (zRb rfl)⟩ (zbf rfl ?_)
    refine And.intro (zak hF xs_61 rfl) (zrd (v := 0) rfl ?_)
    refine And.intro ⟨(zRb rfl), (zRb rfl)⟩ (zbt rfl ?_)
    refine And.intro (zak hF xs_61 rfl) (Exists.intro _ (And.intro (zinl_ok (zT9_25 17)) (And.intro rfl ?_)))
    refine And.intro (zak hF xs_61 rfl) (zrd (v := 0) rfl ?_)
    refine And.intro (zak hF xs_61 rfl) (zrd (v := 0) rfl ?_)
    refine And.intro ⟨(zRb rfl), (zRb rfl)⟩ (zbt rfl ?_)
    refine And.intro (zak hF xs_61 rfl) (zrd (v := 0) rfl ?_)
    refine And.intro (zak hF xs_61 rfl) (zrd (v := 0) rfl ?_)
    refine And.intro ⟨(zRb rfl), (zRb rfl)⟩ (zbt rfl ?_)
    refine And.intro (zak hF xs_61 rfl) (zrd (v := 0) rfl ?_)
    refine And.intro ⟨(zRb rfl), (zRb rfl)⟩ (zbf rfl ?_)
    refine And.intro (zak hF xs_40 rfl) (Exists.intro _ (And.intro (zinl_ok (zT11_19 19)) (And.intro rfl ?_)))
    refine And.intro ⟨(zak hF xs_40 rfl), (zRb rfl)⟩ ?_
    refine hQ (-2) (by omega) _ _ _ ?_
    exact ⟨fun k j h => (zu_o h rfl).trans ((zu_o h rfl).trans ((zu_o h rfl).trans ((zu_o h rfl).trans ((zu_o h rfl).trans ((zu_o h rfl).trans ((zu_o h rfl).trans ((zu_o h rfl).trans ((zu_o h rfl).trans ((zu_o h rfl).trans ((zu_o h rfl).trans ((zu_o h rfl).trans ((zu_o h rfl).trans ((zu_o h rfl).trans (rfl)))))))))))))), fun k j h => rfl, fun k j h => (zu_o h rfl).trans ((zu_o h rfl).trans (rfl))⟩
  · refine And.intro ⟨(by assumption), (zRb rfl)⟩ (And.intro (fun h2 => ?_) (fun h2 => ?_))
    · refine And.intro (zak hF xs_40 rfl) (zrd (v := 0) (zfI (k := 40) (j := 7) hF zi_40_7 rfl) ?_)
      refine And.intro ⟨(zRb rfl), (zRb rfl)⟩ (zbf rfl ?_)
      refine And.intro (zak hF xs_40 rfl) (zrdR (v := some 63) (zfR (k := 40) (j := 8) hF zr_40_8 rfl) ?_)
      refine And.intro (zak hF xs_63 rfl) (zrd (v := 0) (zfI (k := 63) (j := 15) hF zi_63_15 rfl) ?_)
      refine And.intro ⟨(zRb rfl), (zRb rfl)⟩ (zbt rfl ?_)
      refine And.intro (zak hF xs_40 rfl) (zrd (v := 0) (zfI (k := 40) (j := 7) hF zi_40_7 rfl) ?_)
      refine And.intro ⟨(zak hF xs_40 rfl), (zRb rfl)⟩ ?_
      refine And.intro (zak hF xs_40 rfl) (Exists.intro _ (And.intro (zinl_ok (zT11_51 19)) (And.intro rfl ?_)))
      refine And.intro (zak hF xs_40 rfl) (zrd (v := 0) (zfI (k := 40) (j := 1) hF zi_40_1 rfl) ?_)
      refine And.intro ⟨(zRb rfl), (zRb rfl)⟩ (zbt rfl ?_)
      refine And.intro ⟨(zak hF xs_40 rfl), (zRb rfl)⟩ ?_
      refine And.intro (zak hF xs_40 rfl) (zrdR (v := some 61) (zfR (k := 40) (j := 6) hF zr_40_6 rfl) ?_)
      refine And.intro (zak hF xs_40 rfl) (zrdR (v := some 42) (zfR (k := 40) (j := 2) hF zr_40_2 rfl) ?_)
      refine And.intro (zak hF xs_40 rfl) (zrdR (v := some 52) (zfR (k := 40) (j := 5) hF zr_40_5 rfl) ?_)
      refine And.intro (zak hF xs_61 rfl) (Exists.intro _ (And.intro (zinl_ok (zT9_3 19)) (And.intro rfl ?_)))
      refine And.intro (zak hF xs_61 rfl) ?_
      refine And.intro (zlnk hF xs_42 rfl rfl) (zrdN (v := 4000) (zlnv hF xs_42 rfl) ?_)
      refine And.intro ⟨(zRb rfl), (zRb rfl)⟩ ?_
      refine And.intro ⟨(zak hF xs_61 rfl), (zRb rfl)⟩ ?_
      refine And.intro ⟨(zak hF xs_61 rfl), (zRb rfl)⟩ ?_
      refine And.intro ⟨(zak hF xs_61 rfl), (zRb rfl)⟩ ?_
      refine And.intro ⟨(zak hF xs_61 rfl), (zRb rfl)⟩ ?_
      refine And.intro ⟨(zak hF xs_61 rfl), (zRb rfl)⟩ ?_
      refine And.intro (by assumption) (And.intro (fun _ => ?_) (fun h => absurd h (by omega)))
      refine And.intro ⟨(zak hF xs_61 rfl), Or.inl rfl⟩ ?_
      refine And.intro (zak hF xs_61 rfl) ?_
      refine And.intro (zak hF xs_61 rfl) (zrdR (v := some 52) rfl ?_)
      refine And.intro (zak hF xs_52 rfl) (Exists.intro _ (And.intro (zinl_ok (zT2_2 18)) (And.intro rfl ?_)))
      refine And.intro ⟨(zak hF xs_52 rfl), (by assumption)⟩ ?_
      refine And.intro ⟨(zak hF xs_52 rfl), (zRb rfl)⟩ ?_
      refine And.intro ⟨(zak hF xs_52 rfl), (zRb rfl)⟩ ?_
      refine And.intro ⟨(zak hF xs_52 rfl), (zRb rfl)⟩ ?_
      refine And.intro (zak hF xs_61 rfl) (zrd (v := 0) rfl ?_)
      refine And.intro (zRb rfl) (zbt rfl ?_)
      refine And.intro (zak hF xs_61 rfl) (Exists.intro _ (And.intro (zinl_ok (zT9_17 18)) (And.intro rfl ?_)))
      refine And.intro (zak hF xs_61 rfl) (zrd (v := 0) rfl ?_)
      refine And.intro ⟨(zRb rfl), (zRb rfl)⟩ (zbf rfl ?_)
      refine And.intro (zak hF xs_61 rfl) (zrd (v := (-1)) rfl ?_)
      refine And.intro ⟨(zRb rfl), (zRb rfl)⟩ (zbf rfl ?_)
      refine And.intro (zRb rfl) (zbt rfl ?_)
      refine And.intro (zak hF xs_61 rfl) (Exists.intro _ (And.intro (zinl_ok (zT9_16 17)) (And.intro rfl ?_)))
      refine And.intro ⟨(zRb rfl), (zRb rfl)⟩ (zbf rfl ?_)
      refine And.intro ⟨(zRb rfl), (zRb rfl)⟩ (zbt rfl ?_)
      refine And.intro ⟨(zRb rfl), (zRb rfl)⟩ (zbt rfl ?_)
      refine And.intro (zak hF xs_61 rfl) (zrd (v := 0) rfl ?_)
      refine And.intro (zak hF xs_61 rfl) (Exists.intro _ (And.intro (zinl_ok (zT9_0 16)) (And.intro rfl ?_)))
      refine And.intro ⟨(zRb rfl), (zRb rfl)⟩ (zbf rfl ?_)
      refine And.intro ⟨(zRb rfl), (zRb rfl)⟩ (zbt rfl ?_)
      refine And.intro (zak hF xs_61 rfl) (Exists.intro _ (And.intro (zinl_ok (zT9_20 16)) (And.intro rfl ?_)))
      refine And.intro (zak hF xs_61 rfl) (zrd (v := 0) rfl ?_)
      refine And.intro (zak hF xs_61 rfl) (zrd (v := 0) rfl ?_)
      refine And.intro (zak hF xs_61 rfl) (zrd (v := 0) rfl ?_)
      refine And.intro ⟨(zRb rfl), (zRb rfl)⟩ (zbt rfl ?_)
      refine And.intro (zak hF xs_61 rfl) (zrd (v := 0) rfl ?_)
      refine And.intro ⟨(zRb rfl), (zRb rfl)⟩ (zbf rfl ?_)
      refine And.intro (zak hF xs_61 rfl) (zrd (v := 0) rfl ?_)
      refine And.intro (zak hF xs_61 rfl) (Exists.intro _ (And.intro (zinl_ok (zT9_2 15)) (And.intro rfl ?_)))
      refine And.intro (zak hF xs_61 rfl) (zrd (v := (-1)) rfl ?_)
      refine And.intro ⟨(zRb rfl), (zRb rfl)⟩ (zbf rfl ?_)
      refine And.intro ⟨(zak hF xs_61 rfl), (zRb rfl)⟩ ?_
      refine And.intro ⟨(zRb rfl), (zRb rfl)⟩ (zbf rfl ?_)
      refine And.intro (zak hF xs_61 rfl) (zrd (v := 0) rfl ?_)
      refine And.intro ⟨(zRb rfl), (zRb rfl)⟩ (zbt rfl ?_)
      refine And.intro (zak hF xs_61 rfl) (zrd (v := 0) rfl ?_)
      refine And.intro ⟨(zRb rfl), (zRb rfl)⟩ (zbf rfl ?_)
      refine And.intro (zak hF xs_40 rfl) (Exists.intro _ (And.intro (zinl_ok (zT11_19 19)) (And.intro rfl ?_)))
      refine And.intro ⟨(zak hF xs_40 rfl), (zRb rfl)⟩ ?_
      refine hQ (-2) (by omega) _ _ _ ?_
      exact ⟨fun k j h => (zu_o h rfl).trans ((zu_o h rfl).trans ((zu_o h rfl).trans ((zu_o h rfl).trans ((zu_o h rfl).trans ((zu_o h rfl).trans ((zu_o h rfl).trans ((zu_o h rfl).trans ((zu_o h rfl).trans ((zu_o h rfl).trans ((zu_o h rfl).trans ((zu_o h rfl).trans ((zu_o h rfl).trans ((zu_o h rfl).trans (rfl)))))))))))))), fun k j h => rfl, fun k j h => (zu_o h rfl).trans ((zu_o h rfl).trans (rfl))⟩
    · refine And.intro (zak hF xs_40 rfl) (Exists.intro _ (And.intro (zinl_ok (zT11_1 19)) (And.intro rfl ?_)))
      refine And.intro (zRb rfl) (zbf rfl ?_)
      refine And.intro ⟨(zak hF xs_40 rfl), (zRb rfl)⟩ ?_
      refine And.intro (zRb rfl) (zbf rfl ?_)
      refine hQ (-1) (by omega) _ _ _ ?_
      exact ⟨fun k j h => (zu_o h rfl).trans (rfl), fun k j h => rfl, fun k j h => rfl⟩
theorem pq_sheets_21 {I L : ZI} {R : ZR} {S : ZS} {Q : ZQ} (hF : zFr 165 302 I L R S) (a0 : Int) (r0 : r32 a0) (hQ : ∀ v : Int, (((a0 = 0 ∨ a0 = 1) → v = -2) ∧ (¬ (a0 = 0 ∨ a0 = 1) → v = -1)) → ∀ I' L' R', zEq 165 302 I L R I' L' R' → Q (some (zvi v)) I' L' R' S) : zinl 5 (zt21_70 20) [zvr 165, zvi a0] I L R S Q := by
  refine And.intro rfl ?_
  refine And.intro (by assumption) (And.intro (fun h1 => ?_) (fun h1 => ?_))
  · refine And.intro (zak hF xs_165 rfl) (Exists.intro _ (And.intro (zinl_ok (zT21_47 19)) (And.intro rfl ?_)))
    refine And.intro ⟨(zak hF xs_165 rfl), (zRb rfl)⟩ ?_
    refine hQ (-1) (by omega) _ _ _ ?_
    exact ⟨fun k j h => (zu_o h rfl).trans (rfl), fun k j h => rfl, fun k j h => rfl⟩
  · refine And.intro ⟨(by assumption), (zRb rfl)⟩ (And.intro (fun h2 => ?_) (fun h2 => ?_))
    · refine And.intro (zak hF xs_165 rfl) (zrd (v := 0) (zfI (k := 165) (j := 5) hF zi_165_5 rfl) ?_)
      refine And.intro ⟨(zRb rfl), (zRb rfl)⟩ (zbf rfl ?_)
      refine And.intro (zak hF xs_165 rfl) (zrd (v := 0) (zfI (k := 165) (j := 6) hF zi_165_6 rfl) ?_)
      refine And.intro ⟨(zRb rfl), (zRb rfl)⟩ (zbt rfl ?_)
      refine And.intro (zak hF xs_165 rfl) (zrd (v := 0) (zfI (k := 165) (j := 5) hF zi_165_5 rfl) ?_)
      refine And.intro ⟨(zak hF xs_165 rfl), (zRb rfl)⟩ ?_
      refine And.intro (zak hF xs_165 rfl) (zrdR (v := some 167) (zfR (k := 165) (j := 3) hF zr_165_3 rfl) ?_)
      rcases (by omega : a0 = 0 ∨ a0 = 1) with rfl | rfl
      · refine And.intro (zplk hF xs_167 rfl rfl) (zrdR (v := some 168) (zfR (k := 167) (j := 0) hF zr_167_0 rfl) ?_)
        refine And.intro (zak hF xs_168 rfl) (Exists.intro _ (And.intro (zinl_ok (zT20_6 19)) (And.intro rfl ?_)))
        refine And.intro ⟨(zak hF xs_168 rfl), (zRb rfl)⟩ ?_
        refine And.intro ⟨(zak hF xs_168 rfl), (zRb rfl)⟩ ?_
        refine And.intro (zak hF xs_165 rfl) (zrd (v := 0) (zfI (k := 165) (j := 2) hF zi_165_2 rfl) ?_)
        refine And.intro ⟨(zRb rfl), (zRb rfl)⟩ (zbt rfl ?_)
        refine And.intro ⟨(zak hF xs_165 rfl), (zRb rfl)⟩ ?_
        refine And.intro (zak hF xs_168 rfl) (Exists.intro _ (And.intro (zinl_ok (zT20_32 19)) (And.intro rfl ?_)))
        refine And.intro ⟨(zak hF xs_168 rfl), (zRb rfl)⟩ ?_
        refine And.intro (zak hF xs_168 rfl) (Exists.intro _ (And.intro (zinl_ok (zT20_13 18)) (And.intro rfl ?_)))
        refine And.intro ⟨(zak hF xs_168 rfl), Or.inl rfl⟩ ?_
        refine And.intro ⟨(zak hF xs_168 rfl), (zRb rfl)⟩ ?_
        refine And.intro ⟨(zak hF xs_168 rfl), (zRb rfl)⟩ ?_
        refine And.intro ⟨(zak hF xs_168 rfl), (zRb rfl)⟩ ?_
        refine And.intro (zak hF xs_168 rfl) (zrd (v := 0) (zfI (k := 168) (j := 1) hF zi_168_1 rfl) ?_)
        refine And.intro (zRb rfl) (zbf rfl ?_)
        refine And.intro (zak hF xs_168 rfl) (Exists.intro _ (And.intro (zinl_ok (zT20_35 17)) (And.intro rfl ?_)))
        refine And.intro (zak hF xs_168 rfl) (Exists.intro _ (And.intro (zinl_ok (zT20_2 16)) (And.intro rfl ?_)))
        refine And.intro (zak hF xs_168 rfl) (Exists.intro _ (And.intro (zinl_ok (zT20_3 15)) (And.intro rfl ?_)))
        refine And.intro (zak hF xs_168 rfl) (zrd (v := 0) rfl ?_)
        refine And.intro ⟨(zRb rfl), (zRb rfl)⟩ (zbt rfl ?_)
        refine Exists.intro _ (And.intro (zinl_ok (zT20_15 15)) (And.intro rfl ?_))
        refine And.intro ⟨(zRb rfl), (zRb rfl)⟩ (zbf rfl ?_)
        refine And.intro ⟨(zRb rfl), (zRb rfl)⟩ (zbt rfl ?_)
        refine And.intro (Or.inl rfl) ?_
        refine And.intro (zRb rfl) (zbt rfl ?_)
        refine And.intro ⟨(zak hF xs_168 rfl), (zRb rfl)⟩ ?_
        refine And.intro (zak hF xs_168 rfl) (Exists.intro _ (And.intro (zinl_ok (zT20_3 16)) (And.intro rfl ?_)))
        refine And.intro (zak hF xs_168 rfl) (zrd (v := 0) rfl ?_)
        refine And.intro ⟨(zRb rfl), (zRb rfl)⟩ (zbt rfl ?_)
        refine And.intro ⟨(zRb rfl), (zRb rfl)⟩ (zbf rfl ?_)
        refine And.intro (zak hF xs_168 rfl) (Exists.intro _ (And.intro (zinl_ok (zT20_9 16)) (And.intro rfl ?_)))
        refine And.intro (zak hF xs_168 rfl) (zrd (v := (-1)) rfl ?_)
        refine And.intro ⟨(zRb rfl), (zRb rfl)⟩ (zbf rfl ?_)
        refine And.intro ⟨(zak hF xs_168 rfl), (zRb rfl)⟩ ?_
        refine And.intro (zak hF xs_168 rfl) (zrd (v := 0) rfl ?_)
        refine And.intro ⟨(zRb rfl), (zRb rfl)⟩ (zbt rfl ?_)
        refine And.intro (zak hF xs_168 rfl) (zrd (v := 0) rfl ?_)
        refine And.intro ⟨(zRb rfl), (zRb rfl)⟩ (zbt rfl ?_)
        refine And.intro (zak hF xs_168 rfl) (Exists.intro _ (And.intro (zinl_ok (zT20_2 16)) (And.intro rfl ?_)))
        refine And.intro (zak hF xs_168 rfl) (Exists.intro _ (And.intro (zinl_ok (zT20_3 15)) (And.intro rfl ?_)))
        refine And.intro (zak hF xs_168 rfl) (zrd (v := 0) rfl ?_)
        refine And.intro ⟨(zRb rfl), (zRb rfl)⟩ (zbt rfl ?_)
        refine Exists.intro _ (And.intro (zinl_ok (zT20_15 15)) (And.intro rfl ?_))
        refine And.intro ⟨(zRb rfl), (zRb rfl)⟩ (zbf rfl ?_)
        refine And.intro ⟨(zRb rfl), (zRb rfl)⟩ (zbt rfl ?_)
        refine And.intro (Or.inl rfl) ?_
        refine And.intro (zRb rfl) (zbt rfl ?_)
        refine And.intro (zak hF xs_168 rfl) (zrd (v := 0) rfl ?_)
        refine And.intro ⟨(zRb rfl), (zRb rfl)⟩ (zbt rfl ?_)
        refine And.intro (zak hF xs_168 rfl) (zrd (v := 0) rfl ?_)
        refine And.intro ⟨(zRb rfl), (zRb rfl)⟩ (zbf rfl ?_)
        refine And.intro (zak hF xs_168 rfl) (zrd (v := 0) rfl ?_)
        refine And.intro (zRb rfl) (zbf rfl ?_)
        refine And.intro ⟨(zak hF xs_165 rfl), (zRb rfl)⟩ ?_
        refine hQ (-2) (by omega) _ _ _ ?_
        exact ⟨fun k j h => (zu_o h rfl).trans ((zu_o h rfl).trans ((zu_o h rfl).trans ((zu_o h rfl).trans ((zu_o h rfl).trans ((zu_o h rfl).trans ((zu_o h rfl).trans ((zu_o h rfl).trans ((zu_o h rfl).trans ((zu_o h rfl).trans ((zu_o h rfl).trans ((zu_o h rfl).trans (rfl)))))))))))), fun k j h => rfl, fun k j h => rfl⟩
      · refine And.intro (zplk hF xs_167 rfl rfl) (zrdR (v := some 181) (zfR (k := 167) (j := 1) hF zr_167_1 rfl) ?_)
        refine And.intro (zak hF xs_181 rfl) (Exists.intro _ (And.intro (zinl_ok (zT20_6 19)) (And.intro rfl ?_)))
        refine And.intro ⟨(zak hF xs_181 rfl), (zRb rfl)⟩ ?_
        refine And.intro ⟨(zak hF xs_181 rfl), (zRb rfl)⟩ ?_
        refine And.intro (zak hF xs_165 rfl) (zrd (v := 0) (zfI (k := 165) (j := 2) hF zi_165_2 rfl) ?_)
        refine And.intro ⟨(zRb rfl), (zRb rfl)⟩ (zbt rfl ?_)
        refine And.intro ⟨(zak hF xs_165 rfl), (zRb rfl)⟩ ?_
        refine And.intro (zak hF xs_181 rfl) (Exists.intro _ (And.intro (zinl_ok (zT20_32 19)) (And.intro rfl ?_)))
        refine And.intro ⟨(zak hF xs_181 rfl), (zRb rfl)⟩ ?_
        refine And.intro (zak hF xs_181 rfl) (Exists.intro _ (And.intro (zinl_ok (zT20_13 18)) (And.intro rfl ?_)))
        refine And.intro ⟨(zak hF xs_181 rfl), Or.inl rfl⟩ ?_
        refine And.intro ⟨(zak hF xs_181 rfl), (zRb rfl)⟩ ?_
        refine And.intro ⟨(zak hF xs_181 rfl), (zRb rfl)⟩ ?_
        refine And.intro ⟨(zak hF xs_181 rfl), (zRb rfl)⟩ ?_
        refine And.intro (zak hF xs_181 rfl) (zrd (v := 1) (zfI (k := 181) (j := 1) hF zi_181_1 rfl) ?_)
        refine And.intro (zRb rfl) (zbt rfl ?_)
        refine And.intro (zak hF xs_181 rfl) (Exists.intro _ (And.intro (zinl_ok (zT20_34 17)) (And.intro rfl ?_)))
        refine And.intro ⟨(zak hF xs_181 rfl), (zRb rfl)⟩ ?_
        refine And.intro (zak hF xs_181 rfl) (zrd (v := (-1)) rfl ?_)
        refine And.intro ⟨(zRb rfl), (zRb rfl)⟩ (zbf rfl ?_)
        refine And.intro (zak hF xs_181 rfl) (zrd (v := 0) rfl ?_)
        refine And.intro ⟨(zRb rfl), (zRb rfl)⟩ (zbf rfl ?_)
        refine And.intro (zRb rfl) (zbf rfl ?_)
        refine And.intro (zak hF xs_181 rfl) (Exists.intro _ (And.intro (zinl_ok (zT20_8 16)) (And.intro rfl ?_)))
        refine And.intro (zak hF xs_181 rfl) (Exists.intro _ (And.intro (zinl_ok (zT20_3 15)) (And.intro rfl ?_)))
        refine And.intro (zak hF xs_181 rfl) (zrd (v := 0) rfl ?_)
        refine And.intro ⟨(zRb rfl), (zRb rfl)⟩ (zbt rfl ?_)
        refine And.intro ⟨(zRb rfl), (zRb rfl)⟩ (zbt rfl ?_)
        refine And.intro (zak hF xs_181 rfl) (zrd (v := (-1)) rfl ?_)
        refine And.intro ⟨(zRb rfl), (zRb rfl)⟩ (zbt rfl ?_)
        refine And.intro (zRb rfl) (zbf rfl ?_)
        refine And.intro (zRb rfl) (zbt rfl ?_)
        refine And.intro (zak hF xs_181 rfl) (Exists.intro _ (And.intro (zinl_ok (zT20_33 16)) (And.intro rfl ?_)))
        refine And.intro (zRb rfl) (zbf rfl ?_)
        refine And.intro (zRb rfl) (zbf rfl ?_)
        refine And.intro (zak hF xs_181 rfl) (Exists.intro _ (And.intro (zinl_ok (zT20_0 15)) (And.intro rfl ?_)))
        refine And.intro (zak hF xs_181 rfl) (Exists.intro _ (And.intro (zinl_ok (zT20_25 14)) (And.intro rfl ?_)))
        refine And.intro (zak hF xs_181 rfl) (Exists.intro _ (And.intro (zinl_ok (zT20_3 13)) (And.intro rfl ?_)))
        refine And.intro (zak hF xs_181 rfl) (zrd (v := 0) rfl ?_)
        refine And.intro ⟨(zRb rfl), (zRb rfl)⟩ (zbt rfl ?_)
        refine Exists.intro _ (And.intro (zinl_ok (zT20_18 13)) (And.intro rfl ?_))
        refine And.intro ⟨(zRb rfl), (zRb rfl)⟩ (zbt rfl ?_)
        refine And.intro (Or.inl rfl) ?_
        refine And.intro (zRb rfl) (zbt rfl ?_)
        refine And.intro ⟨(zRb rfl), (zRb rfl)⟩ (zbf rfl ?_)
        refine And.intro (zak hF xs_181 rfl) (Exists.intro _ (And.intro (zinl_ok (zT20_9 14)) (And.intro rfl ?_)))
        refine And.intro (zak hF xs_181 rfl) (zrd (v := (-1)) rfl ?_)
        refine And.intro ⟨(zRb rfl), (zRb rfl)⟩ (zbf rfl ?_)
        refine And.intro ⟨(zak hF xs_181 rfl), (zRb rfl)⟩ ?_
        refine And.intro ⟨(zRb rfl), (zRb rfl)⟩ (zbf rfl ?_)
        refine And.intro (zak hF xs_181 rfl) (zrd (v := 0) rfl ?_)
        refine And.intro ⟨(zRb rfl), (zRb rfl)⟩ (zbt rfl ?_)
        refine And.intro (zak hF xs_181 rfl) (zrd (v := 0) rfl ?_)
        refine And.intro ⟨(zRb rfl), (zRb rfl)⟩ (zbf rfl ?_)
        refine And.intro (zak hF xs_181 rfl) (zrd (v := 0) rfl ?_)
        refine And.intro (zRb rfl) (zbf rfl ?_)
        refine And.intro ⟨(zak hF xs_165 rfl), (zRb rfl)⟩ ?_
        refine hQ (-2) (by omega) _ _ _ ?_
        exact ⟨fun k j h => (zu_o h rfl).trans ((zu_o h rfl).trans ((zu_o h rfl).trans ((zu_o h rfl).trans ((zu_o h rfl).trans ((zu_o h rfl).trans ((zu_o h rfl).trans ((zu_o h rfl).trans ((zu_o h rfl).trans ((zu_o h rfl).trans ((zu_o h rfl).trans ((zu_o h rfl).trans (rfl)))))))))))), fun k j h => rfl, fun k j h => rfl⟩
    · refine And.intro (zak hF xs_165 rfl) (Exists.intro _ (And.intro (zinl_ok (zT21_47 19)) (And.intro rfl ?_)))
      refine And.intro ⟨(zak hF xs_165 rfl), (zRb rfl)⟩ ?_
      refine hQ (-1) (by omega) _ _ _ ?_
      exact ⟨fun k j h => (zu_o h rfl).trans (rfl), fun k j h => rfl, fun k j h => rfl⟩
theorem pq_kind_11 {I L : ZI} {R : ZR} {S : ZS} {Q : ZQ} (hF : zFr 40 165 I L R S) (a0 : Int) (r0 : r32 a0) (hQ : ∀ I' L' R', zEq 40 165 I L R I' L' R' → Q (some (zvi (-1))) I' L' R' S) : zinl 2 (zt11_26 20) [zvr 40, zvi a0] I L R S Q := by
  refine And.intro rfl ?_
  refine And.intro (zak hF xs_40 rfl) (zrdR (v := some 43) (zfR (k := 40) (j := 4) hF zr_40_4 rfl) ?_)
  refine And.intro (zak hF xs_43 rfl) (Exists.intro _ (And.intro (zinl_ok (zT2_16 19)) (And.intro rfl ?_)))
  refine And.intro (zak hF xs_43 rfl) (Exists.intro _ (And.intro (zinl_ok (zT2_14 18)) (And.intro rfl ?_)))
  refine And.intro (by assumption) (And.intro (fun h1 => ?_) (fun h1 => ?_))
  · refine And.intro (Or.inl rfl) ?_
    refine And.intro (zRb rfl) (zbt rfl ?_)
    refine hQ _ _ _ ?_
    exact ⟨fun k j h => rfl, fun k j h => rfl, fun k j h => rfl⟩
  · refine And.intro (zak hF xs_43 rfl) (zrd (v := 0) (zfI (k := 43) (j := 0) hF zi_43_0 rfl) ?_)
    refine And.intro ⟨(by assumption), (zRb rfl)⟩ (And.intro (fun _ => ?_) (fun h => absurd h (by omega)))
    refine And.intro (Or.inl rfl) ?_
    refine And.intro (zRb rfl) (zbt rfl ?_)
    refine hQ _ _ _ ?_
    exact ⟨fun k j h => rfl, fun k j h => rfl, fun k j h => rfl⟩
theorem pq_kind_21 {I L : ZI} {R : ZR} {S : ZS} {Q : ZQ} (hF : zFr 165 302 I L R S) (a0 : Int) (r0 : r32 a0) (hQ : ∀ I' L' R', zEq 165 302 I L R I' L' R' → Q (some (zvi (-1))) I' L' R' S) : zinl 3 (zt21_33 20) [zvr 165, zvi a0] I L R S Q := by
  refine And.intro rfl ?_
  refine And.intro (zak hF xs_165 rfl) (zrd (v := (-1)) (zfI (k := 165) (j := 4) hF zi_165_4 rfl) ?_)
  refine And.intro ⟨(zRb rfl), (zRb rfl)⟩ (zbf rfl ?_)
  refine hQ _ _ _ ?_
  exact ⟨fun k j h => rfl, fun k j h => rfl, fun k j h => rfl⟩
theorem pq_number_11 {I L : ZI} {R : ZR} {S : ZS} {Q : ZQ} (hF : zFr 40 165 I L R S) (a0 : Int) (r0 : r32 a0) (a1 : Int) (r1 : r32 a1) (hQ : ∀ I' L' R', zEq 40 165 I L R I' L' R' → Q (some (zvl 0)) I' L' R' S) : zinl 3 (zt11_31 20) [zvr 40, zvi a0, zvi a1] I L R S Q := by
  refine And.intro rfl ?_
  refine And.intro (zak hF xs_40 rfl) (zrdR (v := some 43) (zfR (k := 40) (j := 4) hF zr_40_4 rfl) ?_)
  refine And.intro (zak hF xs_43 rfl) (Exists.intro _ (And.intro (zinl_ok (zT2_18 19)) (And.intro rfl ?_)))
  refine And.intro (by assumption) (And.intro (fun h1 => ?_) (fun h1 => ?_))
  · refine hQ _ _ _ ?_
    exact ⟨fun k j h => rfl, fun k j h => rfl, fun k j h => rfl⟩
  · refine And.intro ⟨(by assumption), (zRb rfl)⟩ (And.intro (fun h2 => ?_) (fun h2 => ?_))
    · refine hQ _ _ _ ?_
      exact ⟨fun k j h => rfl, fun k j h => rfl, fun k j h => rfl⟩
    · refine And.intro (zak hF xs_43 rfl) (Exists.intro _ (And.intro (zinl_ok (zT2_14 18)) (And.intro rfl ?_)))
      refine And.intro (by assumption) (And.intro (fun h3 => ?_) (fun h3 => ?_))
      · refine And.intro (Or.inl rfl) ?_
        refine And.intro (zRb rfl) (zbt rfl ?_)
        refine hQ _ _ _ ?_
        exact ⟨fun k j h => rfl, fun k j h => rfl, fun k j h => rfl⟩
      · refine And.intro (zak hF xs_43 rfl) (zrd (v := 0) (zfI (k := 43) (j := 0) hF zi_43_0 rfl) ?_)
        refine And.intro ⟨(by assumption), (zRb rfl)⟩ (And.intro (fun _ => ?_) (fun h => absurd h (by omega)))
        refine And.intro (Or.inl rfl) ?_
        refine And.intro (zRb rfl) (zbt rfl ?_)
        refine hQ _ _ _ ?_
        exact ⟨fun k j h => rfl, fun k j h => rfl, fun k j h => rfl⟩
theorem pq_number_21 {I L : ZI} {R : ZR} {S : ZS} {Q : ZQ} (hF : zFr 165 302 I L R S) (a0 : Int) (r0 : r32 a0) (a1 : Int) (r1 : r32 a1) (hQ : ∀ I' L' R', zEq 165 302 I L R I' L' R' → Q (some (zvl 0)) I' L' R' S) : zinl 5 (zt21_41 20) [zvr 165, zvi a0, zvi a1] I L R S Q := by
  refine And.intro rfl ?_
  refine And.intro (zak hF xs_165 rfl) (zrd (v := (-1)) (zfI (k := 165) (j := 4) hF zi_165_4 rfl) ?_)
  refine And.intro ⟨(zRb rfl), (zRb rfl)⟩ (zbf rfl ?_)
  refine hQ _ _ _ ?_
  exact ⟨fun k j h => rfl, fun k j h => rfl, fun k j h => rfl⟩
theorem pq_written_11 {I L : ZI} {R : ZR} {S : ZS} {Q : ZQ} (hF : zFr 40 165 I L R S) (a0 : Int) (r0 : r32 a0) (hQ : ∀ I' L' R', zEq 40 165 I L R I' L' R' → Q (some (zvi (-1))) I' L' R' S) : zinl 2 (zt11_58 20) [zvr 40, zvi a0] I L R S Q := by
  refine And.intro rfl ?_
  refine And.intro (zak hF xs_40 rfl) (zrdR (v := some 43) (zfR (k := 40) (j := 4) hF zr_40_4 rfl) ?_)
  refine And.intro (zak hF xs_43 rfl) (Exists.intro _ (And.intro (zinl_ok (zT2_19 19)) (And.intro rfl ?_)))
  refine And.intro (by assumption) (And.intro (fun h1 => ?_) (fun h1 => ?_))
  · refine hQ _ _ _ ?_
    exact ⟨fun k j h => rfl, fun k j h => rfl, fun k j h => rfl⟩
  · refine And.intro (zak hF xs_43 rfl) (zrd (v := 0) (zfI (k := 43) (j := 12) hF zi_43_12 rfl) ?_)
    refine And.intro ⟨(by assumption), (zRb rfl)⟩ (And.intro (fun _ => ?_) (fun h => absurd h (by omega)))
    refine hQ _ _ _ ?_
    exact ⟨fun k j h => rfl, fun k j h => rfl, fun k j h => rfl⟩
theorem pq_written_21 {I L : ZI} {R : ZR} {S : ZS} {Q : ZQ} (hF : zFr 165 302 I L R S) (a0 : Int) (r0 : r32 a0) (hQ : ∀ I' L' R', zEq 165 302 I L R I' L' R' → Q (some (zvi (-1))) I' L' R' S) : zinl 2 (zt21_80 20) [zvr 165, zvi a0] I L R S Q := by
  refine And.intro rfl ?_
  refine And.intro (zak hF xs_165 rfl) (zrd (v := (-1)) (zfI (k := 165) (j := 4) hF zi_165_4 rfl) ?_)
  refine And.intro ⟨(zRb rfl), (zRb rfl)⟩ (zbt rfl ?_)
  refine hQ _ _ _ ?_
  exact ⟨fun k j h => rfl, fun k j h => rfl, fun k j h => rfl⟩
theorem pq_nets_11 {I L : ZI} {R : ZR} {S : ZS} {Q : ZQ} (hF : zFr 40 165 I L R S)  (hQ : ∀ I' L' R', zEq 40 165 I L R I' L' R' → Q (some (zvi 0)) I' L' R' S) : zinl 1 (zt11_30 20) [zvr 40] I L R S Q := by
  refine And.intro rfl ?_
  refine And.intro (zak hF xs_40 rfl) (zrdR (v := some 63) (zfR (k := 40) (j := 8) hF zr_40_8 rfl) ?_)
  refine And.intro (zak hF xs_63 rfl) (zrd (v := 0) (zfI (k := 63) (j := 14) hF zi_63_14 rfl) ?_)
  refine hQ _ _ _ ?_
  exact ⟨fun k j h => rfl, fun k j h => rfl, fun k j h => rfl⟩
theorem pq_nets_21 {I L : ZI} {R : ZR} {S : ZS} {Q : ZQ} (hF : zFr 165 302 I L R S)  (hQ : ∀ I' L' R', zEq 165 302 I L R I' L' R' → Q (some (zvi 0)) I' L' R' S) : zinl 1 (zt21_39 20) [zvr 165] I L R S Q := by
  refine And.intro rfl ?_
  refine And.intro (zak hF xs_165 rfl) (zrdR (v := none) (zfR hF zn_165_7 rfl) ?_)
  refine hQ _ _ _ ?_
  exact ⟨fun k j h => rfl, fun k j h => rfl, fun k j h => rfl⟩
theorem pq_netOf_11 {I L : ZI} {R : ZR} {S : ZS} {Q : ZQ} (hF : zFr 40 165 I L R S) (a0 : Int) (r0 : r32 a0) (a1 : Int) (r1 : r32 a1) (hQ : ∀ I' L' R', zEq 40 165 I L R I' L' R' → Q (some (zvi (-1))) I' L' R' S) : zinl 3 (zt11_29 20) [zvr 40, zvi a0, zvi a1] I L R S Q := by
  refine And.intro rfl ?_
  refine And.intro (zak hF xs_40 rfl) (zrdR (v := some 63) (zfR (k := 40) (j := 8) hF zr_40_8 rfl) ?_)
  refine And.intro (zak hF xs_63 rfl) (Exists.intro _ (And.intro (zinl_ok (zT3_31 19)) (And.intro rfl ?_)))
  refine And.intro (by assumption) (And.intro (fun h1 => ?_) (fun h1 => ?_))
  · refine And.intro (zRb rfl) (zbt rfl ?_)
    refine hQ _ _ _ ?_
    exact ⟨fun k j h => rfl, fun k j h => rfl, fun k j h => rfl⟩
  · refine And.intro (zak hF xs_63 rfl) (zrdR (v := some 76) (zfR (k := 63) (j := 8) hF zr_63_8 rfl) ?_)
    refine And.intro (zak hF xs_76 rfl) (zrd (v := 0) (zfI (k := 76) (j := 2) hF zi_76_2 rfl) ?_)
    refine And.intro ⟨(by assumption), (zRb rfl)⟩ (And.intro (fun _ => ?_) (fun h => absurd h (by omega)))
    refine And.intro (zRb rfl) (zbt rfl ?_)
    refine hQ _ _ _ ?_
    exact ⟨fun k j h => rfl, fun k j h => rfl, fun k j h => rfl⟩
theorem pq_netOf_21 {I L : ZI} {R : ZR} {S : ZS} {Q : ZQ} (hF : zFr 165 302 I L R S) (a0 : Int) (r0 : r32 a0) (a1 : Int) (r1 : r32 a1) (hQ : ∀ I' L' R', zEq 165 302 I L R I' L' R' → Q (some (zvi (-1))) I' L' R' S) : zinl 4 (zt21_38 20) [zvr 165, zvi a0, zvi a1] I L R S Q := by
  refine And.intro rfl ?_
  refine And.intro (zak hF xs_165 rfl) (zrdR (v := none) (zfR hF zn_165_7 rfl) ?_)
  refine hQ _ _ _ ?_
  exact ⟨fun k j h => rfl, fun k j h => rfl, fun k j h => rfl⟩
theorem pq_nameOf_11 {I L : ZI} {R : ZR} {S : ZS} {Q : ZQ} (hF : zFr 40 165 I L R S) (a0 : Int) (r0 : r32 a0) (hQ : ∀ I' L' R', zEq 40 165 I L R I' L' R' → Q (some (zvi (-1000))) I' L' R' S) : zinl 2 (zt11_28 20) [zvr 40, zvi a0] I L R S Q := by
  refine And.intro rfl ?_
  refine And.intro (zak hF xs_40 rfl) (zrdR (v := some 63) (zfR (k := 40) (j := 8) hF zr_40_8 rfl) ?_)
  refine And.intro (zak hF xs_63 rfl) (Exists.intro _ (And.intro (zinl_ok (zT3_30 19)) (And.intro rfl ?_)))
  refine And.intro (by assumption) (And.intro (fun h1 => ?_) (fun h1 => ?_))
  · refine hQ _ _ _ ?_
    exact ⟨fun k j h => rfl, fun k j h => rfl, fun k j h => rfl⟩
  · refine And.intro (zak hF xs_63 rfl) (zrd (v := 0) (zfI (k := 63) (j := 14) hF zi_63_14 rfl) ?_)
    refine And.intro ⟨(by assumption), (zRb rfl)⟩ (And.intro (fun _ => ?_) (fun h => absurd h (by omega)))
    refine hQ _ _ _ ?_
    exact ⟨fun k j h => rfl, fun k j h => rfl, fun k j h => rfl⟩
theorem pq_nameOf_21 {I L : ZI} {R : ZR} {S : ZS} {Q : ZQ} (hF : zFr 165 302 I L R S) (a0 : Int) (r0 : r32 a0) (hQ : ∀ I' L' R', zEq 165 302 I L R I' L' R' → Q (some (zvi (-1000))) I' L' R' S) : zinl 3 (zt21_37 20) [zvr 165, zvi a0] I L R S Q := by
  refine And.intro rfl ?_
  refine And.intro (zak hF xs_165 rfl) (zrdR (v := none) (zfR hF zn_165_7 rfl) ?_)
  refine hQ _ _ _ ?_
  exact ⟨fun k j h => rfl, fun k j h => rfl, fun k j h => rfl⟩
theorem pq_remark_11 {I L : ZI} {R : ZR} {S : ZS} {Q : ZQ} (hF : zFr 40 165 I L R S) (a0 : Int) (r0 : r32 a0) (hQ : ∀ I' L' R', zEq 40 165 I L R I' L' R' → Q (some (zvi (-1))) I' L' R' S) : zinl 2 (zt11_37 20) [zvr 40, zvi a0] I L R S Q := by
  refine And.intro rfl ?_
  refine And.intro (zak hF xs_40 rfl) (zrdR (v := some 63) (zfR (k := 40) (j := 8) hF zr_40_8 rfl) ?_)
  refine And.intro (zak hF xs_63 rfl) (Exists.intro _ (And.intro (zinl_ok (zT3_34 19)) (And.intro rfl ?_)))
  refine And.intro (by assumption) (And.intro (fun h1 => ?_) (fun h1 => ?_))
  · refine hQ _ _ _ ?_
    exact ⟨fun k j h => rfl, fun k j h => rfl, fun k j h => rfl⟩
  · refine And.intro (zak hF xs_63 rfl) (zrd (v := 0) (zfI (k := 63) (j := 13) hF zi_63_13 rfl) ?_)
    refine And.intro ⟨(by assumption), (zRb rfl)⟩ (And.intro (fun _ => ?_) (fun h => absurd h (by omega)))
    refine hQ _ _ _ ?_
    exact ⟨fun k j h => rfl, fun k j h => rfl, fun k j h => rfl⟩
theorem pq_remark_21 {I L : ZI} {R : ZR} {S : ZS} {Q : ZQ} (hF : zFr 165 302 I L R S) (a0 : Int) (r0 : r32 a0) (hQ : ∀ I' L' R', zEq 165 302 I L R I' L' R' → Q (some (zvi (-1))) I' L' R' S) : zinl 2 (zt21_50 20) [zvr 165, zvi a0] I L R S Q := by
  refine And.intro rfl ?_
  refine And.intro (zak hF xs_165 rfl) (zrdR (v := none) (zfR hF zn_165_7 rfl) ?_)
  refine hQ _ _ _ ?_
  exact ⟨fun k j h => rfl, fun k j h => rfl, fun k j h => rfl⟩
theorem pq_board_11 {I L : ZI} {R : ZR} {S : ZS} {Q : ZQ} (hF : zFr 40 165 I L R S) (a0 : Int) (r0 : r32 a0) (a1 : Int) (r1 : r32 a1) (a2 : Int) (r2 : r32 a2) (a3 : Int) (r3 : r64 a3) (hQ : ∀ I' L' R', zEq 40 165 I L R I' L' R' → Q (some (zvi (-1))) I' L' R' S) : zinl 6 (zt11_5 20) [zvr 40, zvi a0, zvi a1, zvi a2, zvl a3] I L R S Q := by
  refine And.intro rfl ?_
  refine And.intro (zak hF xs_40 rfl) (zrdR (v := some 63) (zfR (k := 40) (j := 8) hF zr_40_8 rfl) ?_)
  refine And.intro (zak hF xs_63 rfl) (zrd (v := 0) (zfI (k := 63) (j := 15) hF zi_63_15 rfl) ?_)
  refine And.intro (zRb rfl) (zbf rfl ?_)
  refine And.intro (zak hF xs_40 rfl) (Exists.intro _ (And.intro (zinl_ok (zT11_1 19)) (And.intro rfl ?_)))
  refine And.intro (zRb rfl) (zbf rfl ?_)
  refine And.intro ⟨(zak hF xs_40 rfl), (zRb rfl)⟩ ?_
  refine And.intro (zRb rfl) (zbf rfl ?_)
  refine hQ _ _ _ ?_
  exact ⟨fun k j h => (zu_o h rfl).trans (rfl), fun k j h => rfl, fun k j h => rfl⟩
theorem pq_board_21 {I L : ZI} {R : ZR} {S : ZS} {Q : ZQ} (hF : zFr 165 302 I L R S) (a0 : Int) (r0 : r32 a0) (a1 : Int) (r1 : r32 a1) (a2 : Int) (r2 : r32 a2) (a3 : Int) (r3 : r64 a3) (hQ : ∀ I' L' R', zEq 165 302 I L R I' L' R' → Q (some (zvi (-1))) I' L' R' S) : zinl 6 (zt21_4 20) [zvr 165, zvi a0, zvi a1, zvi a2, zvl a3] I L R S Q := by
  refine And.intro rfl ?_
  refine And.intro (zak hF xs_165 rfl) (zrdR (v := none) (zfR hF zn_165_7 rfl) ?_)
  refine And.intro (zak hF xs_165 rfl) (Exists.intro _ (And.intro (zinl_ok (zT21_47 19)) (And.intro rfl ?_)))
  refine And.intro ⟨(zak hF xs_165 rfl), (zRb rfl)⟩ ?_
  refine hQ _ _ _ ?_
  exact ⟨fun k j h => (zu_o h rfl).trans (rfl), fun k j h => rfl, fun k j h => rfl⟩
theorem pq_put_11 {I L : ZI} {R : ZR} {S : ZS} {Q : ZQ} (hF : zFr 40 165 I L R S) (a0 : Int) (r0 : r32 a0) (a1 : Int) (r1 : r32 a1) (a2 : Int) (r2 : r32 a2) (a3 : Int) (r3 : r32 a3) (a4 : Int) (r4 : r32 a4) (hQ : ∀ I' L' R', zEq 40 165 I L R I' L' R' → Q (some (zvi (-1))) I' L' R' S) : zinl 6 (zt11_35 20) [zvr 40, zvi a0, zvi a1, zvi a2, zvi a3, zvi a4] I L R S Q := by
  refine And.intro rfl ?_
  refine And.intro (zak hF xs_40 rfl) (zrdR (v := some 82) (zfR (k := 40) (j := 9) hF zr_40_9 rfl) ?_)
  refine And.intro (zak hF xs_82 rfl) (Exists.intro _ (And.intro (zinl_ok (zT0_0 19)) (And.intro rfl ?_)))
  refine And.intro (zak hF xs_82 rfl) (zrd (v := (-1)) (zfI (k := 82) (j := 0) hF zi_82_0 rfl) ?_)
  refine And.intro ⟨(zRb rfl), (zRb rfl)⟩ (zbf rfl ?_)
  refine And.intro (zak hF xs_40 rfl) (Exists.intro _ (And.intro (zinl_ok (zT11_1 19)) (And.intro rfl ?_)))
  refine And.intro (zRb rfl) (zbf rfl ?_)
  refine And.intro ⟨(zak hF xs_40 rfl), (zRb rfl)⟩ ?_
  refine And.intro (zRb rfl) (zbf rfl ?_)
  refine hQ _ _ _ ?_
  exact ⟨fun k j h => (zu_o h rfl).trans (rfl), fun k j h => rfl, fun k j h => rfl⟩
theorem pq_put_21 {I L : ZI} {R : ZR} {S : ZS} {Q : ZQ} (hF : zFr 165 302 I L R S) (a0 : Int) (r0 : r32 a0) (a1 : Int) (r1 : r32 a1) (a2 : Int) (r2 : r32 a2) (a3 : Int) (r3 : r32 a3) (a4 : Int) (r4 : r32 a4) (hQ : ∀ I' L' R', zEq 165 302 I L R I' L' R' → Q (some (zvi (-1))) I' L' R' S) : zinl 8 (zt21_46 20) [zvr 165, zvi a0, zvi a1, zvi a2, zvi a3, zvi a4] I L R S Q := by
  refine And.intro rfl ?_
  refine And.intro (zak hF xs_165 rfl) (zrdR (v := none) (zfR hF zn_165_12 rfl) ?_)
  refine And.intro (zak hF xs_165 rfl) (Exists.intro _ (And.intro (zinl_ok (zT21_47 19)) (And.intro rfl ?_)))
  refine And.intro ⟨(zak hF xs_165 rfl), (zRb rfl)⟩ ?_
  refine hQ _ _ _ ?_
  exact ⟨fun k j h => (zu_o h rfl).trans (rfl), fun k j h => rfl, fun k j h => rfl⟩
theorem pq_bar_11 {I L : ZI} {R : ZR} {S : ZS} {Q : ZQ} (hF : zFr 40 165 I L R S) (a0 : Int) (r0 : r32 a0) (a1 : Int) (r1 : r32 a1) (a2 : Int) (r2 : r32 a2) (hQ : ∀ I' L' R', zEq 40 165 I L R I' L' R' → Q (some (zvi 0)) I' L' R' S) : zinl 4 (zt11_3 20) [zvr 40, zvi a0, zvi a1, zvi a2] I L R S Q := by
  refine And.intro rfl ?_
  refine And.intro (zak hF xs_40 rfl) (zrdR (v := some 82) (zfR (k := 40) (j := 9) hF zr_40_9 rfl) ?_)
  refine And.intro (zak hF xs_82 rfl) (Exists.intro _ (And.intro (zinl_ok (zT0_2 19)) (And.intro rfl ?_)))
  refine And.intro (zak hF xs_82 rfl) (zrd (v := (-1)) (zfI (k := 82) (j := 0) hF zi_82_0 rfl) ?_)
  refine And.intro ⟨(zRb rfl), (zRb rfl)⟩ (zbf rfl ?_)
  refine And.intro (zak hF xs_40 rfl) (Exists.intro _ (And.intro (zinl_ok (zT11_22 19)) (And.intro rfl ?_)))
  refine And.intro (zak hF xs_40 rfl) (Exists.intro _ (And.intro (zinl_ok (zT11_1 18)) (And.intro rfl ?_)))
  refine And.intro (zRb rfl) (zbf rfl ?_)
  refine And.intro ⟨(zak hF xs_40 rfl), (zRb rfl)⟩ ?_
  refine And.intro (zRb rfl) (zbf rfl ?_)
  refine And.intro ⟨(zRb rfl), (zRb rfl)⟩ (zbt rfl ?_)
  refine And.intro (Or.inl rfl) ?_
  refine And.intro (Or.inl rfl) ?_
  refine hQ _ _ _ ?_
  exact ⟨fun k j h => (zu_o h rfl).trans (rfl), fun k j h => rfl, fun k j h => rfl⟩
theorem pq_bar_21 {I L : ZI} {R : ZR} {S : ZS} {Q : ZQ} (hF : zFr 165 302 I L R S) (a0 : Int) (r0 : r32 a0) (a1 : Int) (r1 : r32 a1) (a2 : Int) (r2 : r32 a2) (hQ : ∀ I' L' R', zEq 165 302 I L R I' L' R' → Q (some (zvi 0)) I' L' R' S) : zinl 4 (zt21_2 20) [zvr 165, zvi a0, zvi a1, zvi a2] I L R S Q := by
  refine And.intro rfl ?_
  refine And.intro (zak hF xs_165 rfl) (zrdR (v := none) (zfR hF zn_165_12 rfl) ?_)
  refine And.intro (zak hF xs_165 rfl) (Exists.intro _ (And.intro (zinl_ok (zT21_48 19)) (And.intro rfl ?_)))
  refine And.intro ⟨(zak hF xs_165 rfl), (zRb rfl)⟩ ?_
  refine And.intro (zRb rfl) (zbf rfl ?_)
  refine And.intro (Or.inr rfl) ?_
  refine And.intro (zRb rfl) (zbf rfl ?_)
  refine And.intro (Or.inl rfl) ?_
  refine hQ _ _ _ ?_
  exact ⟨fun k j h => (zu_o h rfl).trans (rfl), fun k j h => rfl, fun k j h => rfl⟩
theorem pq_cost_11 {I L : ZI} {R : ZR} {S : ZS} {Q : ZQ} (hF : zFr 40 165 I L R S) (a0 : Int) (r0 : r32 a0) (a1 : Int) (r1 : r32 a1) (a2 : Int) (r2 : r32 a2) (a3 : Int) (r3 : r32 a3) (hQ : ∀ I' L' R', zEq 40 165 I L R I' L' R' → Q (some (zvi 0)) I' L' R' S) : zinl 6 (zt11_8 20) [zvr 40, zvi a0, zvi a1, zvi a2, zvi a3] I L R S Q := by
  refine And.intro rfl ?_
  refine And.intro (zak hF xs_40 rfl) (zrdR (v := some 82) (zfR (k := 40) (j := 9) hF zr_40_9 rfl) ?_)
  refine And.intro (zak hF xs_82 rfl) (zrd (v := (-1)) (zfI (k := 82) (j := 0) hF zi_82_0 rfl) ?_)
  refine And.intro ⟨(zRb rfl), (zRb rfl)⟩ (zbf rfl ?_)
  refine And.intro (zak hF xs_40 rfl) (Exists.intro _ (And.intro (zinl_ok (zT11_22 19)) (And.intro rfl ?_)))
  refine And.intro (zak hF xs_40 rfl) (Exists.intro _ (And.intro (zinl_ok (zT11_1 18)) (And.intro rfl ?_)))
  refine And.intro (zRb rfl) (zbf rfl ?_)
  refine And.intro ⟨(zak hF xs_40 rfl), (zRb rfl)⟩ ?_
  refine And.intro (zRb rfl) (zbf rfl ?_)
  refine And.intro ⟨(zRb rfl), (zRb rfl)⟩ (zbt rfl ?_)
  refine And.intro (Or.inl rfl) ?_
  refine And.intro (Or.inl rfl) ?_
  refine hQ _ _ _ ?_
  exact ⟨fun k j h => (zu_o h rfl).trans (rfl), fun k j h => rfl, fun k j h => rfl⟩
theorem pq_cost_21 {I L : ZI} {R : ZR} {S : ZS} {Q : ZQ} (hF : zFr 165 302 I L R S) (a0 : Int) (r0 : r32 a0) (a1 : Int) (r1 : r32 a1) (a2 : Int) (r2 : r32 a2) (a3 : Int) (r3 : r32 a3) (hQ : ∀ I' L' R', zEq 165 302 I L R I' L' R' → Q (some (zvi 0)) I' L' R' S) : zinl 6 (zt21_7 20) [zvr 165, zvi a0, zvi a1, zvi a2, zvi a3] I L R S Q := by
  refine And.intro rfl ?_
  refine And.intro (zak hF xs_165 rfl) (zrdR (v := none) (zfR hF zn_165_12 rfl) ?_)
  refine And.intro (zak hF xs_165 rfl) (Exists.intro _ (And.intro (zinl_ok (zT21_48 19)) (And.intro rfl ?_)))
  refine And.intro ⟨(zak hF xs_165 rfl), (zRb rfl)⟩ ?_
  refine And.intro (zRb rfl) (zbf rfl ?_)
  refine And.intro (Or.inr rfl) ?_
  refine And.intro (zRb rfl) (zbf rfl ?_)
  refine And.intro (Or.inl rfl) ?_
  refine hQ _ _ _ ?_
  exact ⟨fun k j h => (zu_o h rfl).trans (rfl), fun k j h => rfl, fun k j h => rfl⟩
theorem pq_route_11 {I L : ZI} {R : ZR} {S : ZS} {Q : ZQ} (hF : zFr 40 165 I L R S) (a0 : Int) (r0 : r32 a0) (hQ : ∀ I' L' R', zEq 40 165 I L R I' L' R' → Q (some (zvi (-1))) I' L' R' S) : zinl 3 (zt11_41 20) [zvr 40, zvi a0] I L R S Q := by
  refine And.intro rfl ?_
  refine And.intro (zak hF xs_40 rfl) (zrdR (v := some 82) (zfR (k := 40) (j := 9) hF zr_40_9 rfl) ?_)
  refine And.intro (zak hF xs_82 rfl) (zrd (v := (-1)) (zfI (k := 82) (j := 0) hF zi_82_0 rfl) ?_)
  refine And.intro ⟨(zRb rfl), (zRb rfl)⟩ (zbf rfl ?_)
  refine And.intro (zak hF xs_40 rfl) (Exists.intro _ (And.intro (zinl_ok (zT11_1 19)) (And.intro rfl ?_)))
  refine And.intro (zRb rfl) (zbf rfl ?_)
  refine And.intro ⟨(zak hF xs_40 rfl), (zRb rfl)⟩ ?_
  refine And.intro (zRb rfl) (zbf rfl ?_)
  refine hQ _ _ _ ?_
  exact ⟨fun k j h => (zu_o h rfl).trans (rfl), fun k j h => rfl, fun k j h => rfl⟩
theorem pq_route_21 {I L : ZI} {R : ZR} {S : ZS} {Q : ZQ} (hF : zFr 165 302 I L R S) (a0 : Int) (r0 : r32 a0) (hQ : ∀ I' L' R', zEq 165 302 I L R I' L' R' → Q (some (zvi (-1))) I' L' R' S) : zinl 3 (zt21_55 20) [zvr 165, zvi a0] I L R S Q := by
  refine And.intro rfl ?_
  refine And.intro (zak hF xs_165 rfl) (zrdR (v := none) (zfR hF zn_165_12 rfl) ?_)
  refine And.intro (zak hF xs_165 rfl) (Exists.intro _ (And.intro (zinl_ok (zT21_47 19)) (And.intro rfl ?_)))
  refine And.intro ⟨(zak hF xs_165 rfl), (zRb rfl)⟩ ?_
  refine hQ _ _ _ ?_
  exact ⟨fun k j h => (zu_o h rfl).trans (rfl), fun k j h => rfl, fun k j h => rfl⟩
theorem pq_way_11 {I L : ZI} {R : ZR} {S : ZS} {Q : ZQ} (hF : zFr 40 165 I L R S) (a0 : Int) (r0 : r32 a0) (a1 : Int) (r1 : r32 a1) (a2 : Int) (r2 : r32 a2) (hQ : ∀ I' L' R', zEq 40 165 I L R I' L' R' → Q (some (zvi (-1))) I' L' R' S) : zinl 4 (zt11_55 20) [zvr 40, zvi a0, zvi a1, zvi a2] I L R S Q := by
  refine And.intro rfl ?_
  refine And.intro (zak hF xs_40 rfl) (zrdR (v := some 82) (zfR (k := 40) (j := 9) hF zr_40_9 rfl) ?_)
  refine And.intro (zak hF xs_82 rfl) (Exists.intro _ (And.intro (zinl_ok (zT0_28 19)) (And.intro rfl ?_)))
  refine And.intro (zak hF xs_82 rfl) (Exists.intro _ (And.intro (zinl_ok (zT0_12 18)) (And.intro rfl ?_)))
  refine And.intro (zak hF xs_82 rfl) (zrdR (v := some 90) (zfR (k := 82) (j := 11) hF zr_82_11 rfl) ?_)
  refine And.intro (zak hF xs_90 rfl) (Exists.intro _ (And.intro (zinl_ok (zT7_1 17)) (And.intro rfl ?_)))
  refine And.intro (by assumption) (And.intro (fun h1 => ?_) (fun h1 => ?_))
  · refine And.intro (zRb rfl) (zbt rfl ?_)
    refine And.intro ⟨(zRb rfl), (zRb rfl)⟩ (zbt rfl ?_)
    refine And.intro (Or.inl rfl) ?_
    refine And.intro (zRb rfl) (zbt rfl ?_)
    refine And.intro ⟨(zRb rfl), (zRb rfl)⟩ (zbf rfl ?_)
    refine hQ _ _ _ ?_
    exact ⟨fun k j h => rfl, fun k j h => rfl, fun k j h => rfl⟩
  · refine And.intro (zak hF xs_90 rfl) (zrd (v := 0) (zfI (k := 90) (j := 2) hF zi_90_2 rfl) ?_)
    refine And.intro ⟨(by assumption), (zRb rfl)⟩ (And.intro (fun _ => ?_) (fun h => absurd h (by omega)))
    refine And.intro (zRb rfl) (zbt rfl ?_)
    refine And.intro ⟨(zRb rfl), (zRb rfl)⟩ (zbt rfl ?_)
    refine And.intro (Or.inl rfl) ?_
    refine And.intro (zRb rfl) (zbt rfl ?_)
    refine And.intro ⟨(zRb rfl), (zRb rfl)⟩ (zbf rfl ?_)
    refine hQ _ _ _ ?_
    exact ⟨fun k j h => rfl, fun k j h => rfl, fun k j h => rfl⟩
theorem pq_way_21 {I L : ZI} {R : ZR} {S : ZS} {Q : ZQ} (hF : zFr 165 302 I L R S) (a0 : Int) (r0 : r32 a0) (a1 : Int) (r1 : r32 a1) (a2 : Int) (r2 : r32 a2) (hQ : ∀ I' L' R', zEq 165 302 I L R I' L' R' → Q (some (zvi (-1))) I' L' R' S) : zinl 5 (zt21_77 20) [zvr 165, zvi a0, zvi a1, zvi a2] I L R S Q := by
  refine And.intro rfl ?_
  refine And.intro (zak hF xs_165 rfl) (zrdR (v := none) (zfR hF zn_165_12 rfl) ?_)
  refine hQ _ _ _ ?_
  exact ⟨fun k j h => rfl, fun k j h => rfl, fun k j h => rfl⟩
theorem pq_costOf_11 {I L : ZI} {R : ZR} {S : ZS} {Q : ZQ} (hF : zFr 40 165 I L R S) (a0 : Int) (r0 : r32 a0) (hQ : ∀ I' L' R', zEq 40 165 I L R I' L' R' → Q (some (zvl (-1))) I' L' R' S) : zinl 2 (zt11_9 20) [zvr 40, zvi a0] I L R S Q := by
  refine And.intro rfl ?_
  refine And.intro (zak hF xs_40 rfl) (zrdR (v := some 82) (zfR (k := 40) (j := 9) hF zr_40_9 rfl) ?_)
  refine And.intro (zak hF xs_82 rfl) (Exists.intro _ (And.intro (zinl_ok (zT0_12 19)) (And.intro rfl ?_)))
  refine And.intro (zak hF xs_82 rfl) (zrdR (v := some 90) (zfR (k := 82) (j := 11) hF zr_82_11 rfl) ?_)
  refine And.intro (zak hF xs_90 rfl) (Exists.intro _ (And.intro (zinl_ok (zT7_1 18)) (And.intro rfl ?_)))
  refine And.intro (by assumption) (And.intro (fun h1 => ?_) (fun h1 => ?_))
  · refine And.intro (zRb rfl) (zbt rfl ?_)
    refine And.intro ⟨(zRb rfl), (zRb rfl)⟩ (zbt rfl ?_)
    refine And.intro (Or.inl rfl) ?_
    refine And.intro (zRb rfl) (zbt rfl ?_)
    refine hQ _ _ _ ?_
    exact ⟨fun k j h => rfl, fun k j h => rfl, fun k j h => rfl⟩
  · refine And.intro (zak hF xs_90 rfl) (zrd (v := 0) (zfI (k := 90) (j := 2) hF zi_90_2 rfl) ?_)
    refine And.intro ⟨(by assumption), (zRb rfl)⟩ (And.intro (fun _ => ?_) (fun h => absurd h (by omega)))
    refine And.intro (zRb rfl) (zbt rfl ?_)
    refine And.intro ⟨(zRb rfl), (zRb rfl)⟩ (zbt rfl ?_)
    refine And.intro (Or.inl rfl) ?_
    refine And.intro (zRb rfl) (zbt rfl ?_)
    refine hQ _ _ _ ?_
    exact ⟨fun k j h => rfl, fun k j h => rfl, fun k j h => rfl⟩
theorem pq_costOf_21 {I L : ZI} {R : ZR} {S : ZS} {Q : ZQ} (hF : zFr 165 302 I L R S) (a0 : Int) (r0 : r32 a0) (hQ : ∀ I' L' R', zEq 165 302 I L R I' L' R' → Q (some (zvl (-1))) I' L' R' S) : zinl 4 (zt21_8 20) [zvr 165, zvi a0] I L R S Q := by
  refine And.intro rfl ?_
  refine And.intro (zak hF xs_165 rfl) (zrdR (v := none) (zfR hF zn_165_12 rfl) ?_)
  refine hQ _ _ _ ?_
  exact ⟨fun k j h => rfl, fun k j h => rfl, fun k j h => rfl⟩
theorem pq_blocking_11 {I L : ZI} {R : ZR} {S : ZS} {Q : ZQ} (hF : zFr 40 165 I L R S) (a0 : Int) (r0 : r32 a0) (a1 : Int) (r1 : r32 a1) (hQ : ∀ I' L' R', zEq 40 165 I L R I' L' R' → Q (some (zvi (-1))) I' L' R' S) : zinl 3 (zt11_4 20) [zvr 40, zvi a0, zvi a1] I L R S Q := by
  refine And.intro rfl ?_
  refine And.intro (zak hF xs_40 rfl) (zrdR (v := some 82) (zfR (k := 40) (j := 9) hF zr_40_9 rfl) ?_)
  refine And.intro (zak hF xs_82 rfl) (Exists.intro _ (And.intro (zinl_ok (zT0_4 19)) (And.intro rfl ?_)))
  refine And.intro (by assumption) (And.intro (fun h1 => ?_) (fun h1 => ?_))
  · refine hQ _ _ _ ?_
    exact ⟨fun k j h => rfl, fun k j h => rfl, fun k j h => rfl⟩
  · refine And.intro (zak hF xs_82 rfl) (zrdR (v := some 90) (zfR (k := 82) (j := 11) hF zr_82_11 rfl) ?_)
    refine And.intro (zak hF xs_90 rfl) (zrd (v := 0) (zfI (k := 90) (j := 2) hF zi_90_2 rfl) ?_)
    refine And.intro ⟨(by assumption), (zRb rfl)⟩ (And.intro (fun h => absurd h (by omega)) (fun _ => ?_))
    refine hQ _ _ _ ?_
    exact ⟨fun k j h => rfl, fun k j h => rfl, fun k j h => rfl⟩
theorem pq_blocking_21 {I L : ZI} {R : ZR} {S : ZS} {Q : ZQ} (hF : zFr 165 302 I L R S) (a0 : Int) (r0 : r32 a0) (a1 : Int) (r1 : r32 a1) (hQ : ∀ I' L' R', zEq 165 302 I L R I' L' R' → Q (some (zvi (-1))) I' L' R' S) : zinl 4 (zt21_3 20) [zvr 165, zvi a0, zvi a1] I L R S Q := by
  refine And.intro rfl ?_
  refine And.intro (zak hF xs_165 rfl) (zrdR (v := none) (zfR hF zn_165_12 rfl) ?_)
  refine hQ _ _ _ ?_
  exact ⟨fun k j h => rfl, fun k j h => rfl, fun k j h => rfl⟩
theorem pq_rule_11 {I L : ZI} {R : ZR} {S : ZS} {Q : ZQ} (hF : zFr 40 165 I L R S) (a0 : Int) (r0 : r32 a0) (a1 : Int) (r1 : r32 a1) (a2 : Int) (r2 : r32 a2) (a3 : Int) (r3 : r32 a3) (hQ : ∀ v : Int, (((0 ≤ a0 ∧ a0 ≤ 4 ∧ -1 ≤ a1 ∧ a1 ≤ 3 ∧ -1 ≤ a2 ∧ a2 ≤ 3 ∧ 0 ≤ a3 ∧ a3 ≤ 100000 ∧ (a0 = 4 → a3 = 0)) → v = 0) ∧ (¬ (0 ≤ a0 ∧ a0 ≤ 4 ∧ -1 ≤ a1 ∧ a1 ≤ 3 ∧ -1 ≤ a2 ∧ a2 ≤ 3 ∧ 0 ≤ a3 ∧ a3 ≤ 100000 ∧ (a0 = 4 → a3 = 0)) → v = -1)) → ∀ I' L' R', zEq 40 165 I L R I' L' R' → Q (some (zvi v)) I' L' R' S) : zinl 7 (zt11_42 20) [zvr 40, zvi a0, zvi a1, zvi a2, zvi a3] I L R S Q := by
  refine And.intro rfl ?_
  refine And.intro ⟨(by assumption), (zRb rfl)⟩ (And.intro (fun h1 => ?_) (fun h1 => ?_))
  · refine And.intro (by assumption) (And.intro (fun h2 => ?_) (fun h2 => ?_))
    · refine And.intro (zRb rfl) (zbt rfl ?_)
      refine And.intro (zak hF xs_40 rfl) (Exists.intro _ (And.intro (zinl_ok (zT11_1 19)) (And.intro rfl ?_)))
      refine And.intro (zRb rfl) (zbf rfl ?_)
      refine And.intro ⟨(zak hF xs_40 rfl), (zRb rfl)⟩ ?_
      refine And.intro (zRb rfl) (zbf rfl ?_)
      refine hQ (-1) (by omega) _ _ _ ?_
      exact ⟨fun k j h => (zu_o h rfl).trans (rfl), fun k j h => rfl, fun k j h => rfl⟩
    · refine And.intro ⟨(by assumption), (zRb rfl)⟩ (And.intro (fun h3 => ?_) (fun h3 => ?_))
      · refine And.intro (zRb rfl) (zbt rfl ?_)
        refine And.intro (zak hF xs_40 rfl) (Exists.intro _ (And.intro (zinl_ok (zT11_1 19)) (And.intro rfl ?_)))
        refine And.intro (zRb rfl) (zbf rfl ?_)
        refine And.intro ⟨(zak hF xs_40 rfl), (zRb rfl)⟩ ?_
        refine And.intro (zRb rfl) (zbf rfl ?_)
        refine hQ (-1) (by omega) _ _ _ ?_
        exact ⟨fun k j h => (zu_o h rfl).trans (rfl), fun k j h => rfl, fun k j h => rfl⟩
      · refine Exists.intro _ (And.intro (zinl_ok (zT11_24 19)) (And.intro rfl ?_))
        refine And.intro ⟨(by assumption), (zRb rfl)⟩ (And.intro (fun h4 => ?_) (fun h4 => ?_))
        · refine And.intro (Or.inl rfl) ?_
          refine And.intro (zRb rfl) (zbt rfl ?_)
          refine And.intro (zRb rfl) (zbt rfl ?_)
          refine And.intro (zak hF xs_40 rfl) (Exists.intro _ (And.intro (zinl_ok (zT11_1 19)) (And.intro rfl ?_)))
          refine And.intro (zRb rfl) (zbf rfl ?_)
          refine And.intro ⟨(zak hF xs_40 rfl), (zRb rfl)⟩ ?_
          refine And.intro (zRb rfl) (zbf rfl ?_)
          refine hQ (-1) (by omega) _ _ _ ?_
          exact ⟨fun k j h => (zu_o h rfl).trans (rfl), fun k j h => rfl, fun k j h => rfl⟩
        · refine And.intro ⟨(by assumption), (zRb rfl)⟩ (And.intro (fun h5 => ?_) (fun h5 => ?_))
          · refine And.intro (Or.inl rfl) ?_
            refine And.intro (zRb rfl) (zbt rfl ?_)
            refine And.intro (zRb rfl) (zbt rfl ?_)
            refine And.intro (zak hF xs_40 rfl) (Exists.intro _ (And.intro (zinl_ok (zT11_1 19)) (And.intro rfl ?_)))
            refine And.intro (zRb rfl) (zbf rfl ?_)
            refine And.intro ⟨(zak hF xs_40 rfl), (zRb rfl)⟩ ?_
            refine And.intro (zRb rfl) (zbf rfl ?_)
            refine hQ (-1) (by omega) _ _ _ ?_
            exact ⟨fun k j h => (zu_o h rfl).trans (rfl), fun k j h => rfl, fun k j h => rfl⟩
          · refine And.intro (Or.inr rfl) ?_
            refine And.intro (zRb rfl) (zbf rfl ?_)
            refine Exists.intro _ (And.intro (zinl_ok (zT11_24 19)) (And.intro rfl ?_))
            refine And.intro ⟨(by assumption), (zRb rfl)⟩ (And.intro (fun h6 => ?_) (fun h6 => ?_))
            · refine And.intro (Or.inl rfl) ?_
              refine And.intro (zRb rfl) (zbt rfl ?_)
              refine And.intro (zRb rfl) (zbt rfl ?_)
              refine And.intro (zak hF xs_40 rfl) (Exists.intro _ (And.intro (zinl_ok (zT11_1 19)) (And.intro rfl ?_)))
              refine And.intro (zRb rfl) (zbf rfl ?_)
              refine And.intro ⟨(zak hF xs_40 rfl), (zRb rfl)⟩ ?_
              refine And.intro (zRb rfl) (zbf rfl ?_)
              refine hQ (-1) (by omega) _ _ _ ?_
              exact ⟨fun k j h => (zu_o h rfl).trans (rfl), fun k j h => rfl, fun k j h => rfl⟩
            · refine And.intro ⟨(by assumption), (zRb rfl)⟩ (And.intro (fun h7 => ?_) (fun h7 => ?_))
              · refine And.intro (Or.inl rfl) ?_
                refine And.intro (zRb rfl) (zbt rfl ?_)
                refine And.intro (zRb rfl) (zbt rfl ?_)
                refine And.intro (zak hF xs_40 rfl) (Exists.intro _ (And.intro (zinl_ok (zT11_1 19)) (And.intro rfl ?_)))
                refine And.intro (zRb rfl) (zbf rfl ?_)
                refine And.intro ⟨(zak hF xs_40 rfl), (zRb rfl)⟩ ?_
                refine And.intro (zRb rfl) (zbf rfl ?_)
                refine hQ (-1) (by omega) _ _ _ ?_
                exact ⟨fun k j h => (zu_o h rfl).trans (rfl), fun k j h => rfl, fun k j h => rfl⟩
              · refine And.intro (Or.inr rfl) ?_
                refine And.intro (zRb rfl) (zbf rfl ?_)
                refine And.intro (zRb rfl) (zbf rfl ?_)
                refine And.intro (by assumption) (And.intro (fun h8 => ?_) (fun h8 => ?_))
                · refine And.intro (zak hF xs_40 rfl) (Exists.intro _ (And.intro (zinl_ok (zT11_1 19)) (And.intro rfl ?_)))
                  refine And.intro (zRb rfl) (zbf rfl ?_)
                  refine And.intro ⟨(zak hF xs_40 rfl), (zRb rfl)⟩ ?_
                  refine And.intro (zRb rfl) (zbf rfl ?_)
                  refine hQ (-1) (by omega) _ _ _ ?_
                  exact ⟨fun k j h => (zu_o h rfl).trans (rfl), fun k j h => rfl, fun k j h => rfl⟩
                · refine And.intro ⟨(by assumption), (zRb rfl)⟩ (And.intro (fun h9 => ?_) (fun h9 => ?_))
                  · refine And.intro (zak hF xs_40 rfl) (zrdR (v := some 104) (zfR (k := 40) (j := 11) hF zr_40_11 rfl) ?_)
                    refine And.intro (zak hF xs_104 rfl) (Exists.intro _ (And.intro (zinl_ok (zT7_2 19)) (And.intro rfl ?_)))
                    refine And.intro (zak hF xs_104 rfl) (zrd (v := 0) (zfI (k := 104) (j := 2) hF zi_104_2 rfl) ?_)
                    refine And.intro (zak hF xs_104 rfl) (zrd (v := 30) (zfI (k := 104) (j := 1) hF zi_104_1 rfl) ?_)
                    refine And.intro ⟨(zRb rfl), (zRb rfl)⟩ (zbf rfl ?_)
                    refine And.intro (Or.inr rfl) ?_
                    refine And.intro (zRb rfl) (zbt rfl ?_)
                    refine And.intro (zak hF xs_40 rfl) (zrdR (v := some 104) (zfR (k := 40) (j := 11) hF zr_40_11 rfl) ?_)
                    refine And.intro (zak hF xs_104 rfl) (Exists.intro _ (And.intro (zinl_ok (zT7_0 19)) (And.intro rfl ?_)))
                    refine And.intro (zak hF xs_104 rfl) (zrd (v := 0) (zfI (k := 104) (j := 2) hF zi_104_2 rfl) ?_)
                    refine And.intro (zak hF xs_104 rfl) (zrd (v := 30) (zfI (k := 104) (j := 1) hF zi_104_1 rfl) ?_)
                    refine And.intro ⟨(zRb rfl), (zRb rfl)⟩ (zbt rfl ?_)
                    refine And.intro (zak hF xs_104 rfl) (zrd (v := 0) (zfI (k := 104) (j := 2) hF zi_104_2 rfl) ?_)
                    refine And.intro (zak hF xs_104 rfl) (zrdR (v := some 105) (zfR (k := 104) (j := 0) hF zr_104_0 rfl) ?_)
                    refine And.intro ⟨zx0 rfl, (zplk hF xs_105 rfl rfl), (by assumption)⟩ ?_
                    refine And.intro (zak hF xs_104 rfl) (zrdR (v := some 105) (zfR (k := 104) (j := 0) hF zr_104_0 rfl) ?_)
                    refine And.intro ⟨zx0 rfl, (zplk hF xs_105 rfl rfl), (by assumption)⟩ ?_
                    refine And.intro (zak hF xs_104 rfl) (zrdR (v := some 105) (zfR (k := 104) (j := 0) hF zr_104_0 rfl) ?_)
                    refine And.intro ⟨zx0 rfl, (zplk hF xs_105 rfl rfl), (by assumption)⟩ ?_
                    refine And.intro (zak hF xs_104 rfl) (zrdR (v := some 105) (zfR (k := 104) (j := 0) hF zr_104_0 rfl) ?_)
                    refine And.intro ⟨zx0 rfl, (zplk hF xs_105 rfl rfl), (by assumption)⟩ ?_
                    refine And.intro (zak hF xs_104 rfl) (zrdR (v := some 105) (zfR (k := 104) (j := 0) hF zr_104_0 rfl) ?_)
                    refine And.intro ⟨zx0 rfl, (zplk hF xs_105 rfl rfl), (zRb rfl)⟩ ?_
                    refine And.intro (zak hF xs_104 rfl) (zrdR (v := some 105) (zfR (k := 104) (j := 0) hF zr_104_0 rfl) ?_)
                    refine And.intro ⟨zx0 rfl, (zplk hF xs_105 rfl rfl), (zRb rfl)⟩ ?_
                    refine And.intro (zak hF xs_104 rfl) (zrd (v := 0) (zfI (k := 104) (j := 2) hF zi_104_2 rfl) ?_)
                    refine And.intro ⟨(zak hF xs_104 rfl), (zRb rfl)⟩ ?_
                    refine And.intro (zak hF xs_104 rfl) (zrd (v := 1) rfl ?_)
                    refine And.intro (zak hF xs_40 rfl) (Exists.intro _ (And.intro (zinl_ok (zT11_1 19)) (And.intro rfl ?_)))
                    refine And.intro (zRb rfl) (zbt rfl ?_)
                    refine And.intro ⟨(zak hF xs_40 rfl), (zRb rfl)⟩ ?_
                    refine And.intro (zRb rfl) (zbt rfl ?_)
                    refine hQ 0 (by omega) _ _ _ ?_
                    exact ⟨fun k j h => (zu_o h rfl).trans ((zu_o h rfl).trans ((zu_o h rfl).trans ((zu_o h rfl).trans ((zu_o h rfl).trans ((zu_o h rfl).trans ((zu_o h rfl).trans ((zu_o h rfl).trans (rfl)))))))), fun k j h => rfl, fun k j h => rfl⟩
                  · refine And.intro (zak hF xs_40 rfl) (Exists.intro _ (And.intro (zinl_ok (zT11_1 19)) (And.intro rfl ?_)))
                    refine And.intro (zRb rfl) (zbf rfl ?_)
                    refine And.intro ⟨(zak hF xs_40 rfl), (zRb rfl)⟩ ?_
                    refine And.intro (zRb rfl) (zbf rfl ?_)
                    refine hQ (-1) (by omega) _ _ _ ?_
                    exact ⟨fun k j h => (zu_o h rfl).trans (rfl), fun k j h => rfl, fun k j h => rfl⟩
  · refine And.intro (by assumption) (And.intro (fun h => absurd h (by omega)) (fun _ => ?_))
    refine And.intro ⟨(by assumption), (zRb rfl)⟩ (And.intro (fun h => absurd h (by omega)) (fun _ => ?_))
    refine Exists.intro _ (And.intro (zinl_ok (zT11_24 19)) (And.intro rfl ?_))
    refine And.intro ⟨(by assumption), (zRb rfl)⟩ (And.intro (fun h10 => ?_) (fun h10 => ?_))
    · refine And.intro (Or.inl rfl) ?_
      refine And.intro (zRb rfl) (zbt rfl ?_)
      refine And.intro (zRb rfl) (zbt rfl ?_)
      refine And.intro (zak hF xs_40 rfl) (Exists.intro _ (And.intro (zinl_ok (zT11_1 19)) (And.intro rfl ?_)))
      refine And.intro (zRb rfl) (zbf rfl ?_)
      refine And.intro ⟨(zak hF xs_40 rfl), (zRb rfl)⟩ ?_
      refine And.intro (zRb rfl) (zbf rfl ?_)
      refine hQ (-1) (by omega) _ _ _ ?_
      exact ⟨fun k j h => (zu_o h rfl).trans (rfl), fun k j h => rfl, fun k j h => rfl⟩
    · refine And.intro ⟨(by assumption), (zRb rfl)⟩ (And.intro (fun h11 => ?_) (fun h11 => ?_))
      · refine And.intro (Or.inl rfl) ?_
        refine And.intro (zRb rfl) (zbt rfl ?_)
        refine And.intro (zRb rfl) (zbt rfl ?_)
        refine And.intro (zak hF xs_40 rfl) (Exists.intro _ (And.intro (zinl_ok (zT11_1 19)) (And.intro rfl ?_)))
        refine And.intro (zRb rfl) (zbf rfl ?_)
        refine And.intro ⟨(zak hF xs_40 rfl), (zRb rfl)⟩ ?_
        refine And.intro (zRb rfl) (zbf rfl ?_)
        refine hQ (-1) (by omega) _ _ _ ?_
        exact ⟨fun k j h => (zu_o h rfl).trans (rfl), fun k j h => rfl, fun k j h => rfl⟩
      · refine And.intro (Or.inr rfl) ?_
        refine And.intro (zRb rfl) (zbf rfl ?_)
        refine Exists.intro _ (And.intro (zinl_ok (zT11_24 19)) (And.intro rfl ?_))
        refine And.intro ⟨(by assumption), (zRb rfl)⟩ (And.intro (fun h12 => ?_) (fun h12 => ?_))
        · refine And.intro (Or.inl rfl) ?_
          refine And.intro (zRb rfl) (zbt rfl ?_)
          refine And.intro (zRb rfl) (zbt rfl ?_)
          refine And.intro (zak hF xs_40 rfl) (Exists.intro _ (And.intro (zinl_ok (zT11_1 19)) (And.intro rfl ?_)))
          refine And.intro (zRb rfl) (zbf rfl ?_)
          refine And.intro ⟨(zak hF xs_40 rfl), (zRb rfl)⟩ ?_
          refine And.intro (zRb rfl) (zbf rfl ?_)
          refine hQ (-1) (by omega) _ _ _ ?_
          exact ⟨fun k j h => (zu_o h rfl).trans (rfl), fun k j h => rfl, fun k j h => rfl⟩
        · refine And.intro ⟨(by assumption), (zRb rfl)⟩ (And.intro (fun h13 => ?_) (fun h13 => ?_))
          · refine And.intro (Or.inl rfl) ?_
            refine And.intro (zRb rfl) (zbt rfl ?_)
            refine And.intro (zRb rfl) (zbt rfl ?_)
            refine And.intro (zak hF xs_40 rfl) (Exists.intro _ (And.intro (zinl_ok (zT11_1 19)) (And.intro rfl ?_)))
            refine And.intro (zRb rfl) (zbf rfl ?_)
            refine And.intro ⟨(zak hF xs_40 rfl), (zRb rfl)⟩ ?_
            refine And.intro (zRb rfl) (zbf rfl ?_)
            refine hQ (-1) (by omega) _ _ _ ?_
            exact ⟨fun k j h => (zu_o h rfl).trans (rfl), fun k j h => rfl, fun k j h => rfl⟩
          · refine And.intro (Or.inr rfl) ?_
            refine And.intro (zRb rfl) (zbf rfl ?_)
            refine And.intro (zRb rfl) (zbf rfl ?_)
            refine And.intro (by assumption) (And.intro (fun h14 => ?_) (fun h14 => ?_))
            · refine And.intro (zak hF xs_40 rfl) (Exists.intro _ (And.intro (zinl_ok (zT11_1 19)) (And.intro rfl ?_)))
              refine And.intro (zRb rfl) (zbf rfl ?_)
              refine And.intro ⟨(zak hF xs_40 rfl), (zRb rfl)⟩ ?_
              refine And.intro (zRb rfl) (zbf rfl ?_)
              refine hQ (-1) (by omega) _ _ _ ?_
              exact ⟨fun k j h => (zu_o h rfl).trans (rfl), fun k j h => rfl, fun k j h => rfl⟩
            · refine And.intro ⟨(by assumption), (zRb rfl)⟩ (And.intro (fun h15 => ?_) (fun h15 => ?_))
              · refine And.intro (zak hF xs_40 rfl) (zrdR (v := some 104) (zfR (k := 40) (j := 11) hF zr_40_11 rfl) ?_)
                refine And.intro (zak hF xs_104 rfl) (Exists.intro _ (And.intro (zinl_ok (zT7_2 19)) (And.intro rfl ?_)))
                refine And.intro (zak hF xs_104 rfl) (zrd (v := 0) (zfI (k := 104) (j := 2) hF zi_104_2 rfl) ?_)
                refine And.intro (zak hF xs_104 rfl) (zrd (v := 30) (zfI (k := 104) (j := 1) hF zi_104_1 rfl) ?_)
                refine And.intro ⟨(zRb rfl), (zRb rfl)⟩ (zbf rfl ?_)
                refine And.intro (Or.inr rfl) ?_
                refine And.intro (zRb rfl) (zbt rfl ?_)
                refine And.intro (zak hF xs_40 rfl) (zrdR (v := some 104) (zfR (k := 40) (j := 11) hF zr_40_11 rfl) ?_)
                refine And.intro (zak hF xs_104 rfl) (Exists.intro _ (And.intro (zinl_ok (zT7_0 19)) (And.intro rfl ?_)))
                refine And.intro (zak hF xs_104 rfl) (zrd (v := 0) (zfI (k := 104) (j := 2) hF zi_104_2 rfl) ?_)
                refine And.intro (zak hF xs_104 rfl) (zrd (v := 30) (zfI (k := 104) (j := 1) hF zi_104_1 rfl) ?_)
                refine And.intro ⟨(zRb rfl), (zRb rfl)⟩ (zbt rfl ?_)
                refine And.intro (zak hF xs_104 rfl) (zrd (v := 0) (zfI (k := 104) (j := 2) hF zi_104_2 rfl) ?_)
                refine And.intro (zak hF xs_104 rfl) (zrdR (v := some 105) (zfR (k := 104) (j := 0) hF zr_104_0 rfl) ?_)
                refine And.intro ⟨zx0 rfl, (zplk hF xs_105 rfl rfl), (by assumption)⟩ ?_
                refine And.intro (zak hF xs_104 rfl) (zrdR (v := some 105) (zfR (k := 104) (j := 0) hF zr_104_0 rfl) ?_)
                refine And.intro ⟨zx0 rfl, (zplk hF xs_105 rfl rfl), (by assumption)⟩ ?_
                refine And.intro (zak hF xs_104 rfl) (zrdR (v := some 105) (zfR (k := 104) (j := 0) hF zr_104_0 rfl) ?_)
                refine And.intro ⟨zx0 rfl, (zplk hF xs_105 rfl rfl), (by assumption)⟩ ?_
                refine And.intro (zak hF xs_104 rfl) (zrdR (v := some 105) (zfR (k := 104) (j := 0) hF zr_104_0 rfl) ?_)
                refine And.intro ⟨zx0 rfl, (zplk hF xs_105 rfl rfl), (by assumption)⟩ ?_
                refine And.intro (zak hF xs_104 rfl) (zrdR (v := some 105) (zfR (k := 104) (j := 0) hF zr_104_0 rfl) ?_)
                refine And.intro ⟨zx0 rfl, (zplk hF xs_105 rfl rfl), (zRb rfl)⟩ ?_
                refine And.intro (zak hF xs_104 rfl) (zrdR (v := some 105) (zfR (k := 104) (j := 0) hF zr_104_0 rfl) ?_)
                refine And.intro ⟨zx0 rfl, (zplk hF xs_105 rfl rfl), (zRb rfl)⟩ ?_
                refine And.intro (zak hF xs_104 rfl) (zrd (v := 0) (zfI (k := 104) (j := 2) hF zi_104_2 rfl) ?_)
                refine And.intro ⟨(zak hF xs_104 rfl), (zRb rfl)⟩ ?_
                refine And.intro (zak hF xs_104 rfl) (zrd (v := 1) rfl ?_)
                refine And.intro (zak hF xs_40 rfl) (Exists.intro _ (And.intro (zinl_ok (zT11_1 19)) (And.intro rfl ?_)))
                refine And.intro (zRb rfl) (zbt rfl ?_)
                refine And.intro ⟨(zak hF xs_40 rfl), (zRb rfl)⟩ ?_
                refine And.intro (zRb rfl) (zbt rfl ?_)
                refine hQ 0 (by omega) _ _ _ ?_
                exact ⟨fun k j h => (zu_o h rfl).trans ((zu_o h rfl).trans ((zu_o h rfl).trans ((zu_o h rfl).trans ((zu_o h rfl).trans ((zu_o h rfl).trans ((zu_o h rfl).trans ((zu_o h rfl).trans (rfl)))))))), fun k j h => rfl, fun k j h => rfl⟩
              · refine And.intro (zak hF xs_40 rfl) (Exists.intro _ (And.intro (zinl_ok (zT11_1 19)) (And.intro rfl ?_)))
                refine And.intro (zRb rfl) (zbf rfl ?_)
                refine And.intro ⟨(zak hF xs_40 rfl), (zRb rfl)⟩ ?_
                refine And.intro (zRb rfl) (zbf rfl ?_)
                refine hQ (-1) (by omega) _ _ _ ?_
                exact ⟨fun k j h => (zu_o h rfl).trans (rfl), fun k j h => rfl, fun k j h => rfl⟩
theorem pq_rule_21 {I L : ZI} {R : ZR} {S : ZS} {Q : ZQ} (hF : zFr 165 302 I L R S) (a0 : Int) (r0 : r32 a0) (a1 : Int) (r1 : r32 a1) (a2 : Int) (r2 : r32 a2) (a3 : Int) (r3 : r32 a3) (hQ : ∀ v : Int, (((0 ≤ a0 ∧ a0 ≤ 4 ∧ -1 ≤ a1 ∧ a1 ≤ 3 ∧ -1 ≤ a2 ∧ a2 ≤ 3 ∧ 0 ≤ a3 ∧ a3 ≤ 100000 ∧ (a0 = 4 → a3 = 0)) → v = 0) ∧ (¬ (0 ≤ a0 ∧ a0 ≤ 4 ∧ -1 ≤ a1 ∧ a1 ≤ 3 ∧ -1 ≤ a2 ∧ a2 ≤ 3 ∧ 0 ≤ a3 ∧ a3 ≤ 100000 ∧ (a0 = 4 → a3 = 0)) → v = -1)) → ∀ I' L' R', zEq 165 302 I L R I' L' R' → Q (some (zvi v)) I' L' R' S) : zinl 6 (zt21_58 20) [zvr 165, zvi a0, zvi a1, zvi a2, zvi a3] I L R S Q := by
  refine And.intro rfl ?_
  refine And.intro ⟨(by assumption), (zRb rfl)⟩ (And.intro (fun h1 => ?_) (fun h1 => ?_))
  · refine And.intro (by assumption) (And.intro (fun h2 => ?_) (fun h2 => ?_))
    · refine And.intro (zak hF xs_165 rfl) (Exists.intro _ (And.intro (zinl_ok (zT21_47 19)) (And.intro rfl ?_)))
      refine And.intro ⟨(zak hF xs_165 rfl), (zRb rfl)⟩ ?_
      refine hQ (-1) (by omega) _ _ _ ?_
      exact ⟨fun k j h => (zu_o h rfl).trans (rfl), fun k j h => rfl, fun k j h => rfl⟩
    · refine And.intro ⟨(by assumption), (zRb rfl)⟩ (And.intro (fun h3 => ?_) (fun h3 => ?_))
      · refine And.intro (zak hF xs_165 rfl) (Exists.intro _ (And.intro (zinl_ok (zT21_47 19)) (And.intro rfl ?_)))
        refine And.intro ⟨(zak hF xs_165 rfl), (zRb rfl)⟩ ?_
        refine hQ (-1) (by omega) _ _ _ ?_
        exact ⟨fun k j h => (zu_o h rfl).trans (rfl), fun k j h => rfl, fun k j h => rfl⟩
      · refine And.intro (zRb rfl) (zbt rfl ?_)
        refine And.intro (zak hF xs_165 rfl) (Exists.intro _ (And.intro (zinl_ok (zT21_47 19)) (And.intro rfl ?_)))
        refine And.intro ⟨(zak hF xs_165 rfl), (zRb rfl)⟩ ?_
        refine hQ (-1) (by omega) _ _ _ ?_
        exact ⟨fun k j h => (zu_o h rfl).trans (rfl), fun k j h => rfl, fun k j h => rfl⟩
  · refine And.intro ⟨(by assumption), (zRb rfl)⟩ (And.intro (fun h4 => ?_) (fun h4 => ?_))
    · refine And.intro (by assumption) (And.intro (fun h5 => ?_) (fun h5 => ?_))
      · refine And.intro (zak hF xs_165 rfl) (Exists.intro _ (And.intro (zinl_ok (zT21_47 19)) (And.intro rfl ?_)))
        refine And.intro ⟨(zak hF xs_165 rfl), (zRb rfl)⟩ ?_
        refine hQ (-1) (by omega) _ _ _ ?_
        exact ⟨fun k j h => (zu_o h rfl).trans (rfl), fun k j h => rfl, fun k j h => rfl⟩
      · refine And.intro ⟨(by assumption), (zRb rfl)⟩ (And.intro (fun h6 => ?_) (fun h6 => ?_))
        · refine And.intro (zak hF xs_165 rfl) (Exists.intro _ (And.intro (zinl_ok (zT21_47 19)) (And.intro rfl ?_)))
          refine And.intro ⟨(zak hF xs_165 rfl), (zRb rfl)⟩ ?_
          refine hQ (-1) (by omega) _ _ _ ?_
          exact ⟨fun k j h => (zu_o h rfl).trans (rfl), fun k j h => rfl, fun k j h => rfl⟩
        · refine And.intro (zRb rfl) (zbt rfl ?_)
          refine And.intro (zak hF xs_165 rfl) (Exists.intro _ (And.intro (zinl_ok (zT21_47 19)) (And.intro rfl ?_)))
          refine And.intro ⟨(zak hF xs_165 rfl), (zRb rfl)⟩ ?_
          refine hQ (-1) (by omega) _ _ _ ?_
          exact ⟨fun k j h => (zu_o h rfl).trans (rfl), fun k j h => rfl, fun k j h => rfl⟩
    · refine And.intro ⟨(by assumption), (zRb rfl)⟩ (And.intro (fun h7 => ?_) (fun h7 => ?_))
      · refine And.intro (by assumption) (And.intro (fun h8 => ?_) (fun h8 => ?_))
        · refine And.intro (zak hF xs_165 rfl) (Exists.intro _ (And.intro (zinl_ok (zT21_47 19)) (And.intro rfl ?_)))
          refine And.intro ⟨(zak hF xs_165 rfl), (zRb rfl)⟩ ?_
          refine hQ (-1) (by omega) _ _ _ ?_
          exact ⟨fun k j h => (zu_o h rfl).trans (rfl), fun k j h => rfl, fun k j h => rfl⟩
        · refine And.intro ⟨(by assumption), (zRb rfl)⟩ (And.intro (fun h9 => ?_) (fun h9 => ?_))
          · refine And.intro (zak hF xs_165 rfl) (Exists.intro _ (And.intro (zinl_ok (zT21_47 19)) (And.intro rfl ?_)))
            refine And.intro ⟨(zak hF xs_165 rfl), (zRb rfl)⟩ ?_
            refine hQ (-1) (by omega) _ _ _ ?_
            exact ⟨fun k j h => (zu_o h rfl).trans (rfl), fun k j h => rfl, fun k j h => rfl⟩
          · refine And.intro (zRb rfl) (zbt rfl ?_)
            refine And.intro (zak hF xs_165 rfl) (Exists.intro _ (And.intro (zinl_ok (zT21_47 19)) (And.intro rfl ?_)))
            refine And.intro ⟨(zak hF xs_165 rfl), (zRb rfl)⟩ ?_
            refine hQ (-1) (by omega) _ _ _ ?_
            exact ⟨fun k j h => (zu_o h rfl).trans (rfl), fun k j h => rfl, fun k j h => rfl⟩
      · refine And.intro ⟨(by assumption), (zRb rfl)⟩ (And.intro (fun h10 => ?_) (fun h10 => ?_))
        · refine And.intro (by assumption) (And.intro (fun h11 => ?_) (fun h11 => ?_))
          · refine And.intro (zak hF xs_165 rfl) (Exists.intro _ (And.intro (zinl_ok (zT21_47 19)) (And.intro rfl ?_)))
            refine And.intro ⟨(zak hF xs_165 rfl), (zRb rfl)⟩ ?_
            refine hQ (-1) (by omega) _ _ _ ?_
            exact ⟨fun k j h => (zu_o h rfl).trans (rfl), fun k j h => rfl, fun k j h => rfl⟩
          · refine And.intro ⟨(by assumption), (zRb rfl)⟩ (And.intro (fun h12 => ?_) (fun h12 => ?_))
            · refine And.intro (zak hF xs_165 rfl) (Exists.intro _ (And.intro (zinl_ok (zT21_47 19)) (And.intro rfl ?_)))
              refine And.intro ⟨(zak hF xs_165 rfl), (zRb rfl)⟩ ?_
              refine hQ (-1) (by omega) _ _ _ ?_
              exact ⟨fun k j h => (zu_o h rfl).trans (rfl), fun k j h => rfl, fun k j h => rfl⟩
            · refine And.intro (zRb rfl) (zbt rfl ?_)
              refine And.intro (zak hF xs_165 rfl) (Exists.intro _ (And.intro (zinl_ok (zT21_47 19)) (And.intro rfl ?_)))
              refine And.intro ⟨(zak hF xs_165 rfl), (zRb rfl)⟩ ?_
              refine hQ (-1) (by omega) _ _ _ ?_
              exact ⟨fun k j h => (zu_o h rfl).trans (rfl), fun k j h => rfl, fun k j h => rfl⟩
        · refine And.intro (by assumption) (And.intro (fun h13 => ?_) (fun h13 => ?_))
          · refine And.intro (zak hF xs_165 rfl) (Exists.intro _ (And.intro (zinl_ok (zT21_47 19)) (And.intro rfl ?_)))
            refine And.intro ⟨(zak hF xs_165 rfl), (zRb rfl)⟩ ?_
            refine hQ (-1) (by omega) _ _ _ ?_
            exact ⟨fun k j h => (zu_o h rfl).trans (rfl), fun k j h => rfl, fun k j h => rfl⟩
          · refine And.intro ⟨(by assumption), (zRb rfl)⟩ (And.intro (fun h14 => ?_) (fun h14 => ?_))
            · refine And.intro (zak hF xs_165 rfl) (Exists.intro _ (And.intro (zinl_ok (zT21_47 19)) (And.intro rfl ?_)))
              refine And.intro ⟨(zak hF xs_165 rfl), (zRb rfl)⟩ ?_
              refine hQ (-1) (by omega) _ _ _ ?_
              exact ⟨fun k j h => (zu_o h rfl).trans (rfl), fun k j h => rfl, fun k j h => rfl⟩
            · refine And.intro (zRb rfl) (zbf rfl ?_)
              refine And.intro (by assumption) (And.intro (fun h15 => ?_) (fun h15 => ?_))
              · refine And.intro (zak hF xs_165 rfl) (Exists.intro _ (And.intro (zinl_ok (zT21_47 19)) (And.intro rfl ?_)))
                refine And.intro ⟨(zak hF xs_165 rfl), (zRb rfl)⟩ ?_
                refine hQ (-1) (by omega) _ _ _ ?_
                exact ⟨fun k j h => (zu_o h rfl).trans (rfl), fun k j h => rfl, fun k j h => rfl⟩
              · refine And.intro ⟨(by assumption), (zRb rfl)⟩ (And.intro (fun h16 => ?_) (fun h16 => ?_))
                · refine And.intro ⟨(by assumption), (zRb rfl)⟩ (And.intro (fun h17 => ?_) (fun h17 => ?_))
                  · refine And.intro (zak hF xs_165 rfl) (zrd (v := 0) (zfI (k := 165) (j := 24) hF zi_165_24 rfl) ?_)
                    refine And.intro ⟨(zRb rfl), (zRb rfl)⟩ (zbt rfl ?_)
                    refine And.intro (zak hF xs_165 rfl) (zrdR (v := some 204) (zfR (k := 165) (j := 25) hF zr_165_25 rfl) ?_)
                    refine And.intro (zak hF xs_165 rfl) (zrd (v := 0) (zfI (k := 165) (j := 24) hF zi_165_24 rfl) ?_)
                    refine And.intro ⟨zx0 rfl, (zplk hF xs_204 rfl rfl), (by assumption)⟩ ?_
                    refine And.intro (zak hF xs_165 rfl) (zrdR (v := some 205) (zfR (k := 165) (j := 26) hF zr_165_26 rfl) ?_)
                    refine And.intro (zak hF xs_165 rfl) (zrd (v := 0) (zfI (k := 165) (j := 24) hF zi_165_24 rfl) ?_)
                    refine And.intro ⟨zx0 rfl, (zplk hF xs_205 rfl rfl), (by assumption)⟩ ?_
                    refine And.intro (zak hF xs_165 rfl) (zrdR (v := some 206) (zfR (k := 165) (j := 27) hF zr_165_27 rfl) ?_)
                    refine And.intro (zak hF xs_165 rfl) (zrd (v := 0) (zfI (k := 165) (j := 24) hF zi_165_24 rfl) ?_)
                    refine And.intro ⟨zx0 rfl, (zplk hF xs_206 rfl rfl), (by assumption)⟩ ?_
                    refine And.intro (zak hF xs_165 rfl) (zrdR (v := some 207) (zfR (k := 165) (j := 28) hF zr_165_28 rfl) ?_)
                    refine And.intro (zak hF xs_165 rfl) (zrd (v := 0) (zfI (k := 165) (j := 24) hF zi_165_24 rfl) ?_)
                    refine And.intro ⟨zx0 rfl, (zplk hF xs_207 rfl rfl), (by assumption)⟩ ?_
                    refine And.intro (zak hF xs_165 rfl) (zrd (v := 0) (zfI (k := 165) (j := 24) hF zi_165_24 rfl) ?_)
                    refine And.intro ⟨(zak hF xs_165 rfl), (zRb rfl)⟩ ?_
                    refine And.intro (zak hF xs_165 rfl) (zrd (v := 1) rfl ?_)
                    refine And.intro (zak hF xs_165 rfl) (Exists.intro _ (And.intro (zinl_ok (zT21_12 19)) (And.intro rfl ?_)))
                    refine And.intro ⟨(zak hF xs_165 rfl), (zRb rfl)⟩ ?_
                    refine hQ 0 (by omega) _ _ _ ?_
                    exact ⟨fun k j h => (zu_o h rfl).trans ((zu_o h rfl).trans ((zu_o h rfl).trans ((zu_o h rfl).trans ((zu_o h rfl).trans ((zu_o h rfl).trans (rfl)))))), fun k j h => rfl, fun k j h => rfl⟩
                  · refine And.intro (zak hF xs_165 rfl) (Exists.intro _ (And.intro (zinl_ok (zT21_47 19)) (And.intro rfl ?_)))
                    refine And.intro ⟨(zak hF xs_165 rfl), (zRb rfl)⟩ ?_
                    refine hQ (-1) (by omega) _ _ _ ?_
                    exact ⟨fun k j h => (zu_o h rfl).trans (rfl), fun k j h => rfl, fun k j h => rfl⟩
                · refine And.intro ⟨(by assumption), (zRb rfl)⟩ (And.intro (fun h18 => ?_) (fun h18 => ?_))
                  · refine And.intro (zak hF xs_165 rfl) (zrd (v := 0) (zfI (k := 165) (j := 24) hF zi_165_24 rfl) ?_)
                    refine And.intro ⟨(zRb rfl), (zRb rfl)⟩ (zbt rfl ?_)
                    refine And.intro (zak hF xs_165 rfl) (zrdR (v := some 204) (zfR (k := 165) (j := 25) hF zr_165_25 rfl) ?_)
                    refine And.intro (zak hF xs_165 rfl) (zrd (v := 0) (zfI (k := 165) (j := 24) hF zi_165_24 rfl) ?_)
                    refine And.intro ⟨zx0 rfl, (zplk hF xs_204 rfl rfl), (by assumption)⟩ ?_
                    refine And.intro (zak hF xs_165 rfl) (zrdR (v := some 205) (zfR (k := 165) (j := 26) hF zr_165_26 rfl) ?_)
                    refine And.intro (zak hF xs_165 rfl) (zrd (v := 0) (zfI (k := 165) (j := 24) hF zi_165_24 rfl) ?_)
                    refine And.intro ⟨zx0 rfl, (zplk hF xs_205 rfl rfl), (by assumption)⟩ ?_
                    refine And.intro (zak hF xs_165 rfl) (zrdR (v := some 206) (zfR (k := 165) (j := 27) hF zr_165_27 rfl) ?_)
                    refine And.intro (zak hF xs_165 rfl) (zrd (v := 0) (zfI (k := 165) (j := 24) hF zi_165_24 rfl) ?_)
                    refine And.intro ⟨zx0 rfl, (zplk hF xs_206 rfl rfl), (by assumption)⟩ ?_
                    refine And.intro (zak hF xs_165 rfl) (zrdR (v := some 207) (zfR (k := 165) (j := 28) hF zr_165_28 rfl) ?_)
                    refine And.intro (zak hF xs_165 rfl) (zrd (v := 0) (zfI (k := 165) (j := 24) hF zi_165_24 rfl) ?_)
                    refine And.intro ⟨zx0 rfl, (zplk hF xs_207 rfl rfl), (by assumption)⟩ ?_
                    refine And.intro (zak hF xs_165 rfl) (zrd (v := 0) (zfI (k := 165) (j := 24) hF zi_165_24 rfl) ?_)
                    refine And.intro ⟨(zak hF xs_165 rfl), (zRb rfl)⟩ ?_
                    refine And.intro (zak hF xs_165 rfl) (zrd (v := 1) rfl ?_)
                    refine And.intro (zak hF xs_165 rfl) (Exists.intro _ (And.intro (zinl_ok (zT21_12 19)) (And.intro rfl ?_)))
                    refine And.intro ⟨(zak hF xs_165 rfl), (zRb rfl)⟩ ?_
                    refine hQ 0 (by omega) _ _ _ ?_
                    exact ⟨fun k j h => (zu_o h rfl).trans ((zu_o h rfl).trans ((zu_o h rfl).trans ((zu_o h rfl).trans ((zu_o h rfl).trans ((zu_o h rfl).trans (rfl)))))), fun k j h => rfl, fun k j h => rfl⟩
                  · refine And.intro (zak hF xs_165 rfl) (Exists.intro _ (And.intro (zinl_ok (zT21_47 19)) (And.intro rfl ?_)))
                    refine And.intro ⟨(zak hF xs_165 rfl), (zRb rfl)⟩ ?_
                    refine hQ (-1) (by omega) _ _ _ ?_
                    exact ⟨fun k j h => (zu_o h rfl).trans (rfl), fun k j h => rfl, fun k j h => rfl⟩
theorem pq_cut_11 {I L : ZI} {R : ZR} {S : ZS} {Q : ZQ} (hF : zFr 40 165 I L R S)  (hQ : ∀ I' L' R', zEq 40 165 I L R I' L' R' → Q (some (zvi (-1))) I' L' R' S) : zinl 2 (zt11_11 20) [zvr 40] I L R S Q := by
  refine And.intro rfl ?_
  refine And.intro (zak hF xs_40 rfl) (zrdR (v := some 82) (zfR (k := 40) (j := 9) hF zr_40_9 rfl) ?_)
  refine And.intro (zak hF xs_82 rfl) (zrd (v := (-1)) (zfI (k := 82) (j := 0) hF zi_82_0 rfl) ?_)
  refine And.intro ⟨(zRb rfl), (zRb rfl)⟩ (zbf rfl ?_)
  refine And.intro (zak hF xs_40 rfl) (Exists.intro _ (And.intro (zinl_ok (zT11_1 19)) (And.intro rfl ?_)))
  refine And.intro (zRb rfl) (zbf rfl ?_)
  refine And.intro ⟨(zak hF xs_40 rfl), (zRb rfl)⟩ ?_
  refine And.intro (zRb rfl) (zbf rfl ?_)
  refine hQ _ _ _ ?_
  exact ⟨fun k j h => (zu_o h rfl).trans (rfl), fun k j h => rfl, fun k j h => rfl⟩
theorem pq_cut_21 {I L : ZI} {R : ZR} {S : ZS} {Q : ZQ} (hF : zFr 165 302 I L R S)  (hQ : ∀ I' L' R', zEq 165 302 I L R I' L' R' → Q (some (zvi (-1))) I' L' R' S) : zinl 3 (zt21_10 20) [zvr 165] I L R S Q := by
  refine And.intro rfl ?_
  refine And.intro (zak hF xs_165 rfl) (zrdR (v := none) (zfR hF zn_165_12 rfl) ?_)
  refine And.intro (zak hF xs_165 rfl) (Exists.intro _ (And.intro (zinl_ok (zT21_47 19)) (And.intro rfl ?_)))
  refine And.intro ⟨(zak hF xs_165 rfl), (zRb rfl)⟩ ?_
  refine hQ _ _ _ ?_
  exact ⟨fun k j h => (zu_o h rfl).trans (rfl), fun k j h => rfl, fun k j h => rfl⟩
theorem pq_violations_11 {I L : ZI} {R : ZR} {S : ZS} {Q : ZQ} (hF : zFr 40 165 I L R S)  (hQ : ∀ I' L' R', zEq 40 165 I L R I' L' R' → Q (some (zvi (-1))) I' L' R' S) : zinl 1 (zt11_54 20) [zvr 40] I L R S Q := by
  refine And.intro rfl ?_
  refine And.intro (zak hF xs_40 rfl) (zrd (v := 0) (zfI (k := 40) (j := 14) hF zi_40_14 rfl) ?_)
  refine And.intro (zRb rfl) (zbf rfl ?_)
  refine hQ _ _ _ ?_
  exact ⟨fun k j h => rfl, fun k j h => rfl, fun k j h => rfl⟩
theorem pq_violations_21 {I L : ZI} {R : ZR} {S : ZS} {Q : ZQ} (hF : zFr 165 302 I L R S)  (hQ : ∀ I' L' R', zEq 165 302 I L R I' L' R' → Q (some (zvi (-1))) I' L' R' S) : zinl 1 (zt21_76 20) [zvr 165] I L R S Q := by
  refine And.intro rfl ?_
  refine And.intro (zak hF xs_165 rfl) (zrdR (v := none) (zfR hF zn_165_31 rfl) ?_)
  refine hQ _ _ _ ?_
  exact ⟨fun k j h => rfl, fun k j h => rfl, fun k j h => rfl⟩
theorem pq_violation_11 {I L : ZI} {R : ZR} {S : ZS} {Q : ZQ} (hF : zFr 40 165 I L R S) (a0 : Int) (r0 : r32 a0) (a1 : Int) (r1 : r32 a1) (hQ : ∀ I' L' R', zEq 40 165 I L R I' L' R' → Q (some (zvi (-1))) I' L' R' S) : zinl 3 (zt11_53 20) [zvr 40, zvi a0, zvi a1] I L R S Q := by
  refine And.intro rfl ?_
  refine And.intro (zak hF xs_40 rfl) (zrd (v := 0) (zfI (k := 40) (j := 14) hF zi_40_14 rfl) ?_)
  refine And.intro (zRb rfl) (zbf rfl ?_)
  refine hQ _ _ _ ?_
  exact ⟨fun k j h => rfl, fun k j h => rfl, fun k j h => rfl⟩
theorem pq_violation_21 {I L : ZI} {R : ZR} {S : ZS} {Q : ZQ} (hF : zFr 165 302 I L R S) (a0 : Int) (r0 : r32 a0) (a1 : Int) (r1 : r32 a1) (hQ : ∀ I' L' R', zEq 165 302 I L R I' L' R' → Q (some (zvi (-1))) I' L' R' S) : zinl 4 (zt21_75 20) [zvr 165, zvi a0, zvi a1] I L R S Q := by
  refine And.intro rfl ?_
  refine And.intro (zak hF xs_165 rfl) (zrdR (v := none) (zfR hF zn_165_31 rfl) ?_)
  refine hQ _ _ _ ?_
  exact ⟨fun k j h => rfl, fun k j h => rfl, fun k j h => rfl⟩
theorem pq_copper_11 {I L : ZI} {R : ZR} {S : ZS} {Q : ZQ} (hF : zFr 40 165 I L R S) (a0 : Int) (r0 : r32 a0) (hQ : ∀ I' L' R', zEq 40 165 I L R I' L' R' → Q (some (zvi (-1))) I' L' R' S) : zinl 2 (zt11_7 20) [zvr 40, zvi a0] I L R S Q := by
  refine And.intro rfl ?_
  refine And.intro (zak hF xs_40 rfl) (zrd (v := 0) (zfI (k := 40) (j := 14) hF zi_40_14 rfl) ?_)
  refine And.intro (zRb rfl) (zbf rfl ?_)
  refine hQ _ _ _ ?_
  exact ⟨fun k j h => rfl, fun k j h => rfl, fun k j h => rfl⟩
theorem pq_copper_21 {I L : ZI} {R : ZR} {S : ZS} {Q : ZQ} (hF : zFr 165 302 I L R S) (a0 : Int) (r0 : r32 a0) (hQ : ∀ I' L' R', zEq 165 302 I L R I' L' R' → Q (some (zvi (-1))) I' L' R' S) : zinl 3 (zt21_6 20) [zvr 165, zvi a0] I L R S Q := by
  refine And.intro rfl ?_
  refine And.intro (zak hF xs_165 rfl) (zrdR (v := none) (zfR hF zn_165_31 rfl) ?_)
  refine hQ _ _ _ ?_
  exact ⟨fun k j h => rfl, fun k j h => rfl, fun k j h => rfl⟩
theorem pq_airline_11 {I L : ZI} {R : ZR} {S : ZS} {Q : ZQ} (hF : zFr 40 165 I L R S) (a0 : Int) (r0 : r32 a0) (a1 : Int) (r1 : r32 a1) (a2 : Int) (r2 : r32 a2) (hQ : ∀ I' L' R', zEq 40 165 I L R I' L' R' → Q (some (zvi (-1))) I' L' R' S) : zinl 4 (zt11_0 20) [zvr 40, zvi a0, zvi a1, zvi a2] I L R S Q := by
  refine And.intro rfl ?_
  refine And.intro (zak hF xs_40 rfl) (zrd (v := 0) (zfI (k := 40) (j := 14) hF zi_40_14 rfl) ?_)
  refine And.intro (zRb rfl) (zbf rfl ?_)
  refine hQ _ _ _ ?_
  exact ⟨fun k j h => rfl, fun k j h => rfl, fun k j h => rfl⟩
theorem pq_airline_21 {I L : ZI} {R : ZR} {S : ZS} {Q : ZQ} (hF : zFr 165 302 I L R S) (a0 : Int) (r0 : r32 a0) (a1 : Int) (r1 : r32 a1) (a2 : Int) (r2 : r32 a2) (hQ : ∀ I' L' R', zEq 165 302 I L R I' L' R' → Q (some (zvi (-1))) I' L' R' S) : zinl 5 (zt21_0 20) [zvr 165, zvi a0, zvi a1, zvi a2] I L R S Q := by
  refine And.intro rfl ?_
  refine And.intro (zak hF xs_165 rfl) (zrdR (v := none) (zfR hF zn_165_31 rfl) ?_)
  refine hQ _ _ _ ?_
  exact ⟨fun k j h => rfl, fun k j h => rfl, fun k j h => rfl⟩
theorem pq_shorts_11 {I L : ZI} {R : ZR} {S : ZS} {Q : ZQ} (hF : zFr 40 165 I L R S)  (hQ : ∀ I' L' R', zEq 40 165 I L R I' L' R' → Q (some (zvi (-1))) I' L' R' S) : zinl 1 (zt11_48 20) [zvr 40] I L R S Q := by
  refine And.intro rfl ?_
  refine And.intro (zak hF xs_40 rfl) (zrd (v := 0) (zfI (k := 40) (j := 14) hF zi_40_14 rfl) ?_)
  refine And.intro (zRb rfl) (zbf rfl ?_)
  refine hQ _ _ _ ?_
  exact ⟨fun k j h => rfl, fun k j h => rfl, fun k j h => rfl⟩
theorem pq_shorts_21 {I L : ZI} {R : ZR} {S : ZS} {Q : ZQ} (hF : zFr 165 302 I L R S)  (hQ : ∀ I' L' R', zEq 165 302 I L R I' L' R' → Q (some (zvi (-1))) I' L' R' S) : zinl 1 (zt21_71 20) [zvr 165] I L R S Q := by
  refine And.intro rfl ?_
  refine And.intro (zak hF xs_165 rfl) (zrdR (v := none) (zfR hF zn_165_31 rfl) ?_)
  refine hQ _ _ _ ?_
  exact ⟨fun k j h => rfl, fun k j h => rfl, fun k j h => rfl⟩
theorem pq_exact_11 {I L : ZI} {R : ZR} {S : ZS} {Q : ZQ} (hF : zFr 40 165 I L R S)  (hQ : ∀ I' L' R', zEq 40 165 I L R I' L' R' → Q (some (zvi 0)) I' L' R' S) : zinl 1 (zt11_17 20) [zvr 40] I L R S Q := by
  refine And.intro rfl ?_
  refine And.intro (zak hF xs_40 rfl) (zrd (v := 0) (zfI (k := 40) (j := 14) hF zi_40_14 rfl) ?_)
  refine And.intro (zRb rfl) (zbt rfl ?_)
  refine And.intro (Or.inl rfl) ?_
  refine hQ _ _ _ ?_
  exact ⟨fun k j h => rfl, fun k j h => rfl, fun k j h => rfl⟩
theorem pq_exact_21 {I L : ZI} {R : ZR} {S : ZS} {Q : ZQ} (hF : zFr 165 302 I L R S)  (hQ : ∀ I' L' R', zEq 165 302 I L R I' L' R' → Q (some (zvi 0)) I' L' R' S) : zinl 1 (zt21_18 20) [zvr 165] I L R S Q := by
  refine And.intro rfl ?_
  refine And.intro (zak hF xs_165 rfl) (zrdR (v := none) (zfR hF zn_165_31 rfl) ?_)
  refine And.intro (Or.inl rfl) ?_
  refine hQ _ _ _ ?_
  exact ⟨fun k j h => rfl, fun k j h => rfl, fun k j h => rfl⟩
theorem pq_drill_11 {I L : ZI} {R : ZR} {S : ZS} {Q : ZQ} (hF : zFr 40 165 I L R S) (a0 : Int) (r0 : r32 a0) (a1 : Int) (r1 : r32 a1) (hQ : ∀ I' L' R', zEq 40 165 I L R I' L' R' → Q (some (zvi (-1))) I' L' R' S) : zinl 3 (zt11_13 20) [zvr 40, zvi a0, zvi a1] I L R S Q := by
  refine And.intro rfl ?_
  refine And.intro (zak hF xs_40 rfl) (zrd (v := 0) (zfI (k := 40) (j := 14) hF zi_40_14 rfl) ?_)
  refine And.intro (zRb rfl) (zbf rfl ?_)
  refine hQ _ _ _ ?_
  exact ⟨fun k j h => rfl, fun k j h => rfl, fun k j h => rfl⟩
theorem pq_drill_21 {I L : ZI} {R : ZR} {S : ZS} {Q : ZQ} (hF : zFr 165 302 I L R S) (a0 : Int) (r0 : r32 a0) (a1 : Int) (r1 : r32 a1) (hQ : ∀ I' L' R', zEq 165 302 I L R I' L' R' → Q (some (zvi (-1))) I' L' R' S) : zinl 3 (zt21_14 20) [zvr 165, zvi a0, zvi a1] I L R S Q := by
  refine And.intro rfl ?_
  refine And.intro (zak hF xs_165 rfl) (zrdR (v := none) (zfR hF zn_165_31 rfl) ?_)
  refine hQ _ _ _ ?_
  exact ⟨fun k j h => rfl, fun k j h => rfl, fun k j h => rfl⟩
theorem pq_reread_11 {I L : ZI} {R : ZR} {S : ZS} {Q : ZQ} (hF : zFr 40 165 I L R S) (a0 : Int) (r0 : r32 a0) (hQ : ∀ I' L' R', zEq 40 165 I L R I' L' R' → Q (some (zvi (-1))) I' L' R' S) : zinl 2 (zt11_39 20) [zvr 40, zvi a0] I L R S Q := by
  refine And.intro rfl ?_
  refine And.intro (zak hF xs_40 rfl) (zrd (v := 0) (zfI (k := 40) (j := 14) hF zi_40_14 rfl) ?_)
  refine And.intro (zRb rfl) (zbf rfl ?_)
  refine hQ _ _ _ ?_
  exact ⟨fun k j h => rfl, fun k j h => rfl, fun k j h => rfl⟩
theorem pq_reread_21 {I L : ZI} {R : ZR} {S : ZS} {Q : ZQ} (hF : zFr 165 302 I L R S) (a0 : Int) (r0 : r32 a0) (hQ : ∀ I' L' R', zEq 165 302 I L R I' L' R' → Q (some (zvi (-1))) I' L' R' S) : zinl 7 (zt21_53 20) [zvr 165, zvi a0] I L R S Q := by
  refine And.intro rfl ?_
  refine And.intro (zak hF xs_165 rfl) (zrdR (v := none) (zfR hF zn_165_31 rfl) ?_)
  refine hQ _ _ _ ?_
  exact ⟨fun k j h => rfl, fun k j h => rfl, fun k j h => rfl⟩
theorem pq_program_11 {I L : ZI} {R : ZR} {S : ZS} {Q : ZQ} (hF : zFr 40 165 I L R S)  (hQ : ∀ I' L' R', zEq 40 165 I L R I' L' R' → Q (some (zvi 0)) I' L' R' S) : zinl 4 (zt11_33 20) [zvr 40] I L R S Q := by
  refine And.intro rfl ?_
  refine And.intro (zak hF xs_40 rfl) (Exists.intro _ (And.intro (zinl_ok (zT11_51 19)) (And.intro rfl ?_)))
  refine And.intro (zak hF xs_40 rfl) (zrd (v := 0) (zfI (k := 40) (j := 1) hF zi_40_1 rfl) ?_)
  refine And.intro ⟨(zRb rfl), (zRb rfl)⟩ (zbt rfl ?_)
  refine And.intro ⟨(zak hF xs_40 rfl), (zRb rfl)⟩ ?_
  refine And.intro (zak hF xs_40 rfl) (zrdR (v := some 134) (zfR (k := 40) (j := 16) hF zr_40_16 rfl) ?_)
  refine And.intro (zak hF xs_40 rfl) (zrdR (v := some 42) (zfR (k := 40) (j := 2) hF zr_40_2 rfl) ?_)
  refine And.intro (zak hF xs_134 rfl) (Exists.intro _ (And.intro (zinl_ok (zT8_3 19)) (And.intro rfl ?_)))
  refine And.intro ⟨(zRb rfl), (zRb rfl)⟩ ?_
  refine And.intro (zlnk hF xs_42 rfl rfl) (zrdN (v := 4000) (zlnv hF xs_42 rfl) ?_)
  refine And.intro ⟨(zRb rfl), (zRb rfl)⟩ ?_
  refine And.intro ⟨(zak hF xs_134 rfl), (zRb rfl)⟩ ?_
  refine And.intro (zak hF xs_134 rfl) (zrd (v := 0) rfl ?_)
  refine And.intro ⟨(zRb rfl), (zRb rfl)⟩ (zbt rfl ?_)
  refine And.intro ⟨(zak hF xs_134 rfl), (zRb rfl)⟩ ?_
  refine And.intro ⟨(zak hF xs_134 rfl), (zRb rfl)⟩ ?_
  refine And.intro ⟨(zak hF xs_134 rfl), (zRb rfl)⟩ ?_
  refine And.intro ⟨(zRb rfl), (zRb rfl)⟩ (zbf rfl ?_)
  refine And.intro (zak hF xs_134 rfl) (zrdR (v := some 137) (zfR (k := 134) (j := 6) hF zr_134_6 rfl) ?_)
  refine And.intro ⟨zx0 rfl, (zplk hF xs_137 rfl rfl), (zRb rfl)⟩ ?_
  refine And.intro ⟨(zRb rfl), (zRb rfl)⟩ (zbf rfl ?_)
  refine And.intro (zak hF xs_134 rfl) (zrdR (v := some 137) (zfR (k := 134) (j := 6) hF zr_134_6 rfl) ?_)
  refine And.intro ⟨zx0 rfl, (zplk hF xs_137 rfl rfl), (zRb rfl)⟩ ?_
  refine And.intro ⟨(zRb rfl), (zRb rfl)⟩ (zbf rfl ?_)
  refine And.intro (zak hF xs_134 rfl) (zrdR (v := some 137) (zfR (k := 134) (j := 6) hF zr_134_6 rfl) ?_)
  refine And.intro ⟨zx0 rfl, (zplk hF xs_137 rfl rfl), (zRb rfl)⟩ ?_
  refine And.intro ⟨(zRb rfl), (zRb rfl)⟩ (zbf rfl ?_)
  refine And.intro (zak hF xs_134 rfl) (zrdR (v := some 137) (zfR (k := 134) (j := 6) hF zr_134_6 rfl) ?_)
  refine And.intro ⟨zx0 rfl, (zplk hF xs_137 rfl rfl), (zRb rfl)⟩ ?_
  refine And.intro ⟨(zRb rfl), (zRb rfl)⟩ (zbf rfl ?_)
  refine And.intro (zak hF xs_134 rfl) (zrdR (v := some 137) (zfR (k := 134) (j := 6) hF zr_134_6 rfl) ?_)
  refine And.intro ⟨zx0 rfl, (zplk hF xs_137 rfl rfl), (zRb rfl)⟩ ?_
  refine And.intro ⟨(zRb rfl), (zRb rfl)⟩ (zbf rfl ?_)
  refine And.intro (zak hF xs_134 rfl) (zrdR (v := some 137) (zfR (k := 134) (j := 6) hF zr_134_6 rfl) ?_)
  refine And.intro ⟨zx0 rfl, (zplk hF xs_137 rfl rfl), (zRb rfl)⟩ ?_
  refine And.intro ⟨(zRb rfl), (zRb rfl)⟩ (zbf rfl ?_)
  refine And.intro (zak hF xs_134 rfl) (zrdR (v := some 137) (zfR (k := 134) (j := 6) hF zr_134_6 rfl) ?_)
  refine And.intro ⟨zx0 rfl, (zplk hF xs_137 rfl rfl), (zRb rfl)⟩ ?_
  refine And.intro ⟨(zRb rfl), (zRb rfl)⟩ (zbf rfl ?_)
  refine And.intro (zak hF xs_134 rfl) (zrdR (v := some 137) (zfR (k := 134) (j := 6) hF zr_134_6 rfl) ?_)
  refine And.intro ⟨zx0 rfl, (zplk hF xs_137 rfl rfl), (zRb rfl)⟩ ?_
  refine And.intro ⟨(zRb rfl), (zRb rfl)⟩ (zbf rfl ?_)
  refine And.intro (zak hF xs_134 rfl) (zrdR (v := some 137) (zfR (k := 134) (j := 6) hF zr_134_6 rfl) ?_)
  refine And.intro ⟨zx0 rfl, (zplk hF xs_137 rfl rfl), (zRb rfl)⟩ ?_
  refine And.intro ⟨(zRb rfl), (zRb rfl)⟩ (zbf rfl ?_)
  refine And.intro (zak hF xs_134 rfl) (zrdR (v := some 137) (zfR (k := 134) (j := 6) hF zr_134_6 rfl) ?_)
  refine And.intro ⟨zx0 rfl, (zplk hF xs_137 rfl rfl), (zRb rfl)⟩ ?_
  refine And.intro ⟨(zRb rfl), (zRb rfl)⟩ (zbf rfl ?_)
  refine And.intro (zak hF xs_134 rfl) (zrdR (v := some 137) (zfR (k := 134) (j := 6) hF zr_134_6 rfl) ?_)
  refine And.intro ⟨zx0 rfl, (zplk hF xs_137 rfl rfl), (zRb rfl)⟩ ?_
  refine And.intro ⟨(zRb rfl), (zRb rfl)⟩ (zbf rfl ?_)
  refine And.intro (zak hF xs_134 rfl) (zrdR (v := some 137) (zfR (k := 134) (j := 6) hF zr_134_6 rfl) ?_)
  refine And.intro ⟨zx0 rfl, (zplk hF xs_137 rfl rfl), (zRb rfl)⟩ ?_
  refine And.intro ⟨(zRb rfl), (zRb rfl)⟩ (zbf rfl ?_)
  refine And.intro (zak hF xs_134 rfl) (zrdR (v := some 137) (zfR (k := 134) (j := 6) hF zr_134_6 rfl) ?_)
  refine And.intro ⟨zx0 rfl, (zplk hF xs_137 rfl rfl), (zRb rfl)⟩ ?_
  refine And.intro ⟨(zRb rfl), (zRb rfl)⟩ (zbf rfl ?_)
  refine And.intro (zak hF xs_134 rfl) (zrdR (v := some 137) (zfR (k := 134) (j := 6) hF zr_134_6 rfl) ?_)
  refine And.intro ⟨zx0 rfl, (zplk hF xs_137 rfl rfl), (zRb rfl)⟩ ?_
  refine And.intro ⟨(zRb rfl), (zRb rfl)⟩ (zbf rfl ?_)
  refine And.intro (zak hF xs_134 rfl) (zrdR (v := some 137) (zfR (k := 134) (j := 6) hF zr_134_6 rfl) ?_)
  refine And.intro ⟨zx0 rfl, (zplk hF xs_137 rfl rfl), (zRb rfl)⟩ ?_
  refine And.intro ⟨(zRb rfl), (zRb rfl)⟩ (zbf rfl ?_)
  refine And.intro (zak hF xs_134 rfl) (zrdR (v := some 137) (zfR (k := 134) (j := 6) hF zr_134_6 rfl) ?_)
  refine And.intro ⟨zx0 rfl, (zplk hF xs_137 rfl rfl), (zRb rfl)⟩ ?_
  refine And.intro ⟨(zRb rfl), (zRb rfl)⟩ (zbf rfl ?_)
  refine And.intro (zak hF xs_134 rfl) (zrdR (v := some 137) (zfR (k := 134) (j := 6) hF zr_134_6 rfl) ?_)
  refine And.intro ⟨zx0 rfl, (zplk hF xs_137 rfl rfl), (zRb rfl)⟩ ?_
  refine And.intro ⟨(zRb rfl), (zRb rfl)⟩ (zbf rfl ?_)
  refine And.intro (zak hF xs_134 rfl) (zrdR (v := some 137) (zfR (k := 134) (j := 6) hF zr_134_6 rfl) ?_)
  refine And.intro ⟨zx0 rfl, (zplk hF xs_137 rfl rfl), (zRb rfl)⟩ ?_
  refine And.intro ⟨(zRb rfl), (zRb rfl)⟩ (zbf rfl ?_)
  refine And.intro (zak hF xs_134 rfl) (zrdR (v := some 137) (zfR (k := 134) (j := 6) hF zr_134_6 rfl) ?_)
  refine And.intro ⟨zx0 rfl, (zplk hF xs_137 rfl rfl), (zRb rfl)⟩ ?_
  refine And.intro ⟨(zRb rfl), (zRb rfl)⟩ (zbf rfl ?_)
  refine And.intro (zak hF xs_134 rfl) (zrdR (v := some 137) (zfR (k := 134) (j := 6) hF zr_134_6 rfl) ?_)
  refine And.intro ⟨zx0 rfl, (zplk hF xs_137 rfl rfl), (zRb rfl)⟩ ?_
  refine And.intro ⟨(zRb rfl), (zRb rfl)⟩ (zbf rfl ?_)
  refine And.intro (zak hF xs_134 rfl) (zrdR (v := some 137) (zfR (k := 134) (j := 6) hF zr_134_6 rfl) ?_)
  refine And.intro ⟨zx0 rfl, (zplk hF xs_137 rfl rfl), (zRb rfl)⟩ ?_
  refine And.intro ⟨(zRb rfl), (zRb rfl)⟩ (zbf rfl ?_)
  refine And.intro (zak hF xs_134 rfl) (zrdR (v := some 137) (zfR (k := 134) (j := 6) hF zr_134_6 rfl) ?_)
  refine And.intro ⟨zx0 rfl, (zplk hF xs_137 rfl rfl), (zRb rfl)⟩ ?_
  refine And.intro ⟨(zRb rfl), (zRb rfl)⟩ (zbf rfl ?_)
  refine And.intro (zak hF xs_134 rfl) (zrdR (v := some 137) (zfR (k := 134) (j := 6) hF zr_134_6 rfl) ?_)
  refine And.intro ⟨zx0 rfl, (zplk hF xs_137 rfl rfl), (zRb rfl)⟩ ?_
  refine And.intro ⟨(zRb rfl), (zRb rfl)⟩ (zbf rfl ?_)
  refine And.intro (zak hF xs_134 rfl) (zrdR (v := some 137) (zfR (k := 134) (j := 6) hF zr_134_6 rfl) ?_)
  refine And.intro ⟨zx0 rfl, (zplk hF xs_137 rfl rfl), (zRb rfl)⟩ ?_
  refine And.intro ⟨(zRb rfl), (zRb rfl)⟩ (zbf rfl ?_)
  refine And.intro (zak hF xs_134 rfl) (zrdR (v := some 137) (zfR (k := 134) (j := 6) hF zr_134_6 rfl) ?_)
  refine And.intro ⟨zx0 rfl, (zplk hF xs_137 rfl rfl), (zRb rfl)⟩ ?_
  refine And.intro ⟨(zRb rfl), (zRb rfl)⟩ (zbf rfl ?_)
  refine And.intro (zak hF xs_134 rfl) (zrdR (v := some 137) (zfR (k := 134) (j := 6) hF zr_134_6 rfl) ?_)
  refine And.intro ⟨zx0 rfl, (zplk hF xs_137 rfl rfl), (zRb rfl)⟩ ?_
  refine And.intro ⟨(zRb rfl), (zRb rfl)⟩ (zbt rfl ?_)
  refine And.intro (zak hF xs_134 rfl) (Exists.intro _ (And.intro (zinl_ok (zT8_20 18)) (And.intro rfl ?_)))
  refine And.intro ⟨(zRb rfl), (zRb rfl)⟩ (zbf rfl ?_)
  refine And.intro (zak hF xs_134 rfl) (zrd (v := (-1)) rfl ?_)
  refine And.intro ⟨(zRb rfl), (zRb rfl)⟩ (zbf rfl ?_)
  refine And.intro (zak hF xs_134 rfl) (zrd (v := 0) rfl ?_)
  refine And.intro (zak hF xs_134 rfl) (Exists.intro _ (And.intro (zinl_ok (zT8_10 17)) (And.intro rfl ?_)))
  refine And.intro (zRb rfl) (zbf rfl ?_)
  refine And.intro (zak hF xs_134 rfl) (zrd (v := 0) rfl ?_)
  refine And.intro ⟨(zRb rfl), (zRb rfl)⟩ (zbt rfl ?_)
  refine And.intro ⟨(zRb rfl), (zRb rfl)⟩ (zbt rfl ?_)
  refine And.intro (zak hF xs_134 rfl) (zrd (v := (-1)) rfl ?_)
  refine And.intro ⟨(zRb rfl), (zRb rfl)⟩ (zbt rfl ?_)
  refine And.intro (zak hF xs_40 rfl) (zrdR (v := some 130) (zfR (k := 40) (j := 15) hF zr_40_15 rfl) ?_)
  refine And.intro (zak hF xs_40 rfl) (zrdR (v := some 134) (zfR (k := 40) (j := 16) hF zr_40_16 rfl) ?_)
  refine And.intro (zak hF xs_40 rfl) ?_
  refine And.intro (zak hF xs_40 rfl) ?_
  refine And.intro (zak hF xs_40 rfl) (zrdR (v := some 138) (zfR (k := 40) (j := 17) hF zr_40_17 rfl) ?_)
  refine And.intro (zak hF xs_40 rfl) (zrdR (v := some 134) rfl ?_)
  refine And.intro (zak hF xs_138 rfl) (Exists.intro _ (And.intro (zinl_ok (zT4_27 19)) (And.intro rfl ?_)))
  refine And.intro (zak hF xs_138 rfl) ?_
  refine And.intro ⟨(zak hF xs_138 rfl), (zRb rfl)⟩ ?_
  refine And.intro ⟨(zak hF xs_138 rfl), (zRb rfl)⟩ ?_
  refine And.intro (zak hF xs_138 rfl) (Exists.intro _ (And.intro (zinl_ok (zT4_5 18)) (And.intro rfl ?_)))
  refine And.intro ⟨(zak hF xs_138 rfl), (zRb rfl)⟩ ?_
  refine And.intro ⟨(zak hF xs_138 rfl), (zRb rfl)⟩ ?_
  refine And.intro ⟨(zak hF xs_138 rfl), (zRb rfl)⟩ ?_
  refine And.intro (zak hF xs_40 rfl) (zrdR (v := some 134) rfl ?_)
  refine And.intro (zak hF xs_134 rfl) (zrd (v := 0) rfl ?_)
  refine And.intro (zak hF xs_40 rfl) (Exists.intro _ (And.intro (zinl_ok (zT11_1 19)) (And.intro rfl ?_)))
  refine And.intro (zRb rfl) (zbt rfl ?_)
  refine And.intro ⟨(zak hF xs_40 rfl), (zRb rfl)⟩ ?_
  refine And.intro (zRb rfl) (zbt rfl ?_)
  refine hQ _ _ _ ?_
  exact ⟨fun k j h => (zu_o h rfl).trans ((zu_o h rfl).trans ((zu_o h rfl).trans ((zu_o h rfl).trans ((zu_o h rfl).trans ((zu_o h rfl).trans ((zu_o h rfl).trans ((zu_o h rfl).trans ((zu_o h rfl).trans ((zu_o h rfl).trans ((zu_o h rfl).trans ((zu_o h rfl).trans ((zu_o h rfl).trans ((zu_o h rfl).trans ((zu_o h rfl).trans ((zu_o h rfl).trans ((zu_o h rfl).trans ((zu_o h rfl).trans ((zu_o h rfl).trans ((zu_o h rfl).trans ((zu_o h rfl).trans ((zu_o h rfl).trans ((zu_o h rfl).trans ((zu_o h rfl).trans ((zu_o h rfl).trans ((zu_o h rfl).trans ((zu_o h rfl).trans ((zu_o h rfl).trans ((zu_o h rfl).trans ((zu_o h rfl).trans ((zu_o h rfl).trans ((zu_o h rfl).trans ((zu_o h rfl).trans ((zu_o h rfl).trans ((zu_o h rfl).trans ((zu_o h rfl).trans ((zu_o h rfl).trans (rfl))))))))))))))))))))))))))))))))))))), fun k j h => rfl, fun k j h => (zu_o h rfl).trans ((zu_o h rfl).trans ((zu_o h rfl).trans (rfl)))⟩
theorem pq_program_21 {I L : ZI} {R : ZR} {S : ZS} {Q : ZQ} (hF : zFr 165 302 I L R S)  (hQ : ∀ I' L' R', zEq 165 302 I L R I' L' R' → Q (some (zvi 0)) I' L' R' S) : zinl 3 (zt21_44 20) [zvr 165] I L R S Q := by
  refine And.intro rfl ?_
  refine And.intro (zak hF xs_165 rfl) (zrd (v := 0) (zfI (k := 165) (j := 2) hF zi_165_2 rfl) ?_)
  refine And.intro ⟨(zRb rfl), (zRb rfl)⟩ (zbt rfl ?_)
  refine And.intro ⟨(zak hF xs_165 rfl), (zRb rfl)⟩ ?_
  refine And.intro (zak hF xs_165 rfl) (zrdR (v := some 234) (zfR (k := 165) (j := 47) hF zr_165_47 rfl) ?_)
  refine And.intro (zak hF xs_234 rfl) (Exists.intro _ (And.intro (zinl_ok (zT12_39 19)) (And.intro rfl ?_)))
  refine And.intro ⟨(zak hF xs_234 rfl), (zRb rfl)⟩ ?_
  refine And.intro (zak hF xs_234 rfl) (zrd (v := 0) (zfI (k := 234) (j := 3) hF zi_234_3 rfl) ?_)
  refine And.intro ⟨(zak hF xs_234 rfl), (zRb rfl)⟩ ?_
  refine And.intro ⟨(zak hF xs_234 rfl), (zRb rfl)⟩ ?_
  refine And.intro ⟨(zak hF xs_234 rfl), (zRb rfl)⟩ ?_
  refine And.intro ⟨(zak hF xs_234 rfl), (zRb rfl)⟩ ?_
  refine And.intro ⟨(zak hF xs_234 rfl), (zRb rfl)⟩ ?_
  refine And.intro ⟨(zak hF xs_234 rfl), (zRb rfl)⟩ ?_
  refine And.intro ⟨(zak hF xs_234 rfl), (zRb rfl)⟩ ?_
  refine And.intro ⟨(zRb rfl), (zRb rfl)⟩ (zbf rfl ?_)
  refine And.intro (zak hF xs_234 rfl) (zrdR (v := some 244) (zfR (k := 234) (j := 12) hF zr_234_12 rfl) ?_)
  refine And.intro (zak hF xs_234 rfl) (zrd (v := 1) rfl ?_)
  refine And.intro ⟨zx0 rfl, (zplk hF xs_244 rfl rfl), (zRb rfl)⟩ ?_
  refine And.intro ⟨(zRb rfl), (zRb rfl)⟩ (zbf rfl ?_)
  refine And.intro (zak hF xs_234 rfl) (zrdR (v := some 244) (zfR (k := 234) (j := 12) hF zr_234_12 rfl) ?_)
  refine And.intro (zak hF xs_234 rfl) (zrd (v := 1) rfl ?_)
  refine And.intro ⟨zx0 rfl, (zplk hF xs_244 rfl rfl), (zRb rfl)⟩ ?_
  refine And.intro ⟨(zRb rfl), (zRb rfl)⟩ (zbf rfl ?_)
  refine And.intro (zak hF xs_234 rfl) (zrdR (v := some 244) (zfR (k := 234) (j := 12) hF zr_234_12 rfl) ?_)
  refine And.intro (zak hF xs_234 rfl) (zrd (v := 1) rfl ?_)
  refine And.intro ⟨zx0 rfl, (zplk hF xs_244 rfl rfl), (zRb rfl)⟩ ?_
  refine And.intro ⟨(zRb rfl), (zRb rfl)⟩ (zbf rfl ?_)
  refine And.intro (zak hF xs_234 rfl) (zrdR (v := some 244) (zfR (k := 234) (j := 12) hF zr_234_12 rfl) ?_)
  refine And.intro (zak hF xs_234 rfl) (zrd (v := 1) rfl ?_)
  refine And.intro ⟨zx0 rfl, (zplk hF xs_244 rfl rfl), (zRb rfl)⟩ ?_
  refine And.intro ⟨(zRb rfl), (zRb rfl)⟩ (zbf rfl ?_)
  refine And.intro (zak hF xs_234 rfl) (zrdR (v := some 244) (zfR (k := 234) (j := 12) hF zr_234_12 rfl) ?_)
  refine And.intro (zak hF xs_234 rfl) (zrd (v := 1) rfl ?_)
  refine And.intro ⟨zx0 rfl, (zplk hF xs_244 rfl rfl), (zRb rfl)⟩ ?_
  refine And.intro ⟨(zRb rfl), (zRb rfl)⟩ (zbf rfl ?_)
  refine And.intro (zak hF xs_234 rfl) (zrdR (v := some 244) (zfR (k := 234) (j := 12) hF zr_234_12 rfl) ?_)
  refine And.intro (zak hF xs_234 rfl) (zrd (v := 1) rfl ?_)
  refine And.intro ⟨zx0 rfl, (zplk hF xs_244 rfl rfl), (zRb rfl)⟩ ?_
  refine And.intro ⟨(zRb rfl), (zRb rfl)⟩ (zbf rfl ?_)
  refine And.intro (zak hF xs_234 rfl) (zrdR (v := some 244) (zfR (k := 234) (j := 12) hF zr_234_12 rfl) ?_)
  refine And.intro (zak hF xs_234 rfl) (zrd (v := 1) rfl ?_)
  refine And.intro ⟨zx0 rfl, (zplk hF xs_244 rfl rfl), (zRb rfl)⟩ ?_
  refine And.intro ⟨(zRb rfl), (zRb rfl)⟩ (zbf rfl ?_)
  refine And.intro (zak hF xs_234 rfl) (zrdR (v := some 244) (zfR (k := 234) (j := 12) hF zr_234_12 rfl) ?_)
  refine And.intro (zak hF xs_234 rfl) (zrd (v := 1) rfl ?_)
  refine And.intro ⟨zx0 rfl, (zplk hF xs_244 rfl rfl), (zRb rfl)⟩ ?_
  refine And.intro ⟨(zRb rfl), (zRb rfl)⟩ (zbf rfl ?_)
  refine And.intro (zak hF xs_234 rfl) (zrdR (v := some 244) (zfR (k := 234) (j := 12) hF zr_234_12 rfl) ?_)
  refine And.intro (zak hF xs_234 rfl) (zrd (v := 1) rfl ?_)
  refine And.intro ⟨zx0 rfl, (zplk hF xs_244 rfl rfl), (zRb rfl)⟩ ?_
  refine And.intro ⟨(zRb rfl), (zRb rfl)⟩ (zbf rfl ?_)
  refine And.intro (zak hF xs_234 rfl) (zrdR (v := some 244) (zfR (k := 234) (j := 12) hF zr_234_12 rfl) ?_)
  refine And.intro (zak hF xs_234 rfl) (zrd (v := 1) rfl ?_)
  refine And.intro ⟨zx0 rfl, (zplk hF xs_244 rfl rfl), (zRb rfl)⟩ ?_
  refine And.intro ⟨(zRb rfl), (zRb rfl)⟩ (zbf rfl ?_)
  refine And.intro (zak hF xs_234 rfl) (zrdR (v := some 244) (zfR (k := 234) (j := 12) hF zr_234_12 rfl) ?_)
  refine And.intro (zak hF xs_234 rfl) (zrd (v := 1) rfl ?_)
  refine And.intro ⟨zx0 rfl, (zplk hF xs_244 rfl rfl), (zRb rfl)⟩ ?_
  refine And.intro ⟨(zRb rfl), (zRb rfl)⟩ (zbf rfl ?_)
  refine And.intro (zak hF xs_234 rfl) (zrdR (v := some 244) (zfR (k := 234) (j := 12) hF zr_234_12 rfl) ?_)
  refine And.intro (zak hF xs_234 rfl) (zrd (v := 1) rfl ?_)
  refine And.intro ⟨zx0 rfl, (zplk hF xs_244 rfl rfl), (zRb rfl)⟩ ?_
  refine And.intro ⟨(zRb rfl), (zRb rfl)⟩ (zbf rfl ?_)
  refine And.intro (zak hF xs_234 rfl) (zrdR (v := some 244) (zfR (k := 234) (j := 12) hF zr_234_12 rfl) ?_)
  refine And.intro (zak hF xs_234 rfl) (zrd (v := 1) rfl ?_)
  refine And.intro ⟨zx0 rfl, (zplk hF xs_244 rfl rfl), (zRb rfl)⟩ ?_
  refine And.intro ⟨(zRb rfl), (zRb rfl)⟩ (zbf rfl ?_)
  refine And.intro (zak hF xs_234 rfl) (zrdR (v := some 244) (zfR (k := 234) (j := 12) hF zr_234_12 rfl) ?_)
  refine And.intro (zak hF xs_234 rfl) (zrd (v := 1) rfl ?_)
  refine And.intro ⟨zx0 rfl, (zplk hF xs_244 rfl rfl), (zRb rfl)⟩ ?_
  refine And.intro ⟨(zRb rfl), (zRb rfl)⟩ (zbf rfl ?_)
  refine And.intro (zak hF xs_234 rfl) (zrdR (v := some 244) (zfR (k := 234) (j := 12) hF zr_234_12 rfl) ?_)
  refine And.intro (zak hF xs_234 rfl) (zrd (v := 1) rfl ?_)
  refine And.intro ⟨zx0 rfl, (zplk hF xs_244 rfl rfl), (zRb rfl)⟩ ?_
  refine And.intro ⟨(zRb rfl), (zRb rfl)⟩ (zbf rfl ?_)
  refine And.intro (zak hF xs_234 rfl) (zrdR (v := some 244) (zfR (k := 234) (j := 12) hF zr_234_12 rfl) ?_)
  refine And.intro (zak hF xs_234 rfl) (zrd (v := 1) rfl ?_)
  refine And.intro ⟨zx0 rfl, (zplk hF xs_244 rfl rfl), (zRb rfl)⟩ ?_
  refine And.intro ⟨(zRb rfl), (zRb rfl)⟩ (zbf rfl ?_)
  refine And.intro (zak hF xs_234 rfl) (zrdR (v := some 244) (zfR (k := 234) (j := 12) hF zr_234_12 rfl) ?_)
  refine And.intro (zak hF xs_234 rfl) (zrd (v := 1) rfl ?_)
  refine And.intro ⟨zx0 rfl, (zplk hF xs_244 rfl rfl), (zRb rfl)⟩ ?_
  refine And.intro ⟨(zRb rfl), (zRb rfl)⟩ (zbf rfl ?_)
  refine And.intro (zak hF xs_234 rfl) (zrdR (v := some 244) (zfR (k := 234) (j := 12) hF zr_234_12 rfl) ?_)
  refine And.intro (zak hF xs_234 rfl) (zrd (v := 1) rfl ?_)
  refine And.intro ⟨zx0 rfl, (zplk hF xs_244 rfl rfl), (zRb rfl)⟩ ?_
  refine And.intro ⟨(zRb rfl), (zRb rfl)⟩ (zbf rfl ?_)
  refine And.intro (zak hF xs_234 rfl) (zrdR (v := some 244) (zfR (k := 234) (j := 12) hF zr_234_12 rfl) ?_)
  refine And.intro (zak hF xs_234 rfl) (zrd (v := 1) rfl ?_)
  refine And.intro ⟨zx0 rfl, (zplk hF xs_244 rfl rfl), (zRb rfl)⟩ ?_
  refine And.intro ⟨(zRb rfl), (zRb rfl)⟩ (zbf rfl ?_)
  refine And.intro (zak hF xs_234 rfl) (zrdR (v := some 244) (zfR (k := 234) (j := 12) hF zr_234_12 rfl) ?_)
  refine And.intro (zak hF xs_234 rfl) (zrd (v := 1) rfl ?_)
  refine And.intro ⟨zx0 rfl, (zplk hF xs_244 rfl rfl), (zRb rfl)⟩ ?_
  refine And.intro ⟨(zRb rfl), (zRb rfl)⟩ (zbf rfl ?_)
  refine And.intro (zak hF xs_234 rfl) (zrdR (v := some 244) (zfR (k := 234) (j := 12) hF zr_234_12 rfl) ?_)
  refine And.intro (zak hF xs_234 rfl) (zrd (v := 1) rfl ?_)
  refine And.intro ⟨zx0 rfl, (zplk hF xs_244 rfl rfl), (zRb rfl)⟩ ?_
  refine And.intro ⟨(zRb rfl), (zRb rfl)⟩ (zbf rfl ?_)
  refine And.intro (zak hF xs_234 rfl) (zrdR (v := some 244) (zfR (k := 234) (j := 12) hF zr_234_12 rfl) ?_)
  refine And.intro (zak hF xs_234 rfl) (zrd (v := 1) rfl ?_)
  refine And.intro ⟨zx0 rfl, (zplk hF xs_244 rfl rfl), (zRb rfl)⟩ ?_
  refine And.intro ⟨(zRb rfl), (zRb rfl)⟩ (zbf rfl ?_)
  refine And.intro (zak hF xs_234 rfl) (zrdR (v := some 244) (zfR (k := 234) (j := 12) hF zr_234_12 rfl) ?_)
  refine And.intro (zak hF xs_234 rfl) (zrd (v := 1) rfl ?_)
  refine And.intro ⟨zx0 rfl, (zplk hF xs_244 rfl rfl), (zRb rfl)⟩ ?_
  refine And.intro ⟨(zRb rfl), (zRb rfl)⟩ (zbf rfl ?_)
  refine And.intro (zak hF xs_234 rfl) (zrdR (v := some 244) (zfR (k := 234) (j := 12) hF zr_234_12 rfl) ?_)
  refine And.intro (zak hF xs_234 rfl) (zrd (v := 1) rfl ?_)
  refine And.intro ⟨zx0 rfl, (zplk hF xs_244 rfl rfl), (zRb rfl)⟩ ?_
  refine And.intro ⟨(zRb rfl), (zRb rfl)⟩ (zbf rfl ?_)
  refine And.intro (zak hF xs_234 rfl) (zrdR (v := some 244) (zfR (k := 234) (j := 12) hF zr_234_12 rfl) ?_)
  refine And.intro (zak hF xs_234 rfl) (zrd (v := 1) rfl ?_)
  refine And.intro ⟨zx0 rfl, (zplk hF xs_244 rfl rfl), (zRb rfl)⟩ ?_
  refine And.intro ⟨(zRb rfl), (zRb rfl)⟩ (zbf rfl ?_)
  refine And.intro (zak hF xs_234 rfl) (zrdR (v := some 244) (zfR (k := 234) (j := 12) hF zr_234_12 rfl) ?_)
  refine And.intro (zak hF xs_234 rfl) (zrd (v := 1) rfl ?_)
  refine And.intro ⟨zx0 rfl, (zplk hF xs_244 rfl rfl), (zRb rfl)⟩ ?_
  refine And.intro ⟨(zRb rfl), (zRb rfl)⟩ (zbt rfl ?_)
  refine And.intro (zak hF xs_234 rfl) (zrd (v := (-1)) rfl ?_)
  refine And.intro ⟨(zRb rfl), (zRb rfl)⟩ (zbf rfl ?_)
  refine And.intro (zak hF xs_234 rfl) (zrd (v := 0) rfl ?_)
  refine And.intro (zak hF xs_234 rfl) (zrd (v := 0) (zfI (k := 234) (j := 1) hF zi_234_1 rfl) ?_)
  refine And.intro ⟨(zRb rfl), (zRb rfl)⟩ (zbf rfl ?_)
  refine And.intro (zak hF xs_234 rfl) (zrd (v := 0) rfl ?_)
  refine And.intro (zRb rfl) (zbt rfl ?_)
  refine And.intro (zak hF xs_234 rfl) (zrd (v := 0) (zfI (k := 234) (j := 1) hF zi_234_1 rfl) ?_)
  refine And.intro ⟨(zak hF xs_234 rfl), (zRb rfl)⟩ ?_
  refine And.intro (zak hF xs_234 rfl) (zrd (v := (-1)) rfl ?_)
  refine And.intro ⟨(zRb rfl), (zRb rfl)⟩ (zbt rfl ?_)
  refine And.intro (zak hF xs_234 rfl) (Exists.intro _ (And.intro (zinl_ok (zT12_34 18)) (And.intro rfl ?_)))
  refine And.intro (zak hF xs_234 rfl) (zrd (v := 1) rfl ?_)
  refine And.intro (zak hF xs_234 rfl) (zrd (v := 0) rfl ?_)
  refine And.intro (zak hF xs_234 rfl) (zrdR (v := some 238) (zfR (k := 234) (j := 6) hF zr_234_6 rfl) ?_)
  refine And.intro ⟨zx0 rfl, (zplk hF xs_238 rfl rfl), (zRb rfl)⟩ ?_
  refine And.intro (zak hF xs_234 rfl) (zrdR (v := some 239) (zfR (k := 234) (j := 7) hF zr_234_7 rfl) ?_)
  refine And.intro ⟨zx0 rfl, (zplk hF xs_239 rfl rfl), (zRb rfl)⟩ ?_
  refine And.intro (zak hF xs_234 rfl) (zrdR (v := some 240) (zfR (k := 234) (j := 8) hF zr_234_8 rfl) ?_)
  refine And.intro ⟨zx0 rfl, (zplk hF xs_240 rfl rfl), (zRb rfl)⟩ ?_
  refine And.intro (zak hF xs_234 rfl) (zrdR (v := some 241) (zfR (k := 234) (j := 9) hF zr_234_9 rfl) ?_)
  refine And.intro ⟨zx0 rfl, (zplk hF xs_241 rfl rfl), (zRb rfl)⟩ ?_
  refine And.intro (zak hF xs_234 rfl) (zrdR (v := some 242) (zfR (k := 234) (j := 10) hF zr_234_10 rfl) ?_)
  refine And.intro ⟨zx0 rfl, (zplk hF xs_242 rfl rfl), (zRb rfl)⟩ ?_
  refine And.intro (zak hF xs_234 rfl) (zrdR (v := some 243) (zfR (k := 234) (j := 11) hF zr_234_11 rfl) ?_)
  refine And.intro ⟨zx0 rfl, (zplk hF xs_243 rfl rfl), (zRb rfl)⟩ ?_
  refine And.intro (zak hF xs_234 rfl) (zrd (v := 0) rfl ?_)
  refine And.intro ⟨(zak hF xs_234 rfl), (zRb rfl)⟩ ?_
  refine And.intro (zak hF xs_234 rfl) (zrd (v := 1) rfl ?_)
  refine And.intro ⟨(zRb rfl), (zRb rfl)⟩ (zbt rfl ?_)
  refine And.intro (zak hF xs_234 rfl) (zrdR (v := some 236) (zfR (k := 234) (j := 4) hF zr_234_4 rfl) ?_)
  refine And.intro (zak hF xs_234 rfl) (zrd (v := 1) rfl ?_)
  refine And.intro ⟨zx0 rfl, (zplk hF xs_236 rfl rfl), (zRb rfl)⟩ ?_
  refine And.intro (zak hF xs_234 rfl) (zrd (v := 1) rfl ?_)
  refine And.intro ⟨(zak hF xs_234 rfl), (zRb rfl)⟩ ?_
  refine And.intro (zak hF xs_234 rfl) (Exists.intro _ (And.intro (zinl_ok (zT12_18 18)) (And.intro rfl ?_)))
  refine And.intro ⟨(zRb rfl), (zRb rfl)⟩ (zbf rfl ?_)
  refine And.intro (zak hF xs_234 rfl) (zrdR (v := some 253) (zfR (k := 234) (j := 33) hF zr_234_33 rfl) ?_)
  refine And.intro ⟨zx0 rfl, (zplk hF xs_253 rfl rfl), zRL rfl⟩ ?_
  refine And.intro ⟨(zRb rfl), (zRb rfl)⟩ (zbf rfl ?_)
  refine And.intro (zak hF xs_234 rfl) (zrdR (v := some 253) (zfR (k := 234) (j := 33) hF zr_234_33 rfl) ?_)
  refine And.intro ⟨zx0 rfl, (zplk hF xs_253 rfl rfl), zRL rfl⟩ ?_
  refine And.intro ⟨(zRb rfl), (zRb rfl)⟩ (zbf rfl ?_)
  refine And.intro (zak hF xs_234 rfl) (zrdR (v := some 253) (zfR (k := 234) (j := 33) hF zr_234_33 rfl) ?_)
  refine And.intro ⟨zx0 rfl, (zplk hF xs_253 rfl rfl), zRL rfl⟩ ?_
  refine And.intro ⟨(zRb rfl), (zRb rfl)⟩ (zbf rfl ?_)
  refine And.intro (zak hF xs_234 rfl) (zrdR (v := some 253) (zfR (k := 234) (j := 33) hF zr_234_33 rfl) ?_)
  refine And.intro ⟨zx0 rfl, (zplk hF xs_253 rfl rfl), zRL rfl⟩ ?_
  refine And.intro ⟨(zRb rfl), (zRb rfl)⟩ (zbf rfl ?_)
  refine And.intro (zak hF xs_234 rfl) (zrdR (v := some 253) (zfR (k := 234) (j := 33) hF zr_234_33 rfl) ?_)
  refine And.intro ⟨zx0 rfl, (zplk hF xs_253 rfl rfl), zRL rfl⟩ ?_
  refine And.intro ⟨(zRb rfl), (zRb rfl)⟩ (zbf rfl ?_)
  refine And.intro (zak hF xs_234 rfl) (zrdR (v := some 253) (zfR (k := 234) (j := 33) hF zr_234_33 rfl) ?_)
  refine And.intro ⟨zx0 rfl, (zplk hF xs_253 rfl rfl), zRL rfl⟩ ?_
  refine And.intro ⟨(zRb rfl), (zRb rfl)⟩ (zbf rfl ?_)
  refine And.intro (zak hF xs_234 rfl) (zrdR (v := some 253) (zfR (k := 234) (j := 33) hF zr_234_33 rfl) ?_)
  refine And.intro ⟨zx0 rfl, (zplk hF xs_253 rfl rfl), zRL rfl⟩ ?_
  refine And.intro ⟨(zRb rfl), (zRb rfl)⟩ (zbf rfl ?_)
  refine And.intro (zak hF xs_234 rfl) (zrdR (v := some 253) (zfR (k := 234) (j := 33) hF zr_234_33 rfl) ?_)
  refine And.intro ⟨zx0 rfl, (zplk hF xs_253 rfl rfl), zRL rfl⟩ ?_
  refine And.intro ⟨(zRb rfl), (zRb rfl)⟩ (zbf rfl ?_)
  refine And.intro (zak hF xs_234 rfl) (zrdR (v := some 253) (zfR (k := 234) (j := 33) hF zr_234_33 rfl) ?_)
  refine And.intro ⟨zx0 rfl, (zplk hF xs_253 rfl rfl), zRL rfl⟩ ?_
  refine And.intro ⟨(zRb rfl), (zRb rfl)⟩ (zbf rfl ?_)
  refine And.intro (zak hF xs_234 rfl) (zrdR (v := some 253) (zfR (k := 234) (j := 33) hF zr_234_33 rfl) ?_)
  refine And.intro ⟨zx0 rfl, (zplk hF xs_253 rfl rfl), zRL rfl⟩ ?_
  refine And.intro ⟨(zRb rfl), (zRb rfl)⟩ (zbf rfl ?_)
  refine And.intro (zak hF xs_234 rfl) (zrdR (v := some 253) (zfR (k := 234) (j := 33) hF zr_234_33 rfl) ?_)
  refine And.intro ⟨zx0 rfl, (zplk hF xs_253 rfl rfl), zRL rfl⟩ ?_
  refine And.intro ⟨(zRb rfl), (zRb rfl)⟩ (zbf rfl ?_)
  refine And.intro (zak hF xs_234 rfl) (zrdR (v := some 253) (zfR (k := 234) (j := 33) hF zr_234_33 rfl) ?_)
  refine And.intro ⟨zx0 rfl, (zplk hF xs_253 rfl rfl), zRL rfl⟩ ?_
  refine And.intro ⟨(zRb rfl), (zRb rfl)⟩ (zbf rfl ?_)
  refine And.intro (zak hF xs_234 rfl) (zrdR (v := some 253) (zfR (k := 234) (j := 33) hF zr_234_33 rfl) ?_)
  refine And.intro ⟨zx0 rfl, (zplk hF xs_253 rfl rfl), zRL rfl⟩ ?_
  refine And.intro ⟨(zRb rfl), (zRb rfl)⟩ (zbf rfl ?_)
  refine And.intro (zak hF xs_234 rfl) (zrdR (v := some 253) (zfR (k := 234) (j := 33) hF zr_234_33 rfl) ?_)
  refine And.intro ⟨zx0 rfl, (zplk hF xs_253 rfl rfl), zRL rfl⟩ ?_
  refine And.intro ⟨(zRb rfl), (zRb rfl)⟩ (zbf rfl ?_)
  refine And.intro (zak hF xs_234 rfl) (zrdR (v := some 253) (zfR (k := 234) (j := 33) hF zr_234_33 rfl) ?_)
  refine And.intro ⟨zx0 rfl, (zplk hF xs_253 rfl rfl), zRL rfl⟩ ?_
  refine And.intro ⟨(zRb rfl), (zRb rfl)⟩ (zbf rfl ?_)
  refine And.intro (zak hF xs_234 rfl) (zrdR (v := some 253) (zfR (k := 234) (j := 33) hF zr_234_33 rfl) ?_)
  refine And.intro ⟨zx0 rfl, (zplk hF xs_253 rfl rfl), zRL rfl⟩ ?_
  refine And.intro ⟨(zRb rfl), (zRb rfl)⟩ (zbf rfl ?_)
  refine And.intro (zak hF xs_234 rfl) (zrdR (v := some 253) (zfR (k := 234) (j := 33) hF zr_234_33 rfl) ?_)
  refine And.intro ⟨zx0 rfl, (zplk hF xs_253 rfl rfl), zRL rfl⟩ ?_
  refine And.intro ⟨(zRb rfl), (zRb rfl)⟩ (zbf rfl ?_)
  refine And.intro (zak hF xs_234 rfl) (zrdR (v := some 253) (zfR (k := 234) (j := 33) hF zr_234_33 rfl) ?_)
  refine And.intro ⟨zx0 rfl, (zplk hF xs_253 rfl rfl), zRL rfl⟩ ?_
  refine And.intro ⟨(zRb rfl), (zRb rfl)⟩ (zbf rfl ?_)
  refine And.intro (zak hF xs_234 rfl) (zrdR (v := some 253) (zfR (k := 234) (j := 33) hF zr_234_33 rfl) ?_)
  refine And.intro ⟨zx0 rfl, (zplk hF xs_253 rfl rfl), zRL rfl⟩ ?_
  refine And.intro ⟨(zRb rfl), (zRb rfl)⟩ (zbf rfl ?_)
  refine And.intro (zak hF xs_234 rfl) (zrdR (v := some 253) (zfR (k := 234) (j := 33) hF zr_234_33 rfl) ?_)
  refine And.intro ⟨zx0 rfl, (zplk hF xs_253 rfl rfl), zRL rfl⟩ ?_
  refine And.intro ⟨(zRb rfl), (zRb rfl)⟩ (zbf rfl ?_)
  refine And.intro (zak hF xs_234 rfl) (zrdR (v := some 253) (zfR (k := 234) (j := 33) hF zr_234_33 rfl) ?_)
  refine And.intro ⟨zx0 rfl, (zplk hF xs_253 rfl rfl), zRL rfl⟩ ?_
  refine And.intro ⟨(zRb rfl), (zRb rfl)⟩ (zbf rfl ?_)
  refine And.intro (zak hF xs_234 rfl) (zrdR (v := some 253) (zfR (k := 234) (j := 33) hF zr_234_33 rfl) ?_)
  refine And.intro ⟨zx0 rfl, (zplk hF xs_253 rfl rfl), zRL rfl⟩ ?_
  refine And.intro ⟨(zRb rfl), (zRb rfl)⟩ (zbf rfl ?_)
  refine And.intro (zak hF xs_234 rfl) (zrdR (v := some 253) (zfR (k := 234) (j := 33) hF zr_234_33 rfl) ?_)
  refine And.intro ⟨zx0 rfl, (zplk hF xs_253 rfl rfl), zRL rfl⟩ ?_
  refine And.intro ⟨(zRb rfl), (zRb rfl)⟩ (zbf rfl ?_)
  refine And.intro (zak hF xs_234 rfl) (zrdR (v := some 253) (zfR (k := 234) (j := 33) hF zr_234_33 rfl) ?_)
  refine And.intro ⟨zx0 rfl, (zplk hF xs_253 rfl rfl), zRL rfl⟩ ?_
  refine And.intro ⟨(zRb rfl), (zRb rfl)⟩ (zbf rfl ?_)
  refine And.intro (zak hF xs_234 rfl) (zrdR (v := some 253) (zfR (k := 234) (j := 33) hF zr_234_33 rfl) ?_)
  refine And.intro ⟨zx0 rfl, (zplk hF xs_253 rfl rfl), zRL rfl⟩ ?_
  refine And.intro ⟨(zRb rfl), (zRb rfl)⟩ (zbf rfl ?_)
  refine And.intro (zak hF xs_234 rfl) (zrdR (v := some 253) (zfR (k := 234) (j := 33) hF zr_234_33 rfl) ?_)
  refine And.intro ⟨zx0 rfl, (zplk hF xs_253 rfl rfl), zRL rfl⟩ ?_
  refine And.intro ⟨(zRb rfl), (zRb rfl)⟩ (zbt rfl ?_)
  refine And.intro ⟨(zak hF xs_234 rfl), zRL rfl⟩ ?_
  refine And.intro ⟨(zak hF xs_234 rfl), (zRb rfl)⟩ ?_
  refine And.intro ⟨(zak hF xs_234 rfl), (zRb rfl)⟩ ?_
  refine And.intro ⟨(zak hF xs_234 rfl), (zRb rfl)⟩ ?_
  refine And.intro ⟨(zak hF xs_234 rfl), (zRb rfl)⟩ ?_
  refine And.intro ⟨(zak hF xs_234 rfl), Or.inl rfl⟩ ?_
  refine And.intro ⟨(zak hF xs_234 rfl), (zRb rfl)⟩ ?_
  refine And.intro ⟨(zak hF xs_234 rfl), (zRb rfl)⟩ ?_
  refine And.intro ⟨(zak hF xs_234 rfl), (zRb rfl)⟩ ?_
  refine And.intro ⟨(zak hF xs_234 rfl), (zRb rfl)⟩ ?_
  refine And.intro (zak hF xs_234 rfl) (zrd (v := 0) rfl ?_)
  refine And.intro (zRb rfl) (zbt rfl ?_)
  refine And.intro ⟨(zak hF xs_165 rfl), (zRb rfl)⟩ ?_
  refine And.intro (zRb rfl) (zbt rfl ?_)
  refine hQ _ _ _ ?_
  exact ⟨fun k j h => (zu_o h rfl).trans ((zu_o h rfl).trans ((zu_o h rfl).trans ((zu_o h rfl).trans ((zu_o h rfl).trans ((zu_o h rfl).trans ((zu_o h rfl).trans ((zu_o h rfl).trans ((zu_o h rfl).trans ((zu_o h rfl).trans ((zu_o h rfl).trans ((zu_o h rfl).trans ((zu_o h rfl).trans ((zu_o h rfl).trans ((zu_o h rfl).trans ((zu_o h rfl).trans ((zu_o h rfl).trans ((zu_o h rfl).trans ((zu_o h rfl).trans ((zu_o h rfl).trans ((zu_o h rfl).trans ((zu_o h rfl).trans ((zu_o h rfl).trans ((zu_o h rfl).trans ((zu_o h rfl).trans ((zu_o h rfl).trans ((zu_o h rfl).trans ((zu_o h rfl).trans ((zu_o h rfl).trans ((zu_o h rfl).trans ((zu_o h rfl).trans ((zu_o h rfl).trans ((zu_o h rfl).trans ((zu_o h rfl).trans ((zu_o h rfl).trans ((zu_o h rfl).trans ((zu_o h rfl).trans ((zu_o h rfl).trans ((zu_o h rfl).trans ((zu_o h rfl).trans ((zu_o h rfl).trans ((zu_o h rfl).trans ((zu_o h rfl).trans ((zu_o h rfl).trans ((zu_o h rfl).trans ((zu_o h rfl).trans ((zu_o h rfl).trans ((zu_o h rfl).trans ((zu_o h rfl).trans ((zu_o h rfl).trans ((zu_o h rfl).trans ((zu_o h rfl).trans ((zu_o h rfl).trans ((zu_o h rfl).trans ((zu_o h rfl).trans (rfl))))))))))))))))))))))))))))))))))))))))))))))))))))))), fun k j h => (zu_o h rfl).trans ((zu_o h rfl).trans ((zu_o h rfl).trans ((zu_o h rfl).trans ((zu_o h rfl).trans ((zu_o h rfl).trans ((zu_o h rfl).trans ((zu_o h rfl).trans ((zu_o h rfl).trans ((zu_o h rfl).trans ((zu_o h rfl).trans ((zu_o h rfl).trans ((zu_o h rfl).trans ((zu_o h rfl).trans ((zu_o h rfl).trans ((zu_o h rfl).trans ((zu_o h rfl).trans ((zu_o h rfl).trans ((zu_o h rfl).trans ((zu_o h rfl).trans ((zu_o h rfl).trans ((zu_o h rfl).trans ((zu_o h rfl).trans ((zu_o h rfl).trans ((zu_o h rfl).trans ((zu_o h rfl).trans ((zu_o h rfl).trans (rfl))))))))))))))))))))))))))), fun k j h => rfl⟩
theorem pq_facts_11 {I L : ZI} {R : ZR} {S : ZS} {Q : ZQ} (hF : zFr 40 165 I L R S)  (hQ : ∀ I' L' R', zEq 40 165 I L R I' L' R' → Q (some (zvi 0)) I' L' R' S) : zinl 1 (zt11_18 20) [zvr 40] I L R S Q := by
  refine And.intro rfl ?_
  refine And.intro (zak hF xs_40 rfl) (zrdR (v := some 82) (zfR (k := 40) (j := 9) hF zr_40_9 rfl) ?_)
  refine And.intro (zak hF xs_82 rfl) (zrd (v := (-1)) (zfI (k := 82) (j := 0) hF zi_82_0 rfl) ?_)
  refine And.intro ⟨(zRb rfl), (zRb rfl)⟩ (zbf rfl ?_)
  refine And.intro (zak hF xs_40 rfl) (Exists.intro _ (And.intro (zinl_ok (zT11_22 19)) (And.intro rfl ?_)))
  refine And.intro (zak hF xs_40 rfl) (Exists.intro _ (And.intro (zinl_ok (zT11_1 18)) (And.intro rfl ?_)))
  refine And.intro (zRb rfl) (zbf rfl ?_)
  refine And.intro ⟨(zak hF xs_40 rfl), (zRb rfl)⟩ ?_
  refine And.intro (zRb rfl) (zbf rfl ?_)
  refine And.intro ⟨(zRb rfl), (zRb rfl)⟩ (zbt rfl ?_)
  refine And.intro (Or.inl rfl) ?_
  refine And.intro (Or.inl rfl) ?_
  refine hQ _ _ _ ?_
  exact ⟨fun k j h => (zu_o h rfl).trans (rfl), fun k j h => rfl, fun k j h => rfl⟩
theorem pq_facts_21 {I L : ZI} {R : ZR} {S : ZS} {Q : ZQ} (hF : zFr 165 302 I L R S)  (hQ : ∀ I' L' R', zEq 165 302 I L R I' L' R' → Q (some (zvi 0)) I' L' R' S) : zinl 5 (zt21_20 20) [zvr 165] I L R S Q := by
  refine And.intro rfl ?_
  refine And.intro (zak hF xs_165 rfl) (zrdR (v := none) (zfR hF zn_165_12 rfl) ?_)
  refine And.intro (zak hF xs_165 rfl) (Exists.intro _ (And.intro (zinl_ok (zT21_48 19)) (And.intro rfl ?_)))
  refine And.intro ⟨(zak hF xs_165 rfl), (zRb rfl)⟩ ?_
  refine And.intro (zRb rfl) (zbf rfl ?_)
  refine And.intro (Or.inr rfl) ?_
  refine And.intro (zRb rfl) (zbf rfl ?_)
  refine And.intro (Or.inl rfl) ?_
  refine hQ _ _ _ ?_
  exact ⟨fun k j h => (zu_o h rfl).trans (rfl), fun k j h => rfl, fun k j h => rfl⟩
theorem pq_run_11 {I L : ZI} {R : ZR} {S : ZS} {Q : ZQ} (hF : zFr 40 165 I L R S) (a0 : Int) (r0 : r32 a0) (hQ : ∀ v : Int, (((1 ≤ a0 ∧ a0 ≤ 300) → v = 0) ∧ (¬ (1 ≤ a0 ∧ a0 ≤ 300) → v = -1)) → ∀ I' L' R', zEq 40 165 I L R I' L' R' → Q (some (zvi v)) I' L' R' S) : zinl 2 (zt11_43 20) [zvr 40, zvi a0] I L R S Q := by
  refine And.intro rfl ?_
  refine And.intro ⟨(by assumption), (zRb rfl)⟩ (And.intro (fun h1 => ?_) (fun h1 => ?_))
  · refine And.intro (zak hF xs_40 rfl) (Exists.intro _ (And.intro (zinl_ok (zT11_1 19)) (And.intro rfl ?_)))
    refine And.intro (zRb rfl) (zbf rfl ?_)
    refine And.intro ⟨(zak hF xs_40 rfl), (zRb rfl)⟩ ?_
    refine And.intro (zRb rfl) (zbf rfl ?_)
    refine hQ (-1) (by omega) _ _ _ ?_
    exact ⟨fun k j h => (zu_o h rfl).trans (rfl), fun k j h => rfl, fun k j h => rfl⟩
  · refine And.intro ⟨(by assumption), (zRb rfl)⟩ (And.intro (fun h2 => ?_) (fun h2 => ?_))
    · refine And.intro (zak hF xs_40 rfl) (zrdR (v := some 138) (zfR (k := 40) (j := 17) hF zr_40_17 rfl) ?_)
      refine And.intro (zak hF xs_138 rfl) (Exists.intro _ (And.intro (zinl_ok (zT4_13 19)) (And.intro rfl ?_)))
      refine And.intro (zak hF xs_138 rfl) (zrdR (v := some 139) (zfR (k := 138) (j := 1) hF zr_138_1 rfl) ?_)
      refine And.intro (zlnk hF xs_139 rfl rfl) (zrdN (v := 26) (zlnv hF xs_139 rfl) ?_)
      refine And.intro ⟨(zRb rfl), (zRb rfl)⟩ (zbf rfl ?_)
      refine And.intro (zak hF xs_138 rfl) (zrdR (v := some 139) (zfR (k := 138) (j := 1) hF zr_138_1 rfl) ?_)
      refine And.intro ⟨zx0 rfl, (zplk hF xs_139 rfl rfl), zRL rfl⟩ ?_
      refine And.intro (zak hF xs_138 rfl) (zrdR (v := some 139) (zfR (k := 138) (j := 1) hF zr_138_1 rfl) ?_)
      refine And.intro (zlnk hF xs_139 rfl rfl) (zrdN (v := 26) (zlnv hF xs_139 rfl) ?_)
      refine And.intro ⟨(zRb rfl), (zRb rfl)⟩ (zbf rfl ?_)
      refine And.intro (zak hF xs_138 rfl) (zrdR (v := some 139) (zfR (k := 138) (j := 1) hF zr_138_1 rfl) ?_)
      refine And.intro ⟨zx0 rfl, (zplk hF xs_139 rfl rfl), zRL rfl⟩ ?_
      refine And.intro (zak hF xs_138 rfl) (zrdR (v := some 139) (zfR (k := 138) (j := 1) hF zr_138_1 rfl) ?_)
      refine And.intro (zlnk hF xs_139 rfl rfl) (zrdN (v := 26) (zlnv hF xs_139 rfl) ?_)
      refine And.intro ⟨(zRb rfl), (zRb rfl)⟩ (zbf rfl ?_)
      refine And.intro (zak hF xs_138 rfl) (zrdR (v := some 139) (zfR (k := 138) (j := 1) hF zr_138_1 rfl) ?_)
      refine And.intro ⟨zx0 rfl, (zplk hF xs_139 rfl rfl), zRL rfl⟩ ?_
      refine And.intro (zak hF xs_138 rfl) (zrdR (v := some 139) (zfR (k := 138) (j := 1) hF zr_138_1 rfl) ?_)
      refine And.intro (zlnk hF xs_139 rfl rfl) (zrdN (v := 26) (zlnv hF xs_139 rfl) ?_)
      refine And.intro ⟨(zRb rfl), (zRb rfl)⟩ (zbf rfl ?_)
      refine And.intro (zak hF xs_138 rfl) (zrdR (v := some 139) (zfR (k := 138) (j := 1) hF zr_138_1 rfl) ?_)
      refine And.intro ⟨zx0 rfl, (zplk hF xs_139 rfl rfl), zRL rfl⟩ ?_
      refine And.intro (zak hF xs_138 rfl) (zrdR (v := some 139) (zfR (k := 138) (j := 1) hF zr_138_1 rfl) ?_)
      refine And.intro (zlnk hF xs_139 rfl rfl) (zrdN (v := 26) (zlnv hF xs_139 rfl) ?_)
      refine And.intro ⟨(zRb rfl), (zRb rfl)⟩ (zbf rfl ?_)
      refine And.intro (zak hF xs_138 rfl) (zrdR (v := some 139) (zfR (k := 138) (j := 1) hF zr_138_1 rfl) ?_)
      refine And.intro ⟨zx0 rfl, (zplk hF xs_139 rfl rfl), zRL rfl⟩ ?_
      refine And.intro (zak hF xs_138 rfl) (zrdR (v := some 139) (zfR (k := 138) (j := 1) hF zr_138_1 rfl) ?_)
      refine And.intro (zlnk hF xs_139 rfl rfl) (zrdN (v := 26) (zlnv hF xs_139 rfl) ?_)
      refine And.intro ⟨(zRb rfl), (zRb rfl)⟩ (zbf rfl ?_)
      refine And.intro (zak hF xs_138 rfl) (zrdR (v := some 139) (zfR (k := 138) (j := 1) hF zr_138_1 rfl) ?_)
      refine And.intro ⟨zx0 rfl, (zplk hF xs_139 rfl rfl), zRL rfl⟩ ?_
      refine And.intro (zak hF xs_138 rfl) (zrdR (v := some 139) (zfR (k := 138) (j := 1) hF zr_138_1 rfl) ?_)
      refine And.intro (zlnk hF xs_139 rfl rfl) (zrdN (v := 26) (zlnv hF xs_139 rfl) ?_)
      refine And.intro ⟨(zRb rfl), (zRb rfl)⟩ (zbf rfl ?_)
      refine And.intro (zak hF xs_138 rfl) (zrdR (v := some 139) (zfR (k := 138) (j := 1) hF zr_138_1 rfl) ?_)
      refine And.intro ⟨zx0 rfl, (zplk hF xs_139 rfl rfl), zRL rfl⟩ ?_
      refine And.intro (zak hF xs_138 rfl) (zrdR (v := some 139) (zfR (k := 138) (j := 1) hF zr_138_1 rfl) ?_)
      refine And.intro (zlnk hF xs_139 rfl rfl) (zrdN (v := 26) (zlnv hF xs_139 rfl) ?_)
      refine And.intro ⟨(zRb rfl), (zRb rfl)⟩ (zbf rfl ?_)
      refine And.intro (zak hF xs_138 rfl) (zrdR (v := some 139) (zfR (k := 138) (j := 1) hF zr_138_1 rfl) ?_)
      refine And.intro ⟨zx0 rfl, (zplk hF xs_139 rfl rfl), zRL rfl⟩ ?_
      refine And.intro (zak hF xs_138 rfl) (zrdR (v := some 139) (zfR (k := 138) (j := 1) hF zr_138_1 rfl) ?_)
      refine And.intro (zlnk hF xs_139 rfl rfl) (zrdN (v := 26) (zlnv hF xs_139 rfl) ?_)
      refine And.intro ⟨(zRb rfl), (zRb rfl)⟩ (zbf rfl ?_)
      refine And.intro (zak hF xs_138 rfl) (zrdR (v := some 139) (zfR (k := 138) (j := 1) hF zr_138_1 rfl) ?_)
      refine And.intro ⟨zx0 rfl, (zplk hF xs_139 rfl rfl), zRL rfl⟩ ?_
      refine And.intro (zak hF xs_138 rfl) (zrdR (v := some 139) (zfR (k := 138) (j := 1) hF zr_138_1 rfl) ?_)
      refine And.intro (zlnk hF xs_139 rfl rfl) (zrdN (v := 26) (zlnv hF xs_139 rfl) ?_)
      refine And.intro ⟨(zRb rfl), (zRb rfl)⟩ (zbf rfl ?_)
      refine And.intro (zak hF xs_138 rfl) (zrdR (v := some 139) (zfR (k := 138) (j := 1) hF zr_138_1 rfl) ?_)
      refine And.intro ⟨zx0 rfl, (zplk hF xs_139 rfl rfl), zRL rfl⟩ ?_
      refine And.intro (zak hF xs_138 rfl) (zrdR (v := some 139) (zfR (k := 138) (j := 1) hF zr_138_1 rfl) ?_)
      refine And.intro (zlnk hF xs_139 rfl rfl) (zrdN (v := 26) (zlnv hF xs_139 rfl) ?_)
      refine And.intro ⟨(zRb rfl), (zRb rfl)⟩ (zbf rfl ?_)
      refine And.intro (zak hF xs_138 rfl) (zrdR (v := some 139) (zfR (k := 138) (j := 1) hF zr_138_1 rfl) ?_)
      refine And.intro ⟨zx0 rfl, (zplk hF xs_139 rfl rfl), zRL rfl⟩ ?_
      refine And.intro (zak hF xs_138 rfl) (zrdR (v := some 139) (zfR (k := 138) (j := 1) hF zr_138_1 rfl) ?_)
      refine And.intro (zlnk hF xs_139 rfl rfl) (zrdN (v := 26) (zlnv hF xs_139 rfl) ?_)
      refine And.intro ⟨(zRb rfl), (zRb rfl)⟩ (zbf rfl ?_)
      refine And.intro (zak hF xs_138 rfl) (zrdR (v := some 139) (zfR (k := 138) (j := 1) hF zr_138_1 rfl) ?_)
      refine And.intro ⟨zx0 rfl, (zplk hF xs_139 rfl rfl), zRL rfl⟩ ?_
      refine And.intro (zak hF xs_138 rfl) (zrdR (v := some 139) (zfR (k := 138) (j := 1) hF zr_138_1 rfl) ?_)
      refine And.intro (zlnk hF xs_139 rfl rfl) (zrdN (v := 26) (zlnv hF xs_139 rfl) ?_)
      refine And.intro ⟨(zRb rfl), (zRb rfl)⟩ (zbf rfl ?_)
      refine And.intro (zak hF xs_138 rfl) (zrdR (v := some 139) (zfR (k := 138) (j := 1) hF zr_138_1 rfl) ?_)
      refine And.intro ⟨zx0 rfl, (zplk hF xs_139 rfl rfl), zRL rfl⟩ ?_
      refine And.intro (zak hF xs_138 rfl) (zrdR (v := some 139) (zfR (k := 138) (j := 1) hF zr_138_1 rfl) ?_)
      refine And.intro (zlnk hF xs_139 rfl rfl) (zrdN (v := 26) (zlnv hF xs_139 rfl) ?_)
      refine And.intro ⟨(zRb rfl), (zRb rfl)⟩ (zbf rfl ?_)
      refine And.intro (zak hF xs_138 rfl) (zrdR (v := some 139) (zfR (k := 138) (j := 1) hF zr_138_1 rfl) ?_)
      refine And.intro ⟨zx0 rfl, (zplk hF xs_139 rfl rfl), zRL rfl⟩ ?_
      refine And.intro (zak hF xs_138 rfl) (zrdR (v := some 139) (zfR (k := 138) (j := 1) hF zr_138_1 rfl) ?_)
      refine And.intro (zlnk hF xs_139 rfl rfl) (zrdN (v := 26) (zlnv hF xs_139 rfl) ?_)
      refine And.intro ⟨(zRb rfl), (zRb rfl)⟩ (zbf rfl ?_)
      refine And.intro (zak hF xs_138 rfl) (zrdR (v := some 139) (zfR (k := 138) (j := 1) hF zr_138_1 rfl) ?_)
      refine And.intro ⟨zx0 rfl, (zplk hF xs_139 rfl rfl), zRL rfl⟩ ?_
      refine And.intro (zak hF xs_138 rfl) (zrdR (v := some 139) (zfR (k := 138) (j := 1) hF zr_138_1 rfl) ?_)
      refine And.intro (zlnk hF xs_139 rfl rfl) (zrdN (v := 26) (zlnv hF xs_139 rfl) ?_)
      refine And.intro ⟨(zRb rfl), (zRb rfl)⟩ (zbf rfl ?_)
      refine And.intro (zak hF xs_138 rfl) (zrdR (v := some 139) (zfR (k := 138) (j := 1) hF zr_138_1 rfl) ?_)
      refine And.intro ⟨zx0 rfl, (zplk hF xs_139 rfl rfl), zRL rfl⟩ ?_
      refine And.intro (zak hF xs_138 rfl) (zrdR (v := some 139) (zfR (k := 138) (j := 1) hF zr_138_1 rfl) ?_)
      refine And.intro (zlnk hF xs_139 rfl rfl) (zrdN (v := 26) (zlnv hF xs_139 rfl) ?_)
      refine And.intro ⟨(zRb rfl), (zRb rfl)⟩ (zbf rfl ?_)
      refine And.intro (zak hF xs_138 rfl) (zrdR (v := some 139) (zfR (k := 138) (j := 1) hF zr_138_1 rfl) ?_)
      refine And.intro ⟨zx0 rfl, (zplk hF xs_139 rfl rfl), zRL rfl⟩ ?_
      refine And.intro (zak hF xs_138 rfl) (zrdR (v := some 139) (zfR (k := 138) (j := 1) hF zr_138_1 rfl) ?_)
      refine And.intro (zlnk hF xs_139 rfl rfl) (zrdN (v := 26) (zlnv hF xs_139 rfl) ?_)
      refine And.intro ⟨(zRb rfl), (zRb rfl)⟩ (zbf rfl ?_)
      refine And.intro (zak hF xs_138 rfl) (zrdR (v := some 139) (zfR (k := 138) (j := 1) hF zr_138_1 rfl) ?_)
      refine And.intro ⟨zx0 rfl, (zplk hF xs_139 rfl rfl), zRL rfl⟩ ?_
      refine And.intro (zak hF xs_138 rfl) (zrdR (v := some 139) (zfR (k := 138) (j := 1) hF zr_138_1 rfl) ?_)
      refine And.intro (zlnk hF xs_139 rfl rfl) (zrdN (v := 26) (zlnv hF xs_139 rfl) ?_)
      refine And.intro ⟨(zRb rfl), (zRb rfl)⟩ (zbf rfl ?_)
      refine And.intro (zak hF xs_138 rfl) (zrdR (v := some 139) (zfR (k := 138) (j := 1) hF zr_138_1 rfl) ?_)
      refine And.intro ⟨zx0 rfl, (zplk hF xs_139 rfl rfl), zRL rfl⟩ ?_
      refine And.intro (zak hF xs_138 rfl) (zrdR (v := some 139) (zfR (k := 138) (j := 1) hF zr_138_1 rfl) ?_)
      refine And.intro (zlnk hF xs_139 rfl rfl) (zrdN (v := 26) (zlnv hF xs_139 rfl) ?_)
      refine And.intro ⟨(zRb rfl), (zRb rfl)⟩ (zbf rfl ?_)
      refine And.intro (zak hF xs_138 rfl) (zrdR (v := some 139) (zfR (k := 138) (j := 1) hF zr_138_1 rfl) ?_)
      refine And.intro ⟨zx0 rfl, (zplk hF xs_139 rfl rfl), zRL rfl⟩ ?_
      refine And.intro (zak hF xs_138 rfl) (zrdR (v := some 139) (zfR (k := 138) (j := 1) hF zr_138_1 rfl) ?_)
      refine And.intro (zlnk hF xs_139 rfl rfl) (zrdN (v := 26) (zlnv hF xs_139 rfl) ?_)
      refine And.intro ⟨(zRb rfl), (zRb rfl)⟩ (zbf rfl ?_)
      refine And.intro (zak hF xs_138 rfl) (zrdR (v := some 139) (zfR (k := 138) (j := 1) hF zr_138_1 rfl) ?_)
      refine And.intro ⟨zx0 rfl, (zplk hF xs_139 rfl rfl), zRL rfl⟩ ?_
      refine And.intro (zak hF xs_138 rfl) (zrdR (v := some 139) (zfR (k := 138) (j := 1) hF zr_138_1 rfl) ?_)
      refine And.intro (zlnk hF xs_139 rfl rfl) (zrdN (v := 26) (zlnv hF xs_139 rfl) ?_)
      refine And.intro ⟨(zRb rfl), (zRb rfl)⟩ (zbf rfl ?_)
      refine And.intro (zak hF xs_138 rfl) (zrdR (v := some 139) (zfR (k := 138) (j := 1) hF zr_138_1 rfl) ?_)
      refine And.intro ⟨zx0 rfl, (zplk hF xs_139 rfl rfl), zRL rfl⟩ ?_
      refine And.intro (zak hF xs_138 rfl) (zrdR (v := some 139) (zfR (k := 138) (j := 1) hF zr_138_1 rfl) ?_)
      refine And.intro (zlnk hF xs_139 rfl rfl) (zrdN (v := 26) (zlnv hF xs_139 rfl) ?_)
      refine And.intro ⟨(zRb rfl), (zRb rfl)⟩ (zbf rfl ?_)
      refine And.intro (zak hF xs_138 rfl) (zrdR (v := some 139) (zfR (k := 138) (j := 1) hF zr_138_1 rfl) ?_)
      refine And.intro ⟨zx0 rfl, (zplk hF xs_139 rfl rfl), zRL rfl⟩ ?_
      refine And.intro (zak hF xs_138 rfl) (zrdR (v := some 139) (zfR (k := 138) (j := 1) hF zr_138_1 rfl) ?_)
      refine And.intro (zlnk hF xs_139 rfl rfl) (zrdN (v := 26) (zlnv hF xs_139 rfl) ?_)
      refine And.intro ⟨(zRb rfl), (zRb rfl)⟩ (zbf rfl ?_)
      refine And.intro (zak hF xs_138 rfl) (zrdR (v := some 139) (zfR (k := 138) (j := 1) hF zr_138_1 rfl) ?_)
      refine And.intro ⟨zx0 rfl, (zplk hF xs_139 rfl rfl), zRL rfl⟩ ?_
      refine And.intro (zak hF xs_138 rfl) (zrdR (v := some 139) (zfR (k := 138) (j := 1) hF zr_138_1 rfl) ?_)
      refine And.intro (zlnk hF xs_139 rfl rfl) (zrdN (v := 26) (zlnv hF xs_139 rfl) ?_)
      refine And.intro ⟨(zRb rfl), (zRb rfl)⟩ (zbf rfl ?_)
      refine And.intro (zak hF xs_138 rfl) (zrdR (v := some 139) (zfR (k := 138) (j := 1) hF zr_138_1 rfl) ?_)
      refine And.intro ⟨zx0 rfl, (zplk hF xs_139 rfl rfl), zRL rfl⟩ ?_
      refine And.intro (zak hF xs_138 rfl) (zrdR (v := some 139) (zfR (k := 138) (j := 1) hF zr_138_1 rfl) ?_)
      refine And.intro (zlnk hF xs_139 rfl rfl) (zrdN (v := 26) (zlnv hF xs_139 rfl) ?_)
      refine And.intro ⟨(zRb rfl), (zRb rfl)⟩ (zbf rfl ?_)
      refine And.intro (zak hF xs_138 rfl) (zrdR (v := some 139) (zfR (k := 138) (j := 1) hF zr_138_1 rfl) ?_)
      refine And.intro ⟨zx0 rfl, (zplk hF xs_139 rfl rfl), zRL rfl⟩ ?_
      refine And.intro (zak hF xs_138 rfl) (zrdR (v := some 139) (zfR (k := 138) (j := 1) hF zr_138_1 rfl) ?_)
      refine And.intro (zlnk hF xs_139 rfl rfl) (zrdN (v := 26) (zlnv hF xs_139 rfl) ?_)
      refine And.intro ⟨(zRb rfl), (zRb rfl)⟩ (zbt rfl ?_)
      refine And.intro ⟨(zak hF xs_138 rfl), (zRb rfl)⟩ ?_
      refine And.intro ⟨(zak hF xs_138 rfl), (zRb rfl)⟩ ?_
      refine And.intro (zak hF xs_138 rfl) (Exists.intro _ (And.intro (zinl_ok (zT4_5 18)) (And.intro rfl ?_)))
      refine And.intro ⟨(zak hF xs_138 rfl), (zRb rfl)⟩ ?_
      refine And.intro ⟨(zak hF xs_138 rfl), (zRb rfl)⟩ ?_
      refine And.intro ⟨(zak hF xs_138 rfl), (zRb rfl)⟩ ?_
      refine And.intro ⟨(zak hF xs_138 rfl), (by assumption)⟩ ?_
      refine And.intro ⟨(zak hF xs_138 rfl), Or.inl rfl⟩ ?_
      refine And.intro (zak hF xs_138 rfl) (Exists.intro _ (And.intro (zinl_ok (zT4_30 18)) (And.intro rfl ?_)))
      refine And.intro ⟨(zRb rfl), (zRb rfl)⟩ (zbf rfl ?_)
      refine And.intro ⟨(zRb rfl), (zRb rfl)⟩ (zbf rfl ?_)
      refine And.intro (zak hF xs_138 rfl) (Exists.intro _ (And.intro (zinl_ok (zT4_15 17)) (And.intro rfl ?_)))
      refine And.intro (zak hF xs_138 rfl) (zrd (v := 0) rfl ?_)
      refine And.intro (zRb rfl) (zbf rfl ?_)
      refine And.intro (zak hF xs_138 rfl) (zrd (v := 0) rfl ?_)
      refine And.intro (zRb rfl) (zbf rfl ?_)
      refine And.intro (Or.inr rfl) ?_
      refine And.intro (zRb rfl) (zbf rfl ?_)
      refine And.intro ⟨(zRb rfl), (zRb rfl)⟩ (zbf rfl ?_)
      refine And.intro (zak hF xs_138 rfl) (zrdR (v := some 130) (zfR (k := 138) (j := 0) hF zr_138_0 rfl) ?_)
      refine And.intro (zak hF xs_130 rfl) (Exists.intro _ (And.intro (zinl_ok (zT8_10 17)) (And.intro rfl ?_)))
      refine And.intro (zRb rfl) (zbf rfl ?_)
      refine And.intro (zak hF xs_130 rfl) (zrd (v := 0) (zfI (k := 130) (j := 1) hF zi_130_1 rfl) ?_)
      refine And.intro ⟨(zRb rfl), (zRb rfl)⟩ (zbt rfl ?_)
      refine And.intro ⟨(zRb rfl), (zRb rfl)⟩ (zbf rfl ?_)
      refine And.intro (zak hF xs_138 rfl) (zrd (v := 0) rfl ?_)
      refine And.intro (zRb rfl) (zbt rfl ?_)
      refine And.intro (zak hF xs_138 rfl) (zrd (v := 0) rfl ?_)
      refine And.intro (zRb rfl) (zbf rfl ?_)
      refine And.intro (zak hF xs_40 rfl) (Exists.intro _ (And.intro (zinl_ok (zT11_1 19)) (And.intro rfl ?_)))
      refine And.intro (zRb rfl) (zbt rfl ?_)
      refine And.intro ⟨(zak hF xs_40 rfl), (zRb rfl)⟩ ?_
      refine And.intro (zRb rfl) (zbt rfl ?_)
      refine hQ 0 (by omega) _ _ _ ?_
      exact ⟨fun k j h => (zu_o h rfl).trans ((zu_o h rfl).trans ((zu_o h rfl).trans ((zu_o h rfl).trans ((zu_o h rfl).trans ((zu_o h rfl).trans ((zu_o h rfl).trans ((zu_o h rfl).trans (rfl)))))))), fun k j h => (zu_o h rfl).trans ((zu_o h rfl).trans ((zu_o h rfl).trans ((zu_o h rfl).trans ((zu_o h rfl).trans ((zu_o h rfl).trans ((zu_o h rfl).trans ((zu_o h rfl).trans ((zu_o h rfl).trans ((zu_o h rfl).trans ((zu_o h rfl).trans ((zu_o h rfl).trans ((zu_o h rfl).trans ((zu_o h rfl).trans ((zu_o h rfl).trans ((zu_o h rfl).trans ((zu_o h rfl).trans ((zu_o h rfl).trans ((zu_o h rfl).trans ((zu_o h rfl).trans ((zu_o h rfl).trans ((zu_o h rfl).trans ((zu_o h rfl).trans ((zu_o h rfl).trans ((zu_o h rfl).trans ((zu_o h rfl).trans (rfl)))))))))))))))))))))))))), fun k j h => rfl⟩
    · refine And.intro (zak hF xs_40 rfl) (Exists.intro _ (And.intro (zinl_ok (zT11_1 19)) (And.intro rfl ?_)))
      refine And.intro (zRb rfl) (zbf rfl ?_)
      refine And.intro ⟨(zak hF xs_40 rfl), (zRb rfl)⟩ ?_
      refine And.intro (zRb rfl) (zbf rfl ?_)
      refine hQ (-1) (by omega) _ _ _ ?_
      exact ⟨fun k j h => (zu_o h rfl).trans (rfl), fun k j h => rfl, fun k j h => rfl⟩
theorem pq_run_21 {I L : ZI} {R : ZR} {S : ZS} {Q : ZQ} (hF : zFr 165 302 I L R S) (a0 : Int) (r0 : r32 a0) (hQ : ∀ v : Int, (((1 ≤ a0 ∧ a0 ≤ 300) → v = 0) ∧ (¬ (1 ≤ a0 ∧ a0 ≤ 300) → v = -1)) → ∀ I' L' R', zEq 165 302 I L R I' L' R' → Q (some (zvi v)) I' L' R' S) : zinl 3 (zt21_59 20) [zvr 165, zvi a0] I L R S Q := by
  refine And.intro rfl ?_
  refine And.intro (zak hF xs_165 rfl) (zrdR (v := some 234) (zfR (k := 165) (j := 47) hF zr_165_47 rfl) ?_)
  refine And.intro (by assumption) ?_
  refine And.intro (zak hF xs_234 rfl) (Exists.intro _ (And.intro (zinl_ok (zT12_48 19)) (And.intro rfl ?_)))
  refine And.intro ⟨(by constructor <;> omega), (zRL rfl)⟩ (fun z1 (cz1 : (z1 < 0 ↔ a0 < 1) ∧ (0 < z1 ↔ 1 < a0) ∧ r32 z1) => ?_)
  refine And.intro cz1.2.2 (And.intro (fun h2 => ?_) (fun h2 => ?_))
  · refine And.intro ⟨(zak hF xs_234 rfl), (zRb rfl)⟩ ?_
    refine And.intro (zak hF xs_234 rfl) (zrd (v := 1) rfl ?_)
    refine And.intro (zRb rfl) (zbf rfl ?_)
    refine And.intro (zak hF xs_165 rfl) (zrdR (v := some 234) (zfR (k := 165) (j := 47) hF zr_165_47 rfl) ?_)
    refine And.intro (zak hF xs_234 rfl) (Exists.intro _ (And.intro (zinl_ok (zT12_53 19)) (And.intro rfl ?_)))
    refine And.intro (zak hF xs_234 rfl) (zrd (v := 1) rfl ?_)
    refine And.intro (zRb rfl) (zbt rfl ?_)
    refine And.intro (zak hF xs_165 rfl) (Exists.intro _ (And.intro (zinl_ok (zT21_47 19)) (And.intro rfl ?_)))
    refine And.intro ⟨(zak hF xs_165 rfl), (zRb rfl)⟩ ?_
    refine hQ (-1) (by omega) _ _ _ ?_
    exact ⟨fun k j h => (zu_o h rfl).trans ((zu_o h rfl).trans (rfl)), fun k j h => rfl, fun k j h => rfl⟩
  · refine And.intro ⟨(by constructor <;> omega), (zRL rfl)⟩ (fun z3 (cz3 : (z3 < 0 ↔ a0 < 300) ∧ (0 < z3 ↔ 300 < a0) ∧ r32 z3) => ?_)
    refine And.intro cz3.2.2 (And.intro (fun h4 => ?_) (fun h4 => ?_))
    · refine And.intro ⟨(zak hF xs_234 rfl), (zRb rfl)⟩ ?_
      refine And.intro (zak hF xs_234 rfl) (zrd (v := 1) rfl ?_)
      refine And.intro (zRb rfl) (zbf rfl ?_)
      refine And.intro (zak hF xs_165 rfl) (zrdR (v := some 234) (zfR (k := 165) (j := 47) hF zr_165_47 rfl) ?_)
      refine And.intro (zak hF xs_234 rfl) (Exists.intro _ (And.intro (zinl_ok (zT12_53 19)) (And.intro rfl ?_)))
      refine And.intro (zak hF xs_234 rfl) (zrd (v := 1) rfl ?_)
      refine And.intro (zRb rfl) (zbt rfl ?_)
      refine And.intro (zak hF xs_165 rfl) (Exists.intro _ (And.intro (zinl_ok (zT21_47 19)) (And.intro rfl ?_)))
      refine And.intro ⟨(zak hF xs_165 rfl), (zRb rfl)⟩ ?_
      refine hQ (-1) (by omega) _ _ _ ?_
      exact ⟨fun k j h => (zu_o h rfl).trans ((zu_o h rfl).trans (rfl)), fun k j h => rfl, fun k j h => rfl⟩
    · refine And.intro ⟨(zak hF xs_234 rfl), (zRb rfl)⟩ ?_
      refine And.intro (zak hF xs_234 rfl) (zrd (v := 0) rfl ?_)
      refine And.intro (zRb rfl) (zbt rfl ?_)
      refine And.intro (zak hF xs_234 rfl) (Exists.intro _ (And.intro (zinl_ok (zT12_18 18)) (And.intro rfl ?_)))
      refine And.intro ⟨(zRb rfl), (zRb rfl)⟩ (zbf rfl ?_)
      refine And.intro (zak hF xs_234 rfl) (zrdR (v := some 253) (zfR (k := 234) (j := 33) hF zr_234_33 rfl) ?_)
      refine And.intro ⟨zx0 rfl, (zplk hF xs_253 rfl rfl), zRL rfl⟩ ?_
      refine And.intro ⟨(zRb rfl), (zRb rfl)⟩ (zbf rfl ?_)
      refine And.intro (zak hF xs_234 rfl) (zrdR (v := some 253) (zfR (k := 234) (j := 33) hF zr_234_33 rfl) ?_)
      refine And.intro ⟨zx0 rfl, (zplk hF xs_253 rfl rfl), zRL rfl⟩ ?_
      refine And.intro ⟨(zRb rfl), (zRb rfl)⟩ (zbf rfl ?_)
      refine And.intro (zak hF xs_234 rfl) (zrdR (v := some 253) (zfR (k := 234) (j := 33) hF zr_234_33 rfl) ?_)
      refine And.intro ⟨zx0 rfl, (zplk hF xs_253 rfl rfl), zRL rfl⟩ ?_
      refine And.intro ⟨(zRb rfl), (zRb rfl)⟩ (zbf rfl ?_)
      refine And.intro (zak hF xs_234 rfl) (zrdR (v := some 253) (zfR (k := 234) (j := 33) hF zr_234_33 rfl) ?_)
      refine And.intro ⟨zx0 rfl, (zplk hF xs_253 rfl rfl), zRL rfl⟩ ?_
      refine And.intro ⟨(zRb rfl), (zRb rfl)⟩ (zbf rfl ?_)
      refine And.intro (zak hF xs_234 rfl) (zrdR (v := some 253) (zfR (k := 234) (j := 33) hF zr_234_33 rfl) ?_)
      refine And.intro ⟨zx0 rfl, (zplk hF xs_253 rfl rfl), zRL rfl⟩ ?_
      refine And.intro ⟨(zRb rfl), (zRb rfl)⟩ (zbf rfl ?_)
      refine And.intro (zak hF xs_234 rfl) (zrdR (v := some 253) (zfR (k := 234) (j := 33) hF zr_234_33 rfl) ?_)
      refine And.intro ⟨zx0 rfl, (zplk hF xs_253 rfl rfl), zRL rfl⟩ ?_
      refine And.intro ⟨(zRb rfl), (zRb rfl)⟩ (zbf rfl ?_)
      refine And.intro (zak hF xs_234 rfl) (zrdR (v := some 253) (zfR (k := 234) (j := 33) hF zr_234_33 rfl) ?_)
      refine And.intro ⟨zx0 rfl, (zplk hF xs_253 rfl rfl), zRL rfl⟩ ?_
      refine And.intro ⟨(zRb rfl), (zRb rfl)⟩ (zbf rfl ?_)
      refine And.intro (zak hF xs_234 rfl) (zrdR (v := some 253) (zfR (k := 234) (j := 33) hF zr_234_33 rfl) ?_)
      refine And.intro ⟨zx0 rfl, (zplk hF xs_253 rfl rfl), zRL rfl⟩ ?_
      refine And.intro ⟨(zRb rfl), (zRb rfl)⟩ (zbf rfl ?_)
      refine And.intro (zak hF xs_234 rfl) (zrdR (v := some 253) (zfR (k := 234) (j := 33) hF zr_234_33 rfl) ?_)
      refine And.intro ⟨zx0 rfl, (zplk hF xs_253 rfl rfl), zRL rfl⟩ ?_
      refine And.intro ⟨(zRb rfl), (zRb rfl)⟩ (zbf rfl ?_)
      refine And.intro (zak hF xs_234 rfl) (zrdR (v := some 253) (zfR (k := 234) (j := 33) hF zr_234_33 rfl) ?_)
      refine And.intro ⟨zx0 rfl, (zplk hF xs_253 rfl rfl), zRL rfl⟩ ?_
      refine And.intro ⟨(zRb rfl), (zRb rfl)⟩ (zbf rfl ?_)
      refine And.intro (zak hF xs_234 rfl) (zrdR (v := some 253) (zfR (k := 234) (j := 33) hF zr_234_33 rfl) ?_)
      refine And.intro ⟨zx0 rfl, (zplk hF xs_253 rfl rfl), zRL rfl⟩ ?_
      refine And.intro ⟨(zRb rfl), (zRb rfl)⟩ (zbf rfl ?_)
      refine And.intro (zak hF xs_234 rfl) (zrdR (v := some 253) (zfR (k := 234) (j := 33) hF zr_234_33 rfl) ?_)
      refine And.intro ⟨zx0 rfl, (zplk hF xs_253 rfl rfl), zRL rfl⟩ ?_
      refine And.intro ⟨(zRb rfl), (zRb rfl)⟩ (zbf rfl ?_)
      refine And.intro (zak hF xs_234 rfl) (zrdR (v := some 253) (zfR (k := 234) (j := 33) hF zr_234_33 rfl) ?_)
      refine And.intro ⟨zx0 rfl, (zplk hF xs_253 rfl rfl), zRL rfl⟩ ?_
      refine And.intro ⟨(zRb rfl), (zRb rfl)⟩ (zbf rfl ?_)
      refine And.intro (zak hF xs_234 rfl) (zrdR (v := some 253) (zfR (k := 234) (j := 33) hF zr_234_33 rfl) ?_)
      refine And.intro ⟨zx0 rfl, (zplk hF xs_253 rfl rfl), zRL rfl⟩ ?_
      refine And.intro ⟨(zRb rfl), (zRb rfl)⟩ (zbf rfl ?_)
      refine And.intro (zak hF xs_234 rfl) (zrdR (v := some 253) (zfR (k := 234) (j := 33) hF zr_234_33 rfl) ?_)
      refine And.intro ⟨zx0 rfl, (zplk hF xs_253 rfl rfl), zRL rfl⟩ ?_
      refine And.intro ⟨(zRb rfl), (zRb rfl)⟩ (zbf rfl ?_)
      refine And.intro (zak hF xs_234 rfl) (zrdR (v := some 253) (zfR (k := 234) (j := 33) hF zr_234_33 rfl) ?_)
      refine And.intro ⟨zx0 rfl, (zplk hF xs_253 rfl rfl), zRL rfl⟩ ?_
      refine And.intro ⟨(zRb rfl), (zRb rfl)⟩ (zbf rfl ?_)
      refine And.intro (zak hF xs_234 rfl) (zrdR (v := some 253) (zfR (k := 234) (j := 33) hF zr_234_33 rfl) ?_)
      refine And.intro ⟨zx0 rfl, (zplk hF xs_253 rfl rfl), zRL rfl⟩ ?_
      refine And.intro ⟨(zRb rfl), (zRb rfl)⟩ (zbf rfl ?_)
      refine And.intro (zak hF xs_234 rfl) (zrdR (v := some 253) (zfR (k := 234) (j := 33) hF zr_234_33 rfl) ?_)
      refine And.intro ⟨zx0 rfl, (zplk hF xs_253 rfl rfl), zRL rfl⟩ ?_
      refine And.intro ⟨(zRb rfl), (zRb rfl)⟩ (zbf rfl ?_)
      refine And.intro (zak hF xs_234 rfl) (zrdR (v := some 253) (zfR (k := 234) (j := 33) hF zr_234_33 rfl) ?_)
      refine And.intro ⟨zx0 rfl, (zplk hF xs_253 rfl rfl), zRL rfl⟩ ?_
      refine And.intro ⟨(zRb rfl), (zRb rfl)⟩ (zbf rfl ?_)
      refine And.intro (zak hF xs_234 rfl) (zrdR (v := some 253) (zfR (k := 234) (j := 33) hF zr_234_33 rfl) ?_)
      refine And.intro ⟨zx0 rfl, (zplk hF xs_253 rfl rfl), zRL rfl⟩ ?_
      refine And.intro ⟨(zRb rfl), (zRb rfl)⟩ (zbf rfl ?_)
      refine And.intro (zak hF xs_234 rfl) (zrdR (v := some 253) (zfR (k := 234) (j := 33) hF zr_234_33 rfl) ?_)
      refine And.intro ⟨zx0 rfl, (zplk hF xs_253 rfl rfl), zRL rfl⟩ ?_
      refine And.intro ⟨(zRb rfl), (zRb rfl)⟩ (zbf rfl ?_)
      refine And.intro (zak hF xs_234 rfl) (zrdR (v := some 253) (zfR (k := 234) (j := 33) hF zr_234_33 rfl) ?_)
      refine And.intro ⟨zx0 rfl, (zplk hF xs_253 rfl rfl), zRL rfl⟩ ?_
      refine And.intro ⟨(zRb rfl), (zRb rfl)⟩ (zbf rfl ?_)
      refine And.intro (zak hF xs_234 rfl) (zrdR (v := some 253) (zfR (k := 234) (j := 33) hF zr_234_33 rfl) ?_)
      refine And.intro ⟨zx0 rfl, (zplk hF xs_253 rfl rfl), zRL rfl⟩ ?_
      refine And.intro ⟨(zRb rfl), (zRb rfl)⟩ (zbf rfl ?_)
      refine And.intro (zak hF xs_234 rfl) (zrdR (v := some 253) (zfR (k := 234) (j := 33) hF zr_234_33 rfl) ?_)
      refine And.intro ⟨zx0 rfl, (zplk hF xs_253 rfl rfl), zRL rfl⟩ ?_
      refine And.intro ⟨(zRb rfl), (zRb rfl)⟩ (zbf rfl ?_)
      refine And.intro (zak hF xs_234 rfl) (zrdR (v := some 253) (zfR (k := 234) (j := 33) hF zr_234_33 rfl) ?_)
      refine And.intro ⟨zx0 rfl, (zplk hF xs_253 rfl rfl), zRL rfl⟩ ?_
      refine And.intro ⟨(zRb rfl), (zRb rfl)⟩ (zbf rfl ?_)
      refine And.intro (zak hF xs_234 rfl) (zrdR (v := some 253) (zfR (k := 234) (j := 33) hF zr_234_33 rfl) ?_)
      refine And.intro ⟨zx0 rfl, (zplk hF xs_253 rfl rfl), zRL rfl⟩ ?_
      refine And.intro ⟨(zRb rfl), (zRb rfl)⟩ (zbt rfl ?_)
      refine And.intro ⟨(zak hF xs_234 rfl), zRL rfl⟩ ?_
      refine And.intro ⟨(zak hF xs_234 rfl), (zRb rfl)⟩ ?_
      refine And.intro ⟨(zak hF xs_234 rfl), (zRb rfl)⟩ ?_
      refine And.intro ⟨(zak hF xs_234 rfl), (zRb rfl)⟩ ?_
      refine And.intro ⟨(zak hF xs_234 rfl), (zRb rfl)⟩ ?_
      refine And.intro ⟨(zak hF xs_234 rfl), Or.inl rfl⟩ ?_
      refine And.intro ⟨(zak hF xs_234 rfl), (zRb rfl)⟩ ?_
      refine And.intro ⟨(zak hF xs_234 rfl), (zRb rfl)⟩ ?_
      refine And.intro ⟨(zak hF xs_234 rfl), (zRb rfl)⟩ ?_
      refine And.intro ⟨(zak hF xs_234 rfl), (zRb rfl)⟩ ?_
      refine And.intro ⟨(zak hF xs_234 rfl), (by constructor <;> omega)⟩ ?_
      refine And.intro ⟨(zak hF xs_234 rfl), Or.inl rfl⟩ ?_
      refine And.intro ⟨(zak hF xs_234 rfl), (zRb rfl)⟩ ?_
      refine And.intro ⟨(zak hF xs_234 rfl), (zRb rfl)⟩ ?_
      refine And.intro ⟨(zak hF xs_234 rfl), (zRb rfl)⟩ ?_
      refine And.intro ⟨(zak hF xs_234 rfl), (zRb rfl)⟩ ?_
      refine And.intro (zak hF xs_234 rfl) (zrd (v := 0) rfl ?_)
      refine And.intro (zRb rfl) (zbf rfl ?_)
      refine And.intro (zak hF xs_234 rfl) (Exists.intro _ (And.intro (zinl_ok (zT12_55 18)) (And.intro rfl ?_)))
      refine And.intro (zak hF xs_234 rfl) (zrd (v := 0) (zfI (k := 234) (j := 3) hF zi_234_3 rfl) ?_)
      refine And.intro (zak hF xs_234 rfl) (zrd (v := 0) rfl ?_)
      refine And.intro (zak hF xs_234 rfl) (zrdR (v := some 238) (zfR (k := 234) (j := 6) hF zr_234_6 rfl) ?_)
      refine And.intro (zplk hF xs_238 rfl rfl) (zrd (v := 20) (zfI (k := 238) (j := 0) hF zi_238_0 rfl) ?_)
      refine And.intro (zak hF xs_234 rfl) (zrd (v := 0) rfl ?_)
      refine And.intro ⟨(zak hF xs_234 rfl), (zRb rfl)⟩ ?_
      refine And.intro (zRb rfl) (And.intro (And.intro (fun h => absurd h (by decide)) (And.intro (fun h => absurd h (by decide)) (And.intro (fun h => absurd h (by decide)) (And.intro (fun h => absurd h (by decide)) (And.intro (fun h => absurd h (by decide)) (And.intro (fun h => absurd h (by decide)) (And.intro (fun h => absurd h (by decide)) (And.intro (fun h => absurd h (by decide)) (And.intro (fun h => absurd h (by decide)) (And.intro (fun h => absurd h (by decide)) (And.intro (fun h => absurd h (by decide)) (And.intro (fun h => absurd h (by decide)) (And.intro (fun _ => ?_) True.intro))))))))))))) (fun h => absurd h (by decide)))
      refine And.intro ⟨(zak hF xs_234 rfl), Or.inr rfl⟩ ?_
      refine And.intro (zak hF xs_234 rfl) (zrd (v := 1) rfl ?_)
      refine And.intro (zRb rfl) (zbt rfl ?_)
      refine And.intro (zak hF xs_234 rfl) (zrd (v := 0) rfl ?_)
      refine And.intro (zak hF xs_165 rfl) (zrdR (v := some 234) (zfR (k := 165) (j := 47) hF zr_165_47 rfl) ?_)
      refine And.intro (zak hF xs_234 rfl) (Exists.intro _ (And.intro (zinl_ok (zT12_53 19)) (And.intro rfl ?_)))
      refine And.intro (zak hF xs_234 rfl) (zrd (v := 0) rfl ?_)
      refine And.intro (zRb rfl) (zbf rfl ?_)
      refine And.intro (zak hF xs_165 rfl) (Exists.intro _ (And.intro (zinl_ok (zT21_12 19)) (And.intro rfl ?_)))
      refine And.intro ⟨(zak hF xs_165 rfl), (zRb rfl)⟩ ?_
      refine hQ 0 (by omega) _ _ _ ?_
      exact ⟨fun k j h => (zu_o h rfl).trans ((zu_o h rfl).trans ((zu_o h rfl).trans ((zu_o h rfl).trans ((zu_o h rfl).trans ((zu_o h rfl).trans ((zu_o h rfl).trans ((zu_o h rfl).trans ((zu_o h rfl).trans ((zu_o h rfl).trans ((zu_o h rfl).trans ((zu_o h rfl).trans ((zu_o h rfl).trans ((zu_o h rfl).trans ((zu_o h rfl).trans ((zu_o h rfl).trans ((zu_o h rfl).trans ((zu_o h rfl).trans (rfl)))))))))))))))))), fun k j h => (zu_o h rfl).trans ((zu_o h rfl).trans ((zu_o h rfl).trans ((zu_o h rfl).trans ((zu_o h rfl).trans ((zu_o h rfl).trans ((zu_o h rfl).trans ((zu_o h rfl).trans ((zu_o h rfl).trans ((zu_o h rfl).trans ((zu_o h rfl).trans ((zu_o h rfl).trans ((zu_o h rfl).trans ((zu_o h rfl).trans ((zu_o h rfl).trans ((zu_o h rfl).trans ((zu_o h rfl).trans ((zu_o h rfl).trans ((zu_o h rfl).trans ((zu_o h rfl).trans ((zu_o h rfl).trans ((zu_o h rfl).trans ((zu_o h rfl).trans ((zu_o h rfl).trans ((zu_o h rfl).trans ((zu_o h rfl).trans ((zu_o h rfl).trans ((zu_o h rfl).trans (rfl)))))))))))))))))))))))))))), fun k j h => rfl⟩
theorem pq_output_11 {I L : ZI} {R : ZR} {S : ZS} {Q : ZQ} (hF : zFr 40 165 I L R S) (a0 : Int) (r0 : r32 a0) (hQ : ∀ I' L' R', zEq 40 165 I L R I' L' R' → Q (some (zvl 1099511627776)) I' L' R' S) : zinl 2 (zt11_32 20) [zvr 40, zvi a0] I L R S Q := by
  refine And.intro rfl ?_
  refine And.intro (by assumption) (And.intro (fun h1 => ?_) (fun h1 => ?_))
  · refine hQ _ _ _ ?_
    exact ⟨fun k j h => rfl, fun k j h => rfl, fun k j h => rfl⟩
  · refine And.intro (zak hF xs_40 rfl) (zrdR (v := some 138) (zfR (k := 40) (j := 17) hF zr_40_17 rfl) ?_)
    refine And.intro (zak hF xs_138 rfl) (zrd (v := 0) (zfI (k := 138) (j := 8) hF zi_138_8 rfl) ?_)
    refine And.intro ⟨(by assumption), (zRb rfl)⟩ (And.intro (fun h => absurd h (by omega)) (fun _ => ?_))
    refine hQ _ _ _ ?_
    exact ⟨fun k j h => rfl, fun k j h => rfl, fun k j h => rfl⟩
theorem pq_output_21 {I L : ZI} {R : ZR} {S : ZS} {Q : ZQ} (hF : zFr 165 302 I L R S) (a0 : Int) (r0 : r32 a0) (hQ : ∀ I' L' R', zEq 165 302 I L R I' L' R' → Q (some (zvl 1099511627776)) I' L' R' S) : zinl 3 (zt21_42 20) [zvr 165, zvi a0] I L R S Q := by
  refine And.intro rfl ?_
  refine And.intro (zak hF xs_165 rfl) (zrdR (v := some 234) (zfR (k := 165) (j := 47) hF zr_165_47 rfl) ?_)
  refine And.intro (zak hF xs_234 rfl) (Exists.intro _ (And.intro (zinl_ok (zT12_35 19)) (And.intro rfl ?_)))
  refine And.intro (by assumption) (And.intro (fun h1 => ?_) (fun h1 => ?_))
  · refine And.intro ⟨(zak hF xs_234 rfl), (zRb rfl)⟩ ?_
    refine And.intro (zak hF xs_234 rfl) (zrd (v := 1) rfl ?_)
    refine And.intro (zRb rfl) (zbt rfl ?_)
    refine And.intro (zak hF xs_165 rfl) (zrdR (v := some 234) (zfR (k := 165) (j := 47) hF zr_165_47 rfl) ?_)
    refine And.intro (zak hF xs_234 rfl) (Exists.intro _ (And.intro (zinl_ok (zT12_53 19)) (And.intro rfl ?_)))
    refine And.intro (zak hF xs_234 rfl) (zrd (v := 1) rfl ?_)
    refine And.intro (zRb rfl) (zbt rfl ?_)
    refine hQ _ _ _ ?_
    exact ⟨fun k j h => (zu_o h rfl).trans (rfl), fun k j h => rfl, fun k j h => rfl⟩
  · refine And.intro (zak hF xs_234 rfl) (zrd (v := 0) (zfI (k := 234) (j := 36) hF zi_234_36 rfl) ?_)
    refine And.intro ⟨(by assumption), (zRb rfl)⟩ (And.intro (fun _ => ?_) (fun h => absurd h (by omega)))
    refine And.intro ⟨(zak hF xs_234 rfl), (zRb rfl)⟩ ?_
    refine And.intro (zak hF xs_234 rfl) (zrd (v := 1) rfl ?_)
    refine And.intro (zRb rfl) (zbt rfl ?_)
    refine And.intro (zak hF xs_165 rfl) (zrdR (v := some 234) (zfR (k := 165) (j := 47) hF zr_165_47 rfl) ?_)
    refine And.intro (zak hF xs_234 rfl) (Exists.intro _ (And.intro (zinl_ok (zT12_53 19)) (And.intro rfl ?_)))
    refine And.intro (zak hF xs_234 rfl) (zrd (v := 1) rfl ?_)
    refine And.intro (zRb rfl) (zbt rfl ?_)
    refine hQ _ _ _ ?_
    exact ⟨fun k j h => (zu_o h rfl).trans (rfl), fun k j h => rfl, fun k j h => rfl⟩
theorem pq_error_11 {I L : ZI} {R : ZR} {S : ZS} {Q : ZQ} (hF : zFr 40 165 I L R S) (a0 : Int) (r0 : r32 a0) (hQ : ∀ v : Int, (((a0 = 0 ∨ a0 = 2) → v = 0) ∧ (¬ (a0 = 0 ∨ a0 = 2) → v = -1)) → ∀ I' L' R', zEq 40 165 I L R I' L' R' → Q (some (zvi v)) I' L' R' S) : zinl 2 (zt11_16 20) [zvr 40, zvi a0] I L R S Q := by
  refine And.intro rfl ?_
  refine And.intro (zak hF xs_40 rfl) (zrdR (v := some 138) (zfR (k := 40) (j := 17) hF zr_40_17 rfl) ?_)
  refine And.intro (zak hF xs_138 rfl) (Exists.intro _ (And.intro (zinl_ok (zT4_9 19)) (And.intro rfl ?_)))
  refine And.intro (by assumption) (And.intro (And.intro (fun h1 => ?_) (And.intro (fun h1 => ?_) (And.intro (fun h1 => ?_) True.intro))) (fun h1 => ?_))
  · refine And.intro (zak hF xs_138 rfl) (zrd (v := 0) (zfI (k := 138) (j := 13) hF zi_138_13 rfl) ?_)
    refine hQ 0 (by omega) _ _ _ ?_
    exact ⟨fun k j h => rfl, fun k j h => rfl, fun k j h => rfl⟩
  · refine And.intro (zak hF xs_138 rfl) (zrd (v := (-1)) (zfI (k := 138) (j := 14) hF zi_138_14 rfl) ?_)
    refine hQ (-1) (by omega) _ _ _ ?_
    exact ⟨fun k j h => rfl, fun k j h => rfl, fun k j h => rfl⟩
  · refine And.intro (zak hF xs_138 rfl) (zrd (v := 0) (zfI (k := 138) (j := 15) hF zi_138_15 rfl) ?_)
    refine hQ 0 (by omega) _ _ _ ?_
    exact ⟨fun k j h => rfl, fun k j h => rfl, fun k j h => rfl⟩
  · refine hQ (-1) (by omega) _ _ _ ?_
    exact ⟨fun k j h => rfl, fun k j h => rfl, fun k j h => rfl⟩
theorem pq_error_21 {I L : ZI} {R : ZR} {S : ZS} {Q : ZQ} (hF : zFr 165 302 I L R S) (a0 : Int) (r0 : r32 a0) (hQ : ∀ v : Int, (((a0 = 0 ∨ a0 = 2) → v = 0) ∧ (¬ (a0 = 0 ∨ a0 = 2) → v = -1)) → ∀ I' L' R', zEq 165 302 I L R I' L' R' → Q (some (zvi v)) I' L' R' S) : zinl 3 (zt21_17 20) [zvr 165, zvi a0] I L R S Q := by
  refine And.intro rfl ?_
  refine And.intro (zak hF xs_165 rfl) (zrdR (v := some 234) (zfR (k := 165) (j := 47) hF zr_165_47 rfl) ?_)
  refine And.intro (zak hF xs_234 rfl) (Exists.intro _ (And.intro (zinl_ok (zT12_15 19)) (And.intro rfl ?_)))
  refine And.intro (by assumption) (And.intro (fun h1 => ?_) (fun h1 => ?_))
  · refine And.intro ⟨(zak hF xs_234 rfl), (zRb rfl)⟩ ?_
    refine And.intro (zak hF xs_234 rfl) (zrd (v := 1) rfl ?_)
    refine And.intro (zRb rfl) (zbf rfl ?_)
    refine And.intro (zak hF xs_165 rfl) (zrdR (v := some 234) (zfR (k := 165) (j := 47) hF zr_165_47 rfl) ?_)
    refine And.intro (zak hF xs_234 rfl) (Exists.intro _ (And.intro (zinl_ok (zT12_53 19)) (And.intro rfl ?_)))
    refine And.intro (zak hF xs_234 rfl) (zrd (v := 1) rfl ?_)
    refine And.intro (zRb rfl) (zbt rfl ?_)
    refine hQ (-1) (by omega) _ _ _ ?_
    exact ⟨fun k j h => (zu_o h rfl).trans (rfl), fun k j h => rfl, fun k j h => rfl⟩
  · refine And.intro ⟨(by assumption), (zRb rfl)⟩ (And.intro (fun h2 => ?_) (fun h2 => ?_))
    · refine And.intro ⟨(zak hF xs_234 rfl), (zRb rfl)⟩ ?_
      refine And.intro (zak hF xs_234 rfl) (zrd (v := 1) rfl ?_)
      refine And.intro (zRb rfl) (zbf rfl ?_)
      refine And.intro (zak hF xs_165 rfl) (zrdR (v := some 234) (zfR (k := 165) (j := 47) hF zr_165_47 rfl) ?_)
      refine And.intro (zak hF xs_234 rfl) (Exists.intro _ (And.intro (zinl_ok (zT12_53 19)) (And.intro rfl ?_)))
      refine And.intro (zak hF xs_234 rfl) (zrd (v := 1) rfl ?_)
      refine And.intro (zRb rfl) (zbt rfl ?_)
      refine hQ (-1) (by omega) _ _ _ ?_
      exact ⟨fun k j h => (zu_o h rfl).trans (rfl), fun k j h => rfl, fun k j h => rfl⟩
    · refine And.intro ⟨(zak hF xs_234 rfl), (zRb rfl)⟩ ?_
      refine And.intro (zak hF xs_234 rfl) (zrd (v := 0) rfl ?_)
      refine And.intro (zRb rfl) (zbt rfl ?_)
      refine And.intro (by assumption) (And.intro (fun h3 => ?_) (fun h3 => ?_))
      · refine And.intro ⟨(by assumption), (zRb rfl)⟩ (And.intro (fun h4 => ?_) (fun h4 => ?_))
        · refine And.intro (zak hF xs_234 rfl) (zrd (v := 0) (zfI (k := 234) (j := 48) hF zi_234_48 rfl) ?_)
          refine And.intro (zak hF xs_165 rfl) (zrdR (v := some 234) (zfR (k := 165) (j := 47) hF zr_165_47 rfl) ?_)
          refine And.intro (zak hF xs_234 rfl) (Exists.intro _ (And.intro (zinl_ok (zT12_53 19)) (And.intro rfl ?_)))
          refine And.intro (zak hF xs_234 rfl) (zrd (v := 0) rfl ?_)
          refine And.intro (zRb rfl) (zbf rfl ?_)
          refine hQ 0 (by omega) _ _ _ ?_
          exact ⟨fun k j h => (zu_o h rfl).trans (rfl), fun k j h => rfl, fun k j h => rfl⟩
        · refine And.intro (zak hF xs_234 rfl) (zrd (v := (-1)) (zfI (k := 234) (j := 47) hF zi_234_47 rfl) ?_)
          refine And.intro (zak hF xs_165 rfl) (zrdR (v := some 234) (zfR (k := 165) (j := 47) hF zr_165_47 rfl) ?_)
          refine And.intro (zak hF xs_234 rfl) (Exists.intro _ (And.intro (zinl_ok (zT12_53 19)) (And.intro rfl ?_)))
          refine And.intro (zak hF xs_234 rfl) (zrd (v := 0) rfl ?_)
          refine And.intro (zRb rfl) (zbf rfl ?_)
          refine hQ (-1) (by omega) _ _ _ ?_
          exact ⟨fun k j h => (zu_o h rfl).trans (rfl), fun k j h => rfl, fun k j h => rfl⟩
      · refine And.intro (zak hF xs_234 rfl) (zrd (v := 0) (zfI (k := 234) (j := 46) hF zi_234_46 rfl) ?_)
        refine And.intro (zak hF xs_165 rfl) (zrdR (v := some 234) (zfR (k := 165) (j := 47) hF zr_165_47 rfl) ?_)
        refine And.intro (zak hF xs_234 rfl) (Exists.intro _ (And.intro (zinl_ok (zT12_53 19)) (And.intro rfl ?_)))
        refine And.intro (zak hF xs_234 rfl) (zrd (v := 0) rfl ?_)
        refine And.intro (zRb rfl) (zbf rfl ?_)
        refine hQ 0 (by omega) _ _ _ ?_
        exact ⟨fun k j h => (zu_o h rfl).trans (rfl), fun k j h => rfl, fun k j h => rfl⟩
theorem pq_demand_11 {I L : ZI} {R : ZR} {S : ZS} {Q : ZQ} (hF : zFr 40 165 I L R S) (a0 : Int) (r0 : r32 a0) (hQ : ∀ I' L' R', zEq 40 165 I L R I' L' R' → Q (some (zvi (-1))) I' L' R' S) : zinl 2 (zt11_12 20) [zvr 40, zvi a0] I L R S Q := by
  refine And.intro rfl ?_
  refine And.intro (zak hF xs_40 rfl) (zrdR (v := some 138) (zfR (k := 40) (j := 17) hF zr_40_17 rfl) ?_)
  refine And.intro (zak hF xs_138 rfl) (Exists.intro _ (And.intro (zinl_ok (zT4_3 19)) (And.intro rfl ?_)))
  refine And.intro (by assumption) (And.intro (fun h1 => ?_) (fun h1 => ?_))
  · refine hQ _ _ _ ?_
    exact ⟨fun k j h => rfl, fun k j h => rfl, fun k j h => rfl⟩
  · refine And.intro (zak hF xs_138 rfl) (zrd (v := 0) (zfI (k := 138) (j := 10) hF zi_138_10 rfl) ?_)
    refine And.intro ⟨(by assumption), (zRb rfl)⟩ (And.intro (fun h => absurd h (by omega)) (fun _ => ?_))
    refine hQ _ _ _ ?_
    exact ⟨fun k j h => rfl, fun k j h => rfl, fun k j h => rfl⟩
theorem pq_demand_21 {I L : ZI} {R : ZR} {S : ZS} {Q : ZQ} (hF : zFr 165 302 I L R S) (a0 : Int) (r0 : r32 a0) (hQ : ∀ I' L' R', zEq 165 302 I L R I' L' R' → Q (some (zvi (-1))) I' L' R' S) : zinl 2 (zt21_11 20) [zvr 165, zvi a0] I L R S Q := by
  refine And.intro rfl ?_
  refine And.intro (zak hF xs_165 rfl) (zrdR (v := some 234) (zfR (k := 165) (j := 47) hF zr_165_47 rfl) ?_)
  refine And.intro (zak hF xs_234 rfl) (Exists.intro _ (And.intro (zinl_ok (zT12_2 19)) (And.intro rfl ?_)))
  refine And.intro ⟨(zak hF xs_234 rfl), (zRb rfl)⟩ ?_
  refine And.intro (by assumption) (And.intro (fun h1 => ?_) (fun h1 => ?_))
  · refine hQ _ _ _ ?_
    exact ⟨fun k j h => (zu_o h rfl).trans (rfl), fun k j h => rfl, fun k j h => rfl⟩
  · refine And.intro (zak hF xs_234 rfl) (zrd (v := 0) (zfI (k := 234) (j := 38) hF zi_234_38 rfl) ?_)
    refine And.intro ⟨(by assumption), (zRb rfl)⟩ (And.intro (fun h => absurd h (by omega)) (fun _ => ?_))
    refine hQ _ _ _ ?_
    exact ⟨fun k j h => (zu_o h rfl).trans (rfl), fun k j h => rfl, fun k j h => rfl⟩
theorem pq_save_11 {I L : ZI} {R : ZR} {S : ZS} {Q : ZQ} (hF : zFr 40 165 I L R S)  (hQ : ∀ I' L' R', zEq 40 165 I L R I' L' R' → Q (some (zvi (-1))) I' L' R' S) : zinl 1 (zt11_44 20) [zvr 40] I L R S Q := by
  refine And.intro rfl ?_
  refine And.intro (zak hF xs_40 rfl) (zrdR (v := some 145) (zfR (k := 40) (j := 18) hF zr_40_18 rfl) ?_)
  refine And.intro (zak hF xs_40 rfl) (zrdR (v := some 82) (zfR (k := 40) (j := 9) hF zr_40_9 rfl) ?_)
  refine And.intro (zak hF xs_145 rfl) (Exists.intro _ (And.intro (zinl_ok (zT10_12 19)) (And.intro rfl ?_)))
  refine And.intro (zak hF xs_82 rfl) (zrd (v := (-1)) (zfI (k := 82) (j := 0) hF zi_82_0 rfl) ?_)
  refine And.intro ⟨(zRb rfl), (zRb rfl)⟩ (zbt rfl ?_)
  refine And.intro (zak hF xs_40 rfl) (Exists.intro _ (And.intro (zinl_ok (zT11_1 19)) (And.intro rfl ?_)))
  refine And.intro (zRb rfl) (zbf rfl ?_)
  refine And.intro ⟨(zak hF xs_40 rfl), (zRb rfl)⟩ ?_
  refine And.intro (zRb rfl) (zbf rfl ?_)
  refine hQ _ _ _ ?_
  exact ⟨fun k j h => (zu_o h rfl).trans (rfl), fun k j h => rfl, fun k j h => rfl⟩
theorem pq_save_21 {I L : ZI} {R : ZR} {S : ZS} {Q : ZQ} (hF : zFr 165 302 I L R S)  (hQ : ∀ I' L' R', zEq 165 302 I L R I' L' R' → Q (some (zvi (-1))) I' L' R' S) : zinl 3 (zt21_62 20) [zvr 165] I L R S Q := by
  refine And.intro rfl ?_
  refine And.intro (zak hF xs_165 rfl) (zrdR (v := none) (zfR hF zn_165_12 rfl) ?_)
  refine And.intro (zak hF xs_165 rfl) (Exists.intro _ (And.intro (zinl_ok (zT21_47 19)) (And.intro rfl ?_)))
  refine And.intro ⟨(zak hF xs_165 rfl), (zRb rfl)⟩ ?_
  refine hQ _ _ _ ?_
  exact ⟨fun k j h => (zu_o h rfl).trans (rfl), fun k j h => rfl, fun k j h => rfl⟩
theorem pq_drop_11 {I L : ZI} {R : ZR} {S : ZS} {Q : ZQ} (hF : zFr 40 165 I L R S) (a0 : Int) (r0 : r32 a0) (hQ : ∀ I' L' R', zEq 40 165 I L R I' L' R' → Q (some (zvi 0)) I' L' R' S) : zinl 2 (zt11_14 20) [zvr 40, zvi a0] I L R S Q := by
  refine And.intro rfl ?_
  refine And.intro (zak hF xs_40 rfl) (zrdR (v := some 145) (zfR (k := 40) (j := 18) hF zr_40_18 rfl) ?_)
  refine And.intro (zak hF xs_145 rfl) (Exists.intro _ (And.intro (zinl_ok (zT10_5 19)) (And.intro rfl ?_)))
  refine And.intro (zak hF xs_145 rfl) (zrd (v := 0) (zfI (k := 145) (j := 10) hF zi_145_10 rfl) ?_)
  refine And.intro (zRb rfl) (zbt rfl ?_)
  refine And.intro (zak hF xs_145 rfl) (Exists.intro _ (And.intro (zinl_ok (zT10_10 18)) (And.intro rfl ?_)))
  refine And.intro (by assumption) (And.intro (fun h1 => ?_) (fun h1 => ?_))
  · refine And.intro (Or.inl rfl) ?_
    refine And.intro (zRb rfl) (zbf rfl ?_)
    refine And.intro (zak hF xs_40 rfl) (Exists.intro _ (And.intro (zinl_ok (zT11_22 19)) (And.intro rfl ?_)))
    refine And.intro (zak hF xs_40 rfl) (Exists.intro _ (And.intro (zinl_ok (zT11_1 18)) (And.intro rfl ?_)))
    refine And.intro (zRb rfl) (zbf rfl ?_)
    refine And.intro ⟨(zak hF xs_40 rfl), (zRb rfl)⟩ ?_
    refine And.intro (zRb rfl) (zbf rfl ?_)
    refine And.intro ⟨(zRb rfl), (zRb rfl)⟩ (zbt rfl ?_)
    refine And.intro (Or.inl rfl) ?_
    refine And.intro (Or.inl rfl) ?_
    refine hQ _ _ _ ?_
    exact ⟨fun k j h => (zu_o h rfl).trans (rfl), fun k j h => rfl, fun k j h => rfl⟩
  · refine And.intro (zak hF xs_145 rfl) (zrd (v := 0) (zfI (k := 145) (j := 9) hF zi_145_9 rfl) ?_)
    refine And.intro ⟨(by assumption), (zRb rfl)⟩ (And.intro (fun _ => ?_) (fun h => absurd h (by omega)))
    refine And.intro (Or.inl rfl) ?_
    refine And.intro (zRb rfl) (zbf rfl ?_)
    refine And.intro (zak hF xs_40 rfl) (Exists.intro _ (And.intro (zinl_ok (zT11_22 19)) (And.intro rfl ?_)))
    refine And.intro (zak hF xs_40 rfl) (Exists.intro _ (And.intro (zinl_ok (zT11_1 18)) (And.intro rfl ?_)))
    refine And.intro (zRb rfl) (zbf rfl ?_)
    refine And.intro ⟨(zak hF xs_40 rfl), (zRb rfl)⟩ ?_
    refine And.intro (zRb rfl) (zbf rfl ?_)
    refine And.intro ⟨(zRb rfl), (zRb rfl)⟩ (zbt rfl ?_)
    refine And.intro (Or.inl rfl) ?_
    refine And.intro (Or.inl rfl) ?_
    refine hQ _ _ _ ?_
    exact ⟨fun k j h => (zu_o h rfl).trans (rfl), fun k j h => rfl, fun k j h => rfl⟩
theorem pq_drop_21 {I L : ZI} {R : ZR} {S : ZS} {Q : ZQ} (hF : zFr 165 302 I L R S) (a0 : Int) (r0 : r32 a0) (hQ : ∀ I' L' R', zEq 165 302 I L R I' L' R' → Q (some (zvi 0)) I' L' R' S) : zinl 2 (zt21_15 20) [zvr 165, zvi a0] I L R S Q := by
  refine And.intro rfl ?_
  refine And.intro (zak hF xs_165 rfl) (zrdR (v := some 268) (zfR (k := 165) (j := 48) hF zr_165_48 rfl) ?_)
  refine And.intro (zak hF xs_268 rfl) (zrd (v := 0) (zfI (k := 268) (j := 2) hF zi_268_2 rfl) ?_)
  refine And.intro (zRb rfl) (zbt rfl ?_)
  refine And.intro (zak hF xs_165 rfl) (Exists.intro _ (And.intro (zinl_ok (zT21_48 19)) (And.intro rfl ?_)))
  refine And.intro ⟨(zak hF xs_165 rfl), (zRb rfl)⟩ ?_
  refine And.intro (zRb rfl) (zbt rfl ?_)
  refine And.intro (Or.inl rfl) ?_
  refine And.intro (zRb rfl) (zbt rfl ?_)
  refine And.intro (zak hF xs_165 rfl) (zrdR (v := some 268) (zfR (k := 165) (j := 48) hF zr_165_48 rfl) ?_)
  refine And.intro (zak hF xs_268 rfl) (Exists.intro _ (And.intro (zinl_ok (zT13_17 19)) (And.intro rfl ?_)))
  refine And.intro ⟨(zak hF xs_268 rfl), (zRb rfl)⟩ ?_
  refine And.intro ⟨(zak hF xs_268 rfl), (zRb rfl)⟩ ?_
  refine And.intro (zak hF xs_268 rfl) (zrdR (v := some 277) (zfR (k := 268) (j := 16) hF zr_268_16 rfl) ?_)
  refine And.intro ⟨zx0 rfl, (zplk hF xs_277 rfl rfl), (zRb rfl)⟩ ?_
  refine And.intro (zak hF xs_268 rfl) (zrdR (v := some 279) (zfR (k := 268) (j := 18) hF zr_268_18 rfl) ?_)
  refine And.intro ⟨zx0 rfl, (Or.inr ⟨(zplk hF xs_279 rfl rfl), Or.inl rfl⟩)⟩ ?_
  refine And.intro ⟨(zak hF xs_268 rfl), (zRb rfl)⟩ ?_
  refine And.intro (zak hF xs_268 rfl) (zrd (v := 0) rfl ?_)
  refine And.intro (zak hF xs_268 rfl) (zrd (v := 0) (zfI (k := 268) (j := 5) hF zi_268_5 rfl) ?_)
  refine And.intro ⟨(zRb rfl), (zRb rfl)⟩ (zbt rfl ?_)
  refine And.intro (zak hF xs_165 rfl) (zrdR (v := some 268) (zfR (k := 165) (j := 48) hF zr_165_48 rfl) ?_)
  refine And.intro (zak hF xs_268 rfl) (Exists.intro _ (And.intro (zinl_ok (zT13_9 19)) (And.intro rfl ?_)))
  refine And.intro (by assumption) (And.intro (fun h1 => ?_) (fun h1 => ?_))
  · refine And.intro (Or.inl rfl) ?_
    refine And.intro (zRb rfl) (zbf rfl ?_)
    refine And.intro (zak hF xs_165 rfl) (Exists.intro _ (And.intro (zinl_ok (zT21_48 19)) (And.intro rfl ?_)))
    refine And.intro ⟨(zak hF xs_165 rfl), (zRb rfl)⟩ ?_
    refine And.intro (zRb rfl) (zbf rfl ?_)
    refine And.intro (Or.inr rfl) ?_
    refine And.intro (zRb rfl) (zbf rfl ?_)
    refine And.intro (Or.inl rfl) ?_
    refine hQ _ _ _ ?_
    exact ⟨fun k j h => (zu_o h rfl).trans ((zu_o h rfl).trans ((zu_o h rfl).trans ((zu_o h rfl).trans ((zu_o h rfl).trans ((zu_o h rfl).trans ((zu_o h rfl).trans (rfl))))))), fun k j h => rfl, fun k j h => rfl⟩
  · refine And.intro (zak hF xs_268 rfl) (zrd (v := 0) rfl ?_)
    refine And.intro ⟨(by assumption), (zRb rfl)⟩ (And.intro (fun _ => ?_) (fun h => absurd h (by omega)))
    refine And.intro (Or.inl rfl) ?_
    refine And.intro (zRb rfl) (zbf rfl ?_)
    refine And.intro (zak hF xs_165 rfl) (Exists.intro _ (And.intro (zinl_ok (zT21_48 19)) (And.intro rfl ?_)))
    refine And.intro ⟨(zak hF xs_165 rfl), (zRb rfl)⟩ ?_
    refine And.intro (zRb rfl) (zbf rfl ?_)
    refine And.intro (Or.inr rfl) ?_
    refine And.intro (zRb rfl) (zbf rfl ?_)
    refine And.intro (Or.inl rfl) ?_
    refine hQ _ _ _ ?_
    exact ⟨fun k j h => (zu_o h rfl).trans ((zu_o h rfl).trans ((zu_o h rfl).trans ((zu_o h rfl).trans ((zu_o h rfl).trans ((zu_o h rfl).trans ((zu_o h rfl).trans (rfl))))))), fun k j h => rfl, fun k j h => rfl⟩
theorem pq_sweep_11 {I L : ZI} {R : ZR} {S : ZS} {Q : ZQ} (hF : zFr 40 165 I L R S)  (hQ : ∀ I' L' R', zEq 40 165 I L R I' L' R' → Q (some (zvi 0)) I' L' R' S) : zinl 1 (zt11_50 20) [zvr 40] I L R S Q := by
  refine And.intro rfl ?_
  refine And.intro (zak hF xs_40 rfl) (zrdR (v := some 145) (zfR (k := 40) (j := 18) hF zr_40_18 rfl) ?_)
  refine And.intro (zak hF xs_145 rfl) (Exists.intro _ (And.intro (zinl_ok (zT10_21 19)) (And.intro rfl ?_)))
  refine And.intro (zak hF xs_145 rfl) (zrd (v := 0) (zfI (k := 145) (j := 10) hF zi_145_10 rfl) ?_)
  refine And.intro (zRb rfl) (zbt rfl ?_)
  refine And.intro (zak hF xs_145 rfl) (zrd (v := 0) (zfI (k := 145) (j := 1) hF zi_145_1 rfl) ?_)
  refine And.intro ⟨(zRb rfl), (zRb rfl)⟩ (zbt rfl ?_)
  refine And.intro (zak hF xs_145 rfl) (Exists.intro _ (And.intro (zinl_ok (zT10_1 18)) (And.intro rfl ?_)))
  refine And.intro (zak hF xs_145 rfl) (zrd (v := 0) (zfI (k := 145) (j := 1) hF zi_145_1 rfl) ?_)
  refine And.intro ⟨(zRb rfl), (zRb rfl)⟩ (zbf rfl ?_)
  refine And.intro (zak hF xs_145 rfl) (zrdR (v := some 146) (zfR (k := 145) (j := 0) hF zr_145_0 rfl) ?_)
  refine And.intro (zak hF xs_145 rfl) (zrd (v := 0) (zfI (k := 145) (j := 1) hF zi_145_1 rfl) ?_)
  refine And.intro ⟨zx0 rfl, (zplk hF xs_146 rfl rfl), (zRb rfl)⟩ ?_
  refine And.intro (zak hF xs_145 rfl) (zrd (v := 0) (zfI (k := 145) (j := 1) hF zi_145_1 rfl) ?_)
  refine And.intro ⟨(zak hF xs_145 rfl), (zRb rfl)⟩ ?_
  refine And.intro (zak hF xs_145 rfl) (Exists.intro _ (And.intro (zinl_ok (zT10_6 18)) (And.intro rfl ?_)))
  refine And.intro (zak hF xs_145 rfl) (zrd (v := 0) (zfI (k := 145) (j := 5) hF zi_145_5 rfl) ?_)
  refine And.intro ⟨(zRb rfl), (zRb rfl)⟩ (zbt rfl ?_)
  refine And.intro (zak hF xs_40 rfl) (Exists.intro _ (And.intro (zinl_ok (zT11_1 19)) (And.intro rfl ?_)))
  refine And.intro (zRb rfl) (zbt rfl ?_)
  refine And.intro ⟨(zak hF xs_40 rfl), (zRb rfl)⟩ ?_
  refine And.intro (zRb rfl) (zbt rfl ?_)
  refine hQ _ _ _ ?_
  exact ⟨fun k j h => (zu_o h rfl).trans ((zu_o h rfl).trans ((zu_o h rfl).trans (rfl))), fun k j h => rfl, fun k j h => rfl⟩
theorem pq_sweep_21 {I L : ZI} {R : ZR} {S : ZS} {Q : ZQ} (hF : zFr 165 302 I L R S)  (hQ : ∀ I' L' R', zEq 165 302 I L R I' L' R' → Q (some (zvi 0)) I' L' R' S) : zinl 1 (zt21_72 20) [zvr 165] I L R S Q := by
  refine And.intro rfl ?_
  refine And.intro (zak hF xs_165 rfl) (zrdR (v := some 268) (zfR (k := 165) (j := 48) hF zr_165_48 rfl) ?_)
  refine And.intro (zak hF xs_268 rfl) (zrd (v := 0) (zfI (k := 268) (j := 2) hF zi_268_2 rfl) ?_)
  refine And.intro (zRb rfl) (zbt rfl ?_)
  refine And.intro (zak hF xs_165 rfl) (zrdR (v := some 268) (zfR (k := 165) (j := 48) hF zr_165_48 rfl) ?_)
  refine And.intro (zak hF xs_268 rfl) (zrd (v := 0) (zfI (k := 268) (j := 5) hF zi_268_5 rfl) ?_)
  refine And.intro ⟨(zRb rfl), (zRb rfl)⟩ (zbt rfl ?_)
  refine And.intro (zak hF xs_165 rfl) (zrdR (v := some 268) (zfR (k := 165) (j := 48) hF zr_165_48 rfl) ?_)
  refine And.intro (zak hF xs_268 rfl) (Exists.intro _ (And.intro (zinl_ok (zT13_13 19)) (And.intro rfl ?_)))
  refine And.intro (zak hF xs_268 rfl) (Exists.intro _ (And.intro (zinl_ok (zT13_8 18)) (And.intro rfl ?_)))
  refine And.intro (zak hF xs_268 rfl) (zrd (v := 0) (zfI (k := 268) (j := 2) hF zi_268_2 rfl) ?_)
  refine And.intro (zRb rfl) (zbt rfl ?_)
  refine And.intro ⟨(zak hF xs_268 rfl), (zRb rfl)⟩ ?_
  refine And.intro (zak hF xs_268 rfl) (zrd (v := 0) (zfI (k := 268) (j := 2) hF zi_268_2 rfl) ?_)
  refine And.intro (zRb rfl) (zbf rfl ?_)
  refine And.intro (zak hF xs_268 rfl) (Exists.intro _ (And.intro (zinl_ok (zT13_17 17)) (And.intro rfl ?_)))
  refine And.intro ⟨(zak hF xs_268 rfl), (zRb rfl)⟩ ?_
  refine And.intro ⟨(zak hF xs_268 rfl), (zRb rfl)⟩ ?_
  refine And.intro (zak hF xs_268 rfl) (zrdR (v := some 277) (zfR (k := 268) (j := 16) hF zr_268_16 rfl) ?_)
  refine And.intro ⟨zx0 rfl, (zplk hF xs_277 rfl rfl), (zRb rfl)⟩ ?_
  refine And.intro (zak hF xs_268 rfl) (zrdR (v := some 279) (zfR (k := 268) (j := 18) hF zr_268_18 rfl) ?_)
  refine And.intro ⟨zx0 rfl, (Or.inr ⟨(zplk hF xs_279 rfl rfl), Or.inl rfl⟩)⟩ ?_
  refine And.intro ⟨(zak hF xs_268 rfl), (zRb rfl)⟩ ?_
  refine And.intro (zak hF xs_268 rfl) (zrd (v := 0) rfl ?_)
  refine And.intro (zak hF xs_268 rfl) (zrd (v := 0) (zfI (k := 268) (j := 5) hF zi_268_5 rfl) ?_)
  refine And.intro ⟨(zRb rfl), (zRb rfl)⟩ (zbt rfl ?_)
  refine And.intro (zak hF xs_268 rfl) (zrd (v := 0) (zfI (k := 268) (j := 2) hF zi_268_2 rfl) ?_)
  refine And.intro (zRb rfl) (zbf rfl ?_)
  refine And.intro (Or.inr rfl) ?_
  refine And.intro (zRb rfl) (zbf rfl ?_)
  refine And.intro (zak hF xs_268 rfl) (zrd (v := 0) (zfI (k := 268) (j := 5) hF zi_268_5 rfl) ?_)
  refine And.intro ⟨(zRb rfl), (zRb rfl)⟩ (zbt rfl ?_)
  refine And.intro (zak hF xs_268 rfl) (Exists.intro _ (And.intro (zinl_ok (zT13_14 18)) (And.intro rfl ?_)))
  refine And.intro ⟨(zak hF xs_268 rfl), (zRb rfl)⟩ ?_
  refine And.intro (zak hF xs_268 rfl) (zrd (v := 0) rfl ?_)
  refine And.intro ⟨(zRb rfl), (zRb rfl)⟩ (zbt rfl ?_)
  refine And.intro (zak hF xs_268 rfl) (zrd (v := 0) rfl ?_)
  refine And.intro (zak hF xs_268 rfl) (Exists.intro _ (And.intro (zinl_ok (zT13_18 18)) (And.intro rfl ?_)))
  refine And.intro (zak hF xs_268 rfl) (zrdR (v := some 270) (zfR (k := 268) (j := 6) hF zr_268_6 rfl) ?_)
  refine And.intro (zak hF xs_268 rfl) (zrd (v := 0) (zfI (k := 268) (j := 5) hF zi_268_5 rfl) ?_)
  refine And.intro ⟨zx0 rfl, (zplk hF xs_270 rfl rfl), (zRb rfl)⟩ ?_
  refine And.intro (zak hF xs_268 rfl) (zrd (v := 0) (zfI (k := 268) (j := 5) hF zi_268_5 rfl) ?_)
  refine And.intro ⟨(zak hF xs_268 rfl), (zRb rfl)⟩ ?_
  refine And.intro (zak hF xs_165 rfl) (Exists.intro _ (And.intro (zinl_ok (zT21_12 19)) (And.intro rfl ?_)))
  refine And.intro ⟨(zak hF xs_165 rfl), (zRb rfl)⟩ ?_
  refine hQ _ _ _ ?_
  exact ⟨fun k j h => (zu_o h rfl).trans ((zu_o h rfl).trans ((zu_o h rfl).trans ((zu_o h rfl).trans ((zu_o h rfl).trans ((zu_o h rfl).trans ((zu_o h rfl).trans ((zu_o h rfl).trans ((zu_o h rfl).trans ((zu_o h rfl).trans (rfl)))))))))), fun k j h => rfl, fun k j h => rfl⟩
theorem pq_crash_11 {I L : ZI} {R : ZR} {S : ZS} {Q : ZQ} (hF : zFr 40 165 I L R S) (a0 : Int) (r0 : r32 a0) (hQ : ∀ v : Int, ((a0 = 0 → v = 1) ∧ (a0 ≠ 0 → v = 0)) → ∀ I' L' R', zEq 40 165 I L R I' L' R' → Q (some (zvi v)) I' L' R' S) : zinl 2 (zt11_10 20) [zvr 40, zvi a0] I L R S Q := by
  refine And.intro rfl ?_
  refine And.intro (zak hF xs_40 rfl) (zrdR (v := some 145) (zfR (k := 40) (j := 18) hF zr_40_18 rfl) ?_)
  refine And.intro (zak hF xs_145 rfl) (Exists.intro _ (And.intro (zinl_ok (zT10_13 19)) (And.intro rfl ?_)))
  refine And.intro (zak hF xs_145 rfl) (zrd (v := 0) (zfI (k := 145) (j := 10) hF zi_145_10 rfl) ?_)
  refine And.intro (zRb rfl) (zbt rfl ?_)
  refine And.intro (by assumption) (And.intro (fun h1 => ?_) (fun h1 => ?_))
  · refine And.intro (zak hF xs_40 rfl) (Exists.intro _ (And.intro (zinl_ok (zT11_22 19)) (And.intro rfl ?_)))
    refine And.intro (zak hF xs_40 rfl) (Exists.intro _ (And.intro (zinl_ok (zT11_1 18)) (And.intro rfl ?_)))
    refine And.intro (zRb rfl) (zbf rfl ?_)
    refine And.intro ⟨(zak hF xs_40 rfl), (zRb rfl)⟩ ?_
    refine And.intro (zRb rfl) (zbf rfl ?_)
    refine And.intro ⟨(zRb rfl), (zRb rfl)⟩ (zbt rfl ?_)
    refine And.intro (Or.inl rfl) ?_
    refine And.intro (Or.inl rfl) ?_
    refine hQ 0 (by omega) _ _ _ ?_
    exact ⟨fun k j h => (zu_o h rfl).trans (rfl), fun k j h => rfl, fun k j h => rfl⟩
  · refine And.intro (zak hF xs_145 rfl) (zrd (v := 0) (zfI (k := 145) (j := 1) hF zi_145_1 rfl) ?_)
    refine And.intro ⟨(by assumption), (zRb rfl)⟩ (And.intro (fun h2 => ?_) (fun h2 => ?_))
    · refine And.intro (zak hF xs_145 rfl) (zrd (v := 0) (zfI (k := 145) (j := 11) hF zi_145_11 rfl) ?_)
      refine And.intro ⟨(zRb rfl), (zRb rfl)⟩ (zbt rfl ?_)
      refine And.intro (zak hF xs_145 rfl) (zrd (v := 0) (zfI (k := 145) (j := 11) hF zi_145_11 rfl) ?_)
      refine And.intro ⟨(zak hF xs_145 rfl), (zRb rfl)⟩ ?_
      refine And.intro ⟨(zak hF xs_145 rfl), Or.inr rfl⟩ ?_
      refine And.intro ⟨(zak hF xs_145 rfl), (by assumption)⟩ ?_
      refine And.intro (zak hF xs_40 rfl) (Exists.intro _ (And.intro (zinl_ok (zT11_22 19)) (And.intro rfl ?_)))
      refine And.intro (zak hF xs_40 rfl) (Exists.intro _ (And.intro (zinl_ok (zT11_1 18)) (And.intro rfl ?_)))
      refine And.intro (zRb rfl) (zbt rfl ?_)
      refine And.intro ⟨(zak hF xs_40 rfl), (zRb rfl)⟩ ?_
      refine And.intro (zRb rfl) (zbt rfl ?_)
      refine And.intro ⟨(zRb rfl), (zRb rfl)⟩ (zbf rfl ?_)
      refine And.intro (Or.inr rfl) ?_
      refine And.intro (Or.inr rfl) ?_
      refine hQ 1 (by omega) _ _ _ ?_
      exact ⟨fun k j h => (zu_o h rfl).trans ((zu_o h rfl).trans ((zu_o h rfl).trans ((zu_o h rfl).trans (rfl)))), fun k j h => rfl, fun k j h => rfl⟩
    · refine And.intro (zak hF xs_40 rfl) (Exists.intro _ (And.intro (zinl_ok (zT11_22 19)) (And.intro rfl ?_)))
      refine And.intro (zak hF xs_40 rfl) (Exists.intro _ (And.intro (zinl_ok (zT11_1 18)) (And.intro rfl ?_)))
      refine And.intro (zRb rfl) (zbf rfl ?_)
      refine And.intro ⟨(zak hF xs_40 rfl), (zRb rfl)⟩ ?_
      refine And.intro (zRb rfl) (zbf rfl ?_)
      refine And.intro ⟨(zRb rfl), (zRb rfl)⟩ (zbt rfl ?_)
      refine And.intro (Or.inl rfl) ?_
      refine And.intro (Or.inl rfl) ?_
      refine hQ 0 (by omega) _ _ _ ?_
      exact ⟨fun k j h => (zu_o h rfl).trans (rfl), fun k j h => rfl, fun k j h => rfl⟩
theorem pq_crash_21 {I L : ZI} {R : ZR} {S : ZS} {Q : ZQ} (hF : zFr 165 302 I L R S) (a0 : Int) (r0 : r32 a0) (hQ : ∀ v : Int, ((a0 = 0 → v = 1) ∧ (a0 ≠ 0 → v = 0)) → ∀ I' L' R', zEq 165 302 I L R I' L' R' → Q (some (zvi v)) I' L' R' S) : zinl 3 (zt21_9 20) [zvr 165, zvi a0] I L R S Q := by
  refine And.intro rfl ?_
  refine And.intro (zak hF xs_165 rfl) (zrdR (v := some 268) (zfR (k := 165) (j := 48) hF zr_165_48 rfl) ?_)
  refine And.intro (zak hF xs_268 rfl) (zrd (v := 0) (zfI (k := 268) (j := 2) hF zi_268_2 rfl) ?_)
  refine And.intro (zRb rfl) (zbt rfl ?_)
  refine And.intro (by assumption) (And.intro (fun h1 => ?_) (fun h1 => ?_))
  · refine And.intro (zak hF xs_165 rfl) (Exists.intro _ (And.intro (zinl_ok (zT21_48 19)) (And.intro rfl ?_)))
    refine And.intro ⟨(zak hF xs_165 rfl), (zRb rfl)⟩ ?_
    refine And.intro (zRb rfl) (zbf rfl ?_)
    refine And.intro (Or.inr rfl) ?_
    refine And.intro (zRb rfl) (zbf rfl ?_)
    refine And.intro (Or.inl rfl) ?_
    refine hQ 0 (by omega) _ _ _ ?_
    exact ⟨fun k j h => (zu_o h rfl).trans (rfl), fun k j h => rfl, fun k j h => rfl⟩
  · refine And.intro (zak hF xs_165 rfl) (zrdR (v := some 268) (zfR (k := 165) (j := 48) hF zr_165_48 rfl) ?_)
    refine And.intro (zak hF xs_268 rfl) (zrd (v := 0) (zfI (k := 268) (j := 5) hF zi_268_5 rfl) ?_)
    refine And.intro ⟨(by assumption), (zRb rfl)⟩ (And.intro (fun h2 => ?_) (fun h2 => ?_))
    · refine And.intro (zak hF xs_165 rfl) (zrd (v := 0) (zfI (k := 165) (j := 49) hF zi_165_49 rfl) ?_)
      refine And.intro ⟨(zRb rfl), (zRb rfl)⟩ (zbt rfl ?_)
      refine And.intro (zak hF xs_165 rfl) (Exists.intro _ (And.intro (zinl_ok (zT21_48 19)) (And.intro rfl ?_)))
      refine And.intro ⟨(zak hF xs_165 rfl), (zRb rfl)⟩ ?_
      refine And.intro (zRb rfl) (zbt rfl ?_)
      refine And.intro (Or.inl rfl) ?_
      refine And.intro (zRb rfl) (zbt rfl ?_)
      refine And.intro (zak hF xs_165 rfl) (zrd (v := 0) (zfI (k := 165) (j := 49) hF zi_165_49 rfl) ?_)
      refine And.intro ⟨(zak hF xs_165 rfl), (zRb rfl)⟩ ?_
      refine And.intro (zak hF xs_165 rfl) (zrdR (v := some 268) (zfR (k := 165) (j := 48) hF zr_165_48 rfl) ?_)
      refine And.intro (zak hF xs_268 rfl) (Exists.intro _ (And.intro (zinl_ok (zT13_3 19)) (And.intro rfl ?_)))
      refine And.intro (zak hF xs_268 rfl) (Exists.intro _ (And.intro (zinl_ok (zT13_8 18)) (And.intro rfl ?_)))
      refine And.intro (zak hF xs_268 rfl) (zrd (v := 0) (zfI (k := 268) (j := 2) hF zi_268_2 rfl) ?_)
      refine And.intro (zRb rfl) (zbt rfl ?_)
      refine And.intro ⟨(zak hF xs_268 rfl), (zRb rfl)⟩ ?_
      refine And.intro (zak hF xs_268 rfl) (zrd (v := 0) (zfI (k := 268) (j := 2) hF zi_268_2 rfl) ?_)
      refine And.intro (zRb rfl) (zbf rfl ?_)
      refine And.intro (zak hF xs_268 rfl) (Exists.intro _ (And.intro (zinl_ok (zT13_17 17)) (And.intro rfl ?_)))
      refine And.intro ⟨(zak hF xs_268 rfl), (zRb rfl)⟩ ?_
      refine And.intro ⟨(zak hF xs_268 rfl), (zRb rfl)⟩ ?_
      refine And.intro (zak hF xs_268 rfl) (zrdR (v := some 277) (zfR (k := 268) (j := 16) hF zr_268_16 rfl) ?_)
      refine And.intro ⟨zx0 rfl, (zplk hF xs_277 rfl rfl), (zRb rfl)⟩ ?_
      refine And.intro (zak hF xs_268 rfl) (zrdR (v := some 279) (zfR (k := 268) (j := 18) hF zr_268_18 rfl) ?_)
      refine And.intro ⟨zx0 rfl, (Or.inr ⟨(zplk hF xs_279 rfl rfl), Or.inl rfl⟩)⟩ ?_
      refine And.intro ⟨(zak hF xs_268 rfl), (zRb rfl)⟩ ?_
      refine And.intro (zak hF xs_268 rfl) (zrd (v := 0) rfl ?_)
      refine And.intro (zak hF xs_268 rfl) (zrd (v := 0) (zfI (k := 268) (j := 5) hF zi_268_5 rfl) ?_)
      refine And.intro ⟨(zRb rfl), (zRb rfl)⟩ (zbt rfl ?_)
      refine And.intro (zak hF xs_268 rfl) (zrd (v := 0) (zfI (k := 268) (j := 2) hF zi_268_2 rfl) ?_)
      refine And.intro (zRb rfl) (zbf rfl ?_)
      refine And.intro (Or.inr rfl) ?_
      refine And.intro (zRb rfl) (zbt rfl ?_)
      refine And.intro (by assumption) (And.intro (fun h => absurd h (by omega)) (fun _ => ?_))
      refine And.intro (zak hF xs_268 rfl) (zrd (v := 0) (zfI (k := 268) (j := 5) hF zi_268_5 rfl) ?_)
      refine And.intro ⟨(by assumption), (zRb rfl)⟩ (And.intro (fun h => absurd h (by omega)) (fun _ => ?_))
      refine And.intro ⟨(zak hF xs_268 rfl), (zRb rfl)⟩ ?_
      refine And.intro (zak hF xs_268 rfl) (zrd (v := 0) rfl ?_)
      refine And.intro (zRb rfl) (zbt rfl ?_)
      refine And.intro (zak hF xs_268 rfl) (zrd (v := 0) (zfI (k := 268) (j := 5) hF zi_268_5 rfl) ?_)
      refine And.intro ⟨(zRb rfl), (by assumption)⟩ (And.intro (fun _ => ?_) (fun h => absurd h (by omega)))
      refine And.intro ⟨(zak hF xs_268 rfl), (by assumption)⟩ ?_
      refine And.intro ⟨(zak hF xs_268 rfl), (zRb rfl)⟩ ?_
      refine And.intro ⟨(zak hF xs_268 rfl), (zRb rfl)⟩ ?_
      refine And.intro ⟨(zRb rfl), (zRb rfl)⟩ (zbf rfl ?_)
      refine And.intro (zak hF xs_268 rfl) (zrdR (v := some 273) (zfR (k := 268) (j := 10) hF zr_268_10 rfl) ?_)
      refine And.intro ⟨zx0 rfl, (Or.inr ⟨(zplk hF xs_273 rfl rfl), Or.inl rfl⟩)⟩ ?_
      refine And.intro ⟨(zRb rfl), (zRb rfl)⟩ (zbf rfl ?_)
      refine And.intro (zak hF xs_268 rfl) (zrdR (v := some 273) (zfR (k := 268) (j := 10) hF zr_268_10 rfl) ?_)
      refine And.intro ⟨zx0 rfl, (Or.inr ⟨(zplk hF xs_273 rfl rfl), Or.inl rfl⟩)⟩ ?_
      refine And.intro ⟨(zRb rfl), (zRb rfl)⟩ (zbf rfl ?_)
      refine And.intro (zak hF xs_268 rfl) (zrdR (v := some 273) (zfR (k := 268) (j := 10) hF zr_268_10 rfl) ?_)
      refine And.intro ⟨zx0 rfl, (Or.inr ⟨(zplk hF xs_273 rfl rfl), Or.inl rfl⟩)⟩ ?_
      refine And.intro ⟨(zRb rfl), (zRb rfl)⟩ (zbf rfl ?_)
      refine And.intro (zak hF xs_268 rfl) (zrdR (v := some 273) (zfR (k := 268) (j := 10) hF zr_268_10 rfl) ?_)
      refine And.intro ⟨zx0 rfl, (Or.inr ⟨(zplk hF xs_273 rfl rfl), Or.inl rfl⟩)⟩ ?_
      refine And.intro ⟨(zRb rfl), (zRb rfl)⟩ (zbf rfl ?_)
      refine And.intro (zak hF xs_268 rfl) (zrdR (v := some 273) (zfR (k := 268) (j := 10) hF zr_268_10 rfl) ?_)
      refine And.intro ⟨zx0 rfl, (Or.inr ⟨(zplk hF xs_273 rfl rfl), Or.inl rfl⟩)⟩ ?_
      refine And.intro ⟨(zRb rfl), (zRb rfl)⟩ (zbf rfl ?_)
      refine And.intro (zak hF xs_268 rfl) (zrdR (v := some 273) (zfR (k := 268) (j := 10) hF zr_268_10 rfl) ?_)
      refine And.intro ⟨zx0 rfl, (Or.inr ⟨(zplk hF xs_273 rfl rfl), Or.inl rfl⟩)⟩ ?_
      refine And.intro ⟨(zRb rfl), (zRb rfl)⟩ (zbf rfl ?_)
      refine And.intro (zak hF xs_268 rfl) (zrdR (v := some 273) (zfR (k := 268) (j := 10) hF zr_268_10 rfl) ?_)
      refine And.intro ⟨zx0 rfl, (Or.inr ⟨(zplk hF xs_273 rfl rfl), Or.inl rfl⟩)⟩ ?_
      refine And.intro ⟨(zRb rfl), (zRb rfl)⟩ (zbf rfl ?_)
      refine And.intro (zak hF xs_268 rfl) (zrdR (v := some 273) (zfR (k := 268) (j := 10) hF zr_268_10 rfl) ?_)
      refine And.intro ⟨zx0 rfl, (Or.inr ⟨(zplk hF xs_273 rfl rfl), Or.inl rfl⟩)⟩ ?_
      refine And.intro ⟨(zRb rfl), (zRb rfl)⟩ (zbf rfl ?_)
      refine And.intro (zak hF xs_268 rfl) (zrdR (v := some 273) (zfR (k := 268) (j := 10) hF zr_268_10 rfl) ?_)
      refine And.intro ⟨zx0 rfl, (Or.inr ⟨(zplk hF xs_273 rfl rfl), Or.inl rfl⟩)⟩ ?_
      refine And.intro ⟨(zRb rfl), (zRb rfl)⟩ (zbf rfl ?_)
      refine And.intro (zak hF xs_268 rfl) (zrdR (v := some 273) (zfR (k := 268) (j := 10) hF zr_268_10 rfl) ?_)
      refine And.intro ⟨zx0 rfl, (Or.inr ⟨(zplk hF xs_273 rfl rfl), Or.inl rfl⟩)⟩ ?_
      refine And.intro ⟨(zRb rfl), (zRb rfl)⟩ (zbf rfl ?_)
      refine And.intro (zak hF xs_268 rfl) (zrdR (v := some 273) (zfR (k := 268) (j := 10) hF zr_268_10 rfl) ?_)
      refine And.intro ⟨zx0 rfl, (Or.inr ⟨(zplk hF xs_273 rfl rfl), Or.inl rfl⟩)⟩ ?_
      refine And.intro ⟨(zRb rfl), (zRb rfl)⟩ (zbf rfl ?_)
      refine And.intro (zak hF xs_268 rfl) (zrdR (v := some 273) (zfR (k := 268) (j := 10) hF zr_268_10 rfl) ?_)
      refine And.intro ⟨zx0 rfl, (Or.inr ⟨(zplk hF xs_273 rfl rfl), Or.inl rfl⟩)⟩ ?_
      refine And.intro ⟨(zRb rfl), (zRb rfl)⟩ (zbf rfl ?_)
      refine And.intro (zak hF xs_268 rfl) (zrdR (v := some 273) (zfR (k := 268) (j := 10) hF zr_268_10 rfl) ?_)
      refine And.intro ⟨zx0 rfl, (Or.inr ⟨(zplk hF xs_273 rfl rfl), Or.inl rfl⟩)⟩ ?_
      refine And.intro ⟨(zRb rfl), (zRb rfl)⟩ (zbf rfl ?_)
      refine And.intro (zak hF xs_268 rfl) (zrdR (v := some 273) (zfR (k := 268) (j := 10) hF zr_268_10 rfl) ?_)
      refine And.intro ⟨zx0 rfl, (Or.inr ⟨(zplk hF xs_273 rfl rfl), Or.inl rfl⟩)⟩ ?_
      refine And.intro ⟨(zRb rfl), (zRb rfl)⟩ (zbf rfl ?_)
      refine And.intro (zak hF xs_268 rfl) (zrdR (v := some 273) (zfR (k := 268) (j := 10) hF zr_268_10 rfl) ?_)
      refine And.intro ⟨zx0 rfl, (Or.inr ⟨(zplk hF xs_273 rfl rfl), Or.inl rfl⟩)⟩ ?_
      refine And.intro ⟨(zRb rfl), (zRb rfl)⟩ (zbf rfl ?_)
      refine And.intro (zak hF xs_268 rfl) (zrdR (v := some 273) (zfR (k := 268) (j := 10) hF zr_268_10 rfl) ?_)
      refine And.intro ⟨zx0 rfl, (Or.inr ⟨(zplk hF xs_273 rfl rfl), Or.inl rfl⟩)⟩ ?_
      refine And.intro ⟨(zRb rfl), (zRb rfl)⟩ (zbf rfl ?_)
      refine And.intro (zak hF xs_268 rfl) (zrdR (v := some 273) (zfR (k := 268) (j := 10) hF zr_268_10 rfl) ?_)
      refine And.intro ⟨zx0 rfl, (Or.inr ⟨(zplk hF xs_273 rfl rfl), Or.inl rfl⟩)⟩ ?_
      refine And.intro ⟨(zRb rfl), (zRb rfl)⟩ (zbf rfl ?_)
      refine And.intro (zak hF xs_268 rfl) (zrdR (v := some 273) (zfR (k := 268) (j := 10) hF zr_268_10 rfl) ?_)
      refine And.intro ⟨zx0 rfl, (Or.inr ⟨(zplk hF xs_273 rfl rfl), Or.inl rfl⟩)⟩ ?_
      refine And.intro ⟨(zRb rfl), (zRb rfl)⟩ (zbf rfl ?_)
      refine And.intro (zak hF xs_268 rfl) (zrdR (v := some 273) (zfR (k := 268) (j := 10) hF zr_268_10 rfl) ?_)
      refine And.intro ⟨zx0 rfl, (Or.inr ⟨(zplk hF xs_273 rfl rfl), Or.inl rfl⟩)⟩ ?_
      refine And.intro ⟨(zRb rfl), (zRb rfl)⟩ (zbf rfl ?_)
      refine And.intro (zak hF xs_268 rfl) (zrdR (v := some 273) (zfR (k := 268) (j := 10) hF zr_268_10 rfl) ?_)
      refine And.intro ⟨zx0 rfl, (Or.inr ⟨(zplk hF xs_273 rfl rfl), Or.inl rfl⟩)⟩ ?_
      refine And.intro ⟨(zRb rfl), (zRb rfl)⟩ (zbf rfl ?_)
      refine And.intro (zak hF xs_268 rfl) (zrdR (v := some 273) (zfR (k := 268) (j := 10) hF zr_268_10 rfl) ?_)
      refine And.intro ⟨zx0 rfl, (Or.inr ⟨(zplk hF xs_273 rfl rfl), Or.inl rfl⟩)⟩ ?_
      refine And.intro ⟨(zRb rfl), (zRb rfl)⟩ (zbf rfl ?_)
      refine And.intro (zak hF xs_268 rfl) (zrdR (v := some 273) (zfR (k := 268) (j := 10) hF zr_268_10 rfl) ?_)
      refine And.intro ⟨zx0 rfl, (Or.inr ⟨(zplk hF xs_273 rfl rfl), Or.inl rfl⟩)⟩ ?_
      refine And.intro ⟨(zRb rfl), (zRb rfl)⟩ (zbf rfl ?_)
      refine And.intro (zak hF xs_268 rfl) (zrdR (v := some 273) (zfR (k := 268) (j := 10) hF zr_268_10 rfl) ?_)
      refine And.intro ⟨zx0 rfl, (Or.inr ⟨(zplk hF xs_273 rfl rfl), Or.inl rfl⟩)⟩ ?_
      refine And.intro ⟨(zRb rfl), (zRb rfl)⟩ (zbf rfl ?_)
      refine And.intro (zak hF xs_268 rfl) (zrdR (v := some 273) (zfR (k := 268) (j := 10) hF zr_268_10 rfl) ?_)
      refine And.intro ⟨zx0 rfl, (Or.inr ⟨(zplk hF xs_273 rfl rfl), Or.inl rfl⟩)⟩ ?_
      refine And.intro ⟨(zRb rfl), (zRb rfl)⟩ (zbt rfl ?_)
      refine And.intro ⟨(zak hF xs_268 rfl), Or.inr rfl⟩ ?_
      refine And.intro (Or.inl rfl) ?_
      refine And.intro (Or.inr rfl) ?_
      refine hQ 1 (by omega) _ _ _ ?_
      exact ⟨fun k j h => (zu_o h rfl).trans ((zu_o h rfl).trans ((zu_o h rfl).trans ((zu_o h rfl).trans ((zu_o h rfl).trans ((zu_o h rfl).trans ((zu_o h rfl).trans ((zu_o h rfl).trans ((zu_o h rfl).trans ((zu_o h rfl).trans ((zu_o h rfl).trans ((zu_o h rfl).trans ((zu_o h rfl).trans ((zu_o h rfl).trans ((zu_o h rfl).trans ((zu_o h rfl).trans ((zu_o h rfl).trans ((zu_o h rfl).trans ((zu_o h rfl).trans ((zu_o h rfl).trans ((zu_o h rfl).trans ((zu_o h rfl).trans ((zu_o h rfl).trans ((zu_o h rfl).trans ((zu_o h rfl).trans ((zu_o h rfl).trans ((zu_o h rfl).trans ((zu_o h rfl).trans ((zu_o h rfl).trans ((zu_o h rfl).trans ((zu_o h rfl).trans ((zu_o h rfl).trans ((zu_o h rfl).trans ((zu_o h rfl).trans ((zu_o h rfl).trans ((zu_o h rfl).trans ((zu_o h rfl).trans (rfl))))))))))))))))))))))))))))))))))))), fun k j h => rfl, fun k j h => rfl⟩
    · refine And.intro (zak hF xs_165 rfl) (Exists.intro _ (And.intro (zinl_ok (zT21_48 19)) (And.intro rfl ?_)))
      refine And.intro ⟨(zak hF xs_165 rfl), (zRb rfl)⟩ ?_
      refine And.intro (zRb rfl) (zbf rfl ?_)
      refine And.intro (Or.inr rfl) ?_
      refine And.intro (zRb rfl) (zbf rfl ?_)
      refine And.intro (Or.inl rfl) ?_
      refine hQ 0 (by omega) _ _ _ ?_
      exact ⟨fun k j h => (zu_o h rfl).trans (rfl), fun k j h => rfl, fun k j h => rfl⟩
theorem pq_reopen_11 {I L : ZI} {R : ZR} {S : ZS} {Q : ZQ} (hF : zFr 40 165 I L R S)  (hQ : ∀ I' L' R', zEq 40 165 I L R I' L' R' → Q (some (zvi (-1))) I' L' R' S) : zinl 1 (zt11_38 20) [zvr 40] I L R S Q := by
  refine And.intro rfl ?_
  refine And.intro (zak hF xs_40 rfl) (zrdR (v := some 145) (zfR (k := 40) (j := 18) hF zr_40_18 rfl) ?_)
  refine And.intro (zak hF xs_145 rfl) (Exists.intro _ (And.intro (zinl_ok (zT10_18 19)) (And.intro rfl ?_)))
  refine And.intro (zak hF xs_145 rfl) (zrd (v := 0) (zfI (k := 145) (j := 10) hF zi_145_10 rfl) ?_)
  refine And.intro (zRb rfl) (zbf rfl ?_)
  refine And.intro (zak hF xs_40 rfl) (Exists.intro _ (And.intro (zinl_ok (zT11_1 19)) (And.intro rfl ?_)))
  refine And.intro (zRb rfl) (zbf rfl ?_)
  refine And.intro ⟨(zak hF xs_40 rfl), (zRb rfl)⟩ ?_
  refine And.intro (zRb rfl) (zbf rfl ?_)
  refine hQ _ _ _ ?_
  exact ⟨fun k j h => (zu_o h rfl).trans (rfl), fun k j h => rfl, fun k j h => rfl⟩
theorem pq_reopen_21 {I L : ZI} {R : ZR} {S : ZS} {Q : ZQ} (hF : zFr 165 302 I L R S)  (hQ : ∀ I' L' R', zEq 165 302 I L R I' L' R' → Q (some (zvi (-1))) I' L' R' S) : zinl 1 (zt21_51 20) [zvr 165] I L R S Q := by
  refine And.intro rfl ?_
  refine And.intro (zak hF xs_165 rfl) (zrdR (v := some 268) (zfR (k := 165) (j := 48) hF zr_165_48 rfl) ?_)
  refine And.intro (zak hF xs_268 rfl) (zrd (v := 0) (zfI (k := 268) (j := 2) hF zi_268_2 rfl) ?_)
  refine And.intro (zRb rfl) (zbt rfl ?_)
  refine And.intro (zak hF xs_165 rfl) (Exists.intro _ (And.intro (zinl_ok (zT21_47 19)) (And.intro rfl ?_)))
  refine And.intro ⟨(zak hF xs_165 rfl), (zRb rfl)⟩ ?_
  refine hQ _ _ _ ?_
  exact ⟨fun k j h => (zu_o h rfl).trans (rfl), fun k j h => rfl, fun k j h => rfl⟩
theorem pq_saved_11 {I L : ZI} {R : ZR} {S : ZS} {Q : ZQ} (hF : zFr 40 165 I L R S) (a0 : Int) (r0 : r32 a0) (a1 : Int) (r1 : r32 a1) (hQ : ∀ I' L' R', zEq 40 165 I L R I' L' R' → Q (some (zvi (-1))) I' L' R' S) : zinl 3 (zt11_45 20) [zvr 40, zvi a0, zvi a1] I L R S Q := by
  refine And.intro rfl ?_
  refine And.intro (zak hF xs_40 rfl) (zrdR (v := some 145) (zfR (k := 40) (j := 18) hF zr_40_18 rfl) ?_)
  refine And.intro (zak hF xs_145 rfl) (Exists.intro _ (And.intro (zinl_ok (zT10_3 19)) (And.intro rfl ?_)))
  refine And.intro (zak hF xs_145 rfl) (zrd (v := 0) (zfI (k := 145) (j := 10) hF zi_145_10 rfl) ?_)
  refine And.intro (zRb rfl) (zbf rfl ?_)
  refine And.intro (zak hF xs_145 rfl) (Exists.intro _ (And.intro (zinl_ok (zT10_10 18)) (And.intro rfl ?_)))
  refine And.intro (by assumption) (And.intro (fun h1 => ?_) (fun h1 => ?_))
  · refine And.intro (Or.inl rfl) ?_
    refine And.intro (zRb rfl) (zbt rfl ?_)
    refine hQ _ _ _ ?_
    exact ⟨fun k j h => rfl, fun k j h => rfl, fun k j h => rfl⟩
  · refine And.intro (zak hF xs_145 rfl) (zrd (v := 0) (zfI (k := 145) (j := 9) hF zi_145_9 rfl) ?_)
    refine And.intro ⟨(by assumption), (zRb rfl)⟩ (And.intro (fun _ => ?_) (fun h => absurd h (by omega)))
    refine And.intro (Or.inl rfl) ?_
    refine And.intro (zRb rfl) (zbt rfl ?_)
    refine hQ _ _ _ ?_
    exact ⟨fun k j h => rfl, fun k j h => rfl, fun k j h => rfl⟩
theorem pq_saved_21 {I L : ZI} {R : ZR} {S : ZS} {Q : ZQ} (hF : zFr 165 302 I L R S) (a0 : Int) (r0 : r32 a0) (a1 : Int) (r1 : r32 a1) (hQ : ∀ I' L' R', zEq 165 302 I L R I' L' R' → Q (some (zvi (-1))) I' L' R' S) : zinl 4 (zt21_63 20) [zvr 165, zvi a0, zvi a1] I L R S Q := by
  refine And.intro rfl ?_
  refine And.intro (zak hF xs_165 rfl) (zrdR (v := some 268) (zfR (k := 165) (j := 48) hF zr_165_48 rfl) ?_)
  refine And.intro (zak hF xs_268 rfl) (Exists.intro _ (And.intro (zinl_ok (zT13_10 19)) (And.intro rfl ?_)))
  refine And.intro (zak hF xs_268 rfl) (Exists.intro _ (And.intro (zinl_ok (zT13_8 18)) (And.intro rfl ?_)))
  refine And.intro (zak hF xs_268 rfl) (zrd (v := 0) (zfI (k := 268) (j := 2) hF zi_268_2 rfl) ?_)
  refine And.intro (zRb rfl) (zbt rfl ?_)
  refine And.intro ⟨(zak hF xs_268 rfl), (zRb rfl)⟩ ?_
  refine And.intro (zak hF xs_268 rfl) (zrd (v := 0) (zfI (k := 268) (j := 2) hF zi_268_2 rfl) ?_)
  refine And.intro (zRb rfl) (zbf rfl ?_)
  refine And.intro (zak hF xs_268 rfl) (Exists.intro _ (And.intro (zinl_ok (zT13_17 17)) (And.intro rfl ?_)))
  refine And.intro ⟨(zak hF xs_268 rfl), (zRb rfl)⟩ ?_
  refine And.intro ⟨(zak hF xs_268 rfl), (zRb rfl)⟩ ?_
  refine And.intro (zak hF xs_268 rfl) (zrdR (v := some 277) (zfR (k := 268) (j := 16) hF zr_268_16 rfl) ?_)
  refine And.intro ⟨zx0 rfl, (zplk hF xs_277 rfl rfl), (zRb rfl)⟩ ?_
  refine And.intro (zak hF xs_268 rfl) (zrdR (v := some 279) (zfR (k := 268) (j := 18) hF zr_268_18 rfl) ?_)
  refine And.intro ⟨zx0 rfl, (Or.inr ⟨(zplk hF xs_279 rfl rfl), Or.inl rfl⟩)⟩ ?_
  refine And.intro ⟨(zak hF xs_268 rfl), (zRb rfl)⟩ ?_
  refine And.intro (zak hF xs_268 rfl) (zrd (v := 0) rfl ?_)
  refine And.intro (zak hF xs_268 rfl) (zrd (v := 0) (zfI (k := 268) (j := 5) hF zi_268_5 rfl) ?_)
  refine And.intro ⟨(zRb rfl), (zRb rfl)⟩ (zbt rfl ?_)
  refine And.intro (zak hF xs_268 rfl) (zrd (v := 0) (zfI (k := 268) (j := 2) hF zi_268_2 rfl) ?_)
  refine And.intro (zRb rfl) (zbf rfl ?_)
  refine And.intro (Or.inr rfl) ?_
  refine And.intro (zRb rfl) (zbt rfl ?_)
  refine And.intro (zak hF xs_268 rfl) (Exists.intro _ (And.intro (zinl_ok (zT13_9 18)) (And.intro rfl ?_)))
  refine And.intro (by assumption) (And.intro (fun h1 => ?_) (fun h1 => ?_))
  · refine And.intro (Or.inl rfl) ?_
    refine And.intro (zRb rfl) (zbt rfl ?_)
    refine And.intro ⟨(zak hF xs_268 rfl), (zRb rfl)⟩ ?_
    refine And.intro (zak hF xs_268 rfl) (zrd (v := 1) rfl ?_)
    refine And.intro (zRb rfl) (zbf rfl ?_)
    refine And.intro (zak hF xs_165 rfl) (zrdR (v := some 268) (zfR (k := 165) (j := 48) hF zr_165_48 rfl) ?_)
    refine And.intro (zak hF xs_268 rfl) (Exists.intro _ (And.intro (zinl_ok (zT13_15 19)) (And.intro rfl ?_)))
    refine And.intro (zak hF xs_268 rfl) (zrd (v := 1) rfl ?_)
    refine And.intro (zRb rfl) (zbt rfl ?_)
    refine hQ _ _ _ ?_
    exact ⟨fun k j h => (zu_o h rfl).trans ((zu_o h rfl).trans ((zu_o h rfl).trans ((zu_o h rfl).trans ((zu_o h rfl).trans ((zu_o h rfl).trans ((zu_o h rfl).trans (rfl))))))), fun k j h => rfl, fun k j h => rfl⟩
  · refine And.intro (zak hF xs_268 rfl) (zrd (v := 0) rfl ?_)
    refine And.intro ⟨(by assumption), (zRb rfl)⟩ (And.intro (fun _ => ?_) (fun h => absurd h (by omega)))
    refine And.intro (Or.inl rfl) ?_
    refine And.intro (zRb rfl) (zbt rfl ?_)
    refine And.intro ⟨(zak hF xs_268 rfl), (zRb rfl)⟩ ?_
    refine And.intro (zak hF xs_268 rfl) (zrd (v := 1) rfl ?_)
    refine And.intro (zRb rfl) (zbf rfl ?_)
    refine And.intro (zak hF xs_165 rfl) (zrdR (v := some 268) (zfR (k := 165) (j := 48) hF zr_165_48 rfl) ?_)
    refine And.intro (zak hF xs_268 rfl) (Exists.intro _ (And.intro (zinl_ok (zT13_15 19)) (And.intro rfl ?_)))
    refine And.intro (zak hF xs_268 rfl) (zrd (v := 1) rfl ?_)
    refine And.intro (zRb rfl) (zbt rfl ?_)
    refine hQ _ _ _ ?_
    exact ⟨fun k j h => (zu_o h rfl).trans ((zu_o h rfl).trans ((zu_o h rfl).trans ((zu_o h rfl).trans ((zu_o h rfl).trans ((zu_o h rfl).trans ((zu_o h rfl).trans (rfl))))))), fun k j h => rfl, fun k j h => rfl⟩
theorem pq_load_11 {I L : ZI} {R : ZR} {S : ZS} {Q : ZQ} (hF : zFr 40 165 I L R S) (a0 : Int) (r0 : r32 a0) (hQ : ∀ I' L' R', zEq 40 165 I L R I' L' R' → Q (some (zvi (-1))) I' L' R' S) : zinl 2 (zt11_27 20) [zvr 40, zvi a0] I L R S Q := by
  refine And.intro rfl ?_
  refine And.intro (zak hF xs_40 rfl) (zrdR (v := some 145) (zfR (k := 40) (j := 18) hF zr_40_18 rfl) ?_)
  refine And.intro (zak hF xs_40 rfl) (zrdR (v := some 82) (zfR (k := 40) (j := 9) hF zr_40_9 rfl) ?_)
  refine And.intro (zak hF xs_145 rfl) (Exists.intro _ (And.intro (zinl_ok (zT10_14 19)) (And.intro rfl ?_)))
  refine And.intro (zak hF xs_82 rfl) (zrd (v := (-1)) (zfI (k := 82) (j := 0) hF zi_82_0 rfl) ?_)
  refine And.intro ⟨(zRb rfl), (zRb rfl)⟩ (zbt rfl ?_)
  refine And.intro (zak hF xs_40 rfl) (Exists.intro _ (And.intro (zinl_ok (zT11_1 19)) (And.intro rfl ?_)))
  refine And.intro (zRb rfl) (zbf rfl ?_)
  refine And.intro ⟨(zak hF xs_40 rfl), (zRb rfl)⟩ ?_
  refine And.intro (zRb rfl) (zbf rfl ?_)
  refine hQ _ _ _ ?_
  exact ⟨fun k j h => (zu_o h rfl).trans (rfl), fun k j h => rfl, fun k j h => rfl⟩
theorem pq_load_21 {I L : ZI} {R : ZR} {S : ZS} {Q : ZQ} (hF : zFr 165 302 I L R S) (a0 : Int) (r0 : r32 a0) (hQ : ∀ I' L' R', zEq 165 302 I L R I' L' R' → Q (some (zvi (-1))) I' L' R' S) : zinl 5 (zt21_36 20) [zvr 165, zvi a0] I L R S Q := by
  refine And.intro rfl ?_
  refine And.intro (zak hF xs_165 rfl) (zrdR (v := none) (zfR hF zn_165_12 rfl) ?_)
  refine And.intro (zak hF xs_165 rfl) (Exists.intro _ (And.intro (zinl_ok (zT21_47 19)) (And.intro rfl ?_)))
  refine And.intro ⟨(zak hF xs_165 rfl), (zRb rfl)⟩ ?_
  refine hQ _ _ _ ?_
  exact ⟨fun k j h => (zu_o h rfl).trans (rfl), fun k j h => rfl, fun k j h => rfl⟩
theorem pq_release_11 {I L : ZI} {R : ZR} {S : ZS} {Q : ZQ} (hF : zFr 40 165 I L R S)  (hQ : ∀ I' L' R', zEq 40 165 I L R I' L' R' → Q (some (zvi (-1))) I' L' R' S) : zinl 2 (zt11_36 20) [zvr 40] I L R S Q := by
  refine And.intro rfl ?_
  refine And.intro (zak hF xs_40 rfl) (zrd (v := 0) (zfI (k := 40) (j := 14) hF zi_40_14 rfl) ?_)
  refine And.intro (zRb rfl) (zbf rfl ?_)
  refine And.intro (zak hF xs_40 rfl) (Exists.intro _ (And.intro (zinl_ok (zT11_1 19)) (And.intro rfl ?_)))
  refine And.intro (zRb rfl) (zbf rfl ?_)
  refine And.intro ⟨(zak hF xs_40 rfl), (zRb rfl)⟩ ?_
  refine And.intro (zRb rfl) (zbf rfl ?_)
  refine hQ _ _ _ ?_
  exact ⟨fun k j h => (zu_o h rfl).trans (rfl), fun k j h => rfl, fun k j h => rfl⟩
theorem pq_release_21 {I L : ZI} {R : ZR} {S : ZS} {Q : ZQ} (hF : zFr 165 302 I L R S)  (hQ : ∀ I' L' R', zEq 165 302 I L R I' L' R' → Q (some (zvi (-1))) I' L' R' S) : zinl 4 (zt21_49 20) [zvr 165] I L R S Q := by
  refine And.intro rfl ?_
  refine And.intro (zak hF xs_165 rfl) (zrdR (v := none) (zfR hF zn_165_31 rfl) ?_)
  refine And.intro (zak hF xs_165 rfl) (Exists.intro _ (And.intro (zinl_ok (zT21_47 19)) (And.intro rfl ?_)))
  refine And.intro ⟨(zak hF xs_165 rfl), (zRb rfl)⟩ ?_
  refine hQ _ _ _ ?_
  exact ⟨fun k j h => (zu_o h rfl).trans (rfl), fun k j h => rfl, fun k j h => rfl⟩
theorem pq_approve_11 {I L : ZI} {R : ZR} {S : ZS} {Q : ZQ} (hF : zFr 40 165 I L R S) (a0 : Int) (r0 : r32 a0) (a1 : Int) (r1 : r32 a1) (a2 : Int) (r2 : r32 a2) (hQ : ∀ I' L' R', zEq 40 165 I L R I' L' R' → Q (some (zvi (-1))) I' L' R' S) : zinl 4 (zt11_2 20) [zvr 40, zvi a0, zvi a1, zvi a2] I L R S Q := by
  refine And.intro rfl ?_
  refine And.intro (zak hF xs_40 rfl) (zrdR (v := some 154) (zfR (k := 40) (j := 19) hF zr_40_19 rfl) ?_)
  refine And.intro (zak hF xs_154 rfl) (Exists.intro _ (And.intro (zinl_ok (zT5_23 19)) (And.intro rfl ?_)))
  refine And.intro (by assumption) (And.intro (fun h1 => ?_) (fun h1 => ?_))
  · refine And.intro (zak hF xs_154 rfl) (Exists.intro _ (And.intro (zinl_ok (zT5_11 18)) (And.intro rfl ?_)))
    refine And.intro (by assumption) (And.intro (fun h2 => ?_) (fun h2 => ?_))
    · refine And.intro (Or.inl rfl) ?_
      refine And.intro (zRb rfl) (zbt rfl ?_)
      refine And.intro (zak hF xs_40 rfl) (Exists.intro _ (And.intro (zinl_ok (zT11_1 19)) (And.intro rfl ?_)))
      refine And.intro (zRb rfl) (zbf rfl ?_)
      refine And.intro ⟨(zak hF xs_40 rfl), (zRb rfl)⟩ ?_
      refine And.intro (zRb rfl) (zbf rfl ?_)
      refine hQ _ _ _ ?_
      exact ⟨fun k j h => (zu_o h rfl).trans (rfl), fun k j h => rfl, fun k j h => rfl⟩
    · refine And.intro (zak hF xs_154 rfl) (zrd (v := 0) (zfI (k := 154) (j := 0) hF zi_154_0 rfl) ?_)
      refine And.intro ⟨(by assumption), (zRb rfl)⟩ (And.intro (fun _ => ?_) (fun h => absurd h (by omega)))
      refine And.intro (Or.inl rfl) ?_
      refine And.intro (zRb rfl) (zbt rfl ?_)
      refine And.intro (zak hF xs_40 rfl) (Exists.intro _ (And.intro (zinl_ok (zT11_1 19)) (And.intro rfl ?_)))
      refine And.intro (zRb rfl) (zbf rfl ?_)
      refine And.intro ⟨(zak hF xs_40 rfl), (zRb rfl)⟩ ?_
      refine And.intro (zRb rfl) (zbf rfl ?_)
      refine hQ _ _ _ ?_
      exact ⟨fun k j h => (zu_o h rfl).trans (rfl), fun k j h => rfl, fun k j h => rfl⟩
  · refine And.intro ⟨(by assumption), (zRb rfl)⟩ (And.intro (fun h3 => ?_) (fun h3 => ?_))
    · refine And.intro (zak hF xs_154 rfl) (Exists.intro _ (And.intro (zinl_ok (zT5_11 18)) (And.intro rfl ?_)))
      refine And.intro (by assumption) (And.intro (fun h4 => ?_) (fun h4 => ?_))
      · refine And.intro (Or.inl rfl) ?_
        refine And.intro (zRb rfl) (zbt rfl ?_)
        refine And.intro (zak hF xs_40 rfl) (Exists.intro _ (And.intro (zinl_ok (zT11_1 19)) (And.intro rfl ?_)))
        refine And.intro (zRb rfl) (zbf rfl ?_)
        refine And.intro ⟨(zak hF xs_40 rfl), (zRb rfl)⟩ ?_
        refine And.intro (zRb rfl) (zbf rfl ?_)
        refine hQ _ _ _ ?_
        exact ⟨fun k j h => (zu_o h rfl).trans (rfl), fun k j h => rfl, fun k j h => rfl⟩
      · refine And.intro (zak hF xs_154 rfl) (zrd (v := 0) (zfI (k := 154) (j := 0) hF zi_154_0 rfl) ?_)
        refine And.intro ⟨(by assumption), (zRb rfl)⟩ (And.intro (fun _ => ?_) (fun h => absurd h (by omega)))
        refine And.intro (Or.inl rfl) ?_
        refine And.intro (zRb rfl) (zbt rfl ?_)
        refine And.intro (zak hF xs_40 rfl) (Exists.intro _ (And.intro (zinl_ok (zT11_1 19)) (And.intro rfl ?_)))
        refine And.intro (zRb rfl) (zbf rfl ?_)
        refine And.intro ⟨(zak hF xs_40 rfl), (zRb rfl)⟩ ?_
        refine And.intro (zRb rfl) (zbf rfl ?_)
        refine hQ _ _ _ ?_
        exact ⟨fun k j h => (zu_o h rfl).trans (rfl), fun k j h => rfl, fun k j h => rfl⟩
    · refine And.intro (by assumption) (And.intro (fun h5 => ?_) (fun h5 => ?_))
      · refine And.intro (zak hF xs_154 rfl) (Exists.intro _ (And.intro (zinl_ok (zT5_11 18)) (And.intro rfl ?_)))
        refine And.intro (by assumption) (And.intro (fun h6 => ?_) (fun h6 => ?_))
        · refine And.intro (Or.inl rfl) ?_
          refine And.intro (zRb rfl) (zbt rfl ?_)
          refine And.intro (zak hF xs_40 rfl) (Exists.intro _ (And.intro (zinl_ok (zT11_1 19)) (And.intro rfl ?_)))
          refine And.intro (zRb rfl) (zbf rfl ?_)
          refine And.intro ⟨(zak hF xs_40 rfl), (zRb rfl)⟩ ?_
          refine And.intro (zRb rfl) (zbf rfl ?_)
          refine hQ _ _ _ ?_
          exact ⟨fun k j h => (zu_o h rfl).trans (rfl), fun k j h => rfl, fun k j h => rfl⟩
        · refine And.intro (zak hF xs_154 rfl) (zrd (v := 0) (zfI (k := 154) (j := 0) hF zi_154_0 rfl) ?_)
          refine And.intro ⟨(by assumption), (zRb rfl)⟩ (And.intro (fun _ => ?_) (fun h => absurd h (by omega)))
          refine And.intro (Or.inl rfl) ?_
          refine And.intro (zRb rfl) (zbt rfl ?_)
          refine And.intro (zak hF xs_40 rfl) (Exists.intro _ (And.intro (zinl_ok (zT11_1 19)) (And.intro rfl ?_)))
          refine And.intro (zRb rfl) (zbf rfl ?_)
          refine And.intro ⟨(zak hF xs_40 rfl), (zRb rfl)⟩ ?_
          refine And.intro (zRb rfl) (zbf rfl ?_)
          refine hQ _ _ _ ?_
          exact ⟨fun k j h => (zu_o h rfl).trans (rfl), fun k j h => rfl, fun k j h => rfl⟩
      · refine And.intro ⟨(by assumption), (zRb rfl)⟩ (And.intro (fun h7 => ?_) (fun h7 => ?_))
        · refine And.intro (zak hF xs_154 rfl) (Exists.intro _ (And.intro (zinl_ok (zT5_11 18)) (And.intro rfl ?_)))
          refine And.intro (by assumption) (And.intro (fun h8 => ?_) (fun h8 => ?_))
          · refine And.intro (Or.inl rfl) ?_
            refine And.intro (zRb rfl) (zbt rfl ?_)
            refine And.intro (zak hF xs_40 rfl) (Exists.intro _ (And.intro (zinl_ok (zT11_1 19)) (And.intro rfl ?_)))
            refine And.intro (zRb rfl) (zbf rfl ?_)
            refine And.intro ⟨(zak hF xs_40 rfl), (zRb rfl)⟩ ?_
            refine And.intro (zRb rfl) (zbf rfl ?_)
            refine hQ _ _ _ ?_
            exact ⟨fun k j h => (zu_o h rfl).trans (rfl), fun k j h => rfl, fun k j h => rfl⟩
          · refine And.intro (zak hF xs_154 rfl) (zrd (v := 0) (zfI (k := 154) (j := 0) hF zi_154_0 rfl) ?_)
            refine And.intro ⟨(by assumption), (zRb rfl)⟩ (And.intro (fun _ => ?_) (fun h => absurd h (by omega)))
            refine And.intro (Or.inl rfl) ?_
            refine And.intro (zRb rfl) (zbt rfl ?_)
            refine And.intro (zak hF xs_40 rfl) (Exists.intro _ (And.intro (zinl_ok (zT11_1 19)) (And.intro rfl ?_)))
            refine And.intro (zRb rfl) (zbf rfl ?_)
            refine And.intro ⟨(zak hF xs_40 rfl), (zRb rfl)⟩ ?_
            refine And.intro (zRb rfl) (zbf rfl ?_)
            refine hQ _ _ _ ?_
            exact ⟨fun k j h => (zu_o h rfl).trans (rfl), fun k j h => rfl, fun k j h => rfl⟩
        · refine And.intro (zak hF xs_154 rfl) (Exists.intro _ (And.intro (zinl_ok (zT5_11 18)) (And.intro rfl ?_)))
          refine And.intro (by assumption) (And.intro (fun h9 => ?_) (fun h9 => ?_))
          · refine And.intro (Or.inl rfl) ?_
            refine And.intro (zRb rfl) (zbt rfl ?_)
            refine And.intro (zak hF xs_40 rfl) (Exists.intro _ (And.intro (zinl_ok (zT11_1 19)) (And.intro rfl ?_)))
            refine And.intro (zRb rfl) (zbf rfl ?_)
            refine And.intro ⟨(zak hF xs_40 rfl), (zRb rfl)⟩ ?_
            refine And.intro (zRb rfl) (zbf rfl ?_)
            refine hQ _ _ _ ?_
            exact ⟨fun k j h => (zu_o h rfl).trans (rfl), fun k j h => rfl, fun k j h => rfl⟩
          · refine And.intro (zak hF xs_154 rfl) (zrd (v := 0) (zfI (k := 154) (j := 0) hF zi_154_0 rfl) ?_)
            refine And.intro ⟨(by assumption), (zRb rfl)⟩ (And.intro (fun _ => ?_) (fun h => absurd h (by omega)))
            refine And.intro (Or.inl rfl) ?_
            refine And.intro (zRb rfl) (zbt rfl ?_)
            refine And.intro (zak hF xs_40 rfl) (Exists.intro _ (And.intro (zinl_ok (zT11_1 19)) (And.intro rfl ?_)))
            refine And.intro (zRb rfl) (zbf rfl ?_)
            refine And.intro ⟨(zak hF xs_40 rfl), (zRb rfl)⟩ ?_
            refine And.intro (zRb rfl) (zbf rfl ?_)
            refine hQ _ _ _ ?_
            exact ⟨fun k j h => (zu_o h rfl).trans (rfl), fun k j h => rfl, fun k j h => rfl⟩
theorem pq_approve_21 {I L : ZI} {R : ZR} {S : ZS} {Q : ZQ} (hF : zFr 165 302 I L R S) (a0 : Int) (r0 : r32 a0) (a1 : Int) (r1 : r32 a1) (a2 : Int) (r2 : r32 a2) (hQ : ∀ I' L' R', zEq 165 302 I L R I' L' R' → Q (some (zvi (-1))) I' L' R' S) : zinl 5 (zt21_1 20) [zvr 165, zvi a0, zvi a1, zvi a2] I L R S Q := by
  refine And.intro rfl ?_
  refine And.intro (zak hF xs_165 rfl) (zrdR (v := some 280) (zfR (k := 165) (j := 50) hF zr_165_50 rfl) ?_)
  refine And.intro (zak hF xs_280 rfl) (Exists.intro _ (And.intro (zinl_ok (zT19_0 19)) (And.intro rfl ?_)))
  refine And.intro (zak hF xs_280 rfl) (Exists.intro _ (And.intro (zinl_ok (zT19_18 18)) (And.intro rfl ?_)))
  refine And.intro (by assumption) (And.intro (fun h1 => ?_) (fun h1 => ?_))
  · refine And.intro (Or.inl rfl) ?_
    refine And.intro (zRb rfl) (zbf rfl ?_)
    refine And.intro ⟨(zak hF xs_280 rfl), (zRb rfl)⟩ ?_
    refine And.intro (zak hF xs_280 rfl) (zrd (v := 1) rfl ?_)
    refine And.intro (zRb rfl) (zbf rfl ?_)
    refine And.intro (zak hF xs_165 rfl) (zrdR (v := some 280) (zfR (k := 165) (j := 50) hF zr_165_50 rfl) ?_)
    refine And.intro (zak hF xs_280 rfl) (Exists.intro _ (And.intro (zinl_ok (zT19_33 19)) (And.intro rfl ?_)))
    refine And.intro (zak hF xs_280 rfl) (zrd (v := 1) rfl ?_)
    refine And.intro (zRb rfl) (zbt rfl ?_)
    refine And.intro (zak hF xs_165 rfl) (Exists.intro _ (And.intro (zinl_ok (zT21_47 19)) (And.intro rfl ?_)))
    refine And.intro ⟨(zak hF xs_165 rfl), (zRb rfl)⟩ ?_
    refine hQ _ _ _ ?_
    exact ⟨fun k j h => (zu_o h rfl).trans ((zu_o h rfl).trans (rfl)), fun k j h => rfl, fun k j h => rfl⟩
  · refine And.intro (zak hF xs_280 rfl) (zrd (v := 0) (zfI (k := 280) (j := 8) hF zi_280_8 rfl) ?_)
    refine And.intro ⟨(by assumption), (zRb rfl)⟩ (And.intro (fun _ => ?_) (fun h => absurd h (by omega)))
    refine And.intro (Or.inl rfl) ?_
    refine And.intro (zRb rfl) (zbf rfl ?_)
    refine And.intro ⟨(zak hF xs_280 rfl), (zRb rfl)⟩ ?_
    refine And.intro (zak hF xs_280 rfl) (zrd (v := 1) rfl ?_)
    refine And.intro (zRb rfl) (zbf rfl ?_)
    refine And.intro (zak hF xs_165 rfl) (zrdR (v := some 280) (zfR (k := 165) (j := 50) hF zr_165_50 rfl) ?_)
    refine And.intro (zak hF xs_280 rfl) (Exists.intro _ (And.intro (zinl_ok (zT19_33 19)) (And.intro rfl ?_)))
    refine And.intro (zak hF xs_280 rfl) (zrd (v := 1) rfl ?_)
    refine And.intro (zRb rfl) (zbt rfl ?_)
    refine And.intro (zak hF xs_165 rfl) (Exists.intro _ (And.intro (zinl_ok (zT21_47 19)) (And.intro rfl ?_)))
    refine And.intro ⟨(zak hF xs_165 rfl), (zRb rfl)⟩ ?_
    refine hQ _ _ _ ?_
    exact ⟨fun k j h => (zu_o h rfl).trans ((zu_o h rfl).trans (rfl)), fun k j h => rfl, fun k j h => rfl⟩
theorem pq_withdraw_11 {I L : ZI} {R : ZR} {S : ZS} {Q : ZQ} (hF : zFr 40 165 I L R S) (a0 : Int) (r0 : r32 a0) (hQ : ∀ I' L' R', zEq 40 165 I L R I' L' R' → Q (some (zvi 0)) I' L' R' S) : zinl 2 (zt11_56 20) [zvr 40, zvi a0] I L R S Q := by
  refine And.intro rfl ?_
  refine And.intro (zak hF xs_40 rfl) (zrdR (v := some 154) (zfR (k := 40) (j := 19) hF zr_40_19 rfl) ?_)
  refine And.intro (zak hF xs_154 rfl) (Exists.intro _ (And.intro (zinl_ok (zT5_24 19)) (And.intro rfl ?_)))
  refine And.intro (zak hF xs_154 rfl) (Exists.intro _ (And.intro (zinl_ok (zT5_11 18)) (And.intro rfl ?_)))
  refine And.intro (by assumption) (And.intro (fun h1 => ?_) (fun h1 => ?_))
  · refine And.intro (Or.inl rfl) ?_
    refine And.intro (zRb rfl) (zbf rfl ?_)
    refine And.intro (zak hF xs_40 rfl) (Exists.intro _ (And.intro (zinl_ok (zT11_22 19)) (And.intro rfl ?_)))
    refine And.intro (zak hF xs_40 rfl) (Exists.intro _ (And.intro (zinl_ok (zT11_1 18)) (And.intro rfl ?_)))
    refine And.intro (zRb rfl) (zbf rfl ?_)
    refine And.intro ⟨(zak hF xs_40 rfl), (zRb rfl)⟩ ?_
    refine And.intro (zRb rfl) (zbf rfl ?_)
    refine And.intro ⟨(zRb rfl), (zRb rfl)⟩ (zbt rfl ?_)
    refine And.intro (Or.inl rfl) ?_
    refine And.intro (Or.inl rfl) ?_
    refine hQ _ _ _ ?_
    exact ⟨fun k j h => (zu_o h rfl).trans (rfl), fun k j h => rfl, fun k j h => rfl⟩
  · refine And.intro (zak hF xs_154 rfl) (zrd (v := 0) (zfI (k := 154) (j := 0) hF zi_154_0 rfl) ?_)
    refine And.intro ⟨(by assumption), (zRb rfl)⟩ (And.intro (fun _ => ?_) (fun h => absurd h (by omega)))
    refine And.intro (Or.inl rfl) ?_
    refine And.intro (zRb rfl) (zbf rfl ?_)
    refine And.intro (zak hF xs_40 rfl) (Exists.intro _ (And.intro (zinl_ok (zT11_22 19)) (And.intro rfl ?_)))
    refine And.intro (zak hF xs_40 rfl) (Exists.intro _ (And.intro (zinl_ok (zT11_1 18)) (And.intro rfl ?_)))
    refine And.intro (zRb rfl) (zbf rfl ?_)
    refine And.intro ⟨(zak hF xs_40 rfl), (zRb rfl)⟩ ?_
    refine And.intro (zRb rfl) (zbf rfl ?_)
    refine And.intro ⟨(zRb rfl), (zRb rfl)⟩ (zbt rfl ?_)
    refine And.intro (Or.inl rfl) ?_
    refine And.intro (Or.inl rfl) ?_
    refine hQ _ _ _ ?_
    exact ⟨fun k j h => (zu_o h rfl).trans (rfl), fun k j h => rfl, fun k j h => rfl⟩
theorem pq_withdraw_21 {I L : ZI} {R : ZR} {S : ZS} {Q : ZQ} (hF : zFr 165 302 I L R S) (a0 : Int) (r0 : r32 a0) (hQ : ∀ I' L' R', zEq 165 302 I L R I' L' R' → Q (some (zvi 0)) I' L' R' S) : zinl 3 (zt21_79 20) [zvr 165, zvi a0] I L R S Q := by
  refine And.intro rfl ?_
  refine And.intro (zak hF xs_165 rfl) (zrdR (v := some 280) (zfR (k := 165) (j := 50) hF zr_165_50 rfl) ?_)
  refine And.intro (zak hF xs_280 rfl) (Exists.intro _ (And.intro (zinl_ok (zT19_35 19)) (And.intro rfl ?_)))
  refine And.intro (zak hF xs_280 rfl) (Exists.intro _ (And.intro (zinl_ok (zT19_18 18)) (And.intro rfl ?_)))
  refine And.intro (by assumption) (And.intro (fun h1 => ?_) (fun h1 => ?_))
  · refine And.intro (Or.inl rfl) ?_
    refine And.intro (zRb rfl) (zbt rfl ?_)
    refine And.intro ⟨(zak hF xs_280 rfl), (zRb rfl)⟩ ?_
    refine And.intro (zak hF xs_280 rfl) (zrd (v := 1) rfl ?_)
    refine And.intro (zRb rfl) (zbf rfl ?_)
    refine And.intro (zak hF xs_165 rfl) (zrdR (v := some 280) (zfR (k := 165) (j := 50) hF zr_165_50 rfl) ?_)
    refine And.intro (zak hF xs_280 rfl) (Exists.intro _ (And.intro (zinl_ok (zT19_33 19)) (And.intro rfl ?_)))
    refine And.intro (zak hF xs_280 rfl) (zrd (v := 1) rfl ?_)
    refine And.intro (zRb rfl) (zbf rfl ?_)
    refine And.intro (zak hF xs_165 rfl) (Exists.intro _ (And.intro (zinl_ok (zT21_48 19)) (And.intro rfl ?_)))
    refine And.intro ⟨(zak hF xs_165 rfl), (zRb rfl)⟩ ?_
    refine And.intro (zRb rfl) (zbf rfl ?_)
    refine And.intro (Or.inr rfl) ?_
    refine And.intro (zRb rfl) (zbt rfl ?_)
    refine And.intro (Or.inl rfl) ?_
    refine hQ _ _ _ ?_
    exact ⟨fun k j h => (zu_o h rfl).trans ((zu_o h rfl).trans (rfl)), fun k j h => rfl, fun k j h => rfl⟩
  · refine And.intro (zak hF xs_280 rfl) (zrd (v := 0) (zfI (k := 280) (j := 8) hF zi_280_8 rfl) ?_)
    refine And.intro ⟨(by assumption), (zRb rfl)⟩ (And.intro (fun _ => ?_) (fun h => absurd h (by omega)))
    refine And.intro (Or.inl rfl) ?_
    refine And.intro (zRb rfl) (zbt rfl ?_)
    refine And.intro ⟨(zak hF xs_280 rfl), (zRb rfl)⟩ ?_
    refine And.intro (zak hF xs_280 rfl) (zrd (v := 1) rfl ?_)
    refine And.intro (zRb rfl) (zbf rfl ?_)
    refine And.intro (zak hF xs_165 rfl) (zrdR (v := some 280) (zfR (k := 165) (j := 50) hF zr_165_50 rfl) ?_)
    refine And.intro (zak hF xs_280 rfl) (Exists.intro _ (And.intro (zinl_ok (zT19_33 19)) (And.intro rfl ?_)))
    refine And.intro (zak hF xs_280 rfl) (zrd (v := 1) rfl ?_)
    refine And.intro (zRb rfl) (zbf rfl ?_)
    refine And.intro (zak hF xs_165 rfl) (Exists.intro _ (And.intro (zinl_ok (zT21_48 19)) (And.intro rfl ?_)))
    refine And.intro ⟨(zak hF xs_165 rfl), (zRb rfl)⟩ ?_
    refine And.intro (zRb rfl) (zbf rfl ?_)
    refine And.intro (Or.inr rfl) ?_
    refine And.intro (zRb rfl) (zbt rfl ?_)
    refine And.intro (Or.inl rfl) ?_
    refine hQ _ _ _ ?_
    exact ⟨fun k j h => (zu_o h rfl).trans ((zu_o h rfl).trans (rfl)), fun k j h => rfl, fun k j h => rfl⟩
theorem pq_serial_11 {I L : ZI} {R : ZR} {S : ZS} {Q : ZQ} (hF : zFr 40 165 I L R S) (a0 : Int) (r0 : r32 a0) (hQ : ∀ I' L' R', zEq 40 165 I L R I' L' R' → Q (some (zvi (-1))) I' L' R' S) : zinl 2 (zt11_46 20) [zvr 40, zvi a0] I L R S Q := by
  refine And.intro rfl ?_
  refine And.intro (zak hF xs_40 rfl) (zrdR (v := some 154) (zfR (k := 40) (j := 19) hF zr_40_19 rfl) ?_)
  refine And.intro (zak hF xs_154 rfl) (Exists.intro _ (And.intro (zinl_ok (zT5_18 19)) (And.intro rfl ?_)))
  refine And.intro (zak hF xs_154 rfl) (Exists.intro _ (And.intro (zinl_ok (zT5_11 18)) (And.intro rfl ?_)))
  refine And.intro (by assumption) (And.intro (fun h1 => ?_) (fun h1 => ?_))
  · refine And.intro (Or.inl rfl) ?_
    refine And.intro (zRb rfl) (zbf rfl ?_)
    refine And.intro (zak hF xs_40 rfl) (Exists.intro _ (And.intro (zinl_ok (zT11_1 19)) (And.intro rfl ?_)))
    refine And.intro (zRb rfl) (zbf rfl ?_)
    refine And.intro ⟨(zak hF xs_40 rfl), (zRb rfl)⟩ ?_
    refine And.intro (zRb rfl) (zbf rfl ?_)
    refine hQ _ _ _ ?_
    exact ⟨fun k j h => (zu_o h rfl).trans (rfl), fun k j h => rfl, fun k j h => rfl⟩
  · refine And.intro (zak hF xs_154 rfl) (zrd (v := 0) (zfI (k := 154) (j := 0) hF zi_154_0 rfl) ?_)
    refine And.intro ⟨(by assumption), (zRb rfl)⟩ (And.intro (fun _ => ?_) (fun h => absurd h (by omega)))
    refine And.intro (Or.inl rfl) ?_
    refine And.intro (zRb rfl) (zbf rfl ?_)
    refine And.intro (zak hF xs_40 rfl) (Exists.intro _ (And.intro (zinl_ok (zT11_1 19)) (And.intro rfl ?_)))
    refine And.intro (zRb rfl) (zbf rfl ?_)
    refine And.intro ⟨(zak hF xs_40 rfl), (zRb rfl)⟩ ?_
    refine And.intro (zRb rfl) (zbf rfl ?_)
    refine hQ _ _ _ ?_
    exact ⟨fun k j h => (zu_o h rfl).trans (rfl), fun k j h => rfl, fun k j h => rfl⟩
theorem pq_serial_21 {I L : ZI} {R : ZR} {S : ZS} {Q : ZQ} (hF : zFr 165 302 I L R S) (a0 : Int) (r0 : r32 a0) (hQ : ∀ I' L' R', zEq 165 302 I L R I' L' R' → Q (some (zvi (-1))) I' L' R' S) : zinl 3 (zt21_68 20) [zvr 165, zvi a0] I L R S Q := by
  refine And.intro rfl ?_
  refine And.intro (zak hF xs_165 rfl) (zrdR (v := some 280) (zfR (k := 165) (j := 50) hF zr_165_50 rfl) ?_)
  refine And.intro (zak hF xs_280 rfl) (Exists.intro _ (And.intro (zinl_ok (zT19_18 19)) (And.intro rfl ?_)))
  refine And.intro (by assumption) (And.intro (fun h1 => ?_) (fun h1 => ?_))
  · refine And.intro (Or.inl rfl) ?_
    refine And.intro (zRb rfl) (zbf rfl ?_)
    refine And.intro (zak hF xs_165 rfl) (Exists.intro _ (And.intro (zinl_ok (zT21_47 19)) (And.intro rfl ?_)))
    refine And.intro ⟨(zak hF xs_165 rfl), (zRb rfl)⟩ ?_
    refine hQ _ _ _ ?_
    exact ⟨fun k j h => (zu_o h rfl).trans (rfl), fun k j h => rfl, fun k j h => rfl⟩
  · refine And.intro (zak hF xs_280 rfl) (zrd (v := 0) (zfI (k := 280) (j := 8) hF zi_280_8 rfl) ?_)
    refine And.intro ⟨(by assumption), (zRb rfl)⟩ (And.intro (fun _ => ?_) (fun h => absurd h (by omega)))
    refine And.intro (Or.inl rfl) ?_
    refine And.intro (zRb rfl) (zbf rfl ?_)
    refine And.intro (zak hF xs_165 rfl) (Exists.intro _ (And.intro (zinl_ok (zT21_47 19)) (And.intro rfl ?_)))
    refine And.intro ⟨(zak hF xs_165 rfl), (zRb rfl)⟩ ?_
    refine hQ _ _ _ ?_
    exact ⟨fun k j h => (zu_o h rfl).trans (rfl), fun k j h => rfl, fun k j h => rfl⟩
theorem pq_root_11 {I L : ZI} {R : ZR} {S : ZS} {Q : ZQ} (hF : zFr 40 165 I L R S) (a0 : Int) (r0 : r32 a0) (a1 : Int) (r1 : r32 a1) (hQ : ∀ I' L' R', zEq 40 165 I L R I' L' R' → Q (some (zvi (-1))) I' L' R' S) : zinl 3 (zt11_40 20) [zvr 40, zvi a0, zvi a1] I L R S Q := by
  refine And.intro rfl ?_
  refine And.intro (zak hF xs_40 rfl) (zrdR (v := some 154) (zfR (k := 40) (j := 19) hF zr_40_19 rfl) ?_)
  refine And.intro (zak hF xs_154 rfl) (Exists.intro _ (And.intro (zinl_ok (zT5_22 19)) (And.intro rfl ?_)))
  refine And.intro (zak hF xs_154 rfl) (Exists.intro _ (And.intro (zinl_ok (zT5_11 18)) (And.intro rfl ?_)))
  refine And.intro (by assumption) (And.intro (fun h1 => ?_) (fun h1 => ?_))
  · refine And.intro (Or.inl rfl) ?_
    refine And.intro (zRb rfl) (zbt rfl ?_)
    refine hQ _ _ _ ?_
    exact ⟨fun k j h => rfl, fun k j h => rfl, fun k j h => rfl⟩
  · refine And.intro (zak hF xs_154 rfl) (zrd (v := 0) (zfI (k := 154) (j := 0) hF zi_154_0 rfl) ?_)
    refine And.intro ⟨(by assumption), (zRb rfl)⟩ (And.intro (fun _ => ?_) (fun h => absurd h (by omega)))
    refine And.intro (Or.inl rfl) ?_
    refine And.intro (zRb rfl) (zbt rfl ?_)
    refine hQ _ _ _ ?_
    exact ⟨fun k j h => rfl, fun k j h => rfl, fun k j h => rfl⟩
theorem pq_root_21 {I L : ZI} {R : ZR} {S : ZS} {Q : ZQ} (hF : zFr 165 302 I L R S) (a0 : Int) (r0 : r32 a0) (a1 : Int) (r1 : r32 a1) (hQ : ∀ I' L' R', zEq 165 302 I L R I' L' R' → Q (some (zvi (-1))) I' L' R' S) : zinl 4 (zt21_54 20) [zvr 165, zvi a0, zvi a1] I L R S Q := by
  refine And.intro rfl ?_
  refine And.intro (zak hF xs_165 rfl) (zrdR (v := some 280) (zfR (k := 165) (j := 50) hF zr_165_50 rfl) ?_)
  refine And.intro (zak hF xs_280 rfl) (Exists.intro _ (And.intro (zinl_ok (zT19_27 19)) (And.intro rfl ?_)))
  refine And.intro (zak hF xs_280 rfl) (Exists.intro _ (And.intro (zinl_ok (zT19_18 18)) (And.intro rfl ?_)))
  refine And.intro (by assumption) (And.intro (fun h1 => ?_) (fun h1 => ?_))
  · refine And.intro (Or.inl rfl) ?_
    refine And.intro (zRb rfl) (zbt rfl ?_)
    refine And.intro ⟨(zak hF xs_280 rfl), (zRb rfl)⟩ ?_
    refine And.intro (zak hF xs_280 rfl) (zrd (v := 1) rfl ?_)
    refine And.intro (zRb rfl) (zbt rfl ?_)
    refine And.intro (zak hF xs_165 rfl) (zrdR (v := some 280) (zfR (k := 165) (j := 50) hF zr_165_50 rfl) ?_)
    refine And.intro (zak hF xs_280 rfl) (Exists.intro _ (And.intro (zinl_ok (zT19_33 19)) (And.intro rfl ?_)))
    refine And.intro (zak hF xs_280 rfl) (zrd (v := 1) rfl ?_)
    refine And.intro (zRb rfl) (zbt rfl ?_)
    refine hQ _ _ _ ?_
    exact ⟨fun k j h => (zu_o h rfl).trans (rfl), fun k j h => rfl, fun k j h => rfl⟩
  · refine And.intro (zak hF xs_280 rfl) (zrd (v := 0) (zfI (k := 280) (j := 8) hF zi_280_8 rfl) ?_)
    refine And.intro ⟨(by assumption), (zRb rfl)⟩ (And.intro (fun _ => ?_) (fun h => absurd h (by omega)))
    refine And.intro (Or.inl rfl) ?_
    refine And.intro (zRb rfl) (zbt rfl ?_)
    refine And.intro ⟨(zak hF xs_280 rfl), (zRb rfl)⟩ ?_
    refine And.intro (zak hF xs_280 rfl) (zrd (v := 1) rfl ?_)
    refine And.intro (zRb rfl) (zbt rfl ?_)
    refine And.intro (zak hF xs_165 rfl) (zrdR (v := some 280) (zfR (k := 165) (j := 50) hF zr_165_50 rfl) ?_)
    refine And.intro (zak hF xs_280 rfl) (Exists.intro _ (And.intro (zinl_ok (zT19_33 19)) (And.intro rfl ?_)))
    refine And.intro (zak hF xs_280 rfl) (zrd (v := 1) rfl ?_)
    refine And.intro (zRb rfl) (zbt rfl ?_)
    refine hQ _ _ _ ?_
    exact ⟨fun k j h => (zu_o h rfl).trans (rfl), fun k j h => rfl, fun k j h => rfl⟩
theorem pq_proof_11 {I L : ZI} {R : ZR} {S : ZS} {Q : ZQ} (hF : zFr 40 165 I L R S) (a0 : Int) (r0 : r32 a0) (a1 : Int) (r1 : r32 a1) (a2 : Int) (r2 : r32 a2) (hQ : ∀ I' L' R', zEq 40 165 I L R I' L' R' → Q (some (zvi (-1))) I' L' R' S) : zinl 4 (zt11_34 20) [zvr 40, zvi a0, zvi a1, zvi a2] I L R S Q := by
  refine And.intro rfl ?_
  refine And.intro (zak hF xs_40 rfl) (zrdR (v := some 154) (zfR (k := 40) (j := 19) hF zr_40_19 rfl) ?_)
  refine And.intro (zak hF xs_154 rfl) (Exists.intro _ (And.intro (zinl_ok (zT5_19 19)) (And.intro rfl ?_)))
  refine And.intro (zak hF xs_154 rfl) (Exists.intro _ (And.intro (zinl_ok (zT5_10 18)) (And.intro rfl ?_)))
  refine And.intro (by assumption) (And.intro (fun h1 => ?_) (fun h1 => ?_))
  · refine And.intro (Or.inl rfl) ?_
    refine And.intro (zRb rfl) (zbf rfl ?_)
    refine hQ _ _ _ ?_
    exact ⟨fun k j h => rfl, fun k j h => rfl, fun k j h => rfl⟩
  · refine And.intro (zak hF xs_154 rfl) (Exists.intro _ (And.intro (zinl_ok (zT5_14 17)) (And.intro rfl ?_)))
    refine And.intro (zak hF xs_154 rfl) (Exists.intro _ (And.intro (zinl_ok (zT5_11 16)) (And.intro rfl ?_)))
    refine And.intro (by assumption) (And.intro (fun h2 => ?_) (fun h2 => ?_))
    · refine And.intro (Or.inl rfl) ?_
      refine And.intro (zRb rfl) (zbt rfl ?_)
      refine And.intro ⟨(by assumption), (zRb rfl)⟩ (And.intro (fun _ => ?_) (fun h => absurd h (by omega)))
      refine And.intro (Or.inl rfl) ?_
      refine And.intro (zRb rfl) (zbf rfl ?_)
      refine hQ _ _ _ ?_
      exact ⟨fun k j h => rfl, fun k j h => rfl, fun k j h => rfl⟩
    · refine And.intro (zak hF xs_154 rfl) (zrd (v := 0) (zfI (k := 154) (j := 0) hF zi_154_0 rfl) ?_)
      refine And.intro ⟨(by assumption), (zRb rfl)⟩ (And.intro (fun _ => ?_) (fun h => absurd h (by omega)))
      refine And.intro (Or.inl rfl) ?_
      refine And.intro (zRb rfl) (zbt rfl ?_)
      refine And.intro ⟨(by assumption), (zRb rfl)⟩ (And.intro (fun _ => ?_) (fun h => absurd h (by omega)))
      refine And.intro (Or.inl rfl) ?_
      refine And.intro (zRb rfl) (zbf rfl ?_)
      refine hQ _ _ _ ?_
      exact ⟨fun k j h => rfl, fun k j h => rfl, fun k j h => rfl⟩
theorem pq_proof_21 {I L : ZI} {R : ZR} {S : ZS} {Q : ZQ} (hF : zFr 165 302 I L R S) (a0 : Int) (r0 : r32 a0) (a1 : Int) (r1 : r32 a1) (a2 : Int) (r2 : r32 a2) (hQ : ∀ I' L' R', zEq 165 302 I L R I' L' R' → Q (some (zvi (-1))) I' L' R' S) : zinl 5 (zt21_45 20) [zvr 165, zvi a0, zvi a1, zvi a2] I L R S Q := by
  refine And.intro rfl ?_
  refine And.intro (zak hF xs_165 rfl) (zrdR (v := some 280) (zfR (k := 165) (j := 50) hF zr_165_50 rfl) ?_)
  refine And.intro (zak hF xs_280 rfl) (Exists.intro _ (And.intro (zinl_ok (zT19_24 19)) (And.intro rfl ?_)))
  refine And.intro (zak hF xs_280 rfl) (Exists.intro _ (And.intro (zinl_ok (zT19_17 18)) (And.intro rfl ?_)))
  refine And.intro (zak hF xs_280 rfl) (Exists.intro _ (And.intro (zinl_ok (zT19_18 17)) (And.intro rfl ?_)))
  refine And.intro (by assumption) (And.intro (fun h1 => ?_) (fun h1 => ?_))
  · refine And.intro (Or.inl rfl) ?_
    refine And.intro (zRb rfl) (zbt rfl ?_)
    refine And.intro (Or.inl rfl) ?_
    refine And.intro (zRb rfl) (zbt rfl ?_)
    refine And.intro ⟨(zak hF xs_280 rfl), (zRb rfl)⟩ ?_
    refine And.intro (zak hF xs_280 rfl) (zrd (v := 1) rfl ?_)
    refine And.intro (zRb rfl) (zbf rfl ?_)
    refine And.intro (zak hF xs_165 rfl) (zrdR (v := some 280) (zfR (k := 165) (j := 50) hF zr_165_50 rfl) ?_)
    refine And.intro (zak hF xs_280 rfl) (Exists.intro _ (And.intro (zinl_ok (zT19_33 19)) (And.intro rfl ?_)))
    refine And.intro (zak hF xs_280 rfl) (zrd (v := 1) rfl ?_)
    refine And.intro (zRb rfl) (zbt rfl ?_)
    refine hQ _ _ _ ?_
    exact ⟨fun k j h => (zu_o h rfl).trans (rfl), fun k j h => rfl, fun k j h => rfl⟩
  · refine And.intro (zak hF xs_280 rfl) (zrd (v := 0) (zfI (k := 280) (j := 8) hF zi_280_8 rfl) ?_)
    refine And.intro ⟨(by assumption), (zRb rfl)⟩ (And.intro (fun _ => ?_) (fun h => absurd h (by omega)))
    refine And.intro (Or.inl rfl) ?_
    refine And.intro (zRb rfl) (zbt rfl ?_)
    refine And.intro (Or.inl rfl) ?_
    refine And.intro (zRb rfl) (zbt rfl ?_)
    refine And.intro ⟨(zak hF xs_280 rfl), (zRb rfl)⟩ ?_
    refine And.intro (zak hF xs_280 rfl) (zrd (v := 1) rfl ?_)
    refine And.intro (zRb rfl) (zbf rfl ?_)
    refine And.intro (zak hF xs_165 rfl) (zrdR (v := some 280) (zfR (k := 165) (j := 50) hF zr_165_50 rfl) ?_)
    refine And.intro (zak hF xs_280 rfl) (Exists.intro _ (And.intro (zinl_ok (zT19_33 19)) (And.intro rfl ?_)))
    refine And.intro (zak hF xs_280 rfl) (zrd (v := 1) rfl ?_)
    refine And.intro (zRb rfl) (zbt rfl ?_)
    refine hQ _ _ _ ?_
    exact ⟨fun k j h => (zu_o h rfl).trans (rfl), fun k j h => rfl, fun k j h => rfl⟩
theorem pq_check_11 {I L : ZI} {R : ZR} {S : ZS} {Q : ZQ} (hF : zFr 40 165 I L R S) (a0 : Int) (r0 : r32 a0) (a1 : Int) (r1 : r32 a1) (a2 : Int) (r2 : r32 a2) (a3 : Int) (r3 : r32 a3) (hQ : ∀ I' L' R', zEq 40 165 I L R I' L' R' → Q (some (zvi (-1))) I' L' R' S) : zinl 5 (zt11_6 20) [zvr 40, zvi a0, zvi a1, zvi a2, zvi a3] I L R S Q := by
  refine And.intro rfl ?_
  refine And.intro (zak hF xs_40 rfl) (zrdR (v := some 154) (zfR (k := 40) (j := 19) hF zr_40_19 rfl) ?_)
  refine And.intro (zak hF xs_154 rfl) (Exists.intro _ (And.intro (zinl_ok (zT5_4 19)) (And.intro rfl ?_)))
  refine And.intro (zak hF xs_154 rfl) (Exists.intro _ (And.intro (zinl_ok (zT5_10 18)) (And.intro rfl ?_)))
  refine And.intro (by assumption) (And.intro (fun h1 => ?_) (fun h1 => ?_))
  · refine And.intro (Or.inl rfl) ?_
    refine And.intro (zRb rfl) (zbf rfl ?_)
    refine hQ _ _ _ ?_
    exact ⟨fun k j h => rfl, fun k j h => rfl, fun k j h => rfl⟩
  · refine And.intro (zak hF xs_154 rfl) (Exists.intro _ (And.intro (zinl_ok (zT5_14 17)) (And.intro rfl ?_)))
    refine And.intro (zak hF xs_154 rfl) (Exists.intro _ (And.intro (zinl_ok (zT5_11 16)) (And.intro rfl ?_)))
    refine And.intro (by assumption) (And.intro (fun h2 => ?_) (fun h2 => ?_))
    · refine And.intro (Or.inl rfl) ?_
      refine And.intro (zRb rfl) (zbt rfl ?_)
      refine And.intro ⟨(by assumption), (zRb rfl)⟩ (And.intro (fun _ => ?_) (fun h => absurd h (by omega)))
      refine And.intro (Or.inl rfl) ?_
      refine And.intro (zRb rfl) (zbf rfl ?_)
      refine hQ _ _ _ ?_
      exact ⟨fun k j h => rfl, fun k j h => rfl, fun k j h => rfl⟩
    · refine And.intro (zak hF xs_154 rfl) (zrd (v := 0) (zfI (k := 154) (j := 0) hF zi_154_0 rfl) ?_)
      refine And.intro ⟨(by assumption), (zRb rfl)⟩ (And.intro (fun _ => ?_) (fun h => absurd h (by omega)))
      refine And.intro (Or.inl rfl) ?_
      refine And.intro (zRb rfl) (zbt rfl ?_)
      refine And.intro ⟨(by assumption), (zRb rfl)⟩ (And.intro (fun _ => ?_) (fun h => absurd h (by omega)))
      refine And.intro (Or.inl rfl) ?_
      refine And.intro (zRb rfl) (zbf rfl ?_)
      refine hQ _ _ _ ?_
      exact ⟨fun k j h => rfl, fun k j h => rfl, fun k j h => rfl⟩
theorem pq_check_21 {I L : ZI} {R : ZR} {S : ZS} {Q : ZQ} (hF : zFr 165 302 I L R S) (a0 : Int) (r0 : r32 a0) (a1 : Int) (r1 : r32 a1) (a2 : Int) (r2 : r32 a2) (a3 : Int) (r3 : r32 a3) (hQ : ∀ I' L' R', zEq 165 302 I L R I' L' R' → Q (some (zvi (-1))) I' L' R' S) : zinl 8 (zt21_5 20) [zvr 165, zvi a0, zvi a1, zvi a2, zvi a3] I L R S Q := by
  refine And.intro rfl ?_
  refine And.intro (zak hF xs_165 rfl) (zrdR (v := some 280) (zfR (k := 165) (j := 50) hF zr_165_50 rfl) ?_)
  refine And.intro (zak hF xs_280 rfl) (Exists.intro _ (And.intro (zinl_ok (zT19_17 19)) (And.intro rfl ?_)))
  refine And.intro (zak hF xs_280 rfl) (Exists.intro _ (And.intro (zinl_ok (zT19_18 18)) (And.intro rfl ?_)))
  refine And.intro (by assumption) (And.intro (fun h1 => ?_) (fun h1 => ?_))
  · refine And.intro (Or.inl rfl) ?_
    refine And.intro (zRb rfl) (zbt rfl ?_)
    refine And.intro (Or.inl rfl) ?_
    refine And.intro (zRb rfl) (zbf rfl ?_)
    refine hQ _ _ _ ?_
    exact ⟨fun k j h => rfl, fun k j h => rfl, fun k j h => rfl⟩
  · refine And.intro (zak hF xs_280 rfl) (zrd (v := 0) (zfI (k := 280) (j := 8) hF zi_280_8 rfl) ?_)
    refine And.intro ⟨(by assumption), (zRb rfl)⟩ (And.intro (fun _ => ?_) (fun h => absurd h (by omega)))
    refine And.intro (Or.inl rfl) ?_
    refine And.intro (zRb rfl) (zbt rfl ?_)
    refine And.intro (Or.inl rfl) ?_
    refine And.intro (zRb rfl) (zbf rfl ?_)
    refine hQ _ _ _ ?_
    exact ⟨fun k j h => rfl, fun k j h => rfl, fun k j h => rfl⟩
theorem pq_told_11 {I L : ZI} {R : ZR} {S : ZS} {Q : ZQ} (hF : zFr 40 165 I L R S)  (hQ : ∀ I' L' R', zEq 40 165 I L R I' L' R' → Q (some (zvi 0)) I' L' R' S) : zinl 1 (zt11_52 20) [zvr 40] I L R S Q := by
  refine And.intro rfl ?_
  refine And.intro (zak hF xs_40 rfl) (zrd (v := 0) (zfI (k := 40) (j := 3) hF zi_40_3 rfl) ?_)
  refine hQ _ _ _ ?_
  exact ⟨fun k j h => rfl, fun k j h => rfl, fun k j h => rfl⟩
theorem pq_told_21 {I L : ZI} {R : ZR} {S : ZS} {Q : ZQ} (hF : zFr 165 302 I L R S)  (hQ : ∀ I' L' R', zEq 165 302 I L R I' L' R' → Q (some (zvi 0)) I' L' R' S) : zinl 1 (zt21_74 20) [zvr 165] I L R S Q := by
  refine And.intro rfl ?_
  refine And.intro (zak hF xs_165 rfl) (zrd (v := 0) (zfI (k := 165) (j := 0) hF zi_165_0 rfl) ?_)
  refine hQ _ _ _ ?_
  exact ⟨fun k j h => rfl, fun k j h => rfl, fun k j h => rfl⟩
