theorem z_trn {P : Nat} (h : P = 2 ∨ P = 3 ∨ P = 4 ∨ P = 6 ∨ P = 8 ∨ P = 12) (j : Nat) : j * 24 / P = j * (24 / P) := by
  rcases h with rfl | rfl | rfl | rfl | rfl | rfl <;> omega
def z_shI (f : Nat → Int32) (a : Nat) : Nat → Int32 := fun k => f (a + k)
/-- the residual, step by step -/
def z_gj (m : Nat → Int32) (P j : Nat) (g : Int64) : Nat → Int64
  | 0 => g
  | k + 1 => z_mx (z_gj m P j g k) (z_rs m P k j)
def z_gp (m : Nat → Int32) (P : Nat) : Nat → Int64
  | 0 => 0
  | j + 1 => z_gj m P j (z_gp m P j) 24
theorem z_mx_1 {a b : Int64} (h : ¬ b ≤ a) : b = z_mx a b := (if_pos (Int64.not_le.mp h)).symm
theorem z_mx_0 {a b : Int64} (h : b ≤ a) : a = z_mx a b := (if_neg (Int64.not_lt.mpr h)).symm
theorem z_mn_1 {a b : Int64} (h : ¬ a ≤ b) : b = z_mn a b := (if_pos (Int64.not_le.mp h)).symm
theorem z_mn_0 {a b : Int64} (h : a ≤ b) : a = z_mn a b := (if_neg (Int64.not_lt.mpr h)).symm
theorem dX8_isComplete_0 : decode cX8_isComplete 0 = .ok (.aload_n 0, 1) := by decide +kernel
theorem dX8_isComplete_1 : decode cX8_isComplete 1 = .ok (.getfield 80, 3) := by decide +kernel
theorem dX8_isComplete_4 : decode cX8_isComplete 4 = .ok (.bipush 24, 2) := by decide +kernel
theorem dX8_isComplete_6 : decode cX8_isComplete 6 = .ok (.aload_n 0, 1) := by decide +kernel
theorem dX8_isComplete_7 : decode cX8_isComplete 7 = .ok (.getfield 60, 3) := by decide +kernel
theorem dX8_isComplete_10 : decode cX8_isComplete 10 = .ok (.imul, 1) := by decide +kernel
theorem dX8_isComplete_11 : decode cX8_isComplete 11 = .ok (.if_icmp .ne 7, 3) := by decide +kernel
theorem dX8_isComplete_14 : decode cX8_isComplete 14 = .ok (.iconst 1, 1) := by decide +kernel
theorem dX8_isComplete_15 : decode cX8_isComplete 15 = .ok (.goto 4, 3) := by decide +kernel
theorem dX8_isComplete_18 : decode cX8_isComplete 18 = .ok (.iconst 0, 1) := by decide +kernel
theorem dX8_isComplete_19 : decode cX8_isComplete 19 = .ok (.ireturn, 1) := by decide +kernel
set_option maxRecDepth 100000 in
set_option maxHeartbeats 4000000 in
theorem m_X8_isComplete {l : Launch} {G : z_Gl} {σ : z_St} (P n u v w rc tl : Nat) (hM : z_mi σ P n u v w rc tl) : z_M l G yX8_isComplete cX8_isComplete 1 (some .boolean) (z_rm 0 0) [.ref (z_ad G 105)] σ (z_p1 (.int (z_bo (P * 24 ≤ n))) σ) := by
  refine z_M.of (by decide) (Nat.le_of_ble_eq_true rfl) (fun p e s m below meth c C => ?_)
  refine z_sub [0] (lv1 := [(0, .ref (z_ad G 105))]) rfl ?_
  have hM0 := hM
  obtain ⟨⟨hP, hn, hu, hv, hw, hrc, htl⟩, hPs, hnP, huv, hw6, hrc8, htl2, hqt, hah⟩ := hM0
  have h0 : 0 < P := by omega
  have h12 : P ≤ 12 := by omega
  have h288 : n ≤ 288 := by omega
  refine z_aload_n 0 C dX8_isComplete_0 0 rfl ?_
  refine z_getf 1 C 105 z_dX8 (⟨rfl, rfl⟩) 2 (by decide) q968 (.int (nI n)) (z_ci hn) dX8_isComplete_1 ?_
  refine z_bipush 4 C dX8_isComplete_4 (nI 24) rfl ?_
  refine z_aload_n 6 C dX8_isComplete_6 0 rfl ?_
  refine z_getf 7 C 105 z_dX8 (⟨rfl, rfl⟩) 1 (by decide) q967 (.int (nI P)) (z_ci hP) dX8_isComplete_7 ?_
  refine z_imulN 10 C 24 P rfl rfl dX8_isComplete_10 ?_
  refine z_icmp_neN 11 C n (24 * P) rfl rfl (by omega) (by omega) 18 dX8_isComplete_11 (by decide) (fun c11 => ?_) (fun c11 => ?_)
  · skip
    refine z_iconst 18 C dX8_isComplete_18 (nI 0) rfl ?_
    refine z_zret 19 C (rfl) dX8_isComplete_19 ?_
    first | exact ⟨z_ci (z_bo_f (fun z => c11 (by omega))), rfl⟩ | exact ⟨z_ci (z_bo_t (by omega)), rfl⟩
  · skip
    refine z_iconst 14 C dX8_isComplete_14 (nI 1) rfl ?_
    refine z_goto 15 C 19 dX8_isComplete_15 (by decide) ?_
    refine z_zret 19 C (rfl) dX8_isComplete_19 ?_
    first | exact ⟨z_ci (z_bo_f (fun z => c11 (by omega))), rfl⟩ | exact ⟨z_ci (z_bo_t (by omega)), rfl⟩
theorem dX8_noStep_0 : decode cX8_noStep 0 = .ok (.iload_n 1, 1) := by decide +kernel
theorem dX8_noStep_1 : decode cX8_noStep 1 = .ok (.i2l, 1) := by decide +kernel
theorem dX8_noStep_2 : decode cX8_noStep 2 = .ok (.lconst 0, 1) := by decide +kernel
theorem dX8_noStep_3 : decode cX8_noStep 3 = .ok (.aload_n 0, 1) := by decide +kernel
theorem dX8_noStep_4 : decode cX8_noStep 4 = .ok (.getfield 60, 3) := by decide +kernel
theorem dX8_noStep_7 : decode cX8_noStep 7 = .ok (.i2l, 1) := by decide +kernel
theorem dX8_noStep_8 : decode cX8_noStep 8 = .ok (.lconst 1, 1) := by decide +kernel
theorem dX8_noStep_9 : decode cX8_noStep 9 = .ok (.lsub, 1) := by decide +kernel
theorem dX8_noStep_10 : decode cX8_noStep 10 = .ok (.invokestatic 68, 3) := by decide +kernel
theorem dX8_noStep_13 : decode cX8_noStep 13 = .ok (.ifCond .ne 7, 3) := by decide +kernel
theorem dX8_noStep_16 : decode cX8_noStep 16 = .ok (.iconst 1, 1) := by decide +kernel
theorem dX8_noStep_17 : decode cX8_noStep 17 = .ok (.goto 4, 3) := by decide +kernel
theorem dX8_noStep_20 : decode cX8_noStep 20 = .ok (.iconst 0, 1) := by decide +kernel
theorem dX8_noStep_21 : decode cX8_noStep 21 = .ok (.ireturn, 1) := by decide +kernel
set_option maxRecDepth 100000 in
set_option maxHeartbeats 4000000 in
theorem m_X8_noStep {l : Launch} {G : z_Gl} {σ : z_St} (P n u v w rc tl : Nat) (hM : z_mi σ P n u v w rc tl) (x : Int32) : z_M l G yX8_noStep cX8_noStep 2 (some .boolean) (z_rm 1 25) [.ref (z_ad G 105), .int x] σ (z_p1 (.int (z_bo (x < nI 0 ∨ nI P - nI 1 < x))) σ) := by
  refine z_M.of (by decide) (Nat.le_of_ble_eq_true rfl) (fun p e s m below meth c C => ?_)
  refine z_sub [0, 1] (lv1 := [(0, .ref (z_ad G 105)), (1, .int x)]) rfl ?_
  have hM0 := hM
  obtain ⟨⟨hP, hn, hu, hv, hw, hrc, htl⟩, hPs, hnP, huv, hw6, hrc8, htl2, hqt, hah⟩ := hM0
  have h0 : 0 < P := by omega
  have h12 : P ≤ 12 := by omega
  have h288 : n ≤ 288 := by omega
  refine z_iload_n 0 C dX8_noStep_0 1 rfl ?_
  refine z_i2l 1 C dX8_noStep_1 ?_
  refine z_lconst 2 C dX8_noStep_2 0 rfl ?_
  refine z_aload_n 3 C dX8_noStep_3 0 rfl ?_
  refine z_getf 4 C 105 z_dX8 (⟨rfl, rfl⟩) 1 (by decide) q967 (.int (nI P)) (z_ci hP) dX8_noStep_4 ?_
  refine z_i2l 7 C dX8_noStep_7 ?_
  refine z_lconst 8 C dX8_noStep_8 1 rfl ?_
  refine z_lsub 9 C dX8_noStep_9 ?_
  refine z_callS 10 C (As := [.long (Int32.toInt64 x), .long 0, .long ((Int32.toInt64 (nI P)) - 1)]) (rest := []) (m_X8_in_i x (nI 0) (nI P - nI 1) (by decide) (z_sb1 (by omega))) k_X8_in q1071 ⟨rfl, rfl⟩ ⟨Nat.le_of_ble_eq_true rfl, Nat.le_of_ble_eq_true rfl⟩ rfl (Nat.le_of_ble_eq_true rfl) ⟨Nat.le_of_ble_eq_true rfl, Nat.le_of_ble_eq_true rfl⟩ rfl dX8_noStep_10 (z_k1 ?_)
  refine z_if_neb 13 C 20 dX8_noStep_13 (by decide) (fun c13 => ?_) (fun c13 => ?_)
  · skip
    refine z_iconst 20 C dX8_noStep_20 (nI 0) rfl ?_
    refine z_zret 21 C (rfl) dX8_noStep_21 ?_
    first | exact ⟨z_ci (z_bo_f c13), rfl⟩ | exact ⟨z_ci (z_bo_t c13), rfl⟩
  · skip
    replace c13 := Classical.not_not.mp c13
    refine z_iconst 16 C dX8_noStep_16 (nI 1) rfl ?_
    refine z_goto 17 C 21 dX8_noStep_17 (by decide) ?_
    refine z_zret 21 C (rfl) dX8_noStep_21 ?_
    first | exact ⟨z_ci (z_bo_f c13), rfl⟩ | exact ⟨z_ci (z_bo_t c13), rfl⟩
theorem dX8_noTrace_0 : decode cX8_noTrace 0 = .ok (.iload_n 1, 1) := by decide +kernel
theorem dX8_noTrace_1 : decode cX8_noTrace 1 = .ok (.i2l, 1) := by decide +kernel
theorem dX8_noTrace_2 : decode cX8_noTrace 2 = .ok (.lconst 0, 1) := by decide +kernel
theorem dX8_noTrace_3 : decode cX8_noTrace 3 = .ok (.aload_n 0, 1) := by decide +kernel
theorem dX8_noTrace_4 : decode cX8_noTrace 4 = .ok (.getfield 261, 3) := by decide +kernel
theorem dX8_noTrace_7 : decode cX8_noTrace 7 = .ok (.i2l, 1) := by decide +kernel
theorem dX8_noTrace_8 : decode cX8_noTrace 8 = .ok (.lconst 1, 1) := by decide +kernel
theorem dX8_noTrace_9 : decode cX8_noTrace 9 = .ok (.lsub, 1) := by decide +kernel
theorem dX8_noTrace_10 : decode cX8_noTrace 10 = .ok (.invokestatic 68, 3) := by decide +kernel
theorem dX8_noTrace_13 : decode cX8_noTrace 13 = .ok (.ifCond .ne 7, 3) := by decide +kernel
theorem dX8_noTrace_16 : decode cX8_noTrace 16 = .ok (.iconst 1, 1) := by decide +kernel
theorem dX8_noTrace_17 : decode cX8_noTrace 17 = .ok (.goto 4, 3) := by decide +kernel
theorem dX8_noTrace_20 : decode cX8_noTrace 20 = .ok (.iconst 0, 1) := by decide +kernel
theorem dX8_noTrace_21 : decode cX8_noTrace 21 = .ok (.ireturn, 1) := by decide +kernel
set_option maxRecDepth 100000 in
set_option maxHeartbeats 4000000 in
theorem m_X8_noTrace {l : Launch} {G : z_Gl} {σ : z_St} (P n u v w rc tl : Nat) (hM : z_mi σ P n u v w rc tl) (x : Int32) : z_M l G yX8_noTrace cX8_noTrace 2 (some .boolean) (z_rm 1 25) [.ref (z_ad G 105), .int x] σ (z_p1 (.int (z_bo (x < nI 0 ∨ nI w - nI 1 < x))) σ) := by
  refine z_M.of (by decide) (Nat.le_of_ble_eq_true rfl) (fun p e s m below meth c C => ?_)
  refine z_sub [0, 1] (lv1 := [(0, .ref (z_ad G 105)), (1, .int x)]) rfl ?_
  have hM0 := hM
  obtain ⟨⟨hP, hn, hu, hv, hw, hrc, htl⟩, hPs, hnP, huv, hw6, hrc8, htl2, hqt, hah⟩ := hM0
  have h0 : 0 < P := by omega
  have h12 : P ≤ 12 := by omega
  have h288 : n ≤ 288 := by omega
  refine z_iload_n 0 C dX8_noTrace_0 1 rfl ?_
  refine z_i2l 1 C dX8_noTrace_1 ?_
  refine z_lconst 2 C dX8_noTrace_2 0 rfl ?_
  refine z_aload_n 3 C dX8_noTrace_3 0 rfl ?_
  refine z_getf 4 C 105 z_dX8 (⟨rfl, rfl⟩) 17 (by decide) q983 (.int (nI w)) (z_ci hw) dX8_noTrace_4 ?_
  refine z_i2l 7 C dX8_noTrace_7 ?_
  refine z_lconst 8 C dX8_noTrace_8 1 rfl ?_
  refine z_lsub 9 C dX8_noTrace_9 ?_
  refine z_callS 10 C (As := [.long (Int32.toInt64 x), .long 0, .long ((Int32.toInt64 (nI w)) - 1)]) (rest := []) (m_X8_in_i x (nI 0) (nI w - nI 1) (by decide) (z_sb1 (by omega))) k_X8_in q1071 ⟨rfl, rfl⟩ ⟨Nat.le_of_ble_eq_true rfl, Nat.le_of_ble_eq_true rfl⟩ rfl (Nat.le_of_ble_eq_true rfl) ⟨Nat.le_of_ble_eq_true rfl, Nat.le_of_ble_eq_true rfl⟩ rfl dX8_noTrace_10 (z_k1 ?_)
  refine z_if_neb 13 C 20 dX8_noTrace_13 (by decide) (fun c13 => ?_) (fun c13 => ?_)
  · skip
    refine z_iconst 20 C dX8_noTrace_20 (nI 0) rfl ?_
    refine z_zret 21 C (rfl) dX8_noTrace_21 ?_
    first | exact ⟨z_ci (z_bo_f c13), rfl⟩ | exact ⟨z_ci (z_bo_t c13), rfl⟩
  · skip
    replace c13 := Classical.not_not.mp c13
    refine z_iconst 16 C dX8_noTrace_16 (nI 1) rfl ?_
    refine z_goto 17 C 21 dX8_noTrace_17 (by decide) ?_
    refine z_zret 21 C (rfl) dX8_noTrace_21 ?_
    first | exact ⟨z_ci (z_bo_f c13), rfl⟩ | exact ⟨z_ci (z_bo_t c13), rfl⟩
theorem dX8_isFinished_0 : decode cX8_isFinished 0 = .ok (.aload_n 0, 1) := by decide +kernel
theorem dX8_isFinished_1 : decode cX8_isFinished 1 = .ok (.getfield 80, 3) := by decide +kernel
theorem dX8_isFinished_4 : decode cX8_isFinished 4 = .ok (.bipush 24, 2) := by decide +kernel
theorem dX8_isFinished_6 : decode cX8_isFinished 6 = .ok (.iload_n 1, 1) := by decide +kernel
theorem dX8_isFinished_7 : decode cX8_isFinished 7 = .ok (.iconst 1, 1) := by decide +kernel
theorem dX8_isFinished_8 : decode cX8_isFinished 8 = .ok (.iadd, 1) := by decide +kernel
theorem dX8_isFinished_9 : decode cX8_isFinished 9 = .ok (.imul, 1) := by decide +kernel
theorem dX8_isFinished_10 : decode cX8_isFinished 10 = .ok (.if_icmp .lt 7, 3) := by decide +kernel
theorem dX8_isFinished_13 : decode cX8_isFinished 13 = .ok (.iconst 1, 1) := by decide +kernel
theorem dX8_isFinished_14 : decode cX8_isFinished 14 = .ok (.goto 4, 3) := by decide +kernel
theorem dX8_isFinished_17 : decode cX8_isFinished 17 = .ok (.iconst 0, 1) := by decide +kernel
theorem dX8_isFinished_18 : decode cX8_isFinished 18 = .ok (.ireturn, 1) := by decide +kernel
set_option maxRecDepth 100000 in
set_option maxHeartbeats 4000000 in
theorem m_X8_isFinished {l : Launch} {G : z_Gl} {σ : z_St} (P n u v w rc tl : Nat) (hM : z_mi σ P n u v w rc tl) (j : Nat) (hj : j < 12) : z_M l G yX8_isFinished cX8_isFinished 2 (some .boolean) (z_rm 0 0) [.ref (z_ad G 105), .int (nI j)] σ (z_p1 (.int (z_bo (24 * (j + 1) ≤ n))) σ) := by
  refine z_M.of (by decide) (Nat.le_of_ble_eq_true rfl) (fun p e s m below meth c C => ?_)
  refine z_sub [0, 1] (lv1 := [(0, .ref (z_ad G 105)), (1, .int (nI j))]) rfl ?_
  have hM0 := hM
  obtain ⟨⟨hP, hn, hu, hv, hw, hrc, htl⟩, hPs, hnP, huv, hw6, hrc8, htl2, hqt, hah⟩ := hM0
  have h0 : 0 < P := by omega
  have h12 : P ≤ 12 := by omega
  have h288 : n ≤ 288 := by omega
  refine z_aload_n 0 C dX8_isFinished_0 0 rfl ?_
  refine z_getf 1 C 105 z_dX8 (⟨rfl, rfl⟩) 2 (by decide) q968 (.int (nI n)) (z_ci hn) dX8_isFinished_1 ?_
  refine z_bipush 4 C dX8_isFinished_4 (nI 24) rfl ?_
  refine z_iload_n 6 C dX8_isFinished_6 1 rfl ?_
  refine z_iconst 7 C dX8_isFinished_7 (nI 1) rfl ?_
  refine z_iaddN 8 C j 1 rfl rfl dX8_isFinished_8 ?_
  refine z_imulN 9 C 24 (j + 1) rfl rfl dX8_isFinished_9 ?_
  refine z_icmp_ltN 10 C n (24 * (j + 1)) rfl rfl (by omega) (by omega) 17 dX8_isFinished_10 (by decide) (fun c10 => ?_) (fun c10 => ?_)
  · skip
    refine z_iconst 17 C dX8_isFinished_17 (nI 0) rfl ?_
    refine z_zret 18 C (rfl) dX8_isFinished_18 ?_
    first | exact ⟨z_ci (z_bo_f (fun z => absurd c10 (by omega))), rfl⟩ | exact ⟨z_ci (z_bo_t c10), rfl⟩
  · skip
    refine z_iconst 13 C dX8_isFinished_13 (nI 1) rfl ?_
    refine z_goto 14 C 18 dX8_isFinished_14 (by decide) ?_
    refine z_zret 18 C (rfl) dX8_isFinished_18 ?_
    first | exact ⟨z_ci (z_bo_f (fun z => absurd c10 (by omega))), rfl⟩ | exact ⟨z_ci (z_bo_t c10), rfl⟩
theorem dX8_turned_0 : decode cX8_turned 0 = .ok (.iload_n 1, 1) := by decide +kernel
theorem dX8_turned_1 : decode cX8_turned 1 = .ok (.bipush 24, 2) := by decide +kernel
theorem dX8_turned_3 : decode cX8_turned 3 = .ok (.imul, 1) := by decide +kernel
theorem dX8_turned_4 : decode cX8_turned 4 = .ok (.aload_n 0, 1) := by decide +kernel
theorem dX8_turned_5 : decode cX8_turned 5 = .ok (.getfield 60, 3) := by decide +kernel
theorem dX8_turned_8 : decode cX8_turned 8 = .ok (.idiv, 1) := by decide +kernel
theorem dX8_turned_9 : decode cX8_turned 9 = .ok (.ireturn, 1) := by decide +kernel
set_option maxRecDepth 100000 in
set_option maxHeartbeats 4000000 in
theorem m_X8_turned {l : Launch} {G : z_Gl} {σ : z_St} (P n u v w rc tl : Nat) (hM : z_mi σ P n u v w rc tl) (j : Nat) (hj : j < 12) : z_M l G yX8_turned cX8_turned 2 (some .int) (z_rm 0 0) [.ref (z_ad G 105), .int (nI j)] σ (z_p1 (.int (nI (j * (24 / P)))) σ) := by
  refine z_M.of (by decide) (Nat.le_of_ble_eq_true rfl) (fun p e s m below meth c C => ?_)
  refine z_sub [0, 1] (lv1 := [(0, .ref (z_ad G 105)), (1, .int (nI j))]) rfl ?_
  have hM0 := hM
  obtain ⟨⟨hP, hn, hu, hv, hw, hrc, htl⟩, hPs, hnP, huv, hw6, hrc8, htl2, hqt, hah⟩ := hM0
  have h0 : 0 < P := by omega
  have h12 : P ≤ 12 := by omega
  have h288 : n ≤ 288 := by omega
  refine z_iload_n 0 C dX8_turned_0 1 rfl ?_
  refine z_bipush 1 C dX8_turned_1 (nI 24) rfl ?_
  refine z_imulN 3 C j 24 rfl rfl dX8_turned_3 ?_
  refine z_aload_n 4 C dX8_turned_4 0 rfl ?_
  refine z_getf 5 C 105 z_dX8 (⟨rfl, rfl⟩) 1 (by decide) q967 (.int (nI P)) (z_ci hP) dX8_turned_5 ?_
  refine z_idivN 8 C (j * 24) P rfl rfl (by omega) (by omega) (by omega) dX8_turned_8 ?_
  refine z_iret 9 C dX8_turned_9 ?_
  exact ⟨z_ci (by rw [z_trn hPs]), rfl⟩
theorem dX8_setSteps_0 : decode cX8_setSteps 0 = .ok (.iload_n 1, 1) := by decide +kernel
theorem dX8_setSteps_1 : decode cX8_setSteps 1 = .ok (.invokestatic 83, 3) := by decide +kernel
theorem dX8_setSteps_4 : decode cX8_setSteps 4 = .ok (.ifCond .ne 6, 3) := by decide +kernel
theorem dX8_setSteps_7 : decode cX8_setSteps 7 = .ok (.ldc 87, 2) := by decide +kernel
theorem dX8_setSteps_9 : decode cX8_setSteps 9 = .ok (.ireturn, 1) := by decide +kernel
theorem dX8_setSteps_10 : decode cX8_setSteps 10 = .ok (.aload_n 0, 1) := by decide +kernel
theorem dX8_setSteps_11 : decode cX8_setSteps 11 = .ok (.getfield 80, 3) := by decide +kernel
theorem dX8_setSteps_14 : decode cX8_setSteps 14 = .ok (.istore_n 2, 1) := by decide +kernel
theorem dX8_setSteps_15 : decode cX8_setSteps 15 = .ok (.aload_n 0, 1) := by decide +kernel
theorem dX8_setSteps_16 : decode cX8_setSteps 16 = .ok (.iconst 0, 1) := by decide +kernel
theorem dX8_setSteps_17 : decode cX8_setSteps 17 = .ok (.putfield 80, 3) := by decide +kernel
theorem dX8_setSteps_20 : decode cX8_setSteps 20 = .ok (.aload_n 0, 1) := by decide +kernel
theorem dX8_setSteps_21 : decode cX8_setSteps 21 = .ok (.iload_n 1, 1) := by decide +kernel
theorem dX8_setSteps_22 : decode cX8_setSteps 22 = .ok (.putfield 60, 3) := by decide +kernel
theorem dX8_setSteps_25 : decode cX8_setSteps 25 = .ok (.iload_n 2, 1) := by decide +kernel
theorem dX8_setSteps_26 : decode cX8_setSteps 26 = .ok (.ireturn, 1) := by decide +kernel
set_option maxRecDepth 100000 in
set_option maxHeartbeats 4000000 in
theorem m_X8_setSteps {l : Launch} {G : z_Gl} {σ : z_St} (P n u v w rc tl : Nat) (hM : z_mi σ P n u v w rc tl) (x : Int32) : z_M l G yX8_setSteps cX8_setSteps 3 (some .int) (z_rm 1 20) [.ref (z_ad G 105), .int x] σ (z_p1 (.int (if ¬ (x = nI 2 ∨ x = nI 3 ∨ x = nI 4 ∨ x = nI 6 ∨ x = nI 8 ∨ x = nI 12) then (-1000001) else nI n)) (if ¬ (x = nI 2 ∨ x = nI 3 ∨ x = nI 4 ∨ x = nI 6 ∨ x = nI 8 ∨ x = nI 12) then σ else z_ui (z_ui σ 105 2 (nI 0)) 105 1 x)) := by
  refine z_M.of (by decide) (Nat.le_of_ble_eq_true rfl) (fun p e s m below meth c C => ?_)
  refine z_sub [0, 1] (lv1 := [(0, .ref (z_ad G 105)), (1, .int x)]) rfl ?_
  have hM0 := hM
  obtain ⟨⟨hP, hn, hu, hv, hw, hrc, htl⟩, hPs, hnP, huv, hw6, hrc8, htl2, hqt, hah⟩ := hM0
  have h0 : 0 < P := by omega
  have h12 : P ≤ 12 := by omega
  have h288 : n ≤ 288 := by omega
  refine z_iload_n 0 C dX8_setSteps_0 1 rfl ?_
  refine z_callS 1 C (As := [.int x]) (rest := []) (m_X8_isSteps x) k_X8_isSteps q1061 ⟨rfl, rfl⟩ ⟨Nat.le_of_ble_eq_true rfl, Nat.le_of_ble_eq_true rfl⟩ rfl (Nat.le_of_ble_eq_true rfl) ⟨Nat.le_of_ble_eq_true rfl, Nat.le_of_ble_eq_true rfl⟩ rfl dX8_setSteps_1 (z_k1 ?_)
  refine z_if_neb 4 C 10 dX8_setSteps_4 (by decide) (fun c4 => ?_) (fun c4 => ?_)
  · skip
    refine z_aload_n 10 C dX8_setSteps_10 0 rfl ?_
    refine z_getf 11 C 105 z_dX8 (⟨rfl, rfl⟩) 2 (by decide) q968 (.int (nI n)) (z_ci hn) dX8_setSteps_11 ?_
    refine z_istore_n 14 C dX8_setSteps_14 [(2, .int (nI n)), (0, .ref (z_ad G 105)), (1, .int x)] (by decide) rfl ?_
    refine z_aload_n 15 C dX8_setSteps_15 1 rfl ?_
    refine z_iconst 16 C dX8_setSteps_16 (nI 0) rfl ?_
    refine z_puti 17 C 105 z_dX8 (⟨rfl, rfl⟩) 2 (by decide) q968 rfl (rfl) rfl ⟨Nat.le_of_ble_eq_true rfl, rfl⟩ dX8_setSteps_17 ?_
    refine z_aload_n 20 C dX8_setSteps_20 1 rfl ?_
    refine z_iload_n 21 C dX8_setSteps_21 2 rfl ?_
    refine z_puti 22 C 105 z_dX8 (⟨rfl, rfl⟩) 1 (by decide) q967 rfl (rfl) rfl ⟨Nat.le_of_ble_eq_true rfl, rfl⟩ dX8_setSteps_22 ?_
    refine z_iload_n 25 C dX8_setSteps_25 0 rfl ?_
    refine z_iret 26 C dX8_setSteps_26 ?_
    exact ⟨z_ci (by rw [if_neg (fun z => z c4)]), by rw [if_neg (fun z => z c4)]⟩
  · skip
    refine z_ldc 7 C dX8_setSteps_7 q1064 ?_
    refine z_iret 9 C dX8_setSteps_9 ?_
    exact ⟨z_ci (by rw [if_pos c4]), by rw [if_pos c4]⟩
theorem dX8_read_0 : decode cX8_read 0 = .ok (.iload_n 1, 1) := by decide +kernel
theorem dX8_read_1 : decode cX8_read 1 = .ok (.i2l, 1) := by decide +kernel
theorem dX8_read_2 : decode cX8_read 2 = .ok (.ldc2_w 88, 3) := by decide +kernel
theorem dX8_read_5 : decode cX8_read 5 = .ok (.ldc2_w 90, 3) := by decide +kernel
theorem dX8_read_8 : decode cX8_read 8 = .ok (.invokestatic 68, 3) := by decide +kernel
theorem dX8_read_11 : decode cX8_read 11 = .ok (.ifCond .ne 6, 3) := by decide +kernel
theorem dX8_read_14 : decode cX8_read 14 = .ok (.ldc 87, 2) := by decide +kernel
theorem dX8_read_16 : decode cX8_read 16 = .ok (.ireturn, 1) := by decide +kernel
theorem dX8_read_17 : decode cX8_read 17 = .ok (.aload_n 0, 1) := by decide +kernel
theorem dX8_read_18 : decode cX8_read 18 = .ok (.invokevirtual 92, 3) := by decide +kernel
theorem dX8_read_21 : decode cX8_read 21 = .ok (.ifCond .eq 6, 3) := by decide +kernel
theorem dX8_read_24 : decode cX8_read 24 = .ok (.ldc 96, 2) := by decide +kernel
theorem dX8_read_26 : decode cX8_read 26 = .ok (.ireturn, 1) := by decide +kernel
theorem dX8_read_27 : decode cX8_read 27 = .ok (.aload_n 0, 1) := by decide +kernel
theorem dX8_read_28 : decode cX8_read 28 = .ok (.getfield 19, 3) := by decide +kernel
theorem dX8_read_31 : decode cX8_read 31 = .ok (.aload_n 0, 1) := by decide +kernel
theorem dX8_read_32 : decode cX8_read 32 = .ok (.getfield 80, 3) := by decide +kernel
theorem dX8_read_35 : decode cX8_read 35 = .ok (.iload_n 1, 1) := by decide +kernel
theorem dX8_read_36 : decode cX8_read 36 = .ok (.iastore, 1) := by decide +kernel
theorem dX8_read_37 : decode cX8_read 37 = .ok (.aload_n 0, 1) := by decide +kernel
theorem dX8_read_38 : decode cX8_read 38 = .ok (.dup, 1) := by decide +kernel
theorem dX8_read_39 : decode cX8_read 39 = .ok (.getfield 80, 3) := by decide +kernel
theorem dX8_read_42 : decode cX8_read 42 = .ok (.iconst 1, 1) := by decide +kernel
theorem dX8_read_43 : decode cX8_read 43 = .ok (.iadd, 1) := by decide +kernel
theorem dX8_read_44 : decode cX8_read 44 = .ok (.putfield 80, 3) := by decide +kernel
theorem dX8_read_47 : decode cX8_read 47 = .ok (.aload_n 0, 1) := by decide +kernel
theorem dX8_read_48 : decode cX8_read 48 = .ok (.getfield 80, 3) := by decide +kernel
theorem dX8_read_51 : decode cX8_read 51 = .ok (.ireturn, 1) := by decide +kernel
set_option maxRecDepth 100000 in
set_option maxHeartbeats 4000000 in
theorem m_X8_read {l : Launch} {G : z_Gl} {σ : z_St} (P n u v w rc tl : Nat) (hM : z_mi σ P n u v w rc tl) (x : Int32) : z_M l G yX8_read cX8_read 2 (some .int) (z_rm 1 25) [.ref (z_ad G 105), .int x] σ (z_p1 (.int (if x < (-10000) ∨ nI 10000 < x then (-1000001) else if P * 24 ≤ n then (-1000002) else nI (n + 1))) (if x < (-10000) ∨ nI 10000 < x then σ else if P * 24 ≤ n then σ else z_ui (z_ui σ 107 n x) 105 2 (nI (n + 1)))) := by
  refine z_M.of (by decide) (Nat.le_of_ble_eq_true rfl) (fun p e s m below meth c C => ?_)
  refine z_sub [0, 1] (lv1 := [(0, .ref (z_ad G 105)), (1, .int x)]) rfl ?_
  have hM0 := hM
  obtain ⟨⟨hP, hn, hu, hv, hw, hrc, htl⟩, hPs, hnP, huv, hw6, hrc8, htl2, hqt, hah⟩ := hM0
  have h0 : 0 < P := by omega
  have h12 : P ≤ 12 := by omega
  have h288 : n ≤ 288 := by omega
  refine z_iload_n 0 C dX8_read_0 1 rfl ?_
  refine z_i2l 1 C dX8_read_1 ?_
  refine z_ldc2 2 C dX8_read_2 q1069 ?_
  refine z_ldc2 5 C dX8_read_5 q1070 ?_
  refine z_callS 8 C (As := [.long (Int32.toInt64 x), .long (-10000), .long 10000]) (rest := []) (m_X8_in_i x (-10000) (nI 10000) (by decide) (by decide)) k_X8_in q1071 ⟨rfl, rfl⟩ ⟨Nat.le_of_ble_eq_true rfl, Nat.le_of_ble_eq_true rfl⟩ rfl (Nat.le_of_ble_eq_true rfl) ⟨Nat.le_of_ble_eq_true rfl, Nat.le_of_ble_eq_true rfl⟩ rfl dX8_read_8 (z_k1 ?_)
  refine z_if_neb 11 C 17 dX8_read_11 (by decide) (fun c11 => ?_) (fun c11 => ?_)
  · skip
    refine z_aload_n 17 C dX8_read_17 0 rfl ?_
    refine z_callV 18 C 105 (⟨rfl, rfl⟩) rfl (As := []) (rest := []) (m_X8_isComplete P n u v w rc tl hM  ) k_X8_isComplete q1074 ⟨rfl, rfl⟩ ⟨Nat.le_of_ble_eq_true rfl, Nat.le_of_ble_eq_true rfl⟩ rfl (Nat.le_of_ble_eq_true rfl) ⟨Nat.le_of_ble_eq_true rfl, Nat.le_of_ble_eq_true rfl⟩ rfl dX8_read_18 (z_k1 ?_)
    refine z_if_eqb 21 C 27 dX8_read_21 (by decide) (fun c21 => ?_) (fun c21 => ?_)
    · skip
      refine z_aload_n 27 C dX8_read_27 0 rfl ?_
      refine z_getf 28 C 105 z_dX8 (⟨rfl, rfl⟩) 3 (by decide) q969 (.ref (z_ad G 107)) rfl dX8_read_28 ?_
      refine z_aload_n 31 C dX8_read_31 0 rfl ?_
      refine z_getf 32 C 105 z_dX8 (⟨rfl, rfl⟩) 2 (by decide) q968 (.int (nI n)) (z_ci hn) dX8_read_32 ?_
      refine z_iload_n 35 C dX8_read_35 1 rfl ?_
      refine z_iastN 36 C 107 (n := 288) (⟨rfl, rfl⟩) n rfl (by omega) (by decide) dX8_read_36 ?_
      refine z_aload_n 37 C dX8_read_37 0 rfl ?_
      refine z_dup 38 C dX8_read_38 rfl ?_
      refine z_getf 39 C 105 z_dX8 (⟨rfl, rfl⟩) 2 (by decide) q968 (.int (nI n)) (z_ci hn) dX8_read_39 ?_
      refine z_iconst 42 C dX8_read_42 (nI 1) rfl ?_
      refine z_iaddN 43 C n 1 rfl rfl dX8_read_43 ?_
      refine z_puti 44 C 105 z_dX8 (⟨rfl, rfl⟩) 2 (by decide) q968 rfl (rfl) rfl ⟨Nat.le_of_ble_eq_true rfl, rfl⟩ dX8_read_44 ?_
      refine z_aload_n 47 C dX8_read_47 0 rfl ?_
      refine z_getf 48 C 105 z_dX8 (⟨rfl, rfl⟩) 2 (by decide) q968 (.int (nI (n + 1))) rfl dX8_read_48 ?_
      refine z_iret 51 C dX8_read_51 ?_
      refine ⟨?_, ?_⟩
      · (rw [if_neg (c11), if_neg (c21)]) <;> (try rfl)
      · first | rfl | ((rw [if_neg (c11), if_neg (c21)]) <;> (try rfl))
    · skip
      refine z_ldc 24 C dX8_read_24 q1078 ?_
      refine z_iret 26 C dX8_read_26 ?_
      refine ⟨?_, ?_⟩
      · (rw [if_neg (c11), if_pos (c21)]) <;> (try rfl)
      · first | rfl | ((rw [if_neg (c11), if_pos (c21)]) <;> (try rfl))
  · skip
    replace c11 := Classical.not_not.mp c11
    refine z_ldc 14 C dX8_read_14 q1064 ?_
    refine z_iret 16 C dX8_read_16 ?_
    refine ⟨?_, ?_⟩
    · (rw [if_pos (c11)]) <;> (try rfl)
    · first | rfl | ((rw [if_pos (c11)]) <;> (try rfl))
theorem dX8_removeReadings_0 : decode cX8_removeReadings 0 = .ok (.iload_n 1, 1) := by decide +kernel
theorem dX8_removeReadings_1 : decode cX8_removeReadings 1 = .ok (.i2l, 1) := by decide +kernel
theorem dX8_removeReadings_2 : decode cX8_removeReadings 2 = .ok (.lconst 0, 1) := by decide +kernel
theorem dX8_removeReadings_3 : decode cX8_removeReadings 3 = .ok (.aload_n 0, 1) := by decide +kernel
theorem dX8_removeReadings_4 : decode cX8_removeReadings 4 = .ok (.getfield 80, 3) := by decide +kernel
theorem dX8_removeReadings_7 : decode cX8_removeReadings 7 = .ok (.i2l, 1) := by decide +kernel
theorem dX8_removeReadings_8 : decode cX8_removeReadings 8 = .ok (.invokestatic 68, 3) := by decide +kernel
theorem dX8_removeReadings_11 : decode cX8_removeReadings 11 = .ok (.ifCond .ne 6, 3) := by decide +kernel
theorem dX8_removeReadings_14 : decode cX8_removeReadings 14 = .ok (.ldc 87, 2) := by decide +kernel
theorem dX8_removeReadings_16 : decode cX8_removeReadings 16 = .ok (.ireturn, 1) := by decide +kernel
theorem dX8_removeReadings_17 : decode cX8_removeReadings 17 = .ok (.aload_n 0, 1) := by decide +kernel
theorem dX8_removeReadings_18 : decode cX8_removeReadings 18 = .ok (.dup, 1) := by decide +kernel
theorem dX8_removeReadings_19 : decode cX8_removeReadings 19 = .ok (.getfield 80, 3) := by decide +kernel
theorem dX8_removeReadings_22 : decode cX8_removeReadings 22 = .ok (.iload_n 1, 1) := by decide +kernel
theorem dX8_removeReadings_23 : decode cX8_removeReadings 23 = .ok (.isub, 1) := by decide +kernel
theorem dX8_removeReadings_24 : decode cX8_removeReadings 24 = .ok (.putfield 80, 3) := by decide +kernel
theorem dX8_removeReadings_27 : decode cX8_removeReadings 27 = .ok (.aload_n 0, 1) := by decide +kernel
theorem dX8_removeReadings_28 : decode cX8_removeReadings 28 = .ok (.getfield 80, 3) := by decide +kernel
theorem dX8_removeReadings_31 : decode cX8_removeReadings 31 = .ok (.ireturn, 1) := by decide +kernel
set_option maxRecDepth 100000 in
set_option maxHeartbeats 4000000 in
theorem m_X8_removeReadings {l : Launch} {G : z_Gl} {σ : z_St} (P n u v w rc tl : Nat) (hM : z_mi σ P n u v w rc tl) (x : Int32) : z_M l G yX8_removeReadings cX8_removeReadings 2 (some .int) (z_rm 1 25) [.ref (z_ad G 105), .int x] σ (z_p1 (.int (if x < nI 0 ∨ nI n < x then (-1000001) else nI (n - z_n x))) (if x < nI 0 ∨ nI n < x then σ else z_ui σ 105 2 (nI (n - z_n x)))) := by
  refine z_M.of (by decide) (Nat.le_of_ble_eq_true rfl) (fun p e s m below meth c C => ?_)
  refine z_sub [0, 1] (lv1 := [(0, .ref (z_ad G 105)), (1, .int x)]) rfl ?_
  have hM0 := hM
  obtain ⟨⟨hP, hn, hu, hv, hw, hrc, htl⟩, hPs, hnP, huv, hw6, hrc8, htl2, hqt, hah⟩ := hM0
  have h0 : 0 < P := by omega
  have h12 : P ≤ 12 := by omega
  have h288 : n ≤ 288 := by omega
  refine z_iload_n 0 C dX8_removeReadings_0 1 rfl ?_
  refine z_i2l 1 C dX8_removeReadings_1 ?_
  refine z_lconst 2 C dX8_removeReadings_2 0 rfl ?_
  refine z_aload_n 3 C dX8_removeReadings_3 0 rfl ?_
  refine z_getf 4 C 105 z_dX8 (⟨rfl, rfl⟩) 2 (by decide) q968 (.int (nI n)) (z_ci hn) dX8_removeReadings_4 ?_
  refine z_i2l 7 C dX8_removeReadings_7 ?_
  refine z_callS 8 C (As := [.long (Int32.toInt64 x), .long 0, .long (Int32.toInt64 (nI n))]) (rest := []) (m_X8_in_i x (nI 0) (nI n) (by decide) (rfl)) k_X8_in q1071 ⟨rfl, rfl⟩ ⟨Nat.le_of_ble_eq_true rfl, Nat.le_of_ble_eq_true rfl⟩ rfl (Nat.le_of_ble_eq_true rfl) ⟨Nat.le_of_ble_eq_true rfl, Nat.le_of_ble_eq_true rfl⟩ rfl dX8_removeReadings_8 (z_k1 ?_)
  refine z_if_neb 11 C 17 dX8_removeReadings_11 (by decide) (fun c11 => ?_) (fun c11 => ?_)
  · skip
    obtain ⟨a, ha, rfl⟩ := z_in0 (by omega) c11
    refine z_aload_n 17 C dX8_removeReadings_17 0 rfl ?_
    refine z_dup 18 C dX8_removeReadings_18 rfl ?_
    refine z_getf 19 C 105 z_dX8 (⟨rfl, rfl⟩) 2 (by decide) q968 (.int (nI n)) (z_ci hn) dX8_removeReadings_19 ?_
    refine z_iload_n 22 C dX8_removeReadings_22 1 rfl ?_
    refine z_isubN 23 C n a rfl rfl (ha) dX8_removeReadings_23 ?_
    refine z_puti 24 C 105 z_dX8 (⟨rfl, rfl⟩) 2 (by decide) q968 rfl (rfl) rfl ⟨Nat.le_of_ble_eq_true rfl, rfl⟩ dX8_removeReadings_24 ?_
    refine z_aload_n 27 C dX8_removeReadings_27 0 rfl ?_
    refine z_getf 28 C 105 z_dX8 (⟨rfl, rfl⟩) 2 (by decide) q968 (.int (nI (n - a))) rfl dX8_removeReadings_28 ?_
    refine z_iret 31 C dX8_removeReadings_31 ?_
    refine ⟨?_, ?_⟩
    · (rw [if_neg (c11), z_nk (by omega)]) <;> (try rfl)
    · first | rfl | ((rw [if_neg (c11), z_nk (by omega)]) <;> (try rfl))
  · skip
    replace c11 := Classical.not_not.mp c11
    refine z_ldc 14 C dX8_removeReadings_14 q1064 ?_
    refine z_iret 16 C dX8_removeReadings_16 ?_
    refine ⟨?_, ?_⟩
    · (rw [if_pos (c11)]) <;> (try rfl)
    · first | rfl | ((rw [if_pos (c11)]) <;> (try rfl))
theorem dX8_progress_0 : decode cX8_progress 0 = .ok (.iload_n 1, 1) := by decide +kernel
theorem dX8_progress_1 : decode cX8_progress 1 = .ok (.tableswitch 69 0 3 #[31, 36, 41, 49], 31) := by decide +kernel
theorem dX8_progress_32 : decode cX8_progress 32 = .ok (.aload_n 0, 1) := by decide +kernel
theorem dX8_progress_33 : decode cX8_progress 33 = .ok (.getfield 60, 3) := by decide +kernel
theorem dX8_progress_36 : decode cX8_progress 36 = .ok (.ireturn, 1) := by decide +kernel
theorem dX8_progress_37 : decode cX8_progress 37 = .ok (.aload_n 0, 1) := by decide +kernel
theorem dX8_progress_38 : decode cX8_progress 38 = .ok (.getfield 80, 3) := by decide +kernel
theorem dX8_progress_41 : decode cX8_progress 41 = .ok (.ireturn, 1) := by decide +kernel
theorem dX8_progress_42 : decode cX8_progress 42 = .ok (.aload_n 0, 1) := by decide +kernel
theorem dX8_progress_43 : decode cX8_progress 43 = .ok (.getfield 80, 3) := by decide +kernel
theorem dX8_progress_46 : decode cX8_progress 46 = .ok (.bipush 24, 2) := by decide +kernel
theorem dX8_progress_48 : decode cX8_progress 48 = .ok (.idiv, 1) := by decide +kernel
theorem dX8_progress_49 : decode cX8_progress 49 = .ok (.ireturn, 1) := by decide +kernel
theorem dX8_progress_50 : decode cX8_progress 50 = .ok (.aload_n 0, 1) := by decide +kernel
theorem dX8_progress_51 : decode cX8_progress 51 = .ok (.invokevirtual 92, 3) := by decide +kernel
theorem dX8_progress_54 : decode cX8_progress 54 = .ok (.ifCond .eq 8, 3) := by decide +kernel
theorem dX8_progress_57 : decode cX8_progress 57 = .ok (.ldc 97, 2) := by decide +kernel
theorem dX8_progress_59 : decode cX8_progress 59 = .ok (.goto 10, 3) := by decide +kernel
theorem dX8_progress_62 : decode cX8_progress 62 = .ok (.aload_n 0, 1) := by decide +kernel
theorem dX8_progress_63 : decode cX8_progress 63 = .ok (.getfield 80, 3) := by decide +kernel
theorem dX8_progress_66 : decode cX8_progress 66 = .ok (.bipush 24, 2) := by decide +kernel
theorem dX8_progress_68 : decode cX8_progress 68 = .ok (.irem, 1) := by decide +kernel
theorem dX8_progress_69 : decode cX8_progress 69 = .ok (.ireturn, 1) := by decide +kernel
theorem dX8_progress_70 : decode cX8_progress 70 = .ok (.ldc 87, 2) := by decide +kernel
theorem dX8_progress_72 : decode cX8_progress 72 = .ok (.ireturn, 1) := by decide +kernel
set_option maxRecDepth 100000 in
set_option maxHeartbeats 4000000 in
theorem m_X8_progress {l : Launch} {G : z_Gl} {σ : z_St} (P n u v w rc tl : Nat) (hM : z_mi σ P n u v w rc tl) (x : Int32) : z_M l G yX8_progress cX8_progress 2 (some .int) (z_rm 1 20) [.ref (z_ad G 105), .int x] σ (z_p1 (.int (if x = 0 then nI P else if x = 1 then nI n else if x = 2 then nI (n / 24) else if x = 3 then if P * 24 ≤ n then (-1000003) else nI (n % 24) else (-1000001))) σ) := by
  refine z_M.of (by decide) (Nat.le_of_ble_eq_true rfl) (fun p e s m below meth c C => ?_)
  refine z_sub [0, 1] (lv1 := [(0, .ref (z_ad G 105)), (1, .int x)]) rfl ?_
  have hM0 := hM
  obtain ⟨⟨hP, hn, hu, hv, hw, hrc, htl⟩, hPs, hnP, huv, hw6, hrc8, htl2, hqt, hah⟩ := hM0
  have h0 : 0 < P := by omega
  have h12 : P ≤ 12 := by omega
  have h288 : n ≤ 288 := by omega
  refine z_iload_n 0 C dX8_progress_0 1 rfl ?_
  by_cases e1_0 : x = (0 : Int32)
  · skip
    refine z_tabIn 1 C 32 dX8_progress_1 (by rw [e1_0]; decide) (by rw [e1_0]; decide) (by rw [e1_0]; rfl) (by decide) ?_
    refine z_aload_n 32 C dX8_progress_32 0 rfl ?_
    refine z_getf 33 C 105 z_dX8 (⟨rfl, rfl⟩) 1 (by decide) q967 (.int (nI P)) (z_ci hP) dX8_progress_33 ?_
    refine z_iret 36 C dX8_progress_36 ?_
    exact ⟨z_ci (if_pos e1_0).symm, rfl⟩
  by_cases e1_1 : x = (1 : Int32)
  · skip
    refine z_tabIn 1 C 37 dX8_progress_1 (by rw [e1_1]; decide) (by rw [e1_1]; decide) (by rw [e1_1]; rfl) (by decide) ?_
    refine z_aload_n 37 C dX8_progress_37 0 rfl ?_
    refine z_getf 38 C 105 z_dX8 (⟨rfl, rfl⟩) 2 (by decide) q968 (.int (nI n)) (z_ci hn) dX8_progress_38 ?_
    refine z_iret 41 C dX8_progress_41 ?_
    exact ⟨z_ci (by rw [if_neg e1_0, if_pos e1_1]), rfl⟩
  by_cases e1_2 : x = (2 : Int32)
  · skip
    refine z_tabIn 1 C 42 dX8_progress_1 (by rw [e1_2]; decide) (by rw [e1_2]; decide) (by rw [e1_2]; rfl) (by decide) ?_
    refine z_aload_n 42 C dX8_progress_42 0 rfl ?_
    refine z_getf 43 C 105 z_dX8 (⟨rfl, rfl⟩) 2 (by decide) q968 (.int (nI n)) (z_ci hn) dX8_progress_43 ?_
    refine z_bipush 46 C dX8_progress_46 (nI 24) rfl ?_
    refine z_idivN 48 C n 24 rfl rfl (by omega) (by omega) (by omega) dX8_progress_48 ?_
    refine z_iret 49 C dX8_progress_49 ?_
    exact ⟨z_ci (by rw [if_neg e1_0, if_neg e1_1, if_pos e1_2]), rfl⟩
  by_cases e1_3 : x = (3 : Int32)
  · skip
    refine z_tabIn 1 C 50 dX8_progress_1 (by rw [e1_3]; decide) (by rw [e1_3]; decide) (by rw [e1_3]; rfl) (by decide) ?_
    refine z_aload_n 50 C dX8_progress_50 0 rfl ?_
    refine z_callV 51 C 105 (⟨rfl, rfl⟩) rfl (As := []) (rest := []) (m_X8_isComplete P n u v w rc tl hM  ) k_X8_isComplete q1074 ⟨rfl, rfl⟩ ⟨Nat.le_of_ble_eq_true rfl, Nat.le_of_ble_eq_true rfl⟩ rfl (Nat.le_of_ble_eq_true rfl) ⟨Nat.le_of_ble_eq_true rfl, Nat.le_of_ble_eq_true rfl⟩ rfl dX8_progress_51 (z_k1 ?_)
    refine z_if_eqb 54 C 62 dX8_progress_54 (by decide) (fun c54 => ?_) (fun c54 => ?_)
    · skip
      refine z_aload_n 62 C dX8_progress_62 0 rfl ?_
      refine z_getf 63 C 105 z_dX8 (⟨rfl, rfl⟩) 2 (by decide) q968 (.int (nI n)) (z_ci hn) dX8_progress_63 ?_
      refine z_bipush 66 C dX8_progress_66 (nI 24) rfl ?_
      refine z_iremN 68 C n 24 rfl rfl (by omega) (by omega) (by omega) dX8_progress_68 ?_
      refine z_iret 69 C dX8_progress_69 ?_
      first | exact ⟨z_ci (by rw [if_neg e1_0, if_neg e1_1, if_neg e1_2, if_pos e1_3, if_pos c54]), rfl⟩ | exact ⟨z_ci (by rw [if_neg e1_0, if_neg e1_1, if_neg e1_2, if_pos e1_3, if_neg c54]), rfl⟩
    · skip
      refine z_ldc 57 C dX8_progress_57 q1087 ?_
      refine z_goto 59 C 69 dX8_progress_59 (by decide) ?_
      refine z_iret 69 C dX8_progress_69 ?_
      first | exact ⟨z_ci (by rw [if_neg e1_0, if_neg e1_1, if_neg e1_2, if_pos e1_3, if_pos c54]), rfl⟩ | exact ⟨z_ci (by rw [if_neg e1_0, if_neg e1_1, if_neg e1_2, if_pos e1_3, if_neg c54]), rfl⟩
  refine z_tabOut 1 C 70 dX8_progress_1 (z_tb4x e1_0 e1_1 e1_2 e1_3) (by decide) ?_
  refine z_ldc 70 C dX8_progress_70 q1064 ?_
  refine z_iret 72 C dX8_progress_72 ?_
  exact ⟨z_ci (by rw [if_neg e1_0, if_neg e1_1, if_neg e1_2, if_neg e1_3]), rfl⟩
theorem dX8_reading_0 : decode cX8_reading 0 = .ok (.aload_n 0, 1) := by decide +kernel
theorem dX8_reading_1 : decode cX8_reading 1 = .ok (.iload_n 1, 1) := by decide +kernel
theorem dX8_reading_2 : decode cX8_reading 2 = .ok (.invokevirtual 98, 3) := by decide +kernel
theorem dX8_reading_5 : decode cX8_reading 5 = .ok (.ifCond .ne 10, 3) := by decide +kernel
theorem dX8_reading_8 : decode cX8_reading 8 = .ok (.iload_n 2, 1) := by decide +kernel
theorem dX8_reading_9 : decode cX8_reading 9 = .ok (.invokestatic 101, 3) := by decide +kernel
theorem dX8_reading_12 : decode cX8_reading 12 = .ok (.ifCond .eq 6, 3) := by decide +kernel
theorem dX8_reading_15 : decode cX8_reading 15 = .ok (.ldc 87, 2) := by decide +kernel
theorem dX8_reading_17 : decode cX8_reading 17 = .ok (.ireturn, 1) := by decide +kernel
theorem dX8_reading_18 : decode cX8_reading 18 = .ok (.bipush 24, 2) := by decide +kernel
theorem dX8_reading_20 : decode cX8_reading 20 = .ok (.iload_n 1, 1) := by decide +kernel
theorem dX8_reading_21 : decode cX8_reading 21 = .ok (.imul, 1) := by decide +kernel
theorem dX8_reading_22 : decode cX8_reading 22 = .ok (.iload_n 2, 1) := by decide +kernel
theorem dX8_reading_23 : decode cX8_reading 23 = .ok (.iadd, 1) := by decide +kernel
theorem dX8_reading_24 : decode cX8_reading 24 = .ok (.istore_n 3, 1) := by decide +kernel
theorem dX8_reading_25 : decode cX8_reading 25 = .ok (.iload_n 3, 1) := by decide +kernel
theorem dX8_reading_26 : decode cX8_reading 26 = .ok (.aload_n 0, 1) := by decide +kernel
theorem dX8_reading_27 : decode cX8_reading 27 = .ok (.getfield 80, 3) := by decide +kernel
theorem dX8_reading_30 : decode cX8_reading 30 = .ok (.if_icmp .ge 12, 3) := by decide +kernel
theorem dX8_reading_33 : decode cX8_reading 33 = .ok (.aload_n 0, 1) := by decide +kernel
theorem dX8_reading_34 : decode cX8_reading 34 = .ok (.getfield 19, 3) := by decide +kernel
theorem dX8_reading_37 : decode cX8_reading 37 = .ok (.iload_n 3, 1) := by decide +kernel
theorem dX8_reading_38 : decode cX8_reading 38 = .ok (.iaload, 1) := by decide +kernel
theorem dX8_reading_39 : decode cX8_reading 39 = .ok (.goto 5, 3) := by decide +kernel
theorem dX8_reading_42 : decode cX8_reading 42 = .ok (.ldc 97, 2) := by decide +kernel
theorem dX8_reading_44 : decode cX8_reading 44 = .ok (.ireturn, 1) := by decide +kernel
set_option maxRecDepth 100000 in
set_option maxHeartbeats 4000000 in
theorem m_X8_reading {l : Launch} {G : z_Gl} {σ : z_St} (P n u v w rc tl : Nat) (hM : z_mi σ P n u v w rc tl) (x : Int32) (y : Int32) : z_M l G yX8_reading cX8_reading 4 (some .int) (z_rm 2 46) [.ref (z_ad G 105), .int x, .int y] σ (z_p1 (.int (if x < nI 0 ∨ nI P - nI 1 < x then (-1000001) else if y < nI 0 ∨ nI 23 < y then (-1000001) else if n ≤ z_n x * 24 + z_n y then (-1000003) else σ.1 107 (z_n x * 24 + z_n y % 24))) σ) := by
  refine z_M.of (by decide) (Nat.le_of_ble_eq_true rfl) (fun p e s m below meth c C => ?_)
  refine z_sub [0, 1, 2] (lv1 := [(0, .ref (z_ad G 105)), (1, .int x), (2, .int y)]) rfl ?_
  have hM0 := hM
  obtain ⟨⟨hP, hn, hu, hv, hw, hrc, htl⟩, hPs, hnP, huv, hw6, hrc8, htl2, hqt, hah⟩ := hM0
  have h0 : 0 < P := by omega
  have h12 : P ≤ 12 := by omega
  have h288 : n ≤ 288 := by omega
  refine z_aload_n 0 C dX8_reading_0 0 rfl ?_
  refine z_iload_n 1 C dX8_reading_1 1 rfl ?_
  refine z_callV 2 C 105 (⟨rfl, rfl⟩) rfl (As := [.int x]) (rest := []) (m_X8_noStep P n u v w rc tl hM x ) k_X8_noStep q1092 ⟨rfl, rfl⟩ ⟨Nat.le_of_ble_eq_true rfl, Nat.le_of_ble_eq_true rfl⟩ rfl (Nat.le_of_ble_eq_true rfl) ⟨Nat.le_of_ble_eq_true rfl, Nat.le_of_ble_eq_true rfl⟩ rfl dX8_reading_2 (z_k1 ?_)
  refine z_if_neb 5 C 15 dX8_reading_5 (by decide) (fun c5 => ?_) (fun c5 => ?_)
  · skip
    refine z_ldc 15 C dX8_reading_15 q1064 ?_
    refine z_iret 17 C dX8_reading_17 ?_
    first | exact ⟨z_ci (by rw [if_pos c5]), rfl⟩ | exact ⟨z_ci (by rw [if_neg c5, if_pos c12]), rfl⟩
  · skip
    obtain ⟨a, ha, rfl⟩ := z_inw (by omega) c5
    refine z_iload_n 8 C dX8_reading_8 2 rfl ?_
    refine z_callS 9 C (As := [.int y]) (rest := []) (m_X8_noPlace y) k_X8_noPlace q1096 ⟨rfl, rfl⟩ ⟨Nat.le_of_ble_eq_true rfl, Nat.le_of_ble_eq_true rfl⟩ rfl (Nat.le_of_ble_eq_true rfl) ⟨Nat.le_of_ble_eq_true rfl, Nat.le_of_ble_eq_true rfl⟩ rfl dX8_reading_9 (z_k1 ?_)
    refine z_if_eqb 12 C 18 dX8_reading_12 (by decide) (fun c12 => ?_) (fun c12 => ?_)
    · skip
      obtain ⟨b, hb, rfl⟩ := z_in0 (by decide) c12
      refine z_bipush 18 C dX8_reading_18 (nI 24) rfl ?_
      refine z_iload_n 20 C dX8_reading_20 1 rfl ?_
      refine z_imulN 21 C 24 a rfl rfl dX8_reading_21 ?_
      refine z_iload_n 22 C dX8_reading_22 2 rfl ?_
      refine z_iaddN 23 C (24 * a) b rfl rfl dX8_reading_23 ?_
      refine z_istore_n 24 C dX8_reading_24 [(3, .int (nI ((24 * a) + b))), (0, .ref (z_ad G 105)), (1, .int (nI a)), (2, .int (nI b))] (by decide) rfl ?_
      refine z_iload_n 25 C dX8_reading_25 0 rfl ?_
      refine z_aload_n 26 C dX8_reading_26 1 rfl ?_
      refine z_getf 27 C 105 z_dX8 (⟨rfl, rfl⟩) 2 (by decide) q968 (.int (nI n)) (z_ci hn) dX8_reading_27 ?_
      refine z_icmp_geN 30 C ((24 * a) + b) n rfl rfl (by omega) (by omega) 42 dX8_reading_30 (by decide) (fun c30 => ?_) (fun c30 => ?_)
      · skip
        refine z_ldc 42 C dX8_reading_42 q1087 ?_
        refine z_iret 44 C dX8_reading_44 ?_
        have q30 : n ≤ z_n (nI a) * 24 + z_n (nI b) := by rw [z_nk (by omega), z_nk (by omega)]; omega
        exact ⟨z_ci (by rw [if_neg c5, if_neg c12, if_pos q30]), rfl⟩
      · skip
        refine z_aload_n 33 C dX8_reading_33 1 rfl ?_
        refine z_getf 34 C 105 z_dX8 (⟨rfl, rfl⟩) 3 (by decide) q969 (.ref (z_ad G 107)) rfl dX8_reading_34 ?_
        refine z_iload_n 37 C dX8_reading_37 0 rfl ?_
        refine z_ialdN 38 C 107 (n := 288) (⟨rfl, rfl⟩) ((24 * a) + b) rfl (by omega) (by decide) dX8_reading_38 ?_
        refine z_goto 39 C 44 dX8_reading_39 (by decide) ?_
        refine z_iret 44 C dX8_reading_44 ?_
        have q30 : ¬ n ≤ z_n (nI a) * 24 + z_n (nI b) := by rw [z_nk (by omega), z_nk (by omega)]; omega
        exact ⟨z_ci (by rw [if_neg c5, if_neg c12, if_neg q30, z_nk (k := a) (by omega), z_nk (k := b) (by omega), Nat.mod_eq_of_lt (by omega), Nat.mul_comm a 24]), rfl⟩
    · skip
      refine z_ldc 15 C dX8_reading_15 q1064 ?_
      refine z_iret 17 C dX8_reading_17 ?_
      first | exact ⟨z_ci (by rw [if_pos c5]), rfl⟩ | exact ⟨z_ci (by rw [if_neg c5, if_pos c12]), rfl⟩
theorem dX8_sumAt_0 : decode cX8_sumAt 0 = .ok (.lconst 0, 1) := by decide +kernel
theorem dX8_sumAt_1 : decode cX8_sumAt 1 = .ok (.lstore_n 2, 1) := by decide +kernel
theorem dX8_sumAt_2 : decode cX8_sumAt 2 = .ok (.iconst 0, 1) := by decide +kernel
theorem dX8_sumAt_3 : decode cX8_sumAt 3 = .ok (.istore 4, 2) := by decide +kernel
theorem dX8_sumAt_5 : decode cX8_sumAt 5 = .ok (.iload 4, 2) := by decide +kernel
theorem dX8_sumAt_7 : decode cX8_sumAt 7 = .ok (.aload_n 0, 1) := by decide +kernel
theorem dX8_sumAt_8 : decode cX8_sumAt 8 = .ok (.getfield 60, 3) := by decide +kernel
theorem dX8_sumAt_11 : decode cX8_sumAt 11 = .ok (.if_icmp .ge 28, 3) := by decide +kernel
theorem dX8_sumAt_14 : decode cX8_sumAt 14 = .ok (.lload_n 2, 1) := by decide +kernel
theorem dX8_sumAt_15 : decode cX8_sumAt 15 = .ok (.aload_n 0, 1) := by decide +kernel
theorem dX8_sumAt_16 : decode cX8_sumAt 16 = .ok (.getfield 19, 3) := by decide +kernel
theorem dX8_sumAt_19 : decode cX8_sumAt 19 = .ok (.bipush 24, 2) := by decide +kernel
theorem dX8_sumAt_21 : decode cX8_sumAt 21 = .ok (.iload 4, 2) := by decide +kernel
theorem dX8_sumAt_23 : decode cX8_sumAt 23 = .ok (.imul, 1) := by decide +kernel
theorem dX8_sumAt_24 : decode cX8_sumAt 24 = .ok (.iload_n 1, 1) := by decide +kernel
theorem dX8_sumAt_25 : decode cX8_sumAt 25 = .ok (.invokestatic 72, 3) := by decide +kernel
theorem dX8_sumAt_28 : decode cX8_sumAt 28 = .ok (.iadd, 1) := by decide +kernel
theorem dX8_sumAt_29 : decode cX8_sumAt 29 = .ok (.iaload, 1) := by decide +kernel
theorem dX8_sumAt_30 : decode cX8_sumAt 30 = .ok (.i2l, 1) := by decide +kernel
theorem dX8_sumAt_31 : decode cX8_sumAt 31 = .ok (.ladd, 1) := by decide +kernel
theorem dX8_sumAt_32 : decode cX8_sumAt 32 = .ok (.lstore_n 2, 1) := by decide +kernel
theorem dX8_sumAt_33 : decode cX8_sumAt 33 = .ok (.iinc 4 1, 3) := by decide +kernel
theorem dX8_sumAt_36 : decode cX8_sumAt 36 = .ok (.goto (-31), 3) := by decide +kernel
theorem dX8_sumAt_39 : decode cX8_sumAt 39 = .ok (.lload_n 2, 1) := by decide +kernel
theorem dX8_sumAt_40 : decode cX8_sumAt 40 = .ok (.lreturn, 1) := by decide +kernel
set_option maxRecDepth 100000 in
set_option maxHeartbeats 4000000 in
theorem m_X8_sumAt {l : Launch} {G : z_Gl} {σ : z_St} (P n u v w rc tl : Nat) (hM : z_mi σ P n u v w rc tl) (k : Nat) (hk : k < 2 ^ 31) : z_M l G yX8_sumAt cX8_sumAt 5 (some .long) (z_rm 1 21) [.ref (z_ad G 105), .int (nI k)] σ (z_p1 (.long (z_su (σ.1 107) (k % 24) P)) σ) := by
  refine z_M.of (by decide) (Nat.le_of_ble_eq_true rfl) (fun p e s m below meth c C => ?_)
  refine z_sub [0, 1] (lv1 := [(0, .ref (z_ad G 105)), (1, .int (nI k))]) rfl ?_
  have hM0 := hM
  obtain ⟨⟨hP, hn, hu, hv, hw, hrc, htl⟩, hPs, hnP, huv, hw6, hrc8, htl2, hqt, hah⟩ := hM0
  have h0 : 0 < P := by omega
  have h12 : P ≤ 12 := by omega
  have h288 : n ≤ 288 := by omega
  refine z_lconst 0 C dX8_sumAt_0 0 rfl ?_
  refine z_lstore_n 1 C dX8_sumAt_1 [(2, .long 0), (0, .ref (z_ad G 105)), (1, .int (nI k))] (by decide) rfl ?_
  refine z_iconst 2 C dX8_sumAt_2 (nI 0) rfl ?_
  refine z_istore 3 C dX8_sumAt_3 [(4, .int (nI 0)), (2, .long 0), (0, .ref (z_ad G 105)), (1, .int (nI k))] (by decide) rfl ?_
  refine z_sub [2, 3, 1, 0] (lv1 := [(0, .ref (z_ad G 105)), (1, .int (nI k)), (2, .long 0), (4, .int (nI 0))]) rfl ?_
  refine z_cv (lv1 := [(0, .ref (z_ad G 105)), (1, .int (nI k)), (2, .long (z_su (σ.1 107) (k % 24) 0)), (4, .int (nI 0))]) (st1 := []) (σ1 := σ) rfl rfl rfl ?_
  refine z_lp1 (fun (j : Nat) => j ≤ P) (fun (j : Nat) => P - j) (fun (j : Nat) => [(0, .ref (z_ad G 105)), (1, .int (nI k)), (2, .long (z_su (σ.1 107) (k % 24) j)), (4, .int (nI j))]) (fun (j : Nat) => σ) (fun j hi_5 ih_5 => ?_) 0 (by omega)
  try dsimp only
  refine z_iload 5 C dX8_sumAt_5 3 rfl ?_
  refine z_aload_n 7 C dX8_sumAt_7 0 rfl ?_
  refine z_getf 8 C 105 z_dX8 (⟨rfl, rfl⟩) 1 (by decide) q967 (.int (nI P)) (z_ci hP) dX8_sumAt_8 ?_
  refine z_icmp_geN 11 C j P rfl rfl (by omega) (by omega) 39 dX8_sumAt_11 (by decide) (fun c11 => ?_) (fun c11 => ?_)
  · skip
    have ej : P = j := by omega
    subst ej
    refine z_lload_n 39 C dX8_sumAt_39 2 rfl ?_
    refine z_lret 40 C dX8_sumAt_40 ?_
    exact ⟨rfl, rfl⟩
  · skip
    refine z_lload_n 14 C dX8_sumAt_14 2 rfl ?_
    refine z_aload_n 15 C dX8_sumAt_15 0 rfl ?_
    refine z_getf 16 C 105 z_dX8 (⟨rfl, rfl⟩) 3 (by decide) q969 (.ref (z_ad G 107)) rfl dX8_sumAt_16 ?_
    refine z_bipush 19 C dX8_sumAt_19 (nI 24) rfl ?_
    refine z_iload 21 C dX8_sumAt_21 3 rfl ?_
    refine z_imulN 23 C 24 j rfl rfl dX8_sumAt_23 ?_
    refine z_iload_n 24 C dX8_sumAt_24 1 rfl ?_
    refine z_callS 25 C (As := [.int (nI k)]) (rest := [.int (nI (24 * j)), .ref (z_ad G 107), .long (z_su (σ.1 107) (k % 24) j)]) (m_X8_around_n k (by omega)) k_X8_around q1109 ⟨rfl, rfl⟩ ⟨Nat.le_of_ble_eq_true rfl, Nat.le_of_ble_eq_true rfl⟩ rfl (Nat.le_of_ble_eq_true rfl) ⟨Nat.le_of_ble_eq_true rfl, Nat.le_of_ble_eq_true rfl⟩ rfl dX8_sumAt_25 (z_k1 ?_)
    refine z_iaddN 28 C (24 * j) (k % 24) rfl rfl dX8_sumAt_28 ?_
    refine z_ialdN 29 C 107 (n := 288) (⟨rfl, rfl⟩) ((24 * j) + (k % 24)) rfl (by omega) (by decide) dX8_sumAt_29 ?_
    refine z_i2l 30 C dX8_sumAt_30 ?_
    refine z_ladd 31 C dX8_sumAt_31 ?_
    refine z_lstore_n 32 C dX8_sumAt_32 [(2, .long ((z_su (σ.1 107) (k % 24) j) + (Int32.toInt64 (σ.1 107 ((24 * j) + (k % 24)))))), (0, .ref (z_ad G 105)), (1, .int (nI k)), (4, .int (nI j))] (by decide) rfl ?_
    refine z_iincN 33 C 3 j [(4, .int (nI (j + 1))), (2, .long ((z_su (σ.1 107) (k % 24) j) + (Int32.toInt64 (σ.1 107 ((24 * j) + (k % 24)))))), (0, .ref (z_ad G 105)), (1, .int (nI k))] rfl rfl (by decide) rfl dX8_sumAt_33 ?_
    refine z_goto 36 C 5 dX8_sumAt_36 (by decide) ?_
    refine z_sub [2, 3, 1, 0] (lv1 := [(0, .ref (z_ad G 105)), (1, .int (nI k)), (2, .long ((z_su (σ.1 107) (k % 24) j) + (Int32.toInt64 (σ.1 107 ((24 * j) + (k % 24)))))), (4, .int (nI (j + 1)))]) rfl ?_
    refine z_cv (lv1 := [(0, .ref (z_ad G 105)), (1, .int (nI k)), (2, .long (z_su (σ.1 107) (k % 24) (j + 1))), (4, .int (nI (j + 1)))]) (st1 := []) (σ1 := σ) (by rw [Nat.mul_comm 24 j]; rfl) rfl rfl ?_
    exact ih_5 (j + 1) (by omega) (by omega)
theorem dX8_spindleAt_0 : decode cX8_spindleAt 0 = .ok (.ldc2_w 125, 3) := by decide +kernel
theorem dX8_spindleAt_3 : decode cX8_spindleAt 3 = .ok (.aload_n 0, 1) := by decide +kernel
theorem dX8_spindleAt_4 : decode cX8_spindleAt 4 = .ok (.iload_n 1, 1) := by decide +kernel
theorem dX8_spindleAt_5 : decode cX8_spindleAt 5 = .ok (.invokevirtual 122, 3) := by decide +kernel
theorem dX8_spindleAt_8 : decode cX8_spindleAt 8 = .ok (.lmul, 1) := by decide +kernel
theorem dX8_spindleAt_9 : decode cX8_spindleAt 9 = .ok (.aload_n 0, 1) := by decide +kernel
theorem dX8_spindleAt_10 : decode cX8_spindleAt 10 = .ok (.getfield 60, 3) := by decide +kernel
theorem dX8_spindleAt_13 : decode cX8_spindleAt 13 = .ok (.i2l, 1) := by decide +kernel
theorem dX8_spindleAt_14 : decode cX8_spindleAt 14 = .ok (.invokestatic 115, 3) := by decide +kernel
theorem dX8_spindleAt_17 : decode cX8_spindleAt 17 = .ok (.lreturn, 1) := by decide +kernel
set_option maxRecDepth 100000 in
set_option maxHeartbeats 4000000 in
theorem m_X8_spindleAt {l : Launch} {G : z_Gl} {σ : z_St} (P n u v w rc tl : Nat) (hM : z_mi σ P n u v w rc tl) (k : Nat) (hk : k < 24) : z_M l G yX8_spindleAt cX8_spindleAt 2 (some .long) (z_rm 2 45) [.ref (z_ad G 105), .int (nI k)] σ (z_p1 (.long (z_sp (σ.1 107) P k)) σ) := by
  refine z_M.of (by decide) (Nat.le_of_ble_eq_true rfl) (fun p e s m below meth c C => ?_)
  refine z_sub [0, 1] (lv1 := [(0, .ref (z_ad G 105)), (1, .int (nI k))]) rfl ?_
  have hM0 := hM
  obtain ⟨⟨hP, hn, hu, hv, hw, hrc, htl⟩, hPs, hnP, huv, hw6, hrc8, htl2, hqt, hah⟩ := hM0
  have h0 : 0 < P := by omega
  have h12 : P ≤ 12 := by omega
  have h288 : n ≤ 288 := by omega
  refine z_ldc2 0 C dX8_spindleAt_0 q1139 ?_
  refine z_aload_n 3 C dX8_spindleAt_3 0 rfl ?_
  refine z_iload_n 4 C dX8_spindleAt_4 1 rfl ?_
  refine z_callV 5 C 105 (⟨rfl, rfl⟩) rfl (As := [.int (nI k)]) (rest := [.long 1000000]) (m_X8_sumAt P n u v w rc tl hM k (by omega)) k_X8_sumAt q1135 ⟨rfl, rfl⟩ ⟨Nat.le_of_ble_eq_true rfl, Nat.le_of_ble_eq_true rfl⟩ rfl (Nat.le_of_ble_eq_true rfl) ⟨Nat.le_of_ble_eq_true rfl, Nat.le_of_ble_eq_true rfl⟩ rfl dX8_spindleAt_5 (z_k1 ?_)
  refine z_cv (lv1 := [(0, .ref (z_ad G 105)), (1, .int (nI k))]) (st1 := [.long (z_su (σ.1 107) k P), .long 1000000]) (σ1 := σ) rfl (by rw [Nat.mod_eq_of_lt hk]) rfl ?_
  refine z_lmul 8 C dX8_spindleAt_8 ?_
  refine z_aload_n 9 C dX8_spindleAt_9 0 rfl ?_
  refine z_getf 10 C 105 z_dX8 (⟨rfl, rfl⟩) 1 (by decide) q967 (.int (nI P)) (z_ci hP) dX8_spindleAt_10 ?_
  refine z_i2l 13 C dX8_spindleAt_13 ?_
  refine z_cv (lv1 := [(0, .ref (z_ad G 105)), (1, .int (nI k))]) (st1 := [.long (lN P), .long (1000000 * (z_su (σ.1 107) k P))]) (σ1 := σ) rfl (by rw [nI_l (by omega)]) rfl ?_
  refine z_callS 14 C (As := [.long (1000000 * (z_su (σ.1 107) k P)), .long (lN P)]) (rest := []) (m_X8_down (1000000 * (z_su (σ.1 107) k P)) (lN P) (z_lNp h0 h12)) k_X8_down q1116 ⟨rfl, rfl⟩ ⟨Nat.le_of_ble_eq_true rfl, Nat.le_of_ble_eq_true rfl⟩ rfl (Nat.le_of_ble_eq_true rfl) ⟨Nat.le_of_ble_eq_true rfl, Nat.le_of_ble_eq_true rfl⟩ rfl dX8_spindleAt_14 (z_k1 ?_)
  refine z_lret 17 C dX8_spindleAt_17 ?_
  exact ⟨rfl, rfl⟩
theorem dX8_partAt_0 : decode cX8_partAt 0 = .ok (.lconst 0, 1) := by decide +kernel
theorem dX8_partAt_1 : decode cX8_partAt 1 = .ok (.lstore_n 2, 1) := by decide +kernel
theorem dX8_partAt_2 : decode cX8_partAt 2 = .ok (.iconst 0, 1) := by decide +kernel
theorem dX8_partAt_3 : decode cX8_partAt 3 = .ok (.istore 4, 2) := by decide +kernel
theorem dX8_partAt_5 : decode cX8_partAt 5 = .ok (.iload 4, 2) := by decide +kernel
theorem dX8_partAt_7 : decode cX8_partAt 7 = .ok (.aload_n 0, 1) := by decide +kernel
theorem dX8_partAt_8 : decode cX8_partAt 8 = .ok (.getfield 60, 3) := by decide +kernel
theorem dX8_partAt_11 : decode cX8_partAt 11 = .ok (.if_icmp .ge 52, 3) := by decide +kernel
theorem dX8_partAt_14 : decode cX8_partAt 14 = .ok (.iload_n 1, 1) := by decide +kernel
theorem dX8_partAt_15 : decode cX8_partAt 15 = .ok (.aload_n 0, 1) := by decide +kernel
theorem dX8_partAt_16 : decode cX8_partAt 16 = .ok (.iload 4, 2) := by decide +kernel
theorem dX8_partAt_18 : decode cX8_partAt 18 = .ok (.invokevirtual 119, 3) := by decide +kernel
theorem dX8_partAt_21 : decode cX8_partAt 21 = .ok (.iadd, 1) := by decide +kernel
theorem dX8_partAt_22 : decode cX8_partAt 22 = .ok (.invokestatic 72, 3) := by decide +kernel
theorem dX8_partAt_25 : decode cX8_partAt 25 = .ok (.istore 5, 2) := by decide +kernel
theorem dX8_partAt_27 : decode cX8_partAt 27 = .ok (.lload_n 2, 1) := by decide +kernel
theorem dX8_partAt_28 : decode cX8_partAt 28 = .ok (.aload_n 0, 1) := by decide +kernel
theorem dX8_partAt_29 : decode cX8_partAt 29 = .ok (.getfield 60, 3) := by decide +kernel
theorem dX8_partAt_32 : decode cX8_partAt 32 = .ok (.i2l, 1) := by decide +kernel
theorem dX8_partAt_33 : decode cX8_partAt 33 = .ok (.aload_n 0, 1) := by decide +kernel
theorem dX8_partAt_34 : decode cX8_partAt 34 = .ok (.getfield 19, 3) := by decide +kernel
theorem dX8_partAt_37 : decode cX8_partAt 37 = .ok (.bipush 24, 2) := by decide +kernel
theorem dX8_partAt_39 : decode cX8_partAt 39 = .ok (.iload 4, 2) := by decide +kernel
theorem dX8_partAt_41 : decode cX8_partAt 41 = .ok (.imul, 1) := by decide +kernel
theorem dX8_partAt_42 : decode cX8_partAt 42 = .ok (.iload 5, 2) := by decide +kernel
theorem dX8_partAt_44 : decode cX8_partAt 44 = .ok (.iadd, 1) := by decide +kernel
theorem dX8_partAt_45 : decode cX8_partAt 45 = .ok (.iaload, 1) := by decide +kernel
theorem dX8_partAt_46 : decode cX8_partAt 46 = .ok (.i2l, 1) := by decide +kernel
theorem dX8_partAt_47 : decode cX8_partAt 47 = .ok (.lmul, 1) := by decide +kernel
theorem dX8_partAt_48 : decode cX8_partAt 48 = .ok (.aload_n 0, 1) := by decide +kernel
theorem dX8_partAt_49 : decode cX8_partAt 49 = .ok (.iload 5, 2) := by decide +kernel
theorem dX8_partAt_51 : decode cX8_partAt 51 = .ok (.invokevirtual 122, 3) := by decide +kernel
theorem dX8_partAt_54 : decode cX8_partAt 54 = .ok (.lsub, 1) := by decide +kernel
theorem dX8_partAt_55 : decode cX8_partAt 55 = .ok (.ladd, 1) := by decide +kernel
theorem dX8_partAt_56 : decode cX8_partAt 56 = .ok (.lstore_n 2, 1) := by decide +kernel
theorem dX8_partAt_57 : decode cX8_partAt 57 = .ok (.iinc 4 1, 3) := by decide +kernel
theorem dX8_partAt_60 : decode cX8_partAt 60 = .ok (.goto (-55), 3) := by decide +kernel
theorem dX8_partAt_63 : decode cX8_partAt 63 = .ok (.ldc2_w 125, 3) := by decide +kernel
theorem dX8_partAt_66 : decode cX8_partAt 66 = .ok (.lload_n 2, 1) := by decide +kernel
theorem dX8_partAt_67 : decode cX8_partAt 67 = .ok (.lmul, 1) := by decide +kernel
theorem dX8_partAt_68 : decode cX8_partAt 68 = .ok (.aload_n 0, 1) := by decide +kernel
theorem dX8_partAt_69 : decode cX8_partAt 69 = .ok (.getfield 60, 3) := by decide +kernel
theorem dX8_partAt_72 : decode cX8_partAt 72 = .ok (.i2l, 1) := by decide +kernel
theorem dX8_partAt_73 : decode cX8_partAt 73 = .ok (.aload_n 0, 1) := by decide +kernel
theorem dX8_partAt_74 : decode cX8_partAt 74 = .ok (.getfield 60, 3) := by decide +kernel
theorem dX8_partAt_77 : decode cX8_partAt 77 = .ok (.i2l, 1) := by decide +kernel
theorem dX8_partAt_78 : decode cX8_partAt 78 = .ok (.lmul, 1) := by decide +kernel
theorem dX8_partAt_79 : decode cX8_partAt 79 = .ok (.invokestatic 115, 3) := by decide +kernel
theorem dX8_partAt_82 : decode cX8_partAt 82 = .ok (.lreturn, 1) := by decide +kernel
set_option maxRecDepth 100000 in
set_option maxHeartbeats 4000000 in
theorem m_X8_partAt {l : Launch} {G : z_Gl} {σ : z_St} (P n u v w rc tl : Nat) (hM : z_mi σ P n u v w rc tl) (k : Nat) (hk : k < 24) : z_M l G yX8_partAt cX8_partAt 6 (some .long) (z_rm 2 45) [.ref (z_ad G 105), .int (nI k)] σ (z_p1 (.long (z_pt (σ.1 107) P k)) σ) := by
  refine z_M.of (by decide) (Nat.le_of_ble_eq_true rfl) (fun p e s m below meth c C => ?_)
  refine z_sub [0, 1] (lv1 := [(0, .ref (z_ad G 105)), (1, .int (nI k))]) rfl ?_
  have hM0 := hM
  obtain ⟨⟨hP, hn, hu, hv, hw, hrc, htl⟩, hPs, hnP, huv, hw6, hrc8, htl2, hqt, hah⟩ := hM0
  have h0 : 0 < P := by omega
  have h12 : P ≤ 12 := by omega
  have h288 : n ≤ 288 := by omega
  refine z_lconst 0 C dX8_partAt_0 0 rfl ?_
  refine z_lstore_n 1 C dX8_partAt_1 [(2, .long 0), (0, .ref (z_ad G 105)), (1, .int (nI k))] (by decide) rfl ?_
  refine z_iconst 2 C dX8_partAt_2 (nI 0) rfl ?_
  refine z_istore 3 C dX8_partAt_3 [(4, .int (nI 0)), (2, .long 0), (0, .ref (z_ad G 105)), (1, .int (nI k))] (by decide) rfl ?_
  refine z_sub [2, 3, 1, 0] (lv1 := [(0, .ref (z_ad G 105)), (1, .int (nI k)), (2, .long 0), (4, .int (nI 0))]) rfl ?_
  refine z_cv (lv1 := [(0, .ref (z_ad G 105)), (1, .int (nI k)), (2, .long (z_pa (σ.1 107) P k 0)), (4, .int (nI 0))]) (st1 := []) (σ1 := σ) rfl rfl rfl ?_
  refine z_lp1 (fun (j : Nat) => j ≤ P) (fun (j : Nat) => P - j) (fun (j : Nat) => [(0, .ref (z_ad G 105)), (1, .int (nI k)), (2, .long (z_pa (σ.1 107) P k j)), (4, .int (nI j))]) (fun (j : Nat) => σ) (fun j hi_5 ih_5 => ?_) 0 (by omega)
  try dsimp only
  refine z_iload 5 C dX8_partAt_5 3 rfl ?_
  refine z_aload_n 7 C dX8_partAt_7 0 rfl ?_
  refine z_getf 8 C 105 z_dX8 (⟨rfl, rfl⟩) 1 (by decide) q967 (.int (nI P)) (z_ci hP) dX8_partAt_8 ?_
  refine z_icmp_geN 11 C j P rfl rfl (by omega) (by omega) 63 dX8_partAt_11 (by decide) (fun c11 => ?_) (fun c11 => ?_)
  · skip
    have ej : P = j := by omega
    subst ej
    refine z_ldc2 63 C dX8_partAt_63 q1139 ?_
    refine z_lload_n 66 C dX8_partAt_66 2 rfl ?_
    refine z_lmul 67 C dX8_partAt_67 ?_
    refine z_aload_n 68 C dX8_partAt_68 0 rfl ?_
    refine z_getf 69 C 105 z_dX8 (⟨rfl, rfl⟩) 1 (by decide) q967 (.int (nI P)) (z_ci hP) dX8_partAt_69 ?_
    refine z_i2l 72 C dX8_partAt_72 ?_
    refine z_cv (lv1 := [(0, .ref (z_ad G 105)), (1, .int (nI k)), (2, .long (z_pa (σ.1 107) P k P)), (4, .int (nI P))]) (st1 := [.long (lN P), .long (1000000 * (z_pa (σ.1 107) P k P))]) (σ1 := σ) rfl (by rw [nI_l (by omega)]) rfl ?_
    refine z_aload_n 73 C dX8_partAt_73 0 rfl ?_
    refine z_getf 74 C 105 z_dX8 (⟨rfl, rfl⟩) 1 (by decide) q967 (.int (nI P)) (z_ci hP) dX8_partAt_74 ?_
    refine z_i2l 77 C dX8_partAt_77 ?_
    refine z_cv (lv1 := [(0, .ref (z_ad G 105)), (1, .int (nI k)), (2, .long (z_pa (σ.1 107) P k P)), (4, .int (nI P))]) (st1 := [.long (lN P), .long (lN P), .long (1000000 * (z_pa (σ.1 107) P k P))]) (σ1 := σ) rfl (by rw [nI_l (by omega)]) rfl ?_
    refine z_lmul 78 C dX8_partAt_78 ?_
    refine z_callS 79 C (As := [.long (1000000 * (z_pa (σ.1 107) P k P)), .long ((lN P) * (lN P))]) (rest := []) (m_X8_down (1000000 * (z_pa (σ.1 107) P k P)) ((lN P) * (lN P)) (z_lNq h0 h12)) k_X8_down q1116 ⟨rfl, rfl⟩ ⟨Nat.le_of_ble_eq_true rfl, Nat.le_of_ble_eq_true rfl⟩ rfl (Nat.le_of_ble_eq_true rfl) ⟨Nat.le_of_ble_eq_true rfl, Nat.le_of_ble_eq_true rfl⟩ rfl dX8_partAt_79 (z_k1 ?_)
    refine z_lret 82 C dX8_partAt_82 ?_
    exact ⟨rfl, rfl⟩
  · skip
    have hdl : j * (24 / P) ≤ 12 * 24 := Nat.mul_le_mul (by omega) (Nat.div_le_self 24 P)
    refine z_iload_n 14 C dX8_partAt_14 1 rfl ?_
    refine z_aload_n 15 C dX8_partAt_15 0 rfl ?_
    refine z_iload 16 C dX8_partAt_16 3 rfl ?_
    refine z_callV 18 C 105 (⟨rfl, rfl⟩) rfl (As := [.int (nI j)]) (rest := [.int (nI k)]) (m_X8_turned P n u v w rc tl hM j (by omega)) k_X8_turned q1131 ⟨rfl, rfl⟩ ⟨Nat.le_of_ble_eq_true rfl, Nat.le_of_ble_eq_true rfl⟩ rfl (Nat.le_of_ble_eq_true rfl) ⟨Nat.le_of_ble_eq_true rfl, Nat.le_of_ble_eq_true rfl⟩ rfl dX8_partAt_18 (z_k1 ?_)
    refine z_iaddN 21 C k (j * (24 / P)) rfl rfl dX8_partAt_21 ?_
    refine z_callS 22 C (As := [.int (nI (k + (j * (24 / P))))]) (rest := []) (m_X8_around_n (k + (j * (24 / P))) (by omega)) k_X8_around q1109 ⟨rfl, rfl⟩ ⟨Nat.le_of_ble_eq_true rfl, Nat.le_of_ble_eq_true rfl⟩ rfl (Nat.le_of_ble_eq_true rfl) ⟨Nat.le_of_ble_eq_true rfl, Nat.le_of_ble_eq_true rfl⟩ rfl dX8_partAt_22 (z_k1 ?_)
    refine z_istore 25 C dX8_partAt_25 [(5, .int (nI ((k + (j * (24 / P))) % 24))), (0, .ref (z_ad G 105)), (1, .int (nI k)), (2, .long (z_pa (σ.1 107) P k j)), (4, .int (nI j))] (by decide) rfl ?_
    refine z_lload_n 27 C dX8_partAt_27 3 rfl ?_
    refine z_aload_n 28 C dX8_partAt_28 1 rfl ?_
    refine z_getf 29 C 105 z_dX8 (⟨rfl, rfl⟩) 1 (by decide) q967 (.int (nI P)) (z_ci hP) dX8_partAt_29 ?_
    refine z_i2l 32 C dX8_partAt_32 ?_
    refine z_cv (lv1 := [(5, .int (nI ((k + (j * (24 / P))) % 24))), (0, .ref (z_ad G 105)), (1, .int (nI k)), (2, .long (z_pa (σ.1 107) P k j)), (4, .int (nI j))]) (st1 := [.long (lN P), .long (z_pa (σ.1 107) P k j)]) (σ1 := σ) rfl (by rw [nI_l (by omega)]) rfl ?_
    refine z_aload_n 33 C dX8_partAt_33 1 rfl ?_
    refine z_getf 34 C 105 z_dX8 (⟨rfl, rfl⟩) 3 (by decide) q969 (.ref (z_ad G 107)) rfl dX8_partAt_34 ?_
    refine z_bipush 37 C dX8_partAt_37 (nI 24) rfl ?_
    refine z_iload 39 C dX8_partAt_39 4 rfl ?_
    refine z_imulN 41 C 24 j rfl rfl dX8_partAt_41 ?_
    refine z_iload 42 C dX8_partAt_42 0 rfl ?_
    refine z_iaddN 44 C (24 * j) ((k + (j * (24 / P))) % 24) rfl rfl dX8_partAt_44 ?_
    refine z_ialdN 45 C 107 (n := 288) (⟨rfl, rfl⟩) ((24 * j) + ((k + (j * (24 / P))) % 24)) rfl (by omega) (by decide) dX8_partAt_45 ?_
    refine z_i2l 46 C dX8_partAt_46 ?_
    refine z_lmul 47 C dX8_partAt_47 ?_
    refine z_aload_n 48 C dX8_partAt_48 1 rfl ?_
    refine z_iload 49 C dX8_partAt_49 0 rfl ?_
    refine z_callV 51 C 105 (⟨rfl, rfl⟩) rfl (As := [.int (nI ((k + (j * (24 / P))) % 24))]) (rest := [.long ((lN P) * (Int32.toInt64 (σ.1 107 ((24 * j) + ((k + (j * (24 / P))) % 24))))), .long (z_pa (σ.1 107) P k j)]) (m_X8_sumAt P n u v w rc tl hM ((k + (j * (24 / P))) % 24) (by omega)) k_X8_sumAt q1135 ⟨rfl, rfl⟩ ⟨Nat.le_of_ble_eq_true rfl, Nat.le_of_ble_eq_true rfl⟩ rfl (Nat.le_of_ble_eq_true rfl) ⟨Nat.le_of_ble_eq_true rfl, Nat.le_of_ble_eq_true rfl⟩ rfl dX8_partAt_51 (z_k1 ?_)
    refine z_lsub 54 C dX8_partAt_54 ?_
    refine z_ladd 55 C dX8_partAt_55 ?_
    refine z_lstore_n 56 C dX8_partAt_56 [(2, .long ((z_pa (σ.1 107) P k j) + (((lN P) * (Int32.toInt64 (σ.1 107 ((24 * j) + ((k + (j * (24 / P))) % 24))))) - (z_su (σ.1 107) (((k + (j * (24 / P))) % 24) % 24) P)))), (5, .int (nI ((k + (j * (24 / P))) % 24))), (0, .ref (z_ad G 105)), (1, .int (nI k)), (4, .int (nI j))] (by decide) rfl ?_
    refine z_iincN 57 C 4 j [(4, .int (nI (j + 1))), (2, .long ((z_pa (σ.1 107) P k j) + (((lN P) * (Int32.toInt64 (σ.1 107 ((24 * j) + ((k + (j * (24 / P))) % 24))))) - (z_su (σ.1 107) (((k + (j * (24 / P))) % 24) % 24) P)))), (5, .int (nI ((k + (j * (24 / P))) % 24))), (0, .ref (z_ad G 105)), (1, .int (nI k))] rfl rfl (by decide) rfl dX8_partAt_57 ?_
    refine z_goto 60 C 5 dX8_partAt_60 (by decide) ?_
    refine z_sub [3, 4, 1, 0] (lv1 := [(0, .ref (z_ad G 105)), (1, .int (nI k)), (2, .long ((z_pa (σ.1 107) P k j) + (((lN P) * (Int32.toInt64 (σ.1 107 ((24 * j) + ((k + (j * (24 / P))) % 24))))) - (z_su (σ.1 107) (((k + (j * (24 / P))) % 24) % 24) P)))), (4, .int (nI (j + 1)))]) rfl ?_
    refine z_cv (lv1 := [(0, .ref (z_ad G 105)), (1, .int (nI k)), (2, .long (z_pa (σ.1 107) P k (j + 1))), (4, .int (nI (j + 1)))]) (st1 := []) (σ1 := σ) (by rw [Nat.mul_comm 24 j, Nat.mod_eq_of_lt (a := (k + j * (24 / P)) % 24) (Nat.mod_lt _ (by decide))]; rfl) rfl rfl ?_
    exact ih_5 (j + 1) (by omega) (by omega)
theorem dX8_part_0 : decode cX8_part 0 = .ok (.iload_n 1, 1) := by decide +kernel
theorem dX8_part_1 : decode cX8_part 1 = .ok (.invokestatic 101, 3) := by decide +kernel
theorem dX8_part_4 : decode cX8_part 4 = .ok (.ifCond .ne 10, 3) := by decide +kernel
theorem dX8_part_7 : decode cX8_part 7 = .ok (.aload_n 0, 1) := by decide +kernel
theorem dX8_part_8 : decode cX8_part 8 = .ok (.invokevirtual 92, 3) := by decide +kernel
theorem dX8_part_11 : decode cX8_part 11 = .ok (.ifCond .ne 9, 3) := by decide +kernel
theorem dX8_part_14 : decode cX8_part 14 = .ok (.invokestatic 127, 3) := by decide +kernel
theorem dX8_part_17 : decode cX8_part 17 = .ok (.goto 8, 3) := by decide +kernel
theorem dX8_part_20 : decode cX8_part 20 = .ok (.aload_n 0, 1) := by decide +kernel
theorem dX8_part_21 : decode cX8_part 21 = .ok (.iload_n 1, 1) := by decide +kernel
theorem dX8_part_22 : decode cX8_part 22 = .ok (.invokevirtual 131, 3) := by decide +kernel
theorem dX8_part_25 : decode cX8_part 25 = .ok (.lreturn, 1) := by decide +kernel
set_option maxRecDepth 100000 in
set_option maxHeartbeats 4000000 in
theorem m_X8_part {l : Launch} {G : z_Gl} {σ : z_St} (P n u v w rc tl : Nat) (hM : z_mi σ P n u v w rc tl) (x : Int32) : z_M l G yX8_part cX8_part 2 (some .long) (z_rm 3 70) [.ref (z_ad G 105), .int x] σ (z_p1 (.long (if x < nI 0 ∨ nI 23 < x then (-9223372036854775808) else if ¬ P * 24 ≤ n then (-9223372036854775808) else z_pt (σ.1 107) P (z_n x))) σ) := by
  refine z_M.of (by decide) (Nat.le_of_ble_eq_true rfl) (fun p e s m below meth c C => ?_)
  refine z_sub [0, 1] (lv1 := [(0, .ref (z_ad G 105)), (1, .int x)]) rfl ?_
  have hM0 := hM
  obtain ⟨⟨hP, hn, hu, hv, hw, hrc, htl⟩, hPs, hnP, huv, hw6, hrc8, htl2, hqt, hah⟩ := hM0
  have h0 : 0 < P := by omega
  have h12 : P ≤ 12 := by omega
  have h288 : n ≤ 288 := by omega
  refine z_iload_n 0 C dX8_part_0 1 rfl ?_
  refine z_callS 1 C (As := [.int x]) (rest := []) (m_X8_noPlace x) k_X8_noPlace q1096 ⟨rfl, rfl⟩ ⟨Nat.le_of_ble_eq_true rfl, Nat.le_of_ble_eq_true rfl⟩ rfl (Nat.le_of_ble_eq_true rfl) ⟨Nat.le_of_ble_eq_true rfl, Nat.le_of_ble_eq_true rfl⟩ rfl dX8_part_1 (z_k1 ?_)
  refine z_if_neb 4 C 14 dX8_part_4 (by decide) (fun c4 => ?_) (fun c4 => ?_)
  · skip
    refine z_callS 14 C (As := []) (rest := []) (m_X8_lost) k_X8_lost q1123 ⟨rfl, rfl⟩ ⟨Nat.le_of_ble_eq_true rfl, Nat.le_of_ble_eq_true rfl⟩ rfl (Nat.le_of_ble_eq_true rfl) ⟨Nat.le_of_ble_eq_true rfl, Nat.le_of_ble_eq_true rfl⟩ rfl dX8_part_14 (z_k1 ?_)
    refine z_goto 17 C 25 dX8_part_17 (by decide) ?_
    refine z_lret 25 C dX8_part_25 ?_
    first | exact ⟨z_cl (by rw [if_pos c4]), rfl⟩ | exact ⟨z_cl (by rw [if_neg c4, if_pos c11]), rfl⟩ | exact ⟨z_cl (by rw [if_neg c4, if_neg (fun z => z c11), z_nk (by omega)]), rfl⟩
  · skip
    obtain ⟨a, ha, rfl⟩ := z_in0 (by decide) c4
    refine z_aload_n 7 C dX8_part_7 0 rfl ?_
    refine z_callV 8 C 105 (⟨rfl, rfl⟩) rfl (As := []) (rest := []) (m_X8_isComplete P n u v w rc tl hM  ) k_X8_isComplete q1074 ⟨rfl, rfl⟩ ⟨Nat.le_of_ble_eq_true rfl, Nat.le_of_ble_eq_true rfl⟩ rfl (Nat.le_of_ble_eq_true rfl) ⟨Nat.le_of_ble_eq_true rfl, Nat.le_of_ble_eq_true rfl⟩ rfl dX8_part_8 (z_k1 ?_)
    refine z_if_neb 11 C 20 dX8_part_11 (by decide) (fun c11 => ?_) (fun c11 => ?_)
    · skip
      refine z_aload_n 20 C dX8_part_20 0 rfl ?_
      refine z_iload_n 21 C dX8_part_21 1 rfl ?_
      refine z_callV 22 C 105 (⟨rfl, rfl⟩) rfl (As := [.int (nI a)]) (rest := []) (m_X8_partAt P n u v w rc tl hM a (by omega)) k_X8_partAt q1127 ⟨rfl, rfl⟩ ⟨Nat.le_of_ble_eq_true rfl, Nat.le_of_ble_eq_true rfl⟩ rfl (Nat.le_of_ble_eq_true rfl) ⟨Nat.le_of_ble_eq_true rfl, Nat.le_of_ble_eq_true rfl⟩ rfl dX8_part_22 (z_k1 ?_)
      refine z_lret 25 C dX8_part_25 ?_
      first | exact ⟨z_cl (by rw [if_pos c4]), rfl⟩ | exact ⟨z_cl (by rw [if_neg c4, if_pos c11]), rfl⟩ | exact ⟨z_cl (by rw [if_neg c4, if_neg (fun z => z c11), z_nk (by omega)]), rfl⟩
    · skip
      refine z_callS 14 C (As := []) (rest := []) (m_X8_lost) k_X8_lost q1123 ⟨rfl, rfl⟩ ⟨Nat.le_of_ble_eq_true rfl, Nat.le_of_ble_eq_true rfl⟩ rfl (Nat.le_of_ble_eq_true rfl) ⟨Nat.le_of_ble_eq_true rfl, Nat.le_of_ble_eq_true rfl⟩ rfl dX8_part_14 (z_k1 ?_)
      refine z_goto 17 C 25 dX8_part_17 (by decide) ?_
      refine z_lret 25 C dX8_part_25 ?_
      first | exact ⟨z_cl (by rw [if_pos c4]), rfl⟩ | exact ⟨z_cl (by rw [if_neg c4, if_pos c11]), rfl⟩ | exact ⟨z_cl (by rw [if_neg c4, if_neg (fun z => z c11), z_nk (by omega)]), rfl⟩
theorem dX8_spindle_0 : decode cX8_spindle 0 = .ok (.iload_n 1, 1) := by decide +kernel
theorem dX8_spindle_1 : decode cX8_spindle 1 = .ok (.invokestatic 101, 3) := by decide +kernel
theorem dX8_spindle_4 : decode cX8_spindle 4 = .ok (.ifCond .ne 10, 3) := by decide +kernel
theorem dX8_spindle_7 : decode cX8_spindle 7 = .ok (.aload_n 0, 1) := by decide +kernel
theorem dX8_spindle_8 : decode cX8_spindle 8 = .ok (.invokevirtual 92, 3) := by decide +kernel
theorem dX8_spindle_11 : decode cX8_spindle 11 = .ok (.ifCond .ne 9, 3) := by decide +kernel
theorem dX8_spindle_14 : decode cX8_spindle 14 = .ok (.invokestatic 127, 3) := by decide +kernel
theorem dX8_spindle_17 : decode cX8_spindle 17 = .ok (.goto 8, 3) := by decide +kernel
theorem dX8_spindle_20 : decode cX8_spindle 20 = .ok (.aload_n 0, 1) := by decide +kernel
theorem dX8_spindle_21 : decode cX8_spindle 21 = .ok (.iload_n 1, 1) := by decide +kernel
theorem dX8_spindle_22 : decode cX8_spindle 22 = .ok (.invokevirtual 134, 3) := by decide +kernel
theorem dX8_spindle_25 : decode cX8_spindle 25 = .ok (.lreturn, 1) := by decide +kernel
set_option maxRecDepth 100000 in
set_option maxHeartbeats 4000000 in
theorem m_X8_spindle {l : Launch} {G : z_Gl} {σ : z_St} (P n u v w rc tl : Nat) (hM : z_mi σ P n u v w rc tl) (x : Int32) : z_M l G yX8_spindle cX8_spindle 2 (some .long) (z_rm 3 66) [.ref (z_ad G 105), .int x] σ (z_p1 (.long (if x < nI 0 ∨ nI 23 < x then (-9223372036854775808) else if ¬ P * 24 ≤ n then (-9223372036854775808) else z_sp (σ.1 107) P (z_n x))) σ) := by
  refine z_M.of (by decide) (Nat.le_of_ble_eq_true rfl) (fun p e s m below meth c C => ?_)
  refine z_sub [0, 1] (lv1 := [(0, .ref (z_ad G 105)), (1, .int x)]) rfl ?_
  have hM0 := hM
  obtain ⟨⟨hP, hn, hu, hv, hw, hrc, htl⟩, hPs, hnP, huv, hw6, hrc8, htl2, hqt, hah⟩ := hM0
  have h0 : 0 < P := by omega
  have h12 : P ≤ 12 := by omega
  have h288 : n ≤ 288 := by omega
  refine z_iload_n 0 C dX8_spindle_0 1 rfl ?_
  refine z_callS 1 C (As := [.int x]) (rest := []) (m_X8_noPlace x) k_X8_noPlace q1096 ⟨rfl, rfl⟩ ⟨Nat.le_of_ble_eq_true rfl, Nat.le_of_ble_eq_true rfl⟩ rfl (Nat.le_of_ble_eq_true rfl) ⟨Nat.le_of_ble_eq_true rfl, Nat.le_of_ble_eq_true rfl⟩ rfl dX8_spindle_1 (z_k1 ?_)
  refine z_if_neb 4 C 14 dX8_spindle_4 (by decide) (fun c4 => ?_) (fun c4 => ?_)
  · skip
    refine z_callS 14 C (As := []) (rest := []) (m_X8_lost) k_X8_lost q1123 ⟨rfl, rfl⟩ ⟨Nat.le_of_ble_eq_true rfl, Nat.le_of_ble_eq_true rfl⟩ rfl (Nat.le_of_ble_eq_true rfl) ⟨Nat.le_of_ble_eq_true rfl, Nat.le_of_ble_eq_true rfl⟩ rfl dX8_spindle_14 (z_k1 ?_)
    refine z_goto 17 C 25 dX8_spindle_17 (by decide) ?_
    refine z_lret 25 C dX8_spindle_25 ?_
    first | exact ⟨z_cl (by rw [if_pos c4]), rfl⟩ | exact ⟨z_cl (by rw [if_neg c4, if_pos c11]), rfl⟩ | exact ⟨z_cl (by rw [if_neg c4, if_neg (fun z => z c11), z_nk (by omega)]), rfl⟩
  · skip
    obtain ⟨a, ha, rfl⟩ := z_in0 (by decide) c4
    refine z_aload_n 7 C dX8_spindle_7 0 rfl ?_
    refine z_callV 8 C 105 (⟨rfl, rfl⟩) rfl (As := []) (rest := []) (m_X8_isComplete P n u v w rc tl hM  ) k_X8_isComplete q1074 ⟨rfl, rfl⟩ ⟨Nat.le_of_ble_eq_true rfl, Nat.le_of_ble_eq_true rfl⟩ rfl (Nat.le_of_ble_eq_true rfl) ⟨Nat.le_of_ble_eq_true rfl, Nat.le_of_ble_eq_true rfl⟩ rfl dX8_spindle_8 (z_k1 ?_)
    refine z_if_neb 11 C 20 dX8_spindle_11 (by decide) (fun c11 => ?_) (fun c11 => ?_)
    · skip
      refine z_aload_n 20 C dX8_spindle_20 0 rfl ?_
      refine z_iload_n 21 C dX8_spindle_21 1 rfl ?_
      refine z_callV 22 C 105 (⟨rfl, rfl⟩) rfl (As := [.int (nI a)]) (rest := []) (m_X8_spindleAt P n u v w rc tl hM a (by omega)) k_X8_spindleAt q1144 ⟨rfl, rfl⟩ ⟨Nat.le_of_ble_eq_true rfl, Nat.le_of_ble_eq_true rfl⟩ rfl (Nat.le_of_ble_eq_true rfl) ⟨Nat.le_of_ble_eq_true rfl, Nat.le_of_ble_eq_true rfl⟩ rfl dX8_spindle_22 (z_k1 ?_)
      refine z_lret 25 C dX8_spindle_25 ?_
      first | exact ⟨z_cl (by rw [if_pos c4]), rfl⟩ | exact ⟨z_cl (by rw [if_neg c4, if_pos c11]), rfl⟩ | exact ⟨z_cl (by rw [if_neg c4, if_neg (fun z => z c11), z_nk (by omega)]), rfl⟩
    · skip
      refine z_callS 14 C (As := []) (rest := []) (m_X8_lost) k_X8_lost q1123 ⟨rfl, rfl⟩ ⟨Nat.le_of_ble_eq_true rfl, Nat.le_of_ble_eq_true rfl⟩ rfl (Nat.le_of_ble_eq_true rfl) ⟨Nat.le_of_ble_eq_true rfl, Nat.le_of_ble_eq_true rfl⟩ rfl dX8_spindle_14 (z_k1 ?_)
      refine z_goto 17 C 25 dX8_spindle_17 (by decide) ?_
      refine z_lret 25 C dX8_spindle_25 ?_
      first | exact ⟨z_cl (by rw [if_pos c4]), rfl⟩ | exact ⟨z_cl (by rw [if_neg c4, if_pos c11]), rfl⟩ | exact ⟨z_cl (by rw [if_neg c4, if_neg (fun z => z c11), z_nk (by omega)]), rfl⟩
theorem dX8_isBlind_0 : decode cX8_isBlind 0 = .ok (.iload_n 1, 1) := by decide +kernel
theorem dX8_isBlind_1 : decode cX8_isBlind 1 = .ok (.i2l, 1) := by decide +kernel
theorem dX8_isBlind_2 : decode cX8_isBlind 2 = .ok (.lconst 1, 1) := by decide +kernel
theorem dX8_isBlind_3 : decode cX8_isBlind 3 = .ok (.ldc2_w 137, 3) := by decide +kernel
theorem dX8_isBlind_6 : decode cX8_isBlind 6 = .ok (.invokestatic 68, 3) := by decide +kernel
theorem dX8_isBlind_9 : decode cX8_isBlind 9 = .ok (.ifCond .ne 8, 3) := by decide +kernel
theorem dX8_isBlind_12 : decode cX8_isBlind 12 = .ok (.ldc 87, 2) := by decide +kernel
theorem dX8_isBlind_14 : decode cX8_isBlind 14 = .ok (.goto 17, 3) := by decide +kernel
theorem dX8_isBlind_17 : decode cX8_isBlind 17 = .ok (.iload_n 1, 1) := by decide +kernel
theorem dX8_isBlind_18 : decode cX8_isBlind 18 = .ok (.aload_n 0, 1) := by decide +kernel
theorem dX8_isBlind_19 : decode cX8_isBlind 19 = .ok (.getfield 60, 3) := by decide +kernel
theorem dX8_isBlind_22 : decode cX8_isBlind 22 = .ok (.irem, 1) := by decide +kernel
theorem dX8_isBlind_23 : decode cX8_isBlind 23 = .ok (.ifCond .ne 7, 3) := by decide +kernel
theorem dX8_isBlind_26 : decode cX8_isBlind 26 = .ok (.iconst 1, 1) := by decide +kernel
theorem dX8_isBlind_27 : decode cX8_isBlind 27 = .ok (.goto 4, 3) := by decide +kernel
theorem dX8_isBlind_30 : decode cX8_isBlind 30 = .ok (.iconst 0, 1) := by decide +kernel
theorem dX8_isBlind_31 : decode cX8_isBlind 31 = .ok (.ireturn, 1) := by decide +kernel
set_option maxRecDepth 100000 in
set_option maxHeartbeats 4000000 in
theorem m_X8_isBlind {l : Launch} {G : z_Gl} {σ : z_St} (P n u v w rc tl : Nat) (hM : z_mi σ P n u v w rc tl) (x : Int32) : z_M l G yX8_isBlind cX8_isBlind 2 (some .int) (z_rm 1 25) [.ref (z_ad G 105), .int x] σ (z_p1 (.int (if x < nI 1 ∨ nI 12 < x then (-1000001) else z_bo (z_n x % P = 0))) σ) := by
  refine z_M.of (by decide) (Nat.le_of_ble_eq_true rfl) (fun p e s m below meth c C => ?_)
  refine z_sub [0, 1] (lv1 := [(0, .ref (z_ad G 105)), (1, .int x)]) rfl ?_
  have hM0 := hM
  obtain ⟨⟨hP, hn, hu, hv, hw, hrc, htl⟩, hPs, hnP, huv, hw6, hrc8, htl2, hqt, hah⟩ := hM0
  have h0 : 0 < P := by omega
  have h12 : P ≤ 12 := by omega
  have h288 : n ≤ 288 := by omega
  refine z_iload_n 0 C dX8_isBlind_0 1 rfl ?_
  refine z_i2l 1 C dX8_isBlind_1 ?_
  refine z_lconst 2 C dX8_isBlind_2 1 rfl ?_
  refine z_ldc2 3 C dX8_isBlind_3 q1152 ?_
  refine z_callS 6 C (As := [.long (Int32.toInt64 x), .long 1, .long 12]) (rest := []) (m_X8_in_i x (nI 1) (nI 12) (by decide) (by decide)) k_X8_in q1071 ⟨rfl, rfl⟩ ⟨Nat.le_of_ble_eq_true rfl, Nat.le_of_ble_eq_true rfl⟩ rfl (Nat.le_of_ble_eq_true rfl) ⟨Nat.le_of_ble_eq_true rfl, Nat.le_of_ble_eq_true rfl⟩ rfl dX8_isBlind_6 (z_k1 ?_)
  refine z_if_neb 9 C 17 dX8_isBlind_9 (by decide) (fun c9 => ?_) (fun c9 => ?_)
  · skip
    obtain ⟨a, hla, ha, rfl⟩ := z_in1 (by decide) (by decide) c9
    refine z_iload_n 17 C dX8_isBlind_17 1 rfl ?_
    refine z_aload_n 18 C dX8_isBlind_18 0 rfl ?_
    refine z_getf 19 C 105 z_dX8 (⟨rfl, rfl⟩) 1 (by decide) q967 (.int (nI P)) (z_ci hP) dX8_isBlind_19 ?_
    refine z_iremN 22 C a P rfl rfl (by omega) (by omega) (by omega) dX8_isBlind_22 ?_
    refine z_if_ne 23 C 30 dX8_isBlind_23 (by decide) (fun c23 => ?_) (fun c23 => ?_)
    · skip
      refine z_iconst 30 C dX8_isBlind_30 (nI 0) rfl ?_
      refine z_iret 31 C dX8_isBlind_31 ?_
      first | exact ⟨z_ci (by rw [if_pos c9]), rfl⟩ | exact ⟨z_ci (by rw [if_neg c9, z_nk (k := a) (by omega)]; exact z_bo_t ((z_nI0 (Nat.lt_trans (Nat.mod_lt _ h0) (by omega))).mp c23)), rfl⟩ | exact ⟨z_ci (by rw [if_neg c9, z_nk (k := a) (by omega)]; exact z_bo_f (fun z => c23 ((z_nI0 (Nat.lt_trans (Nat.mod_lt _ h0) (by omega))).mpr z))), rfl⟩
    · skip
      refine z_iconst 26 C dX8_isBlind_26 (nI 1) rfl ?_
      refine z_goto 27 C 31 dX8_isBlind_27 (by decide) ?_
      refine z_iret 31 C dX8_isBlind_31 ?_
      first | exact ⟨z_ci (by rw [if_pos c9]), rfl⟩ | exact ⟨z_ci (by rw [if_neg c9, z_nk (k := a) (by omega)]; exact z_bo_t ((z_nI0 (Nat.lt_trans (Nat.mod_lt _ h0) (by omega))).mp c23)), rfl⟩ | exact ⟨z_ci (by rw [if_neg c9, z_nk (k := a) (by omega)]; exact z_bo_f (fun z => c23 ((z_nI0 (Nat.lt_trans (Nat.mod_lt _ h0) (by omega))).mpr z))), rfl⟩
  · skip
    replace c9 := Classical.not_not.mp c9
    refine z_ldc 12 C dX8_isBlind_12 q1064 ?_
    refine z_goto 14 C 31 dX8_isBlind_14 (by decide) ?_
    refine z_iret 31 C dX8_isBlind_31 ?_
    first | exact ⟨z_ci (by rw [if_pos c9]), rfl⟩ | exact ⟨z_ci (by rw [if_neg c9, z_nk (k := a) (by omega)]; exact z_bo_t ((z_nI0 (Nat.lt_trans (Nat.mod_lt _ h0) (by omega))).mp c23)), rfl⟩ | exact ⟨z_ci (by rw [if_neg c9, z_nk (k := a) (by omega)]; exact z_bo_f (fun z => c23 ((z_nI0 (Nat.lt_trans (Nat.mod_lt _ h0) (by omega))).mpr z))), rfl⟩
theorem dX8_residual_0 : decode cX8_residual 0 = .ok (.aload_n 0, 1) := by decide +kernel
theorem dX8_residual_1 : decode cX8_residual 1 = .ok (.invokevirtual 92, 3) := by decide +kernel
theorem dX8_residual_4 : decode cX8_residual 4 = .ok (.ifCond .ne 7, 3) := by decide +kernel
theorem dX8_residual_7 : decode cX8_residual 7 = .ok (.invokestatic 127, 3) := by decide +kernel
theorem dX8_residual_10 : decode cX8_residual 10 = .ok (.lreturn, 1) := by decide +kernel
theorem dX8_residual_11 : decode cX8_residual 11 = .ok (.lconst 0, 1) := by decide +kernel
theorem dX8_residual_12 : decode cX8_residual 12 = .ok (.lstore_n 1, 1) := by decide +kernel
theorem dX8_residual_13 : decode cX8_residual 13 = .ok (.iconst 0, 1) := by decide +kernel
theorem dX8_residual_14 : decode cX8_residual 14 = .ok (.istore_n 3, 1) := by decide +kernel
theorem dX8_residual_15 : decode cX8_residual 15 = .ok (.iload_n 3, 1) := by decide +kernel
theorem dX8_residual_16 : decode cX8_residual 16 = .ok (.aload_n 0, 1) := by decide +kernel
theorem dX8_residual_17 : decode cX8_residual 17 = .ok (.getfield 60, 3) := by decide +kernel
theorem dX8_residual_20 : decode cX8_residual 20 = .ok (.if_icmp .ge 84, 3) := by decide +kernel
theorem dX8_residual_23 : decode cX8_residual 23 = .ok (.iconst 0, 1) := by decide +kernel
theorem dX8_residual_24 : decode cX8_residual 24 = .ok (.istore 4, 2) := by decide +kernel
theorem dX8_residual_26 : decode cX8_residual 26 = .ok (.iload 4, 2) := by decide +kernel
theorem dX8_residual_28 : decode cX8_residual 28 = .ok (.bipush 24, 2) := by decide +kernel
theorem dX8_residual_30 : decode cX8_residual 30 = .ok (.if_icmp .ge 68, 3) := by decide +kernel
theorem dX8_residual_33 : decode cX8_residual 33 = .ok (.ldc2_w 125, 3) := by decide +kernel
theorem dX8_residual_36 : decode cX8_residual 36 = .ok (.aload_n 0, 1) := by decide +kernel
theorem dX8_residual_37 : decode cX8_residual 37 = .ok (.getfield 19, 3) := by decide +kernel
theorem dX8_residual_40 : decode cX8_residual 40 = .ok (.bipush 24, 2) := by decide +kernel
theorem dX8_residual_42 : decode cX8_residual 42 = .ok (.iload_n 3, 1) := by decide +kernel
theorem dX8_residual_43 : decode cX8_residual 43 = .ok (.imul, 1) := by decide +kernel
theorem dX8_residual_44 : decode cX8_residual 44 = .ok (.iload 4, 2) := by decide +kernel
theorem dX8_residual_46 : decode cX8_residual 46 = .ok (.iadd, 1) := by decide +kernel
theorem dX8_residual_47 : decode cX8_residual 47 = .ok (.iaload, 1) := by decide +kernel
theorem dX8_residual_48 : decode cX8_residual 48 = .ok (.i2l, 1) := by decide +kernel
theorem dX8_residual_49 : decode cX8_residual 49 = .ok (.lmul, 1) := by decide +kernel
theorem dX8_residual_50 : decode cX8_residual 50 = .ok (.aload_n 0, 1) := by decide +kernel
theorem dX8_residual_51 : decode cX8_residual 51 = .ok (.iload 4, 2) := by decide +kernel
theorem dX8_residual_53 : decode cX8_residual 53 = .ok (.aload_n 0, 1) := by decide +kernel
theorem dX8_residual_54 : decode cX8_residual 54 = .ok (.iload_n 3, 1) := by decide +kernel
theorem dX8_residual_55 : decode cX8_residual 55 = .ok (.invokevirtual 119, 3) := by decide +kernel
theorem dX8_residual_58 : decode cX8_residual 58 = .ok (.isub, 1) := by decide +kernel
theorem dX8_residual_59 : decode cX8_residual 59 = .ok (.invokestatic 72, 3) := by decide +kernel
theorem dX8_residual_62 : decode cX8_residual 62 = .ok (.invokevirtual 131, 3) := by decide +kernel
theorem dX8_residual_65 : decode cX8_residual 65 = .ok (.lsub, 1) := by decide +kernel
theorem dX8_residual_66 : decode cX8_residual 66 = .ok (.aload_n 0, 1) := by decide +kernel
theorem dX8_residual_67 : decode cX8_residual 67 = .ok (.iload 4, 2) := by decide +kernel
theorem dX8_residual_69 : decode cX8_residual 69 = .ok (.invokevirtual 134, 3) := by decide +kernel
theorem dX8_residual_72 : decode cX8_residual 72 = .ok (.lsub, 1) := by decide +kernel
theorem dX8_residual_73 : decode cX8_residual 73 = .ok (.invokestatic 111, 3) := by decide +kernel
theorem dX8_residual_76 : decode cX8_residual 76 = .ok (.lstore 5, 2) := by decide +kernel
theorem dX8_residual_78 : decode cX8_residual 78 = .ok (.lload 5, 2) := by decide +kernel
theorem dX8_residual_80 : decode cX8_residual 80 = .ok (.lload_n 1, 1) := by decide +kernel
theorem dX8_residual_81 : decode cX8_residual 81 = .ok (.lcmp, 1) := by decide +kernel
theorem dX8_residual_82 : decode cX8_residual 82 = .ok (.ifCond .le 8, 3) := by decide +kernel
theorem dX8_residual_85 : decode cX8_residual 85 = .ok (.lload 5, 2) := by decide +kernel
theorem dX8_residual_87 : decode cX8_residual 87 = .ok (.goto 4, 3) := by decide +kernel
theorem dX8_residual_90 : decode cX8_residual 90 = .ok (.lload_n 1, 1) := by decide +kernel
theorem dX8_residual_91 : decode cX8_residual 91 = .ok (.lstore_n 1, 1) := by decide +kernel
theorem dX8_residual_92 : decode cX8_residual 92 = .ok (.iinc 4 1, 3) := by decide +kernel
theorem dX8_residual_95 : decode cX8_residual 95 = .ok (.goto (-69), 3) := by decide +kernel
theorem dX8_residual_98 : decode cX8_residual 98 = .ok (.iinc 3 1, 3) := by decide +kernel
theorem dX8_residual_101 : decode cX8_residual 101 = .ok (.goto (-86), 3) := by decide +kernel
theorem dX8_residual_104 : decode cX8_residual 104 = .ok (.lload_n 1, 1) := by decide +kernel
theorem dX8_residual_105 : decode cX8_residual 105 = .ok (.lreturn, 1) := by decide +kernel
set_option maxRecDepth 100000 in
set_option maxHeartbeats 4000000 in
theorem m_X8_residual {l : Launch} {G : z_Gl} {σ : z_St} (P n u v w rc tl : Nat) (hM : z_mi σ P n u v w rc tl) : z_M l G yX8_residual cX8_residual 7 (some .long) (z_rm 3 70) [.ref (z_ad G 105)] σ (z_p1 (.long (if P * 24 ≤ n then z_gp (σ.1 107) P P else (-9223372036854775808))) σ) := by
  refine z_M.of (by decide) (Nat.le_of_ble_eq_true rfl) (fun p e s m below meth c C => ?_)
  refine z_sub [0] (lv1 := [(0, .ref (z_ad G 105))]) rfl ?_
  have hM0 := hM
  obtain ⟨⟨hP, hn, hu, hv, hw, hrc, htl⟩, hPs, hnP, huv, hw6, hrc8, htl2, hqt, hah⟩ := hM0
  have h0 : 0 < P := by omega
  have h12 : P ≤ 12 := by omega
  have h288 : n ≤ 288 := by omega
  refine z_aload_n 0 C dX8_residual_0 0 rfl ?_
  refine z_callV 1 C 105 (⟨rfl, rfl⟩) rfl (As := []) (rest := []) (m_X8_isComplete P n u v w rc tl hM  ) k_X8_isComplete q1074 ⟨rfl, rfl⟩ ⟨Nat.le_of_ble_eq_true rfl, Nat.le_of_ble_eq_true rfl⟩ rfl (Nat.le_of_ble_eq_true rfl) ⟨Nat.le_of_ble_eq_true rfl, Nat.le_of_ble_eq_true rfl⟩ rfl dX8_residual_1 (z_k1 ?_)
  refine z_if_neb 4 C 11 dX8_residual_4 (by decide) (fun c4 => ?_) (fun c4 => ?_)
  · skip
    refine z_lconst 11 C dX8_residual_11 0 rfl ?_
    refine z_lstore_n 12 C dX8_residual_12 [(1, .long 0), (0, .ref (z_ad G 105))] (by decide) rfl ?_
    refine z_iconst 13 C dX8_residual_13 (nI 0) rfl ?_
    refine z_istore_n 14 C dX8_residual_14 [(3, .int (nI 0)), (1, .long 0), (0, .ref (z_ad G 105))] (by decide) rfl ?_
    refine z_sub [2, 1, 0] (lv1 := [(0, .ref (z_ad G 105)), (1, .long 0), (3, .int (nI 0))]) rfl ?_
    refine z_cv (lv1 := [(0, .ref (z_ad G 105)), (1, .long (z_gp (σ.1 107) P 0)), (3, .int (nI 0))]) (st1 := []) (σ1 := σ) rfl rfl rfl ?_
    refine z_lp1 (fun (j : Nat) => j ≤ P) (fun (j : Nat) => P - j) (fun (j : Nat) => [(0, .ref (z_ad G 105)), (1, .long (z_gp (σ.1 107) P j)), (3, .int (nI j))]) (fun (j : Nat) => σ) (fun j hi_15 ih_15 => ?_) 0 (by omega)
    try dsimp only
    refine z_iload_n 15 C dX8_residual_15 2 rfl ?_
    refine z_aload_n 16 C dX8_residual_16 0 rfl ?_
    refine z_getf 17 C 105 z_dX8 (⟨rfl, rfl⟩) 1 (by decide) q967 (.int (nI P)) (z_ci hP) dX8_residual_17 ?_
    refine z_icmp_geN 20 C j P rfl rfl (by omega) (by omega) 104 dX8_residual_20 (by decide) (fun c20 => ?_) (fun c20 => ?_)
    · skip
      have ej : P = j := by omega
      subst ej
      refine z_lload_n 104 C dX8_residual_104 1 rfl ?_
      refine z_lret 105 C dX8_residual_105 ?_
      exact ⟨z_cl (by rw [if_pos c4]), rfl⟩
    · skip
      have hdl : j * (24 / P) ≤ 12 * 24 := Nat.mul_le_mul (by omega) (Nat.div_le_self 24 P)
      refine z_iconst 23 C dX8_residual_23 (nI 0) rfl ?_
      refine z_istore 24 C dX8_residual_24 [(4, .int (nI 0)), (0, .ref (z_ad G 105)), (1, .long (z_gp (σ.1 107) P j)), (3, .int (nI j))] (by decide) rfl ?_
      refine z_sub [1, 2, 3, 0] (lv1 := [(0, .ref (z_ad G 105)), (1, .long (z_gp (σ.1 107) P j)), (3, .int (nI j)), (4, .int (nI 0))]) rfl ?_
      refine z_cv (lv1 := [(0, .ref (z_ad G 105)), (1, .long (z_gj (σ.1 107) P j (z_gp (σ.1 107) P j) 0)), (3, .int (nI j)), (4, .int (nI 0))]) (st1 := []) (σ1 := σ) rfl rfl rfl ?_
      refine z_lp1 (fun (k : Nat) => k ≤ 24) (fun (k : Nat) => 24 - k) (fun (k : Nat) => [(0, .ref (z_ad G 105)), (1, .long (z_gj (σ.1 107) P j (z_gp (σ.1 107) P j) k)), (3, .int (nI j)), (4, .int (nI k))]) (fun (k : Nat) => σ) (fun k hi_26 ih_26 => ?_) 0 (by omega)
      try dsimp only
      refine z_iload 26 C dX8_residual_26 3 rfl ?_
      refine z_bipush 28 C dX8_residual_28 (nI 24) rfl ?_
      refine z_icmp_geN 30 C k 24 rfl rfl (by omega) (by omega) 98 dX8_residual_30 (by decide) (fun c30 => ?_) (fun c30 => ?_)
      · skip
        have ek : k = 24 := by omega
        subst ek
        refine z_iincN 98 C 2 j [(3, .int (nI (j + 1))), (0, .ref (z_ad G 105)), (1, .long (z_gj (σ.1 107) P j (z_gp (σ.1 107) P j) 24)), (4, .int (nI 24))] rfl rfl (by decide) rfl dX8_residual_98 ?_
        refine z_goto 101 C 15 dX8_residual_101 (by decide) ?_
        refine z_sub [1, 2, 0] (lv1 := [(0, .ref (z_ad G 105)), (1, .long (z_gj (σ.1 107) P j (z_gp (σ.1 107) P j) 24)), (3, .int (nI (j + 1)))]) rfl ?_
        refine z_cv (lv1 := [(0, .ref (z_ad G 105)), (1, .long (z_gp (σ.1 107) P (j + 1))), (3, .int (nI (j + 1)))]) (st1 := []) (σ1 := σ) rfl rfl rfl ?_
        exact ih_15 (j + 1) (by omega) (by omega)
      · skip
        refine z_ldc2 33 C dX8_residual_33 q1139 ?_
        refine z_aload_n 36 C dX8_residual_36 0 rfl ?_
        refine z_getf 37 C 105 z_dX8 (⟨rfl, rfl⟩) 3 (by decide) q969 (.ref (z_ad G 107)) rfl dX8_residual_37 ?_
        refine z_bipush 40 C dX8_residual_40 (nI 24) rfl ?_
        refine z_iload_n 42 C dX8_residual_42 2 rfl ?_
        refine z_imulN 43 C 24 j rfl rfl dX8_residual_43 ?_
        refine z_iload 44 C dX8_residual_44 3 rfl ?_
        refine z_iaddN 46 C (24 * j) k rfl rfl dX8_residual_46 ?_
        refine z_ialdN 47 C 107 (n := 288) (⟨rfl, rfl⟩) ((24 * j) + k) rfl (by omega) (by decide) dX8_residual_47 ?_
        refine z_i2l 48 C dX8_residual_48 ?_
        refine z_lmul 49 C dX8_residual_49 ?_
        refine z_aload_n 50 C dX8_residual_50 0 rfl ?_
        refine z_iload 51 C dX8_residual_51 3 rfl ?_
        refine z_aload_n 53 C dX8_residual_53 0 rfl ?_
        refine z_iload_n 54 C dX8_residual_54 2 rfl ?_
        refine z_callV 55 C 105 (⟨rfl, rfl⟩) rfl (As := [.int (nI j)]) (rest := [.int (nI k), .ref (z_ad G 105), .long (1000000 * (Int32.toInt64 (σ.1 107 ((24 * j) + k))))]) (m_X8_turned P n u v w rc tl hM j (by omega)) k_X8_turned q1131 ⟨rfl, rfl⟩ ⟨Nat.le_of_ble_eq_true rfl, Nat.le_of_ble_eq_true rfl⟩ rfl (Nat.le_of_ble_eq_true rfl) ⟨Nat.le_of_ble_eq_true rfl, Nat.le_of_ble_eq_true rfl⟩ rfl dX8_residual_55 (z_k1 ?_)
        refine z_isub 58 C dX8_residual_58 ?_
        refine z_callS 59 C (As := [.int ((nI k) - (nI (j * (24 / P))))]) (rest := [.ref (z_ad G 105), .long (1000000 * (Int32.toInt64 (σ.1 107 ((24 * j) + k))))]) (m_X8_around_d k (j * (24 / P)) (by omega) (by omega)) k_X8_around q1109 ⟨rfl, rfl⟩ ⟨Nat.le_of_ble_eq_true rfl, Nat.le_of_ble_eq_true rfl⟩ rfl (Nat.le_of_ble_eq_true rfl) ⟨Nat.le_of_ble_eq_true rfl, Nat.le_of_ble_eq_true rfl⟩ rfl dX8_residual_59 (z_k1 ?_)
        refine z_callV 62 C 105 (⟨rfl, rfl⟩) rfl (As := [.int (nI ((k + (24 - (j * (24 / P)) % 24)) % 24))]) (rest := [.long (1000000 * (Int32.toInt64 (σ.1 107 ((24 * j) + k))))]) (m_X8_partAt P n u v w rc tl hM ((k + (24 - (j * (24 / P)) % 24)) % 24) (by omega)) k_X8_partAt q1127 ⟨rfl, rfl⟩ ⟨Nat.le_of_ble_eq_true rfl, Nat.le_of_ble_eq_true rfl⟩ rfl (Nat.le_of_ble_eq_true rfl) ⟨Nat.le_of_ble_eq_true rfl, Nat.le_of_ble_eq_true rfl⟩ rfl dX8_residual_62 (z_k1 ?_)
        refine z_lsub 65 C dX8_residual_65 ?_
        refine z_aload_n 66 C dX8_residual_66 0 rfl ?_
        refine z_iload 67 C dX8_residual_67 3 rfl ?_
        refine z_callV 69 C 105 (⟨rfl, rfl⟩) rfl (As := [.int (nI k)]) (rest := [.long ((1000000 * (Int32.toInt64 (σ.1 107 ((24 * j) + k)))) - (z_pt (σ.1 107) P ((k + (24 - (j * (24 / P)) % 24)) % 24)))]) (m_X8_spindleAt P n u v w rc tl hM k (by omega)) k_X8_spindleAt q1144 ⟨rfl, rfl⟩ ⟨Nat.le_of_ble_eq_true rfl, Nat.le_of_ble_eq_true rfl⟩ rfl (Nat.le_of_ble_eq_true rfl) ⟨Nat.le_of_ble_eq_true rfl, Nat.le_of_ble_eq_true rfl⟩ rfl dX8_residual_69 (z_k1 ?_)
        refine z_lsub 72 C dX8_residual_72 ?_
        refine z_callS 73 C (As := [.long (((1000000 * (Int32.toInt64 (σ.1 107 ((24 * j) + k)))) - (z_pt (σ.1 107) P ((k + (24 - (j * (24 / P)) % 24)) % 24))) - (z_sp (σ.1 107) P k))]) (rest := []) (m_X8_size (((1000000 * (Int32.toInt64 (σ.1 107 ((24 * j) + k)))) - (z_pt (σ.1 107) P ((k + (24 - (j * (24 / P)) % 24)) % 24))) - (z_sp (σ.1 107) P k))) k_X8_size q1113 ⟨rfl, rfl⟩ ⟨Nat.le_of_ble_eq_true rfl, Nat.le_of_ble_eq_true rfl⟩ rfl (Nat.le_of_ble_eq_true rfl) ⟨Nat.le_of_ble_eq_true rfl, Nat.le_of_ble_eq_true rfl⟩ rfl dX8_residual_73 (z_k1 ?_)
        refine z_cv (lv1 := [(0, .ref (z_ad G 105)), (1, .long (z_gj (σ.1 107) P j (z_gp (σ.1 107) P j) k)), (3, .int (nI j)), (4, .int (nI k))]) (st1 := [.long (z_rs (σ.1 107) P k j)]) (σ1 := σ) rfl (by rw [Nat.mul_comm 24 j]; unfold z_rs; rw [Nat.mod_eq_of_lt (a := k) (by omega)]) rfl ?_
        refine z_lstore 76 C dX8_residual_76 [(5, .long (z_rs (σ.1 107) P k j)), (0, .ref (z_ad G 105)), (1, .long (z_gj (σ.1 107) P j (z_gp (σ.1 107) P j) k)), (3, .int (nI j)), (4, .int (nI k))] (by decide) rfl ?_
        refine z_lload 78 C dX8_residual_78 0 rfl ?_
        refine z_lload_n 80 C dX8_residual_80 2 rfl ?_
        refine z_lcmp_le 81 C 90 dX8_residual_81 dX8_residual_82 (by decide) (fun c81 => ?_) (fun c81 => ?_)
        · skip
          refine z_lload_n 90 C dX8_residual_90 2 rfl ?_
          refine z_lstore_n 91 C dX8_residual_91 [(1, .long (z_gj (σ.1 107) P j (z_gp (σ.1 107) P j) k)), (5, .long (z_rs (σ.1 107) P k j)), (0, .ref (z_ad G 105)), (3, .int (nI j)), (4, .int (nI k))] (by decide) rfl ?_
          refine z_iincN 92 C 4 k [(4, .int (nI (k + 1))), (1, .long (z_gj (σ.1 107) P j (z_gp (σ.1 107) P j) k)), (5, .long (z_rs (σ.1 107) P k j)), (0, .ref (z_ad G 105)), (3, .int (nI j))] rfl rfl (by decide) rfl dX8_residual_92 ?_
          refine z_goto 95 C 26 dX8_residual_95 (by decide) ?_
          refine z_sub [3, 1, 4, 0] (lv1 := [(0, .ref (z_ad G 105)), (1, .long (z_gj (σ.1 107) P j (z_gp (σ.1 107) P j) k)), (3, .int (nI j)), (4, .int (nI (k + 1)))]) rfl ?_
          refine z_cv (lv1 := [(0, .ref (z_ad G 105)), (1, .long (z_gj (σ.1 107) P j (z_gp (σ.1 107) P j) (k + 1))), (3, .int (nI j)), (4, .int (nI (k + 1)))]) (st1 := []) (σ1 := σ) (by first | rw [z_mx_1 c81]; rfl | rw [z_mx_0 c81]; rfl) rfl rfl ?_
          exact ih_26 (k + 1) (by omega) (by omega)
        · skip
          refine z_lload 85 C dX8_residual_85 0 rfl ?_
          refine z_goto 87 C 91 dX8_residual_87 (by decide) ?_
          refine z_lstore_n 91 C dX8_residual_91 [(1, .long (z_rs (σ.1 107) P k j)), (5, .long (z_rs (σ.1 107) P k j)), (0, .ref (z_ad G 105)), (3, .int (nI j)), (4, .int (nI k))] (by decide) rfl ?_
          refine z_iincN 92 C 4 k [(4, .int (nI (k + 1))), (1, .long (z_rs (σ.1 107) P k j)), (5, .long (z_rs (σ.1 107) P k j)), (0, .ref (z_ad G 105)), (3, .int (nI j))] rfl rfl (by decide) rfl dX8_residual_92 ?_
          refine z_goto 95 C 26 dX8_residual_95 (by decide) ?_
          refine z_sub [3, 1, 4, 0] (lv1 := [(0, .ref (z_ad G 105)), (1, .long (z_rs (σ.1 107) P k j)), (3, .int (nI j)), (4, .int (nI (k + 1)))]) rfl ?_
          refine z_cv (lv1 := [(0, .ref (z_ad G 105)), (1, .long (z_gj (σ.1 107) P j (z_gp (σ.1 107) P j) (k + 1))), (3, .int (nI j)), (4, .int (nI (k + 1)))]) (st1 := []) (σ1 := σ) (by first | rw [z_mx_1 c81]; rfl | rw [z_mx_0 c81]; rfl) rfl rfl ?_
          exact ih_26 (k + 1) (by omega) (by omega)
  · skip
    refine z_callS 7 C (As := []) (rest := []) (m_X8_lost) k_X8_lost q1123 ⟨rfl, rfl⟩ ⟨Nat.le_of_ble_eq_true rfl, Nat.le_of_ble_eq_true rfl⟩ rfl (Nat.le_of_ble_eq_true rfl) ⟨Nat.le_of_ble_eq_true rfl, Nat.le_of_ble_eq_true rfl⟩ rfl dX8_residual_7 (z_k1 ?_)
    refine z_lret 10 C dX8_residual_10 ?_
    exact ⟨z_cl (by rw [if_neg c4]), rfl⟩
