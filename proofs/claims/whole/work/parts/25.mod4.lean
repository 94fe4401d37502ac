theorem zm_inw {j w : Nat} (h : j < w) (hw : w < 2 ^ 30) : ¬ (nI j < nI 0 ∨ nI w - nI 1 < nI j) := by
  have e1 : (nI 1).toInt = 1 := rfl
  rintro (q | q)
  · exact absurd ((nI_ltI (by omega) (by decide)).mp q) (Nat.not_lt_zero j)
  · have ew := nI_toInt (n := w) (by omega)
    have ej := nI_toInt (n := j) (by omega)
    rw [fa_lt, fb_subI (by rw [ew, e1]; omega) (by rw [ew, e1]; omega), ew, ej, e1] at q
    omega
theorem zm_tgf {σ : z_St} {F f : Nat → Int64} : (z_tg ((z_uL σ 109 (z_fil F f 24)).2 109) 24 = true) ↔ z_tg F 24 = true := by rw [z_uL2s, z_tg_fil F f 24 (Nat.le_refl _)]
theorem zm_s0 {m pt sp : Nat → Int32} {P j k : Nat} (hk : k < 24) : 1000000 * (m (24 * j + k)).toInt64 = z_src m pt sp P 0 j k := by
  show _ = (m (j * 24 + k % 24)).toInt64 * 1000000
  rw [Nat.mod_eq_of_lt hk, Nat.mul_comm 24 j, Int64.mul_comm]
theorem zm_s3 {m pt sp : Nat → Int32} {P j k : Nat} : 1000000 * (pt k).toInt64 = z_src m pt sp P 3 j k := by
  show _ = (pt k).toInt64 * 1000000
  rw [Int64.mul_comm]
theorem zm_s4 {m pt sp : Nat → Int32} {P j k : Nat} : 1000000 * (sp k).toInt64 = z_src m pt sp P 4 j k := by
  show _ = (sp k).toInt64 * 1000000
  rw [Int64.mul_comm]
theorem zm_se0 {P n : Nat} {x y : Int32} (h : x < nI 0 ∨ nI 4 < x) : z_se P n x y = -1000001 := if_pos h
theorem zm_se1 {P n : Nat} {y : Int32} (h : y < nI 0 ∨ nI P - nI 1 < y) : z_se P n (nI 0) y = -1000001 := by
  unfold z_se
  rw [if_neg (by decide), if_pos (show nI 0 = 0 from rfl), if_pos h]
theorem zm_div {n j : Nat} : 24 * (j + 1) ≤ n ↔ j < n / 24 := by omega
theorem zm_se2 {P n j : Nat} (hn : n ≤ 288) (hP : P ≤ 12) (hj : j < P) (h : ¬ 24 * (j + 1) ≤ n) : z_se P n (nI 0) (nI j) = -1000002 := by
  unfold z_se
  have a : ¬ (nI j < nI 0 ∨ nI P - nI 1 < nI j) := zm_inw hj (by omega)
  rw [if_neg (by decide), if_pos (show nI 0 = 0 from rfl), if_neg a, if_neg (fun z => h (zm_div.mpr ((nI_ltI (by omega) (by omega)).mp z)))]
theorem zm_se3 {P n j : Nat} (hn : n ≤ 288) (hP : P ≤ 12) (hj : j < P) (h : 24 * (j + 1) ≤ n) : z_se P n (nI 0) (nI j) = 0 := by
  unfold z_se
  have a : ¬ (nI j < nI 0 ∨ nI P - nI 1 < nI j) := zm_inw hj (by omega)
  rw [if_neg (by decide), if_pos (show nI 0 = 0 from rfl), if_neg a, if_pos ((nI_ltI (by omega) (by omega)).mpr (zm_div.mp h))]
  rfl
theorem zm_se4 {P n : Nat} {s : Nat} {y : Int32} (hs : s = 1 ∨ s = 2) (h : ¬ P * 24 ≤ n) : z_se P n (nI s) y = -1000002 := by
  unfold z_se
  rcases hs with rfl | rfl
  · rw [if_neg (by decide), if_neg (by decide), if_pos (Or.inl rfl), if_neg h]
  · rw [if_neg (by decide), if_neg (by decide), if_pos (Or.inr rfl), if_neg h]
theorem zm_se5 {P n : Nat} {s : Nat} {y : Int32} (hs : s = 1 ∨ s = 2) (h : P * 24 ≤ n) : z_se P n (nI s) y = 0 := by
  unfold z_se
  rcases hs with rfl | rfl
  · rw [if_neg (by decide), if_neg (by decide), if_pos (Or.inl rfl), if_pos h]
    rfl
  · rw [if_neg (by decide), if_neg (by decide), if_pos (Or.inr rfl), if_pos h]
    rfl
theorem zm_se6 {P n : Nat} {s : Nat} {y : Int32} (hs : s = 3 ∨ s = 4) : z_se P n (nI s) y = 0 := by
  unfold z_se
  rcases hs with rfl | rfl
  · rw [if_neg (by decide), if_neg (by decide), if_neg (by decide)]
    rfl
  · rw [if_neg (by decide), if_neg (by decide), if_neg (by decide)]
    rfl
theorem dX8_profile_0 : decode cX8_profile 0 = .ok (.iload_n 1, 1) := by decide +kernel
theorem dX8_profile_1 : decode cX8_profile 1 = .ok (.invokestatic 101, 3) := by decide +kernel
theorem dX8_profile_4 : decode cX8_profile 4 = .ok (.ifCond .eq 9, 3) := by decide +kernel
theorem dX8_profile_7 : decode cX8_profile 7 = .ok (.invokestatic 127, 3) := by decide +kernel
theorem dX8_profile_10 : decode cX8_profile 10 = .ok (.goto 9, 3) := by decide +kernel
theorem dX8_profile_13 : decode cX8_profile 13 = .ok (.aload_n 0, 1) := by decide +kernel
theorem dX8_profile_14 : decode cX8_profile 14 = .ok (.getfield 22, 3) := by decide +kernel
theorem dX8_profile_17 : decode cX8_profile 17 = .ok (.iload_n 1, 1) := by decide +kernel
theorem dX8_profile_18 : decode cX8_profile 18 = .ok (.laload, 1) := by decide +kernel
theorem dX8_profile_19 : decode cX8_profile 19 = .ok (.lreturn, 1) := by decide +kernel
set_option maxRecDepth 100000 in
set_option maxHeartbeats 4000000 in
theorem m_X8_profile {l : Launch} {G : z_Gl} {σ : z_St} (P n u v w rc tl : Nat) (hM : z_mi σ P n u v w rc tl) (x : Int32) : z_M l G yX8_profile cX8_profile 2 (some .long) (z_rm 2 45) [.ref (z_ad G 105), .int x] σ (z_p1 (.long (if x < nI 0 ∨ nI 23 < x then (-9223372036854775808) else σ.2 108 (z_n x))) σ) := by
  refine z_M.of (by decide) (Nat.le_of_ble_eq_true rfl) (fun p e s m below meth c C => ?_)
  refine z_sub [0, 1] (lv1 := [(0, .ref (z_ad G 105)), (1, .int x)]) rfl ?_
  have hM0 := hM
  obtain ⟨⟨hP, hn, hu, hv, hw, hrc, htl⟩, hPs, hnP, huv, hw6, hrc8, htl2, hqt, hah⟩ := hM0
  have h0 : 0 < P := by omega
  have h12 : P ≤ 12 := by omega
  have h288 : n ≤ 288 := by omega
  refine z_iload_n 0 C dX8_profile_0 1 rfl ?_
  refine z_callS 1 C (As := [.int x]) (rest := []) (m_X8_noPlace x) k_X8_noPlace q1096 ⟨rfl, rfl⟩ ⟨Nat.le_of_ble_eq_true rfl, Nat.le_of_ble_eq_true rfl⟩ rfl (Nat.le_of_ble_eq_true rfl) ⟨Nat.le_of_ble_eq_true rfl, Nat.le_of_ble_eq_true rfl⟩ rfl dX8_profile_1 (z_k1 ?_)
  refine z_if_eqb 4 C 13 dX8_profile_4 (by decide) (fun c4 => ?_) (fun c4 => ?_)
  · skip
    obtain ⟨a, ha, rfl⟩ := z_in0 (by decide) c4
    refine z_aload_n 13 C dX8_profile_13 0 rfl ?_
    refine z_getf 14 C 105 z_dX8 (⟨rfl, rfl⟩) 4 (by decide) q970 (.ref (z_ad G 108)) rfl dX8_profile_14 ?_
    refine z_iload_n 17 C dX8_profile_17 1 rfl ?_
    refine z_laldN 18 C 108 (n := 24) (⟨rfl, rfl⟩) a rfl (by omega) (by decide) dX8_profile_18 ?_
    refine z_lret 19 C dX8_profile_19 ?_
    refine ⟨?_, ?_⟩
    · (rw [if_neg (c4), z_nk (k := a) (by omega)]) <;> (try rfl)
    · first | rfl | ((rw [if_neg (c4), z_nk (k := a) (by omega)]) <;> (try rfl))
  · skip
    refine z_callS 7 C (As := []) (rest := []) (m_X8_lost) k_X8_lost q1123 ⟨rfl, rfl⟩ ⟨Nat.le_of_ble_eq_true rfl, Nat.le_of_ble_eq_true rfl⟩ rfl (Nat.le_of_ble_eq_true rfl) ⟨Nat.le_of_ble_eq_true rfl, Nat.le_of_ble_eq_true rfl⟩ rfl dX8_profile_7 (z_k1 ?_)
    refine z_goto 10 C 19 dX8_profile_10 (by decide) ?_
    refine z_lret 19 C dX8_profile_19 ?_
    refine ⟨?_, ?_⟩
    · (rw [if_pos (c4)]) <;> (try rfl)
    · first | rfl | ((rw [if_pos (c4)]) <;> (try rfl))
theorem dX8_rotate_0 : decode cX8_rotate 0 = .ok (.iload_n 1, 1) := by decide +kernel
theorem dX8_rotate_1 : decode cX8_rotate 1 = .ok (.i2l, 1) := by decide +kernel
theorem dX8_rotate_2 : decode cX8_rotate 2 = .ok (.ldc2_w 155, 3) := by decide +kernel
theorem dX8_rotate_5 : decode cX8_rotate 5 = .ok (.ldc2_w 66, 3) := by decide +kernel
theorem dX8_rotate_8 : decode cX8_rotate 8 = .ok (.invokestatic 68, 3) := by decide +kernel
theorem dX8_rotate_11 : decode cX8_rotate 11 = .ok (.ifCond .ne 6, 3) := by decide +kernel
theorem dX8_rotate_14 : decode cX8_rotate 14 = .ok (.ldc 87, 2) := by decide +kernel
theorem dX8_rotate_16 : decode cX8_rotate 16 = .ok (.ireturn, 1) := by decide +kernel
theorem dX8_rotate_17 : decode cX8_rotate 17 = .ok (.iconst 0, 1) := by decide +kernel
theorem dX8_rotate_18 : decode cX8_rotate 18 = .ok (.istore_n 2, 1) := by decide +kernel
theorem dX8_rotate_19 : decode cX8_rotate 19 = .ok (.iload_n 2, 1) := by decide +kernel
theorem dX8_rotate_20 : decode cX8_rotate 20 = .ok (.bipush 24, 2) := by decide +kernel
theorem dX8_rotate_22 : decode cX8_rotate 22 = .ok (.if_icmp .ge 26, 3) := by decide +kernel
theorem dX8_rotate_25 : decode cX8_rotate 25 = .ok (.aload_n 0, 1) := by decide +kernel
theorem dX8_rotate_26 : decode cX8_rotate 26 = .ok (.getfield 26, 3) := by decide +kernel
theorem dX8_rotate_29 : decode cX8_rotate 29 = .ok (.iload_n 2, 1) := by decide +kernel
theorem dX8_rotate_30 : decode cX8_rotate 30 = .ok (.aload_n 0, 1) := by decide +kernel
theorem dX8_rotate_31 : decode cX8_rotate 31 = .ok (.getfield 22, 3) := by decide +kernel
theorem dX8_rotate_34 : decode cX8_rotate 34 = .ok (.iload_n 2, 1) := by decide +kernel
theorem dX8_rotate_35 : decode cX8_rotate 35 = .ok (.iload_n 1, 1) := by decide +kernel
theorem dX8_rotate_36 : decode cX8_rotate 36 = .ok (.isub, 1) := by decide +kernel
theorem dX8_rotate_37 : decode cX8_rotate 37 = .ok (.invokestatic 72, 3) := by decide +kernel
theorem dX8_rotate_40 : decode cX8_rotate 40 = .ok (.laload, 1) := by decide +kernel
theorem dX8_rotate_41 : decode cX8_rotate 41 = .ok (.lastore, 1) := by decide +kernel
theorem dX8_rotate_42 : decode cX8_rotate 42 = .ok (.iinc 2 1, 3) := by decide +kernel
theorem dX8_rotate_45 : decode cX8_rotate 45 = .ok (.goto (-26), 3) := by decide +kernel
theorem dX8_rotate_48 : decode cX8_rotate 48 = .ok (.aload_n 0, 1) := by decide +kernel
theorem dX8_rotate_49 : decode cX8_rotate 49 = .ok (.invokevirtual 151, 3) := by decide +kernel
theorem dX8_rotate_52 : decode cX8_rotate 52 = .ok (.ireturn, 1) := by decide +kernel
set_option maxRecDepth 100000 in
set_option maxHeartbeats 4000000 in
theorem m_X8_rotate {l : Launch} {G : z_Gl} {σ : z_St} (P n u v w rc tl : Nat) (hM : z_mi σ P n u v w rc tl) (x : Int32) : z_M l G yX8_rotate cX8_rotate 3 (some .int) (z_rm 1 25) [.ref (z_ad G 105), .int x] σ (z_p1 (.int (if x < (-23) ∨ nI 23 < x then (-1000001) else z_bo (¬ z_eq24 (σ.2 108) (z_fil (z_rot (σ.2 108) x) (σ.2 109) 24)))) (if x < (-23) ∨ nI 23 < x then σ else z_mtk (z_uL σ 109 (z_fil (z_rot (σ.2 108) x) (σ.2 109) 24)) u)) := by
  refine z_M.of (by decide) (Nat.le_of_ble_eq_true rfl) (fun p e s m below meth c C => ?_)
  refine z_sub [0, 1] (lv1 := [(0, .ref (z_ad G 105)), (1, .int x)]) rfl ?_
  have hM0 := hM
  obtain ⟨⟨hP, hn, hu, hv, hw, hrc, htl⟩, hPs, hnP, huv, hw6, hrc8, htl2, hqt, hah⟩ := hM0
  have h0 : 0 < P := by omega
  have h12 : P ≤ 12 := by omega
  have h288 : n ≤ 288 := by omega
  refine z_iload_n 0 C dX8_rotate_0 1 rfl ?_
  refine z_i2l 1 C dX8_rotate_1 ?_
  refine z_ldc2 2 C dX8_rotate_2 q1186 ?_
  refine z_ldc2 5 C dX8_rotate_5 q1099 ?_
  refine z_callS 8 C (As := [.long (Int32.toInt64 x), .long (-23), .long 23]) (rest := []) (m_X8_in_i x (-23) (nI 23) (by decide) (by decide)) k_X8_in q1071 ⟨rfl, rfl⟩ ⟨Nat.le_of_ble_eq_true rfl, Nat.le_of_ble_eq_true rfl⟩ rfl (Nat.le_of_ble_eq_true rfl) ⟨Nat.le_of_ble_eq_true rfl, Nat.le_of_ble_eq_true rfl⟩ rfl dX8_rotate_8 (z_k1 ?_)
  refine z_if_neb 11 C 17 dX8_rotate_11 (by decide) (fun c11 => ?_) (fun c11 => ?_)
  · skip
    refine z_iconst 17 C dX8_rotate_17 (nI 0) rfl ?_
    refine z_istore_n 18 C dX8_rotate_18 [(2, .int (nI 0)), (0, .ref (z_ad G 105)), (1, .int x)] (by decide) rfl ?_
    refine z_sub [1, 2, 0] (lv1 := [(0, .ref (z_ad G 105)), (1, .int x), (2, .int (nI 0))]) rfl ?_
    refine z_cv (lv1 := [(0, .ref (z_ad G 105)), (1, .int x), (2, .int (nI 0))]) (st1 := []) (σ1 := z_uL σ 109 (z_fil (z_rot (σ.2 108) x) (σ.2 109) 0)) rfl rfl (z_fil0L σ 109 _) ?_
    refine z_lp1 (fun (k : Nat) => k ≤ 24) (fun (k : Nat) => 24 - k) (fun (k : Nat) => [(0, .ref (z_ad G 105)), (1, .int x), (2, .int (nI k))]) (fun (k : Nat) => z_uL σ 109 (z_fil (z_rot (σ.2 108) x) (σ.2 109) k)) (fun k hi_19 ih_19 => ?_) 0 (by omega)
    try dsimp only
    refine z_iload_n 19 C dX8_rotate_19 2 rfl ?_
    refine z_bipush 20 C dX8_rotate_20 (nI 24) rfl ?_
    refine z_icmp_geN 22 C k 24 rfl rfl (by omega) (by omega) 48 dX8_rotate_22 (by decide) (fun c22 => ?_) (fun c22 => ?_)
    · skip
      have ek : k = 24 := by omega
      subst ek
      refine z_aload_n 48 C dX8_rotate_48 0 rfl ?_
      refine z_callV 49 C 105 (⟨rfl, rfl⟩) rfl (As := []) (rest := []) (m_X8_takes (σ := z_uL σ 109 (z_fil (z_rot (σ.2 108) x) (σ.2 109) 24)) P n u v w rc tl hM) k_X8_takes q1174 ⟨rfl, rfl⟩ ⟨Nat.le_of_ble_eq_true rfl, Nat.le_of_ble_eq_true rfl⟩ rfl (Nat.le_of_ble_eq_true rfl) ⟨Nat.le_of_ble_eq_true rfl, Nat.le_of_ble_eq_true rfl⟩ rfl dX8_rotate_49 (z_k1 ?_)
      refine z_iret 52 C dX8_rotate_52 ?_
      refine ⟨?_, ?_⟩
      · (rw [if_neg (c11)]) <;> (try rfl)
      · first | rfl | ((rw [if_neg (c11)]) <;> (try rfl))
    · skip
      refine z_aload_n 25 C dX8_rotate_25 0 rfl ?_
      refine z_getf 26 C 105 z_dX8 (⟨rfl, rfl⟩) 5 (by decide) q971 (.ref (z_ad G 109)) rfl dX8_rotate_26 ?_
      refine z_iload_n 29 C dX8_rotate_29 2 rfl ?_
      refine z_aload_n 30 C dX8_rotate_30 0 rfl ?_
      refine z_getf 31 C 105 z_dX8 (⟨rfl, rfl⟩) 4 (by decide) q970 (.ref (z_ad G 108)) rfl dX8_rotate_31 ?_
      refine z_iload_n 34 C dX8_rotate_34 2 rfl ?_
      refine z_iload_n 35 C dX8_rotate_35 1 rfl ?_
      refine z_isub 36 C dX8_rotate_36 ?_
      refine z_callS 37 C (As := [.int ((nI k) - x)]) (rest := [.ref (z_ad G 108), .int (nI k), .ref (z_ad G 109)]) (m_X8_around (σ := z_uL σ 109 (z_fil (z_rot (σ.2 108) x) (σ.2 109) k)) ((nI k) - x)) k_X8_around q1109 ⟨rfl, rfl⟩ ⟨Nat.le_of_ble_eq_true rfl, Nat.le_of_ble_eq_true rfl⟩ rfl (Nat.le_of_ble_eq_true rfl) ⟨Nat.le_of_ble_eq_true rfl, Nat.le_of_ble_eq_true rfl⟩ rfl dX8_rotate_37 (z_k1 ?_)
      refine z_laldN 40 C 108 (n := 24) (⟨rfl, rfl⟩) (z_pm ((nI k) - x)) rfl (z_pm_lt _) (by decide) dX8_rotate_40 ?_
      refine z_cv (st1 := [.long (σ.2 108 (z_pm ((nI k) - x))), .int (nI k), .ref (z_ad G 109)]) rfl rfl rfl ?_
      refine z_lastN 41 C 109 (n := 24) (⟨rfl, rfl⟩) k rfl (by omega) (by decide) dX8_rotate_41 ?_
      refine z_iincN 42 C 2 k [(2, .int (nI (k + 1))), (0, .ref (z_ad G 105)), (1, .int x)] rfl rfl (by decide) rfl dX8_rotate_42 ?_
      refine z_goto 45 C 19 dX8_rotate_45 (by decide) ?_
      refine z_sub [1, 2, 0] (lv1 := [(0, .ref (z_ad G 105)), (1, .int x), (2, .int (nI (k + 1)))]) rfl ?_
      refine z_cv (lv1 := [(0, .ref (z_ad G 105)), (1, .int x), (2, .int (nI (k + 1)))]) (st1 := []) (σ1 := z_uL σ 109 (z_fil (z_rot (σ.2 108) x) (σ.2 109) (k + 1))) rfl rfl (z_filSL σ 109 k _ _ rfl) ?_
      exact ih_19 (k + 1) (by omega) (by omega)
  · skip
    replace c11 := Classical.not_not.mp c11
    refine z_ldc 14 C dX8_rotate_14 q1064 ?_
    refine z_iret 16 C dX8_rotate_16 ?_
    refine ⟨?_, ?_⟩
    · (rw [if_pos (c11)]) <;> (try rfl)
    · first | rfl | ((rw [if_pos (c11)]) <;> (try rfl))
theorem dX8_removeEccentricity_0 : decode cX8_removeEccentricity 0 = .ok (.aload_n 0, 1) := by decide +kernel
theorem dX8_removeEccentricity_1 : decode cX8_removeEccentricity 1 = .ok (.iconst 0, 1) := by decide +kernel
theorem dX8_removeEccentricity_2 : decode cX8_removeEccentricity 2 = .ok (.iconst 0, 1) := by decide +kernel
theorem dX8_removeEccentricity_3 : decode cX8_removeEccentricity 3 = .ok (.invokevirtual 157, 3) := by decide +kernel
theorem dX8_removeEccentricity_6 : decode cX8_removeEccentricity 6 = .ok (.lstore_n 1, 1) := by decide +kernel
theorem dX8_removeEccentricity_7 : decode cX8_removeEccentricity 7 = .ok (.aload_n 0, 1) := by decide +kernel
theorem dX8_removeEccentricity_8 : decode cX8_removeEccentricity 8 = .ok (.iconst 1, 1) := by decide +kernel
theorem dX8_removeEccentricity_9 : decode cX8_removeEccentricity 9 = .ok (.iconst 0, 1) := by decide +kernel
theorem dX8_removeEccentricity_10 : decode cX8_removeEccentricity 10 = .ok (.invokevirtual 157, 3) := by decide +kernel
theorem dX8_removeEccentricity_13 : decode cX8_removeEccentricity 13 = .ok (.lstore_n 3, 1) := by decide +kernel
theorem dX8_removeEccentricity_14 : decode cX8_removeEccentricity 14 = .ok (.aload_n 0, 1) := by decide +kernel
theorem dX8_removeEccentricity_15 : decode cX8_removeEccentricity 15 = .ok (.iconst 1, 1) := by decide +kernel
theorem dX8_removeEccentricity_16 : decode cX8_removeEccentricity 16 = .ok (.iconst 1, 1) := by decide +kernel
theorem dX8_removeEccentricity_17 : decode cX8_removeEccentricity 17 = .ok (.invokevirtual 157, 3) := by decide +kernel
theorem dX8_removeEccentricity_20 : decode cX8_removeEccentricity 20 = .ok (.lstore 5, 2) := by decide +kernel
theorem dX8_removeEccentricity_22 : decode cX8_removeEccentricity 22 = .ok (.iconst 0, 1) := by decide +kernel
theorem dX8_removeEccentricity_23 : decode cX8_removeEccentricity 23 = .ok (.istore 7, 2) := by decide +kernel
theorem dX8_removeEccentricity_25 : decode cX8_removeEccentricity 25 = .ok (.iload 7, 2) := by decide +kernel
theorem dX8_removeEccentricity_27 : decode cX8_removeEccentricity 27 = .ok (.bipush 24, 2) := by decide +kernel
theorem dX8_removeEccentricity_29 : decode cX8_removeEccentricity 29 = .ok (.if_icmp .ge 50, 3) := by decide +kernel
theorem dX8_removeEccentricity_32 : decode cX8_removeEccentricity 32 = .ok (.aload_n 0, 1) := by decide +kernel
theorem dX8_removeEccentricity_33 : decode cX8_removeEccentricity 33 = .ok (.getfield 26, 3) := by decide +kernel
theorem dX8_removeEccentricity_36 : decode cX8_removeEccentricity 36 = .ok (.iload 7, 2) := by decide +kernel
theorem dX8_removeEccentricity_38 : decode cX8_removeEccentricity 38 = .ok (.aload_n 0, 1) := by decide +kernel
theorem dX8_removeEccentricity_39 : decode cX8_removeEccentricity 39 = .ok (.getfield 22, 3) := by decide +kernel
theorem dX8_removeEccentricity_42 : decode cX8_removeEccentricity 42 = .ok (.iload 7, 2) := by decide +kernel
theorem dX8_removeEccentricity_44 : decode cX8_removeEccentricity 44 = .ok (.laload, 1) := by decide +kernel
theorem dX8_removeEccentricity_45 : decode cX8_removeEccentricity 45 = .ok (.lload_n 1, 1) := by decide +kernel
theorem dX8_removeEccentricity_46 : decode cX8_removeEccentricity 46 = .ok (.lsub, 1) := by decide +kernel
theorem dX8_removeEccentricity_47 : decode cX8_removeEccentricity 47 = .ok (.lload_n 3, 1) := by decide +kernel
theorem dX8_removeEccentricity_48 : decode cX8_removeEccentricity 48 = .ok (.aload_n 0, 1) := by decide +kernel
theorem dX8_removeEccentricity_49 : decode cX8_removeEccentricity 49 = .ok (.iload 7, 2) := by decide +kernel
theorem dX8_removeEccentricity_51 : decode cX8_removeEccentricity 51 = .ok (.invokevirtual 76, 3) := by decide +kernel
theorem dX8_removeEccentricity_54 : decode cX8_removeEccentricity 54 = .ok (.lmul, 1) := by decide +kernel
theorem dX8_removeEccentricity_55 : decode cX8_removeEccentricity 55 = .ok (.lload 5, 2) := by decide +kernel
theorem dX8_removeEccentricity_57 : decode cX8_removeEccentricity 57 = .ok (.aload_n 0, 1) := by decide +kernel
theorem dX8_removeEccentricity_58 : decode cX8_removeEccentricity 58 = .ok (.iload 7, 2) := by decide +kernel
theorem dX8_removeEccentricity_60 : decode cX8_removeEccentricity 60 = .ok (.invokevirtual 161, 3) := by decide +kernel
theorem dX8_removeEccentricity_63 : decode cX8_removeEccentricity 63 = .ok (.lmul, 1) := by decide +kernel
theorem dX8_removeEccentricity_64 : decode cX8_removeEccentricity 64 = .ok (.ladd, 1) := by decide +kernel
theorem dX8_removeEccentricity_65 : decode cX8_removeEccentricity 65 = .ok (.ldc2_w 125, 3) := by decide +kernel
theorem dX8_removeEccentricity_68 : decode cX8_removeEccentricity 68 = .ok (.invokestatic 115, 3) := by decide +kernel
theorem dX8_removeEccentricity_71 : decode cX8_removeEccentricity 71 = .ok (.lsub, 1) := by decide +kernel
theorem dX8_removeEccentricity_72 : decode cX8_removeEccentricity 72 = .ok (.lastore, 1) := by decide +kernel
theorem dX8_removeEccentricity_73 : decode cX8_removeEccentricity 73 = .ok (.iinc 7 1, 3) := by decide +kernel
theorem dX8_removeEccentricity_76 : decode cX8_removeEccentricity 76 = .ok (.goto (-51), 3) := by decide +kernel
theorem dX8_removeEccentricity_79 : decode cX8_removeEccentricity 79 = .ok (.aload_n 0, 1) := by decide +kernel
theorem dX8_removeEccentricity_80 : decode cX8_removeEccentricity 80 = .ok (.invokevirtual 151, 3) := by decide +kernel
theorem dX8_removeEccentricity_83 : decode cX8_removeEccentricity 83 = .ok (.ireturn, 1) := by decide +kernel
set_option maxRecDepth 100000 in
set_option maxHeartbeats 4000000 in
theorem m_X8_removeEccentricity {l : Launch} {G : z_Gl} {σ : z_St} (P n u v w rc tl : Nat) (hM : z_mi σ P n u v w rc tl) : z_M l G yX8_removeEccentricity cX8_removeEccentricity 8 (some .int) (z_rm 5 113) [.ref (z_ad G 105)] σ (z_p1 (.int (z_bo (¬ z_eq24 (σ.2 108) (z_fil (z_rme (σ.2 108)) (σ.2 109) 24)))) (z_mtk (z_uL σ 109 (z_fil (z_rme (σ.2 108)) (σ.2 109) 24)) u)) := by
  refine z_M.of (by decide) (Nat.le_of_ble_eq_true rfl) (fun p e s m below meth c C => ?_)
  refine z_sub [0] (lv1 := [(0, .ref (z_ad G 105))]) rfl ?_
  have hM0 := hM
  obtain ⟨⟨hP, hn, hu, hv, hw, hrc, htl⟩, hPs, hnP, huv, hw6, hrc8, htl2, hqt, hah⟩ := hM0
  have h0 : 0 < P := by omega
  have h12 : P ≤ 12 := by omega
  have h288 : n ≤ 288 := by omega
  refine z_aload_n 0 C dX8_removeEccentricity_0 0 rfl ?_
  refine z_iconst 1 C dX8_removeEccentricity_1 (nI 0) rfl ?_
  refine z_iconst 2 C dX8_removeEccentricity_2 (nI 0) rfl ?_
  refine z_callV 3 C 105 (⟨rfl, rfl⟩) rfl (As := [.int (nI 0), .int (nI 0)]) (rest := []) (m_X8_harmonicOf P n u v w rc tl hM 0 0 (by omega) (by omega)) k_X8_harmonicOf q1191 ⟨rfl, rfl⟩ ⟨Nat.le_of_ble_eq_true rfl, Nat.le_of_ble_eq_true rfl⟩ rfl (Nat.le_of_ble_eq_true rfl) ⟨Nat.le_of_ble_eq_true rfl, Nat.le_of_ble_eq_true rfl⟩ rfl dX8_removeEccentricity_3 (z_k1 ?_)
  refine z_lstore_n 6 C dX8_removeEccentricity_6 [(1, .long (z_cf (σ.2 108) 0 0)), (0, .ref (z_ad G 105))] (by decide) rfl ?_
  refine z_aload_n 7 C dX8_removeEccentricity_7 1 rfl ?_
  refine z_iconst 8 C dX8_removeEccentricity_8 (nI 1) rfl ?_
  refine z_iconst 9 C dX8_removeEccentricity_9 (nI 0) rfl ?_
  refine z_callV 10 C 105 (⟨rfl, rfl⟩) rfl (As := [.int (nI 1), .int (nI 0)]) (rest := []) (m_X8_harmonicOf P n u v w rc tl hM 1 0 (by omega) (by omega)) k_X8_harmonicOf q1191 ⟨rfl, rfl⟩ ⟨Nat.le_of_ble_eq_true rfl, Nat.le_of_ble_eq_true rfl⟩ rfl (Nat.le_of_ble_eq_true rfl) ⟨Nat.le_of_ble_eq_true rfl, Nat.le_of_ble_eq_true rfl⟩ rfl dX8_removeEccentricity_10 (z_k1 ?_)
  refine z_lstore_n 13 C dX8_removeEccentricity_13 [(3, .long (z_cf (σ.2 108) 0 1)), (1, .long (z_cf (σ.2 108) 0 0)), (0, .ref (z_ad G 105))] (by decide) rfl ?_
  refine z_aload_n 14 C dX8_removeEccentricity_14 2 rfl ?_
  refine z_iconst 15 C dX8_removeEccentricity_15 (nI 1) rfl ?_
  refine z_iconst 16 C dX8_removeEccentricity_16 (nI 1) rfl ?_
  refine z_callV 17 C 105 (⟨rfl, rfl⟩) rfl (As := [.int (nI 1), .int (nI 1)]) (rest := []) (m_X8_harmonicOf P n u v w rc tl hM 1 1 (by omega) (by omega)) k_X8_harmonicOf q1191 ⟨rfl, rfl⟩ ⟨Nat.le_of_ble_eq_true rfl, Nat.le_of_ble_eq_true rfl⟩ rfl (Nat.le_of_ble_eq_true rfl) ⟨Nat.le_of_ble_eq_true rfl, Nat.le_of_ble_eq_true rfl⟩ rfl dX8_removeEccentricity_17 (z_k1 ?_)
  refine z_lstore 20 C dX8_removeEccentricity_20 [(5, .long (z_cf (σ.2 108) 1 1)), (3, .long (z_cf (σ.2 108) 0 1)), (1, .long (z_cf (σ.2 108) 0 0)), (0, .ref (z_ad G 105))] (by decide) rfl ?_
  refine z_iconst 22 C dX8_removeEccentricity_22 (nI 0) rfl ?_
  refine z_istore 23 C dX8_removeEccentricity_23 [(7, .int (nI 0)), (5, .long (z_cf (σ.2 108) 1 1)), (3, .long (z_cf (σ.2 108) 0 1)), (1, .long (z_cf (σ.2 108) 0 0)), (0, .ref (z_ad G 105))] (by decide) rfl ?_
  refine z_sub [4, 3, 2, 1, 0] (lv1 := [(0, .ref (z_ad G 105)), (1, .long (z_cf (σ.2 108) 0 0)), (3, .long (z_cf (σ.2 108) 0 1)), (5, .long (z_cf (σ.2 108) 1 1)), (7, .int (nI 0))]) rfl ?_
  refine z_cv (lv1 := [(0, .ref (z_ad G 105)), (1, .long (z_cf (σ.2 108) 0 0)), (3, .long (z_cf (σ.2 108) 0 1)), (5, .long (z_cf (σ.2 108) 1 1)), (7, .int (nI 0))]) (st1 := []) (σ1 := z_uL σ 109 (z_fil (z_rme (σ.2 108)) (σ.2 109) 0)) rfl rfl (z_fil0L σ 109 _) ?_
  refine z_lp1 (fun (k : Nat) => k ≤ 24) (fun (k : Nat) => 24 - k) (fun (k : Nat) => [(0, .ref (z_ad G 105)), (1, .long (z_cf (σ.2 108) 0 0)), (3, .long (z_cf (σ.2 108) 0 1)), (5, .long (z_cf (σ.2 108) 1 1)), (7, .int (nI k))]) (fun (k : Nat) => z_uL σ 109 (z_fil (z_rme (σ.2 108)) (σ.2 109) k)) (fun k hi_25 ih_25 => ?_) 0 (by omega)
  try dsimp only
  refine z_iload 25 C dX8_removeEccentricity_25 4 rfl ?_
  refine z_bipush 27 C dX8_removeEccentricity_27 (nI 24) rfl ?_
  refine z_icmp_geN 29 C k 24 rfl rfl (by omega) (by omega) 79 dX8_removeEccentricity_29 (by decide) (fun c29 => ?_) (fun c29 => ?_)
  · skip
    have ek : k = 24 := by omega
    subst ek
    refine z_aload_n 79 C dX8_removeEccentricity_79 0 rfl ?_
    refine z_callV 80 C 105 (⟨rfl, rfl⟩) rfl (As := []) (rest := []) (m_X8_takes (σ := z_uL σ 109 (z_fil (z_rme (σ.2 108)) (σ.2 109) 24)) P n u v w rc tl hM) k_X8_takes q1174 ⟨rfl, rfl⟩ ⟨Nat.le_of_ble_eq_true rfl, Nat.le_of_ble_eq_true rfl⟩ rfl (Nat.le_of_ble_eq_true rfl) ⟨Nat.le_of_ble_eq_true rfl, Nat.le_of_ble_eq_true rfl⟩ rfl dX8_removeEccentricity_80 (z_k1 ?_)
    refine z_iret 83 C dX8_removeEccentricity_83 ?_
    refine ⟨?_, ?_⟩
    · (skip) <;> (try rfl)
    · first | rfl | ((skip) <;> (try rfl))
  · skip
    refine z_aload_n 32 C dX8_removeEccentricity_32 0 rfl ?_
    refine z_getf 33 C 105 z_dX8 (⟨rfl, rfl⟩) 5 (by decide) q971 (.ref (z_ad G 109)) rfl dX8_removeEccentricity_33 ?_
    refine z_iload 36 C dX8_removeEccentricity_36 4 rfl ?_
    refine z_aload_n 38 C dX8_removeEccentricity_38 0 rfl ?_
    refine z_getf 39 C 105 z_dX8 (⟨rfl, rfl⟩) 4 (by decide) q970 (.ref (z_ad G 108)) rfl dX8_removeEccentricity_39 ?_
    refine z_iload 42 C dX8_removeEccentricity_42 4 rfl ?_
    refine z_laldN 44 C 108 (n := 24) (⟨rfl, rfl⟩) k rfl (by omega) (by decide) dX8_removeEccentricity_44 ?_
    refine z_cv (st1 := [.long (σ.2 108 k), .int (nI k), .ref (z_ad G 109)]) rfl rfl rfl ?_
    refine z_lload_n 45 C dX8_removeEccentricity_45 1 rfl ?_
    refine z_lsub 46 C dX8_removeEccentricity_46 ?_
    refine z_lload_n 47 C dX8_removeEccentricity_47 2 rfl ?_
    refine z_aload_n 48 C dX8_removeEccentricity_48 0 rfl ?_
    refine z_iload 49 C dX8_removeEccentricity_49 4 rfl ?_
    refine z_callV 51 C 105 (⟨rfl, rfl⟩) rfl (As := [.int (nI k)]) (rest := [.long (z_cf (σ.2 108) 0 1), .long ((σ.2 108 k) - (z_cf (σ.2 108) 0 0)), .int (nI k), .ref (z_ad G 109)]) (m_X8_cosine_n (σ := z_uL σ 109 (z_fil (z_rme (σ.2 108)) (σ.2 109) k)) P n u v w rc tl hM k (by omega)) k_X8_cosine q1203 ⟨rfl, rfl⟩ ⟨Nat.le_of_ble_eq_true rfl, Nat.le_of_ble_eq_true rfl⟩ rfl (Nat.le_of_ble_eq_true rfl) ⟨Nat.le_of_ble_eq_true rfl, Nat.le_of_ble_eq_true rfl⟩ rfl dX8_removeEccentricity_51 (z_k1 ?_)
    refine z_lmul 54 C dX8_removeEccentricity_54 ?_
    refine z_lload 55 C dX8_removeEccentricity_55 3 rfl ?_
    refine z_aload_n 57 C dX8_removeEccentricity_57 0 rfl ?_
    refine z_iload 58 C dX8_removeEccentricity_58 4 rfl ?_
    refine z_callV 60 C 105 (⟨rfl, rfl⟩) rfl (As := [.int (nI k)]) (rest := [.long (z_cf (σ.2 108) 1 1), .long ((z_cf (σ.2 108) 0 1) * (Int32.toInt64 (z_tv 0 (k % 24)))), .long ((σ.2 108 k) - (z_cf (σ.2 108) 0 0)), .int (nI k), .ref (z_ad G 109)]) (m_X8_sine (σ := z_uL σ 109 (z_fil (z_rme (σ.2 108)) (σ.2 109) k)) P n u v w rc tl hM k (by omega)) k_X8_sine q1199 ⟨rfl, rfl⟩ ⟨Nat.le_of_ble_eq_true rfl, Nat.le_of_ble_eq_true rfl⟩ rfl (Nat.le_of_ble_eq_true rfl) ⟨Nat.le_of_ble_eq_true rfl, Nat.le_of_ble_eq_true rfl⟩ rfl dX8_removeEccentricity_60 (z_k1 ?_)
    refine z_lmul 63 C dX8_removeEccentricity_63 ?_
    refine z_ladd 64 C dX8_removeEccentricity_64 ?_
    refine z_ldc2 65 C dX8_removeEccentricity_65 q1139 ?_
    refine z_callS 68 C (As := [.long (((z_cf (σ.2 108) 0 1) * (Int32.toInt64 (z_tv 0 (k % 24)))) + ((z_cf (σ.2 108) 1 1) * (Int32.toInt64 (z_tv 1 (k % 24))))), .long 1000000]) (rest := [.long ((σ.2 108 k) - (z_cf (σ.2 108) 0 0)), .int (nI k), .ref (z_ad G 109)]) (m_X8_down (σ := z_uL σ 109 (z_fil (z_rme (σ.2 108)) (σ.2 109) k)) (((z_cf (σ.2 108) 0 1) * (Int32.toInt64 (z_tv 0 (k % 24)))) + ((z_cf (σ.2 108) 1 1) * (Int32.toInt64 (z_tv 1 (k % 24))))) 1000000 (by decide)) k_X8_down q1116 ⟨rfl, rfl⟩ ⟨Nat.le_of_ble_eq_true rfl, Nat.le_of_ble_eq_true rfl⟩ rfl (Nat.le_of_ble_eq_true rfl) ⟨Nat.le_of_ble_eq_true rfl, Nat.le_of_ble_eq_true rfl⟩ rfl dX8_removeEccentricity_68 (z_k1 ?_)
    refine z_lsub 71 C dX8_removeEccentricity_71 ?_
    refine z_lastN 72 C 109 (n := 24) (⟨rfl, rfl⟩) k rfl (by omega) (by decide) dX8_removeEccentricity_72 ?_
    refine z_iincN 73 C 4 k [(7, .int (nI (k + 1))), (0, .ref (z_ad G 105)), (1, .long (z_cf (σ.2 108) 0 0)), (3, .long (z_cf (σ.2 108) 0 1)), (5, .long (z_cf (σ.2 108) 1 1))] rfl rfl (by decide) rfl dX8_removeEccentricity_73 ?_
    refine z_goto 76 C 25 dX8_removeEccentricity_76 (by decide) ?_
    refine z_sub [1, 2, 3, 4, 0] (lv1 := [(0, .ref (z_ad G 105)), (1, .long (z_cf (σ.2 108) 0 0)), (3, .long (z_cf (σ.2 108) 0 1)), (5, .long (z_cf (σ.2 108) 1 1)), (7, .int (nI (k + 1)))]) rfl ?_
    refine z_cv (lv1 := [(0, .ref (z_ad G 105)), (1, .long (z_cf (σ.2 108) 0 0)), (3, .long (z_cf (σ.2 108) 0 1)), (5, .long (z_cf (σ.2 108) 1 1)), (7, .int (nI (k + 1)))]) (st1 := []) (σ1 := z_uL σ 109 (z_fil (z_rme (σ.2 108)) (σ.2 109) (k + 1))) rfl rfl (z_filSL σ 109 k _ _ rfl) ?_
    exact ih_25 (k + 1) (by omega) (by omega)
theorem dX8_keeps_0 : decode cX8_keeps 0 = .ok (.iconst 0, 1) := by decide +kernel
theorem dX8_keeps_1 : decode cX8_keeps 1 = .ok (.istore_n 3, 1) := by decide +kernel
theorem dX8_keeps_2 : decode cX8_keeps 2 = .ok (.iload_n 3, 1) := by decide +kernel
theorem dX8_keeps_3 : decode cX8_keeps 3 = .ok (.bipush 24, 2) := by decide +kernel
theorem dX8_keeps_5 : decode cX8_keeps 5 = .ok (.if_icmp .ge 16, 3) := by decide +kernel
theorem dX8_keeps_8 : decode cX8_keeps 8 = .ok (.aload_n 0, 1) := by decide +kernel
theorem dX8_keeps_9 : decode cX8_keeps 9 = .ok (.getfield 26, 3) := by decide +kernel
theorem dX8_keeps_12 : decode cX8_keeps 12 = .ok (.iload_n 3, 1) := by decide +kernel
theorem dX8_keeps_13 : decode cX8_keeps 13 = .ok (.lconst 0, 1) := by decide +kernel
theorem dX8_keeps_14 : decode cX8_keeps 14 = .ok (.lastore, 1) := by decide +kernel
theorem dX8_keeps_15 : decode cX8_keeps 15 = .ok (.iinc 3 1, 3) := by decide +kernel
theorem dX8_keeps_18 : decode cX8_keeps 18 = .ok (.goto (-16), 3) := by decide +kernel
theorem dX8_keeps_21 : decode cX8_keeps 21 = .ok (.iload_n 1, 1) := by decide +kernel
theorem dX8_keeps_22 : decode cX8_keeps 22 = .ok (.istore_n 3, 1) := by decide +kernel
theorem dX8_keeps_23 : decode cX8_keeps 23 = .ok (.iload_n 3, 1) := by decide +kernel
theorem dX8_keeps_24 : decode cX8_keeps 24 = .ok (.iload_n 2, 1) := by decide +kernel
theorem dX8_keeps_25 : decode cX8_keeps 25 = .ok (.if_icmp .gt 80, 3) := by decide +kernel
theorem dX8_keeps_28 : decode cX8_keeps 28 = .ok (.aload_n 0, 1) := by decide +kernel
theorem dX8_keeps_29 : decode cX8_keeps 29 = .ok (.iload_n 3, 1) := by decide +kernel
theorem dX8_keeps_30 : decode cX8_keeps 30 = .ok (.iconst 0, 1) := by decide +kernel
theorem dX8_keeps_31 : decode cX8_keeps 31 = .ok (.invokevirtual 157, 3) := by decide +kernel
theorem dX8_keeps_34 : decode cX8_keeps 34 = .ok (.lstore 4, 2) := by decide +kernel
theorem dX8_keeps_36 : decode cX8_keeps 36 = .ok (.aload_n 0, 1) := by decide +kernel
theorem dX8_keeps_37 : decode cX8_keeps 37 = .ok (.iload_n 3, 1) := by decide +kernel
theorem dX8_keeps_38 : decode cX8_keeps 38 = .ok (.iconst 1, 1) := by decide +kernel
theorem dX8_keeps_39 : decode cX8_keeps 39 = .ok (.invokevirtual 157, 3) := by decide +kernel
theorem dX8_keeps_42 : decode cX8_keeps 42 = .ok (.lstore 6, 2) := by decide +kernel
theorem dX8_keeps_44 : decode cX8_keeps 44 = .ok (.iconst 0, 1) := by decide +kernel
theorem dX8_keeps_45 : decode cX8_keeps 45 = .ok (.istore 8, 2) := by decide +kernel
theorem dX8_keeps_47 : decode cX8_keeps 47 = .ok (.iload 8, 2) := by decide +kernel
theorem dX8_keeps_49 : decode cX8_keeps 49 = .ok (.bipush 24, 2) := by decide +kernel
theorem dX8_keeps_51 : decode cX8_keeps 51 = .ok (.if_icmp .ge 48, 3) := by decide +kernel
theorem dX8_keeps_54 : decode cX8_keeps 54 = .ok (.aload_n 0, 1) := by decide +kernel
theorem dX8_keeps_55 : decode cX8_keeps 55 = .ok (.getfield 26, 3) := by decide +kernel
theorem dX8_keeps_58 : decode cX8_keeps 58 = .ok (.iload 8, 2) := by decide +kernel
theorem dX8_keeps_60 : decode cX8_keeps 60 = .ok (.dup2, 1) := by decide +kernel
theorem dX8_keeps_61 : decode cX8_keeps 61 = .ok (.laload, 1) := by decide +kernel
theorem dX8_keeps_62 : decode cX8_keeps 62 = .ok (.lload 4, 2) := by decide +kernel
theorem dX8_keeps_64 : decode cX8_keeps 64 = .ok (.aload_n 0, 1) := by decide +kernel
theorem dX8_keeps_65 : decode cX8_keeps 65 = .ok (.iload_n 3, 1) := by decide +kernel
theorem dX8_keeps_66 : decode cX8_keeps 66 = .ok (.iload 8, 2) := by decide +kernel
theorem dX8_keeps_68 : decode cX8_keeps 68 = .ok (.imul, 1) := by decide +kernel
theorem dX8_keeps_69 : decode cX8_keeps 69 = .ok (.invokevirtual 76, 3) := by decide +kernel
theorem dX8_keeps_72 : decode cX8_keeps 72 = .ok (.lmul, 1) := by decide +kernel
theorem dX8_keeps_73 : decode cX8_keeps 73 = .ok (.lload 6, 2) := by decide +kernel
theorem dX8_keeps_75 : decode cX8_keeps 75 = .ok (.aload_n 0, 1) := by decide +kernel
theorem dX8_keeps_76 : decode cX8_keeps 76 = .ok (.iload_n 3, 1) := by decide +kernel
theorem dX8_keeps_77 : decode cX8_keeps 77 = .ok (.iload 8, 2) := by decide +kernel
theorem dX8_keeps_79 : decode cX8_keeps 79 = .ok (.imul, 1) := by decide +kernel
theorem dX8_keeps_80 : decode cX8_keeps 80 = .ok (.invokevirtual 161, 3) := by decide +kernel
theorem dX8_keeps_83 : decode cX8_keeps 83 = .ok (.lmul, 1) := by decide +kernel
theorem dX8_keeps_84 : decode cX8_keeps 84 = .ok (.ladd, 1) := by decide +kernel
theorem dX8_keeps_85 : decode cX8_keeps 85 = .ok (.ldc2_w 125, 3) := by decide +kernel
theorem dX8_keeps_88 : decode cX8_keeps 88 = .ok (.invokestatic 115, 3) := by decide +kernel
theorem dX8_keeps_91 : decode cX8_keeps 91 = .ok (.ladd, 1) := by decide +kernel
theorem dX8_keeps_92 : decode cX8_keeps 92 = .ok (.lastore, 1) := by decide +kernel
theorem dX8_keeps_93 : decode cX8_keeps 93 = .ok (.iinc 8 1, 3) := by decide +kernel
theorem dX8_keeps_96 : decode cX8_keeps 96 = .ok (.goto (-49), 3) := by decide +kernel
theorem dX8_keeps_99 : decode cX8_keeps 99 = .ok (.iinc 3 1, 3) := by decide +kernel
theorem dX8_keeps_102 : decode cX8_keeps 102 = .ok (.goto (-79), 3) := by decide +kernel
theorem dX8_keeps_105 : decode cX8_keeps 105 = .ok (.return_, 1) := by decide +kernel
set_option maxRecDepth 100000 in
set_option maxHeartbeats 4000000 in
theorem m_X8_keeps {l : Launch} {G : z_Gl} {σ : z_St} (P n u v w rc tl : Nat) (hM : z_mi σ P n u v w rc tl) (f g : Nat) (hfg : f ≤ g) (hg : g ≤ 12) : z_M l G yX8_keeps cX8_keeps 9 none (z_rm 5 113) [.ref (z_ad G 105), .int (nI f), .int (nI g)] σ (z_p0 (z_uL σ 109 (z_fil (z_kl (σ.2 108) f (g + 1 - f)) (σ.2 109) 24))) := by
  refine z_M.of (by decide) (Nat.le_of_ble_eq_true rfl) (fun p e s m below meth c C => ?_)
  refine z_sub [0, 1, 2] (lv1 := [(0, .ref (z_ad G 105)), (1, .int (nI f)), (2, .int (nI g))]) rfl ?_
  have hM0 := hM
  obtain ⟨⟨hP, hn, hu, hv, hw, hrc, htl⟩, hPs, hnP, huv, hw6, hrc8, htl2, hqt, hah⟩ := hM0
  have h0 : 0 < P := by omega
  have h12 : P ≤ 12 := by omega
  have h288 : n ≤ 288 := by omega
  refine z_iconst 0 C dX8_keeps_0 (nI 0) rfl ?_
  refine z_istore_n 1 C dX8_keeps_1 [(3, .int (nI 0)), (0, .ref (z_ad G 105)), (1, .int (nI f)), (2, .int (nI g))] (by decide) rfl ?_
  refine z_sub [1, 2, 3, 0] (lv1 := [(0, .ref (z_ad G 105)), (1, .int (nI f)), (2, .int (nI g)), (3, .int (nI 0))]) rfl ?_
  refine z_cv (lv1 := [(0, .ref (z_ad G 105)), (1, .int (nI f)), (2, .int (nI g)), (3, .int (nI 0))]) (st1 := []) (σ1 := z_uL σ 109 (z_fil (fun _ => 0) (σ.2 109) 0)) rfl rfl (z_fil0L σ 109 _) ?_
  refine z_lp1 (fun (k : Nat) => k ≤ 24) (fun (k : Nat) => 24 - k) (fun (k : Nat) => [(0, .ref (z_ad G 105)), (1, .int (nI f)), (2, .int (nI g)), (3, .int (nI k))]) (fun (k : Nat) => z_uL σ 109 (z_fil (fun _ => 0) (σ.2 109) k)) (fun k hi_2 ih_2 => ?_) 0 (by omega)
  try dsimp only
  refine z_iload_n 2 C dX8_keeps_2 3 rfl ?_
  refine z_bipush 3 C dX8_keeps_3 (nI 24) rfl ?_
  refine z_icmp_geN 5 C k 24 rfl rfl (by omega) (by omega) 21 dX8_keeps_5 (by decide) (fun c5 => ?_) (fun c5 => ?_)
  · skip
    have ek : k = 24 := by omega
    subst ek
    refine z_iload_n 21 C dX8_keeps_21 1 rfl ?_
    refine z_istore_n 22 C dX8_keeps_22 [(3, .int (nI f)), (0, .ref (z_ad G 105)), (1, .int (nI f)), (2, .int (nI g))] (by decide) rfl ?_
    refine z_sub [1, 2, 3, 0] (lv1 := [(0, .ref (z_ad G 105)), (1, .int (nI f)), (2, .int (nI g)), (3, .int (nI f))]) rfl ?_
    refine z_cv (lv1 := [(0, .ref (z_ad G 105)), (1, .int (nI f)), (2, .int (nI g)), (3, .int (nI (f + 0)))]) (st1 := []) (σ1 := z_uL σ 109 (z_fil (z_kl (σ.2 108) f 0) (σ.2 109) 24)) rfl rfl rfl ?_
    refine z_lp1 (fun (d : Nat) => f + d ≤ g + 1) (fun (d : Nat) => g + 1 - (f + d)) (fun (d : Nat) => [(0, .ref (z_ad G 105)), (1, .int (nI f)), (2, .int (nI g)), (3, .int (nI (f + d)))]) (fun (d : Nat) => z_uL σ 109 (z_fil (z_kl (σ.2 108) f d) (σ.2 109) 24)) (fun d hi_23 ih_23 => ?_) 0 (by omega)
    try dsimp only
    refine z_iload_n 23 C dX8_keeps_23 3 rfl ?_
    refine z_iload_n 24 C dX8_keeps_24 2 rfl ?_
    refine z_icmp_gtN 25 C (f + d) g rfl rfl (by omega) (by omega) 105 dX8_keeps_25 (by decide) (fun c25 => ?_) (fun c25 => ?_)
    · skip
      have ed : g + 1 - f = d := by omega
      rw [ed]
      refine z_vret 105 C dX8_keeps_105 ?_
      exact ⟨rfl, rfl⟩
    · skip
      refine z_aload_n 28 C dX8_keeps_28 0 rfl ?_
      refine z_iload_n 29 C dX8_keeps_29 3 rfl ?_
      refine z_iconst 30 C dX8_keeps_30 (nI 0) rfl ?_
      refine z_callV 31 C 105 (⟨rfl, rfl⟩) rfl (As := [.int (nI (f + d)), .int (nI 0)]) (rest := []) (m_X8_harmonicOf (σ := z_uL σ 109 (z_fil (z_kl (σ.2 108) f d) (σ.2 109) 24)) P n u v w rc tl hM (f + d) 0 (by omega) (by omega)) k_X8_harmonicOf q1191 ⟨rfl, rfl⟩ ⟨Nat.le_of_ble_eq_true rfl, Nat.le_of_ble_eq_true rfl⟩ rfl (Nat.le_of_ble_eq_true rfl) ⟨Nat.le_of_ble_eq_true rfl, Nat.le_of_ble_eq_true rfl⟩ rfl dX8_keeps_31 (z_k1 ?_)
      refine z_lstore 34 C dX8_keeps_34 [(4, .long (z_cf (σ.2 108) 0 (f + d))), (0, .ref (z_ad G 105)), (1, .int (nI f)), (2, .int (nI g)), (3, .int (nI (f + d)))] (by decide) rfl ?_
      refine z_aload_n 36 C dX8_keeps_36 1 rfl ?_
      refine z_iload_n 37 C dX8_keeps_37 4 rfl ?_
      refine z_iconst 38 C dX8_keeps_38 (nI 1) rfl ?_
      refine z_callV 39 C 105 (⟨rfl, rfl⟩) rfl (As := [.int (nI (f + d)), .int (nI 1)]) (rest := []) (m_X8_harmonicOf (σ := z_uL σ 109 (z_fil (z_kl (σ.2 108) f d) (σ.2 109) 24)) P n u v w rc tl hM (f + d) 1 (by omega) (by omega)) k_X8_harmonicOf q1191 ⟨rfl, rfl⟩ ⟨Nat.le_of_ble_eq_true rfl, Nat.le_of_ble_eq_true rfl⟩ rfl (Nat.le_of_ble_eq_true rfl) ⟨Nat.le_of_ble_eq_true rfl, Nat.le_of_ble_eq_true rfl⟩ rfl dX8_keeps_39 (z_k1 ?_)
      refine z_lstore 42 C dX8_keeps_42 [(6, .long (z_cf (σ.2 108) 1 (f + d))), (4, .long (z_cf (σ.2 108) 0 (f + d))), (0, .ref (z_ad G 105)), (1, .int (nI f)), (2, .int (nI g)), (3, .int (nI (f + d)))] (by decide) rfl ?_
      refine z_iconst 44 C dX8_keeps_44 (nI 0) rfl ?_
      refine z_istore 45 C dX8_keeps_45 [(8, .int (nI 0)), (6, .long (z_cf (σ.2 108) 1 (f + d))), (4, .long (z_cf (σ.2 108) 0 (f + d))), (0, .ref (z_ad G 105)), (1, .int (nI f)), (2, .int (nI g)), (3, .int (nI (f + d)))] (by decide) rfl ?_
      refine z_sub [3, 4, 5, 6, 2, 1, 0] (lv1 := [(0, .ref (z_ad G 105)), (1, .int (nI f)), (2, .int (nI g)), (3, .int (nI (f + d))), (4, .long (z_cf (σ.2 108) 0 (f + d))), (6, .long (z_cf (σ.2 108) 1 (f + d))), (8, .int (nI 0))]) rfl ?_
      refine z_cv (lv1 := [(0, .ref (z_ad G 105)), (1, .int (nI f)), (2, .int (nI g)), (3, .int (nI (f + d))), (4, .long (z_cf (σ.2 108) 0 (f + d))), (6, .long (z_cf (σ.2 108) 1 (f + d))), (8, .int (nI 0))]) (st1 := []) (σ1 := z_uL σ 109 (z_fil (z_kl (σ.2 108) f (d + 1)) (z_fil (z_kl (σ.2 108) f d) (σ.2 109) 24) 0)) rfl rfl (by rw [z_fil_0]) ?_
      refine z_lp1 (fun (k : Nat) => k ≤ 24) (fun (k : Nat) => 24 - k) (fun (k : Nat) => [(0, .ref (z_ad G 105)), (1, .int (nI f)), (2, .int (nI g)), (3, .int (nI (f + d))), (4, .long (z_cf (σ.2 108) 0 (f + d))), (6, .long (z_cf (σ.2 108) 1 (f + d))), (8, .int (nI k))]) (fun (k : Nat) => z_uL σ 109 (z_fil (z_kl (σ.2 108) f (d + 1)) (z_fil (z_kl (σ.2 108) f d) (σ.2 109) 24) k)) (fun k hi_47 ih_47 => ?_) 0 (by omega)
      try dsimp only
      refine z_iload 47 C dX8_keeps_47 6 rfl ?_
      refine z_bipush 49 C dX8_keeps_49 (nI 24) rfl ?_
      refine z_icmp_geN 51 C k 24 rfl rfl (by omega) (by omega) 99 dX8_keeps_51 (by decide) (fun c51 => ?_) (fun c51 => ?_)
      · skip
        have ek : k = 24 := by omega
        subst ek
        refine z_cv (lv1 := [(0, .ref (z_ad G 105)), (1, .int (nI f)), (2, .int (nI g)), (3, .int (nI (f + d))), (4, .long (z_cf (σ.2 108) 0 (f + d))), (6, .long (z_cf (σ.2 108) 1 (f + d))), (8, .int (nI 24))]) (st1 := []) (σ1 := z_uL σ 109 (z_fil (z_kl (σ.2 108) f (d + 1)) (σ.2 109) 24)) rfl rfl (z_mix σ 109 _ _ _) ?_
        refine z_iincN 99 C 3 (f + d) [(3, .int (nI (f + d + 1))), (0, .ref (z_ad G 105)), (1, .int (nI f)), (2, .int (nI g)), (4, .long (z_cf (σ.2 108) 0 (f + d))), (6, .long (z_cf (σ.2 108) 1 (f + d))), (8, .int (nI 24))] rfl rfl (by decide) rfl dX8_keeps_99 ?_
        refine z_goto 102 C 23 dX8_keeps_102 (by decide) ?_
        refine z_sub [1, 2, 3, 0] (lv1 := [(0, .ref (z_ad G 105)), (1, .int (nI f)), (2, .int (nI g)), (3, .int (nI (f + d + 1)))]) rfl ?_
        refine z_cv (lv1 := [(0, .ref (z_ad G 105)), (1, .int (nI f)), (2, .int (nI g)), (3, .int (nI (f + (d + 1))))]) (st1 := []) (σ1 := z_uL σ 109 (z_fil (z_kl (σ.2 108) f (d + 1)) (σ.2 109) 24)) rfl rfl rfl ?_
        exact ih_23 (d + 1) (by omega) (by omega)
      · skip
        have hhk : (f + d) * k ≤ 12 * 24 := Nat.mul_le_mul (by omega) (by omega)
        refine z_aload_n 54 C dX8_keeps_54 0 rfl ?_
        refine z_getf 55 C 105 z_dX8 (⟨rfl, rfl⟩) 5 (by decide) q971 (.ref (z_ad G 109)) rfl dX8_keeps_55 ?_
        refine z_iload 58 C dX8_keeps_58 6 rfl ?_
        refine z_dup2 60 C dX8_keeps_60 rfl rfl ?_
        refine z_laldN 61 C 109 (n := 24) (⟨rfl, rfl⟩) k rfl (by omega) (by decide) dX8_keeps_61 ?_
        refine z_lload 62 C dX8_keeps_62 4 rfl ?_
        refine z_aload_n 64 C dX8_keeps_64 0 rfl ?_
        refine z_iload_n 65 C dX8_keeps_65 3 rfl ?_
        refine z_iload 66 C dX8_keeps_66 6 rfl ?_
        refine z_imulN 68 C (f + d) k rfl rfl dX8_keeps_68 ?_
        refine z_callV 69 C 105 (⟨rfl, rfl⟩) rfl (As := [.int (nI ((f + d) * k))]) (rest := [.long (z_cf (σ.2 108) 0 (f + d)), .long ((z_uL σ 109 (z_fil (z_kl (σ.2 108) f (d + 1)) (z_fil (z_kl (σ.2 108) f d) (σ.2 109) 24) k)).2 109 k), .int (nI k), .ref (z_ad G 109)]) (m_X8_cosine_n (σ := z_uL σ 109 (z_fil (z_kl (σ.2 108) f (d + 1)) (z_fil (z_kl (σ.2 108) f d) (σ.2 109) 24) k)) P n u v w rc tl hM ((f + d) * k) (by omega)) k_X8_cosine q1203 ⟨rfl, rfl⟩ ⟨Nat.le_of_ble_eq_true rfl, Nat.le_of_ble_eq_true rfl⟩ rfl (Nat.le_of_ble_eq_true rfl) ⟨Nat.le_of_ble_eq_true rfl, Nat.le_of_ble_eq_true rfl⟩ rfl dX8_keeps_69 (z_k1 ?_)
        refine z_lmul 72 C dX8_keeps_72 ?_
        refine z_lload 73 C dX8_keeps_73 5 rfl ?_
        refine z_aload_n 75 C dX8_keeps_75 0 rfl ?_
        refine z_iload_n 76 C dX8_keeps_76 3 rfl ?_
        refine z_iload 77 C dX8_keeps_77 6 rfl ?_
        refine z_imulN 79 C (f + d) k rfl rfl dX8_keeps_79 ?_
        refine z_callV 80 C 105 (⟨rfl, rfl⟩) rfl (As := [.int (nI ((f + d) * k))]) (rest := [.long (z_cf (σ.2 108) 1 (f + d)), .long ((z_cf (σ.2 108) 0 (f + d)) * (Int32.toInt64 (z_tv 0 (((f + d) * k) % 24)))), .long ((z_uL σ 109 (z_fil (z_kl (σ.2 108) f (d + 1)) (z_fil (z_kl (σ.2 108) f d) (σ.2 109) 24) k)).2 109 k), .int (nI k), .ref (z_ad G 109)]) (m_X8_sine (σ := z_uL σ 109 (z_fil (z_kl (σ.2 108) f (d + 1)) (z_fil (z_kl (σ.2 108) f d) (σ.2 109) 24) k)) P n u v w rc tl hM ((f + d) * k) (by omega)) k_X8_sine q1199 ⟨rfl, rfl⟩ ⟨Nat.le_of_ble_eq_true rfl, Nat.le_of_ble_eq_true rfl⟩ rfl (Nat.le_of_ble_eq_true rfl) ⟨Nat.le_of_ble_eq_true rfl, Nat.le_of_ble_eq_true rfl⟩ rfl dX8_keeps_80 (z_k1 ?_)
        refine z_lmul 83 C dX8_keeps_83 ?_
        refine z_ladd 84 C dX8_keeps_84 ?_
        refine z_ldc2 85 C dX8_keeps_85 q1139 ?_
        refine z_callS 88 C (As := [.long (((z_cf (σ.2 108) 0 (f + d)) * (Int32.toInt64 (z_tv 0 (((f + d) * k) % 24)))) + ((z_cf (σ.2 108) 1 (f + d)) * (Int32.toInt64 (z_tv 1 (((f + d) * k) % 24))))), .long 1000000]) (rest := [.long ((z_uL σ 109 (z_fil (z_kl (σ.2 108) f (d + 1)) (z_fil (z_kl (σ.2 108) f d) (σ.2 109) 24) k)).2 109 k), .int (nI k), .ref (z_ad G 109)]) (m_X8_down (σ := z_uL σ 109 (z_fil (z_kl (σ.2 108) f (d + 1)) (z_fil (z_kl (σ.2 108) f d) (σ.2 109) 24) k)) (((z_cf (σ.2 108) 0 (f + d)) * (Int32.toInt64 (z_tv 0 (((f + d) * k) % 24)))) + ((z_cf (σ.2 108) 1 (f + d)) * (Int32.toInt64 (z_tv 1 (((f + d) * k) % 24))))) 1000000 (by decide)) k_X8_down q1116 ⟨rfl, rfl⟩ ⟨Nat.le_of_ble_eq_true rfl, Nat.le_of_ble_eq_true rfl⟩ rfl (Nat.le_of_ble_eq_true rfl) ⟨Nat.le_of_ble_eq_true rfl, Nat.le_of_ble_eq_true rfl⟩ rfl dX8_keeps_88 (z_k1 ?_)
        refine z_ladd 91 C dX8_keeps_91 ?_
        refine z_lastN 92 C 109 (n := 24) (⟨rfl, rfl⟩) k rfl (by omega) (by decide) dX8_keeps_92 ?_
        refine z_iincN 93 C 6 k [(8, .int (nI (k + 1))), (0, .ref (z_ad G 105)), (1, .int (nI f)), (2, .int (nI g)), (3, .int (nI (f + d))), (4, .long (z_cf (σ.2 108) 0 (f + d))), (6, .long (z_cf (σ.2 108) 1 (f + d)))] rfl rfl (by decide) rfl dX8_keeps_93 ?_
        refine z_goto 96 C 47 dX8_keeps_96 (by decide) ?_
        refine z_sub [1, 2, 3, 4, 5, 6, 0] (lv1 := [(0, .ref (z_ad G 105)), (1, .int (nI f)), (2, .int (nI g)), (3, .int (nI (f + d))), (4, .long (z_cf (σ.2 108) 0 (f + d))), (6, .long (z_cf (σ.2 108) 1 (f + d))), (8, .int (nI (k + 1)))]) rfl ?_
        refine z_cv (lv1 := [(0, .ref (z_ad G 105)), (1, .int (nI f)), (2, .int (nI g)), (3, .int (nI (f + d))), (4, .long (z_cf (σ.2 108) 0 (f + d))), (6, .long (z_cf (σ.2 108) 1 (f + d))), (8, .int (nI (k + 1)))]) (st1 := []) (σ1 := z_uL σ 109 (z_fil (z_kl (σ.2 108) f (d + 1)) (z_fil (z_kl (σ.2 108) f d) (σ.2 109) 24) (k + 1))) rfl rfl (z_filSL σ 109 k _ _ (by rw [z_uL2, if_pos rfl, z_fil_ge (Nat.le_refl k), z_fil_lt c51]; rfl)) ?_
        exact ih_47 (k + 1) (by omega) (by omega)
  · skip
    refine z_aload_n 8 C dX8_keeps_8 0 rfl ?_
    refine z_getf 9 C 105 z_dX8 (⟨rfl, rfl⟩) 5 (by decide) q971 (.ref (z_ad G 109)) rfl dX8_keeps_9 ?_
    refine z_iload_n 12 C dX8_keeps_12 3 rfl ?_
    refine z_lconst 13 C dX8_keeps_13 0 rfl ?_
    refine z_lastN 14 C 109 (n := 24) (⟨rfl, rfl⟩) k rfl (by omega) (by decide) dX8_keeps_14 ?_
    refine z_iincN 15 C 3 k [(3, .int (nI (k + 1))), (0, .ref (z_ad G 105)), (1, .int (nI f)), (2, .int (nI g))] rfl rfl (by decide) rfl dX8_keeps_15 ?_
    refine z_goto 18 C 2 dX8_keeps_18 (by decide) ?_
    refine z_sub [1, 2, 3, 0] (lv1 := [(0, .ref (z_ad G 105)), (1, .int (nI f)), (2, .int (nI g)), (3, .int (nI (k + 1)))]) rfl ?_
    refine z_cv (lv1 := [(0, .ref (z_ad G 105)), (1, .int (nI f)), (2, .int (nI g)), (3, .int (nI (k + 1)))]) (st1 := []) (σ1 := z_uL σ 109 (z_fil (fun _ => 0) (σ.2 109) (k + 1))) rfl rfl (z_filSL σ 109 k _ _ rfl) ?_
    exact ih_2 (k + 1) (by omega) (by omega)
theorem dX8_keepLobes_0 : decode cX8_keepLobes 0 = .ok (.iload_n 1, 1) := by decide +kernel
theorem dX8_keepLobes_1 : decode cX8_keepLobes 1 = .ok (.iload_n 2, 1) := by decide +kernel
theorem dX8_keepLobes_2 : decode cX8_keepLobes 2 = .ok (.invokestatic 164, 3) := by decide +kernel
theorem dX8_keepLobes_5 : decode cX8_keepLobes 5 = .ok (.ifCond .ne 6, 3) := by decide +kernel
theorem dX8_keepLobes_8 : decode cX8_keepLobes 8 = .ok (.ldc 87, 2) := by decide +kernel
theorem dX8_keepLobes_10 : decode cX8_keepLobes 10 = .ok (.ireturn, 1) := by decide +kernel
theorem dX8_keepLobes_11 : decode cX8_keepLobes 11 = .ok (.aload_n 0, 1) := by decide +kernel
theorem dX8_keepLobes_12 : decode cX8_keepLobes 12 = .ok (.iload_n 1, 1) := by decide +kernel
theorem dX8_keepLobes_13 : decode cX8_keepLobes 13 = .ok (.iload_n 2, 1) := by decide +kernel
theorem dX8_keepLobes_14 : decode cX8_keepLobes 14 = .ok (.invokevirtual 168, 3) := by decide +kernel
theorem dX8_keepLobes_17 : decode cX8_keepLobes 17 = .ok (.aload_n 0, 1) := by decide +kernel
theorem dX8_keepLobes_18 : decode cX8_keepLobes 18 = .ok (.invokevirtual 151, 3) := by decide +kernel
theorem dX8_keepLobes_21 : decode cX8_keepLobes 21 = .ok (.ireturn, 1) := by decide +kernel
set_option maxRecDepth 100000 in
set_option maxHeartbeats 4000000 in
theorem m_X8_keepLobes {l : Launch} {G : z_Gl} {σ : z_St} (P n u v w rc tl : Nat) (hM : z_mi σ P n u v w rc tl) (x : Int32) (y : Int32) : z_M l G yX8_keepLobes cX8_keepLobes 3 (some .int) (z_rm 6 141) [.ref (z_ad G 105), .int x, .int y] σ (z_p1 (.int (if x < 0 ∨ y < x ∨ nI 12 < y then (-1000001) else z_bo (¬ z_eq24 (σ.2 108) (z_fil (z_kl (σ.2 108) (z_n x) (z_n y + 1 - z_n x)) (σ.2 109) 24)))) (if x < 0 ∨ y < x ∨ nI 12 < y then σ else z_mtk (z_uL σ 109 (z_fil (z_kl (σ.2 108) (z_n x) (z_n y + 1 - z_n x)) (σ.2 109) 24)) u)) := by
  refine z_M.of (by decide) (Nat.le_of_ble_eq_true rfl) (fun p e s m below meth c C => ?_)
  refine z_sub [0, 1, 2] (lv1 := [(0, .ref (z_ad G 105)), (1, .int x), (2, .int y)]) rfl ?_
  have hM0 := hM
  obtain ⟨⟨hP, hn, hu, hv, hw, hrc, htl⟩, hPs, hnP, huv, hw6, hrc8, htl2, hqt, hah⟩ := hM0
  have h0 : 0 < P := by omega
  have h12 : P ≤ 12 := by omega
  have h288 : n ≤ 288 := by omega
  refine z_iload_n 0 C dX8_keepLobes_0 1 rfl ?_
  refine z_iload_n 1 C dX8_keepLobes_1 2 rfl ?_
  refine z_callS 2 C (As := [.int x, .int y]) (rest := []) (m_X8_areLobes x y) k_X8_areLobes q1213 ⟨rfl, rfl⟩ ⟨Nat.le_of_ble_eq_true rfl, Nat.le_of_ble_eq_true rfl⟩ rfl (Nat.le_of_ble_eq_true rfl) ⟨Nat.le_of_ble_eq_true rfl, Nat.le_of_ble_eq_true rfl⟩ rfl dX8_keepLobes_2 (z_k1 ?_)
  refine z_if_neb 5 C 11 dX8_keepLobes_5 (by decide) (fun c5 => ?_) (fun c5 => ?_)
  · skip
    obtain ⟨a, b, hab, hb, rfl, rfl⟩ := z_lob c5
    refine z_aload_n 11 C dX8_keepLobes_11 0 rfl ?_
    refine z_iload_n 12 C dX8_keepLobes_12 1 rfl ?_
    refine z_iload_n 13 C dX8_keepLobes_13 2 rfl ?_
    refine z_callV 14 C 105 (⟨rfl, rfl⟩) rfl (As := [.int (nI a), .int (nI b)]) (rest := []) (m_X8_keeps P n u v w rc tl hM a b (by omega) (by omega)) k_X8_keeps q1216 ⟨rfl, rfl⟩ ⟨Nat.le_of_ble_eq_true rfl, Nat.le_of_ble_eq_true rfl⟩ rfl (Nat.le_of_ble_eq_true rfl) ⟨Nat.le_of_ble_eq_true rfl, Nat.le_of_ble_eq_true rfl⟩ rfl dX8_keepLobes_14 (z_k0 ?_)
    refine z_aload_n 17 C dX8_keepLobes_17 0 rfl ?_
    refine z_callV 18 C 105 (⟨rfl, rfl⟩) rfl (As := []) (rest := []) (m_X8_takes (σ := z_uL σ 109 (z_fil (z_kl (σ.2 108) a (b + 1 - a)) (σ.2 109) 24)) P n u v w rc tl hM) k_X8_takes q1174 ⟨rfl, rfl⟩ ⟨Nat.le_of_ble_eq_true rfl, Nat.le_of_ble_eq_true rfl⟩ rfl (Nat.le_of_ble_eq_true rfl) ⟨Nat.le_of_ble_eq_true rfl, Nat.le_of_ble_eq_true rfl⟩ rfl dX8_keepLobes_18 (z_k1 ?_)
    refine z_iret 21 C dX8_keepLobes_21 ?_
    refine ⟨?_, ?_⟩
    · (rw [if_neg (c5), z_nk (k := a) (by omega), z_nk (k := b) (by omega)]) <;> (try rfl)
    · first | rfl | ((rw [if_neg (c5), z_nk (k := a) (by omega), z_nk (k := b) (by omega)]) <;> (try rfl))
  · skip
    replace c5 := Classical.not_not.mp c5
    refine z_ldc 8 C dX8_keepLobes_8 q1064 ?_
    refine z_iret 10 C dX8_keepLobes_10 ?_
    refine ⟨?_, ?_⟩
    · (rw [if_pos (c5)]) <;> (try rfl)
    · first | rfl | ((rw [if_pos (c5)]) <;> (try rfl))
theorem dX8_vBlock_0 : decode cX8_vBlock 0 = .ok (.iload_n 1, 1) := by decide +kernel
theorem dX8_vBlock_1 : decode cX8_vBlock 1 = .ok (.i2l, 1) := by decide +kernel
theorem dX8_vBlock_2 : decode cX8_vBlock 2 = .ok (.lconst 1, 1) := by decide +kernel
theorem dX8_vBlock_3 : decode cX8_vBlock 3 = .ok (.ldc2_w 177, 3) := by decide +kernel
theorem dX8_vBlock_6 : decode cX8_vBlock 6 = .ok (.invokestatic 68, 3) := by decide +kernel
theorem dX8_vBlock_9 : decode cX8_vBlock 9 = .ok (.ifCond .ne 6, 3) := by decide +kernel
theorem dX8_vBlock_12 : decode cX8_vBlock 12 = .ok (.ldc 87, 2) := by decide +kernel
theorem dX8_vBlock_14 : decode cX8_vBlock 14 = .ok (.ireturn, 1) := by decide +kernel
theorem dX8_vBlock_15 : decode cX8_vBlock 15 = .ok (.iconst 0, 1) := by decide +kernel
theorem dX8_vBlock_16 : decode cX8_vBlock 16 = .ok (.istore_n 2, 1) := by decide +kernel
theorem dX8_vBlock_17 : decode cX8_vBlock 17 = .ok (.iload_n 2, 1) := by decide +kernel
theorem dX8_vBlock_18 : decode cX8_vBlock 18 = .ok (.bipush 24, 2) := by decide +kernel
theorem dX8_vBlock_20 : decode cX8_vBlock 20 = .ok (.if_icmp .ge 63, 3) := by decide +kernel
theorem dX8_vBlock_23 : decode cX8_vBlock 23 = .ok (.aload_n 0, 1) := by decide +kernel
theorem dX8_vBlock_24 : decode cX8_vBlock 24 = .ok (.getfield 26, 3) := by decide +kernel
theorem dX8_vBlock_27 : decode cX8_vBlock 27 = .ok (.iload_n 2, 1) := by decide +kernel
theorem dX8_vBlock_28 : decode cX8_vBlock 28 = .ok (.aload_n 0, 1) := by decide +kernel
theorem dX8_vBlock_29 : decode cX8_vBlock 29 = .ok (.getfield 22, 3) := by decide +kernel
theorem dX8_vBlock_32 : decode cX8_vBlock 32 = .ok (.iload_n 2, 1) := by decide +kernel
theorem dX8_vBlock_33 : decode cX8_vBlock 33 = .ok (.laload, 1) := by decide +kernel
theorem dX8_vBlock_34 : decode cX8_vBlock 34 = .ok (.aload_n 0, 1) := by decide +kernel
theorem dX8_vBlock_35 : decode cX8_vBlock 35 = .ok (.getfield 22, 3) := by decide +kernel
theorem dX8_vBlock_38 : decode cX8_vBlock 38 = .ok (.iload_n 2, 1) := by decide +kernel
theorem dX8_vBlock_39 : decode cX8_vBlock 39 = .ok (.bipush 12, 2) := by decide +kernel
theorem dX8_vBlock_41 : decode cX8_vBlock 41 = .ok (.iadd, 1) := by decide +kernel
theorem dX8_vBlock_42 : decode cX8_vBlock 42 = .ok (.iload_n 1, 1) := by decide +kernel
theorem dX8_vBlock_43 : decode cX8_vBlock 43 = .ok (.isub, 1) := by decide +kernel
theorem dX8_vBlock_44 : decode cX8_vBlock 44 = .ok (.invokestatic 72, 3) := by decide +kernel
theorem dX8_vBlock_47 : decode cX8_vBlock 47 = .ok (.laload, 1) := by decide +kernel
theorem dX8_vBlock_48 : decode cX8_vBlock 48 = .ok (.aload_n 0, 1) := by decide +kernel
theorem dX8_vBlock_49 : decode cX8_vBlock 49 = .ok (.getfield 22, 3) := by decide +kernel
theorem dX8_vBlock_52 : decode cX8_vBlock 52 = .ok (.iload_n 2, 1) := by decide +kernel
theorem dX8_vBlock_53 : decode cX8_vBlock 53 = .ok (.bipush 12, 2) := by decide +kernel
theorem dX8_vBlock_55 : decode cX8_vBlock 55 = .ok (.iadd, 1) := by decide +kernel
theorem dX8_vBlock_56 : decode cX8_vBlock 56 = .ok (.iload_n 1, 1) := by decide +kernel
theorem dX8_vBlock_57 : decode cX8_vBlock 57 = .ok (.iadd, 1) := by decide +kernel
theorem dX8_vBlock_58 : decode cX8_vBlock 58 = .ok (.invokestatic 72, 3) := by decide +kernel
theorem dX8_vBlock_61 : decode cX8_vBlock 61 = .ok (.laload, 1) := by decide +kernel
theorem dX8_vBlock_62 : decode cX8_vBlock 62 = .ok (.ladd, 1) := by decide +kernel
theorem dX8_vBlock_63 : decode cX8_vBlock 63 = .ok (.ldc2_w 179, 3) := by decide +kernel
theorem dX8_vBlock_66 : decode cX8_vBlock 66 = .ok (.lmul, 1) := by decide +kernel
theorem dX8_vBlock_67 : decode cX8_vBlock 67 = .ok (.aload_n 0, 1) := by decide +kernel
theorem dX8_vBlock_68 : decode cX8_vBlock 68 = .ok (.iload_n 1, 1) := by decide +kernel
theorem dX8_vBlock_69 : decode cX8_vBlock 69 = .ok (.invokevirtual 76, 3) := by decide +kernel
theorem dX8_vBlock_72 : decode cX8_vBlock 72 = .ok (.invokestatic 115, 3) := by decide +kernel
theorem dX8_vBlock_75 : decode cX8_vBlock 75 = .ok (.ladd, 1) := by decide +kernel
theorem dX8_vBlock_76 : decode cX8_vBlock 76 = .ok (.lastore, 1) := by decide +kernel
theorem dX8_vBlock_77 : decode cX8_vBlock 77 = .ok (.iinc 2 1, 3) := by decide +kernel
theorem dX8_vBlock_80 : decode cX8_vBlock 80 = .ok (.goto (-63), 3) := by decide +kernel
theorem dX8_vBlock_83 : decode cX8_vBlock 83 = .ok (.aload_n 0, 1) := by decide +kernel
theorem dX8_vBlock_84 : decode cX8_vBlock 84 = .ok (.invokevirtual 174, 3) := by decide +kernel
theorem dX8_vBlock_87 : decode cX8_vBlock 87 = .ok (.ifCond .eq 8, 3) := by decide +kernel
theorem dX8_vBlock_90 : decode cX8_vBlock 90 = .ok (.ldc 87, 2) := by decide +kernel
theorem dX8_vBlock_92 : decode cX8_vBlock 92 = .ok (.goto 7, 3) := by decide +kernel
theorem dX8_vBlock_95 : decode cX8_vBlock 95 = .ok (.aload_n 0, 1) := by decide +kernel
theorem dX8_vBlock_96 : decode cX8_vBlock 96 = .ok (.invokevirtual 151, 3) := by decide +kernel
theorem dX8_vBlock_99 : decode cX8_vBlock 99 = .ok (.ireturn, 1) := by decide +kernel
set_option maxRecDepth 100000 in
set_option maxHeartbeats 4000000 in
theorem m_X8_vBlock {l : Launch} {G : z_Gl} {σ : z_St} (P n u v w rc tl : Nat) (hM : z_mi σ P n u v w rc tl) (x : Int32) : z_M l G yX8_vBlock cX8_vBlock 3 (some .int) (z_rm 2 43) [.ref (z_ad G 105), .int x] σ (z_p1 (.int (if x < nI 1 ∨ nI 5 < x then (-1000001) else if z_tg (z_vb (σ.2 108) (z_n x)) 24 = true then (-1000001) else z_bo (¬ z_eq24 (σ.2 108) (z_fil (z_vb (σ.2 108) (z_n x)) (σ.2 109) 24)))) (if x < nI 1 ∨ nI 5 < x then σ else if z_tg (z_vb (σ.2 108) (z_n x)) 24 = true then z_uL σ 109 (z_fil (z_vb (σ.2 108) (z_n x)) (σ.2 109) 24) else z_mtk (z_uL σ 109 (z_fil (z_vb (σ.2 108) (z_n x)) (σ.2 109) 24)) u)) := by
  refine z_M.of (by decide) (Nat.le_of_ble_eq_true rfl) (fun p e s m below meth c C => ?_)
  refine z_sub [0, 1] (lv1 := [(0, .ref (z_ad G 105)), (1, .int x)]) rfl ?_
  have hM0 := hM
  obtain ⟨⟨hP, hn, hu, hv, hw, hrc, htl⟩, hPs, hnP, huv, hw6, hrc8, htl2, hqt, hah⟩ := hM0
  have h0 : 0 < P := by omega
  have h12 : P ≤ 12 := by omega
  have h288 : n ≤ 288 := by omega
  refine z_iload_n 0 C dX8_vBlock_0 1 rfl ?_
  refine z_i2l 1 C dX8_vBlock_1 ?_
  refine z_lconst 2 C dX8_vBlock_2 1 rfl ?_
  refine z_ldc2 3 C dX8_vBlock_3 q1233 ?_
  refine z_callS 6 C (As := [.long (Int32.toInt64 x), .long 1, .long 5]) (rest := []) (m_X8_in_i x (nI 1) (nI 5) (by decide) (by decide)) k_X8_in q1071 ⟨rfl, rfl⟩ ⟨Nat.le_of_ble_eq_true rfl, Nat.le_of_ble_eq_true rfl⟩ rfl (Nat.le_of_ble_eq_true rfl) ⟨Nat.le_of_ble_eq_true rfl, Nat.le_of_ble_eq_true rfl⟩ rfl dX8_vBlock_6 (z_k1 ?_)
  refine z_if_neb 9 C 15 dX8_vBlock_9 (by decide) (fun c9 => ?_) (fun c9 => ?_)
  · skip
    obtain ⟨a, hla, ha, rfl⟩ := z_in1 (by decide) (by decide) c9
    refine z_iconst 15 C dX8_vBlock_15 (nI 0) rfl ?_
    refine z_istore_n 16 C dX8_vBlock_16 [(2, .int (nI 0)), (0, .ref (z_ad G 105)), (1, .int (nI a))] (by decide) rfl ?_
    refine z_sub [1, 2, 0] (lv1 := [(0, .ref (z_ad G 105)), (1, .int (nI a)), (2, .int (nI 0))]) rfl ?_
    refine z_cv (lv1 := [(0, .ref (z_ad G 105)), (1, .int (nI a)), (2, .int (nI 0))]) (st1 := []) (σ1 := z_uL σ 109 (z_fil (z_vb (σ.2 108) a) (σ.2 109) 0)) rfl rfl (z_fil0L σ 109 _) ?_
    refine z_lp1 (fun (k : Nat) => k ≤ 24) (fun (k : Nat) => 24 - k) (fun (k : Nat) => [(0, .ref (z_ad G 105)), (1, .int (nI a)), (2, .int (nI k))]) (fun (k : Nat) => z_uL σ 109 (z_fil (z_vb (σ.2 108) a) (σ.2 109) k)) (fun k hi_17 ih_17 => ?_) 0 (by omega)
    try dsimp only
    refine z_iload_n 17 C dX8_vBlock_17 2 rfl ?_
    refine z_bipush 18 C dX8_vBlock_18 (nI 24) rfl ?_
    refine z_icmp_geN 20 C k 24 rfl rfl (by omega) (by omega) 83 dX8_vBlock_20 (by decide) (fun c20 => ?_) (fun c20 => ?_)
    · skip
      have ek : k = 24 := by omega
      subst ek
      refine z_aload_n 83 C dX8_vBlock_83 0 rfl ?_
      refine z_callV 84 C 105 (⟨rfl, rfl⟩) rfl (As := []) (rest := []) (m_X8_isTooFar (σ := z_uL σ 109 (z_fil (z_vb (σ.2 108) a) (σ.2 109) 24)) P n u v w rc tl hM) k_X8_isTooFar q1224 ⟨rfl, rfl⟩ ⟨Nat.le_of_ble_eq_true rfl, Nat.le_of_ble_eq_true rfl⟩ rfl (Nat.le_of_ble_eq_true rfl) ⟨Nat.le_of_ble_eq_true rfl, Nat.le_of_ble_eq_true rfl⟩ rfl dX8_vBlock_84 (z_k1 ?_)
      refine z_if_eqb 87 C 95 dX8_vBlock_87 (by decide) (fun c87 => ?_) (fun c87 => ?_)
      · skip
        refine z_aload_n 95 C dX8_vBlock_95 0 rfl ?_
        refine z_callV 96 C 105 (⟨rfl, rfl⟩) rfl (As := []) (rest := []) (m_X8_takes (σ := z_uL σ 109 (z_fil (z_vb (σ.2 108) a) (σ.2 109) 24)) P n u v w rc tl hM) k_X8_takes q1174 ⟨rfl, rfl⟩ ⟨Nat.le_of_ble_eq_true rfl, Nat.le_of_ble_eq_true rfl⟩ rfl (Nat.le_of_ble_eq_true rfl) ⟨Nat.le_of_ble_eq_true rfl, Nat.le_of_ble_eq_true rfl⟩ rfl dX8_vBlock_96 (z_k1 ?_)
        refine z_iret 99 C dX8_vBlock_99 ?_
        rw [zm_tgf] at c87
        first | exact ⟨z_ci (by rw [if_neg c9, z_nk (k := a) (by omega), if_pos c87]), by rw [if_neg c9, z_nk (k := a) (by omega), if_pos c87]⟩ | exact ⟨z_ci (by rw [if_neg c9, z_nk (k := a) (by omega), if_neg c87] <;> rfl), by rw [if_neg c9, z_nk (k := a) (by omega), if_neg c87] <;> rfl⟩
      · skip
        refine z_ldc 90 C dX8_vBlock_90 q1064 ?_
        refine z_goto 92 C 99 dX8_vBlock_92 (by decide) ?_
        refine z_iret 99 C dX8_vBlock_99 ?_
        rw [zm_tgf] at c87
        first | exact ⟨z_ci (by rw [if_neg c9, z_nk (k := a) (by omega), if_pos c87]), by rw [if_neg c9, z_nk (k := a) (by omega), if_pos c87]⟩ | exact ⟨z_ci (by rw [if_neg c9, z_nk (k := a) (by omega), if_neg c87] <;> rfl), by rw [if_neg c9, z_nk (k := a) (by omega), if_neg c87] <;> rfl⟩
    · skip
      refine z_aload_n 23 C dX8_vBlock_23 0 rfl ?_
      refine z_getf 24 C 105 z_dX8 (⟨rfl, rfl⟩) 5 (by decide) q971 (.ref (z_ad G 109)) rfl dX8_vBlock_24 ?_
      refine z_iload_n 27 C dX8_vBlock_27 2 rfl ?_
      refine z_aload_n 28 C dX8_vBlock_28 0 rfl ?_
      refine z_getf 29 C 105 z_dX8 (⟨rfl, rfl⟩) 4 (by decide) q970 (.ref (z_ad G 108)) rfl dX8_vBlock_29 ?_
      refine z_iload_n 32 C dX8_vBlock_32 2 rfl ?_
      refine z_laldN 33 C 108 (n := 24) (⟨rfl, rfl⟩) k rfl (by omega) (by decide) dX8_vBlock_33 ?_
      refine z_cv (st1 := [.long (σ.2 108 k), .int (nI k), .ref (z_ad G 109)]) rfl rfl rfl ?_
      refine z_aload_n 34 C dX8_vBlock_34 0 rfl ?_
      refine z_getf 35 C 105 z_dX8 (⟨rfl, rfl⟩) 4 (by decide) q970 (.ref (z_ad G 108)) rfl dX8_vBlock_35 ?_
      refine z_iload_n 38 C dX8_vBlock_38 2 rfl ?_
      refine z_bipush 39 C dX8_vBlock_39 (nI 12) rfl ?_
      refine z_iaddN 41 C k 12 rfl rfl dX8_vBlock_41 ?_
      refine z_iload_n 42 C dX8_vBlock_42 1 rfl ?_
      refine z_isubN 43 C (k + 12) a rfl rfl (by omega) dX8_vBlock_43 ?_
      refine z_callS 44 C (As := [.int (nI ((k + 12) - a))]) (rest := [.ref (z_ad G 108), .long (σ.2 108 k), .int (nI k), .ref (z_ad G 109)]) (m_X8_around_n (σ := z_uL σ 109 (z_fil (z_vb (σ.2 108) a) (σ.2 109) k)) ((k + 12) - a) (by omega)) k_X8_around q1109 ⟨rfl, rfl⟩ ⟨Nat.le_of_ble_eq_true rfl, Nat.le_of_ble_eq_true rfl⟩ rfl (Nat.le_of_ble_eq_true rfl) ⟨Nat.le_of_ble_eq_true rfl, Nat.le_of_ble_eq_true rfl⟩ rfl dX8_vBlock_44 (z_k1 ?_)
      refine z_laldN 47 C 108 (n := 24) (⟨rfl, rfl⟩) (((k + 12) - a) % 24) rfl (by omega) (by decide) dX8_vBlock_47 ?_
      refine z_cv (st1 := [.long (σ.2 108 (((k + 12) - a) % 24)), .long (σ.2 108 k), .int (nI k), .ref (z_ad G 109)]) rfl rfl rfl ?_
      refine z_aload_n 48 C dX8_vBlock_48 0 rfl ?_
      refine z_getf 49 C 105 z_dX8 (⟨rfl, rfl⟩) 4 (by decide) q970 (.ref (z_ad G 108)) rfl dX8_vBlock_49 ?_
      refine z_iload_n 52 C dX8_vBlock_52 2 rfl ?_
      refine z_bipush 53 C dX8_vBlock_53 (nI 12) rfl ?_
      refine z_iaddN 55 C k 12 rfl rfl dX8_vBlock_55 ?_
      refine z_iload_n 56 C dX8_vBlock_56 1 rfl ?_
      refine z_iaddN 57 C (k + 12) a rfl rfl dX8_vBlock_57 ?_
      refine z_callS 58 C (As := [.int (nI ((k + 12) + a))]) (rest := [.ref (z_ad G 108), .long (σ.2 108 (((k + 12) - a) % 24)), .long (σ.2 108 k), .int (nI k), .ref (z_ad G 109)]) (m_X8_around_n (σ := z_uL σ 109 (z_fil (z_vb (σ.2 108) a) (σ.2 109) k)) ((k + 12) + a) (by omega)) k_X8_around q1109 ⟨rfl, rfl⟩ ⟨Nat.le_of_ble_eq_true rfl, Nat.le_of_ble_eq_true rfl⟩ rfl (Nat.le_of_ble_eq_true rfl) ⟨Nat.le_of_ble_eq_true rfl, Nat.le_of_ble_eq_true rfl⟩ rfl dX8_vBlock_58 (z_k1 ?_)
      refine z_laldN 61 C 108 (n := 24) (⟨rfl, rfl⟩) (((k + 12) + a) % 24) rfl (by omega) (by decide) dX8_vBlock_61 ?_
      refine z_cv (st1 := [.long (σ.2 108 (((k + 12) + a) % 24)), .long (σ.2 108 (((k + 12) - a) % 24)), .long (σ.2 108 k), .int (nI k), .ref (z_ad G 109)]) rfl rfl rfl ?_
      refine z_ladd 62 C dX8_vBlock_62 ?_
      refine z_ldc2 63 C dX8_vBlock_63 q1234 ?_
      refine z_lmul 66 C dX8_vBlock_66 ?_
      refine z_aload_n 67 C dX8_vBlock_67 0 rfl ?_
      refine z_iload_n 68 C dX8_vBlock_68 1 rfl ?_
      refine z_callV 69 C 105 (⟨rfl, rfl⟩) rfl (As := [.int (nI a)]) (rest := [.long (((σ.2 108 (((k + 12) - a) % 24)) + (σ.2 108 (((k + 12) + a) % 24))) * 500000), .long (σ.2 108 k), .int (nI k), .ref (z_ad G 109)]) (m_X8_cosine_n (σ := z_uL σ 109 (z_fil (z_vb (σ.2 108) a) (σ.2 109) k)) P n u v w rc tl hM a (by omega)) k_X8_cosine q1203 ⟨rfl, rfl⟩ ⟨Nat.le_of_ble_eq_true rfl, Nat.le_of_ble_eq_true rfl⟩ rfl (Nat.le_of_ble_eq_true rfl) ⟨Nat.le_of_ble_eq_true rfl, Nat.le_of_ble_eq_true rfl⟩ rfl dX8_vBlock_69 (z_k1 ?_)
      refine z_callS 72 C (As := [.long (((σ.2 108 (((k + 12) - a) % 24)) + (σ.2 108 (((k + 12) + a) % 24))) * 500000), .long (Int32.toInt64 (z_tv 0 (a % 24)))]) (rest := [.long (σ.2 108 k), .int (nI k), .ref (z_ad G 109)]) (m_X8_down (σ := z_uL σ 109 (z_fil (z_vb (σ.2 108) a) (σ.2 109) k)) (((σ.2 108 (((k + 12) - a) % 24)) + (σ.2 108 (((k + 12) + a) % 24))) * 500000) (Int32.toInt64 (z_tv 0 (a % 24))) (z_cosp a (by omega) (by omega))) k_X8_down q1116 ⟨rfl, rfl⟩ ⟨Nat.le_of_ble_eq_true rfl, Nat.le_of_ble_eq_true rfl⟩ rfl (Nat.le_of_ble_eq_true rfl) ⟨Nat.le_of_ble_eq_true rfl, Nat.le_of_ble_eq_true rfl⟩ rfl dX8_vBlock_72 (z_k1 ?_)
      refine z_ladd 75 C dX8_vBlock_75 ?_
      refine z_lastN 76 C 109 (n := 24) (⟨rfl, rfl⟩) k rfl (by omega) (by decide) dX8_vBlock_76 ?_
      refine z_iincN 77 C 2 k [(2, .int (nI (k + 1))), (0, .ref (z_ad G 105)), (1, .int (nI a))] rfl rfl (by decide) rfl dX8_vBlock_77 ?_
      refine z_goto 80 C 17 dX8_vBlock_80 (by decide) ?_
      refine z_sub [1, 2, 0] (lv1 := [(0, .ref (z_ad G 105)), (1, .int (nI a)), (2, .int (nI (k + 1)))]) rfl ?_
      refine z_cv (lv1 := [(0, .ref (z_ad G 105)), (1, .int (nI a)), (2, .int (nI (k + 1)))]) (st1 := []) (σ1 := z_uL σ 109 (z_fil (z_vb (σ.2 108) a) (σ.2 109) (k + 1))) rfl rfl (z_filSL σ 109 k _ _ rfl) ?_
      exact ih_17 (k + 1) (by omega) (by omega)
  · skip
    replace c9 := Classical.not_not.mp c9
    refine z_ldc 12 C dX8_vBlock_12 q1064 ?_
    refine z_iret 14 C dX8_vBlock_14 ?_
    exact ⟨z_ci (by rw [if_pos c9]), by rw [if_pos c9]⟩
theorem dX8_isBlindInVBlock_0 : decode cX8_isBlindInVBlock 0 = .ok (.iload_n 1, 1) := by decide +kernel
theorem dX8_isBlindInVBlock_1 : decode cX8_isBlindInVBlock 1 = .ok (.i2l, 1) := by decide +kernel
theorem dX8_isBlindInVBlock_2 : decode cX8_isBlindInVBlock 2 = .ok (.lconst 1, 1) := by decide +kernel
theorem dX8_isBlindInVBlock_3 : decode cX8_isBlindInVBlock 3 = .ok (.ldc2_w 177, 3) := by decide +kernel
theorem dX8_isBlindInVBlock_6 : decode cX8_isBlindInVBlock 6 = .ok (.invokestatic 68, 3) := by decide +kernel
theorem dX8_isBlindInVBlock_9 : decode cX8_isBlindInVBlock 9 = .ok (.ifCond .eq 15, 3) := by decide +kernel
theorem dX8_isBlindInVBlock_12 : decode cX8_isBlindInVBlock 12 = .ok (.iload_n 2, 1) := by decide +kernel
theorem dX8_isBlindInVBlock_13 : decode cX8_isBlindInVBlock 13 = .ok (.i2l, 1) := by decide +kernel
theorem dX8_isBlindInVBlock_14 : decode cX8_isBlindInVBlock 14 = .ok (.lconst 1, 1) := by decide +kernel
theorem dX8_isBlindInVBlock_15 : decode cX8_isBlindInVBlock 15 = .ok (.ldc2_w 137, 3) := by decide +kernel
theorem dX8_isBlindInVBlock_18 : decode cX8_isBlindInVBlock 18 = .ok (.invokestatic 68, 3) := by decide +kernel
theorem dX8_isBlindInVBlock_21 : decode cX8_isBlindInVBlock 21 = .ok (.ifCond .ne 6, 3) := by decide +kernel
theorem dX8_isBlindInVBlock_24 : decode cX8_isBlindInVBlock 24 = .ok (.ldc 87, 2) := by decide +kernel
theorem dX8_isBlindInVBlock_26 : decode cX8_isBlindInVBlock 26 = .ok (.ireturn, 1) := by decide +kernel
theorem dX8_isBlindInVBlock_27 : decode cX8_isBlindInVBlock 27 = .ok (.iload_n 2, 1) := by decide +kernel
theorem dX8_isBlindInVBlock_28 : decode cX8_isBlindInVBlock 28 = .ok (.iconst 2, 1) := by decide +kernel
theorem dX8_isBlindInVBlock_29 : decode cX8_isBlindInVBlock 29 = .ok (.irem, 1) := by decide +kernel
theorem dX8_isBlindInVBlock_30 : decode cX8_isBlindInVBlock 30 = .ok (.ifCond .ne 19, 3) := by decide +kernel
theorem dX8_isBlindInVBlock_33 : decode cX8_isBlindInVBlock 33 = .ok (.aload_n 0, 1) := by decide +kernel
theorem dX8_isBlindInVBlock_34 : decode cX8_isBlindInVBlock 34 = .ok (.iload_n 1, 1) := by decide +kernel
theorem dX8_isBlindInVBlock_35 : decode cX8_isBlindInVBlock 35 = .ok (.invokevirtual 76, 3) := by decide +kernel
theorem dX8_isBlindInVBlock_38 : decode cX8_isBlindInVBlock 38 = .ok (.aload_n 0, 1) := by decide +kernel
theorem dX8_isBlindInVBlock_39 : decode cX8_isBlindInVBlock 39 = .ok (.iload_n 2, 1) := by decide +kernel
theorem dX8_isBlindInVBlock_40 : decode cX8_isBlindInVBlock 40 = .ok (.iload_n 1, 1) := by decide +kernel
theorem dX8_isBlindInVBlock_41 : decode cX8_isBlindInVBlock 41 = .ok (.imul, 1) := by decide +kernel
theorem dX8_isBlindInVBlock_42 : decode cX8_isBlindInVBlock 42 = .ok (.invokevirtual 76, 3) := by decide +kernel
theorem dX8_isBlindInVBlock_45 : decode cX8_isBlindInVBlock 45 = .ok (.ladd, 1) := by decide +kernel
theorem dX8_isBlindInVBlock_46 : decode cX8_isBlindInVBlock 46 = .ok (.goto 16, 3) := by decide +kernel
theorem dX8_isBlindInVBlock_49 : decode cX8_isBlindInVBlock 49 = .ok (.aload_n 0, 1) := by decide +kernel
theorem dX8_isBlindInVBlock_50 : decode cX8_isBlindInVBlock 50 = .ok (.iload_n 1, 1) := by decide +kernel
theorem dX8_isBlindInVBlock_51 : decode cX8_isBlindInVBlock 51 = .ok (.invokevirtual 76, 3) := by decide +kernel
theorem dX8_isBlindInVBlock_54 : decode cX8_isBlindInVBlock 54 = .ok (.aload_n 0, 1) := by decide +kernel
theorem dX8_isBlindInVBlock_55 : decode cX8_isBlindInVBlock 55 = .ok (.iload_n 2, 1) := by decide +kernel
theorem dX8_isBlindInVBlock_56 : decode cX8_isBlindInVBlock 56 = .ok (.iload_n 1, 1) := by decide +kernel
theorem dX8_isBlindInVBlock_57 : decode cX8_isBlindInVBlock 57 = .ok (.imul, 1) := by decide +kernel
theorem dX8_isBlindInVBlock_58 : decode cX8_isBlindInVBlock 58 = .ok (.invokevirtual 76, 3) := by decide +kernel
theorem dX8_isBlindInVBlock_61 : decode cX8_isBlindInVBlock 61 = .ok (.lsub, 1) := by decide +kernel
theorem dX8_isBlindInVBlock_62 : decode cX8_isBlindInVBlock 62 = .ok (.lstore_n 3, 1) := by decide +kernel
theorem dX8_isBlindInVBlock_63 : decode cX8_isBlindInVBlock 63 = .ok (.lload_n 3, 1) := by decide +kernel
theorem dX8_isBlindInVBlock_64 : decode cX8_isBlindInVBlock 64 = .ok (.lconst 0, 1) := by decide +kernel
theorem dX8_isBlindInVBlock_65 : decode cX8_isBlindInVBlock 65 = .ok (.lcmp, 1) := by decide +kernel
theorem dX8_isBlindInVBlock_66 : decode cX8_isBlindInVBlock 66 = .ok (.ifCond .ne 7, 3) := by decide +kernel
theorem dX8_isBlindInVBlock_69 : decode cX8_isBlindInVBlock 69 = .ok (.iconst 1, 1) := by decide +kernel
theorem dX8_isBlindInVBlock_70 : decode cX8_isBlindInVBlock 70 = .ok (.goto 4, 3) := by decide +kernel
theorem dX8_isBlindInVBlock_73 : decode cX8_isBlindInVBlock 73 = .ok (.iconst 0, 1) := by decide +kernel
theorem dX8_isBlindInVBlock_74 : decode cX8_isBlindInVBlock 74 = .ok (.ireturn, 1) := by decide +kernel
set_option maxRecDepth 100000 in
set_option maxHeartbeats 4000000 in
theorem m_X8_isBlindInVBlock {l : Launch} {G : z_Gl} {σ : z_St} (P n u v w rc tl : Nat) (hM : z_mi σ P n u v w rc tl) (x : Int32) (y : Int32) : z_M l G yX8_isBlindInVBlock cX8_isBlindInVBlock 5 (some .int) (z_rm 2 43) [.ref (z_ad G 105), .int x, .int y] σ (z_p1 (.int (if x < nI 1 ∨ nI 5 < x then (-1000001) else if y < nI 1 ∨ nI 12 < y then (-1000001) else if z_n y % 2 = 0 then z_bo (z_tv 0 (z_n x % 24) + z_tv 0 (z_n y * z_n x % 24) = 0) else z_bo (z_tv 0 (z_n x % 24) - z_tv 0 (z_n y * z_n x % 24) = 0))) σ) := by
  refine z_M.of (by decide) (Nat.le_of_ble_eq_true rfl) (fun p e s m below meth c C => ?_)
  refine z_sub [0, 1, 2] (lv1 := [(0, .ref (z_ad G 105)), (1, .int x), (2, .int y)]) rfl ?_
  have hM0 := hM
  obtain ⟨⟨hP, hn, hu, hv, hw, hrc, htl⟩, hPs, hnP, huv, hw6, hrc8, htl2, hqt, hah⟩ := hM0
  have h0 : 0 < P := by omega
  have h12 : P ≤ 12 := by omega
  have h288 : n ≤ 288 := by omega
  refine z_iload_n 0 C dX8_isBlindInVBlock_0 1 rfl ?_
  refine z_i2l 1 C dX8_isBlindInVBlock_1 ?_
  refine z_lconst 2 C dX8_isBlindInVBlock_2 1 rfl ?_
  refine z_ldc2 3 C dX8_isBlindInVBlock_3 q1233 ?_
  refine z_callS 6 C (As := [.long (Int32.toInt64 x), .long 1, .long 5]) (rest := []) (m_X8_in_i x (nI 1) (nI 5) (by decide) (by decide)) k_X8_in q1071 ⟨rfl, rfl⟩ ⟨Nat.le_of_ble_eq_true rfl, Nat.le_of_ble_eq_true rfl⟩ rfl (Nat.le_of_ble_eq_true rfl) ⟨Nat.le_of_ble_eq_true rfl, Nat.le_of_ble_eq_true rfl⟩ rfl dX8_isBlindInVBlock_6 (z_k1 ?_)
  refine z_if_eqb 9 C 24 dX8_isBlindInVBlock_9 (by decide) (fun c9 => ?_) (fun c9 => ?_)
  · skip
    replace c9 := Classical.not_not.mp c9
    refine z_ldc 24 C dX8_isBlindInVBlock_24 q1064 ?_
    refine z_iret 26 C dX8_isBlindInVBlock_26 ?_
    first | exact ⟨z_ci (by rw [if_pos c9]), rfl⟩ | exact ⟨z_ci (by rw [if_neg c9, if_pos c21]), rfl⟩
  · skip
    obtain ⟨a, hla, ha, rfl⟩ := z_in1 (by decide) (by decide) c9
    refine z_iload_n 12 C dX8_isBlindInVBlock_12 2 rfl ?_
    refine z_i2l 13 C dX8_isBlindInVBlock_13 ?_
    refine z_lconst 14 C dX8_isBlindInVBlock_14 1 rfl ?_
    refine z_ldc2 15 C dX8_isBlindInVBlock_15 q1152 ?_
    refine z_callS 18 C (As := [.long (Int32.toInt64 y), .long 1, .long 12]) (rest := []) (m_X8_in_i y (nI 1) (nI 12) (by decide) (by decide)) k_X8_in q1071 ⟨rfl, rfl⟩ ⟨Nat.le_of_ble_eq_true rfl, Nat.le_of_ble_eq_true rfl⟩ rfl (Nat.le_of_ble_eq_true rfl) ⟨Nat.le_of_ble_eq_true rfl, Nat.le_of_ble_eq_true rfl⟩ rfl dX8_isBlindInVBlock_18 (z_k1 ?_)
    refine z_if_neb 21 C 27 dX8_isBlindInVBlock_21 (by decide) (fun c21 => ?_) (fun c21 => ?_)
    · skip
      obtain ⟨b, hlb, hb, rfl⟩ := z_in1 (by decide) (by decide) c21
      have hab : b * a ≤ 12 * 5 := Nat.mul_le_mul hb ha
      refine z_iload_n 27 C dX8_isBlindInVBlock_27 2 rfl ?_
      refine z_iconst 28 C dX8_isBlindInVBlock_28 (nI 2) rfl ?_
      refine z_iremN 29 C b 2 rfl rfl (by omega) (by omega) (by omega) dX8_isBlindInVBlock_29 ?_
      refine z_if_ne 30 C 49 dX8_isBlindInVBlock_30 (by decide) (fun c30 => ?_) (fun c30 => ?_)
      · skip
        refine z_aload_n 49 C dX8_isBlindInVBlock_49 0 rfl ?_
        refine z_iload_n 50 C dX8_isBlindInVBlock_50 1 rfl ?_
        refine z_callV 51 C 105 (⟨rfl, rfl⟩) rfl (As := [.int (nI a)]) (rest := []) (m_X8_cosine_n P n u v w rc tl hM a (by omega)) k_X8_cosine q1203 ⟨rfl, rfl⟩ ⟨Nat.le_of_ble_eq_true rfl, Nat.le_of_ble_eq_true rfl⟩ rfl (Nat.le_of_ble_eq_true rfl) ⟨Nat.le_of_ble_eq_true rfl, Nat.le_of_ble_eq_true rfl⟩ rfl dX8_isBlindInVBlock_51 (z_k1 ?_)
        refine z_aload_n 54 C dX8_isBlindInVBlock_54 0 rfl ?_
        refine z_iload_n 55 C dX8_isBlindInVBlock_55 2 rfl ?_
        refine z_iload_n 56 C dX8_isBlindInVBlock_56 1 rfl ?_
        refine z_imulN 57 C b a rfl rfl dX8_isBlindInVBlock_57 ?_
        refine z_callV 58 C 105 (⟨rfl, rfl⟩) rfl (As := [.int (nI (b * a))]) (rest := [.long (Int32.toInt64 (z_tv 0 (a % 24)))]) (m_X8_cosine_n P n u v w rc tl hM (b * a) (by omega)) k_X8_cosine q1203 ⟨rfl, rfl⟩ ⟨Nat.le_of_ble_eq_true rfl, Nat.le_of_ble_eq_true rfl⟩ rfl (Nat.le_of_ble_eq_true rfl) ⟨Nat.le_of_ble_eq_true rfl, Nat.le_of_ble_eq_true rfl⟩ rfl dX8_isBlindInVBlock_58 (z_k1 ?_)
        refine z_lsub 61 C dX8_isBlindInVBlock_61 ?_
        refine z_lstore_n 62 C dX8_isBlindInVBlock_62 [(3, .long ((Int32.toInt64 (z_tv 0 (a % 24))) - (Int32.toInt64 (z_tv 0 ((b * a) % 24))))), (0, .ref (z_ad G 105)), (1, .int (nI a)), (2, .int (nI b))] (by decide) rfl ?_
        refine z_lload_n 63 C dX8_isBlindInVBlock_63 0 rfl ?_
        refine z_lconst 64 C dX8_isBlindInVBlock_64 0 rfl ?_
        refine z_lcmp_ne 65 C 73 dX8_isBlindInVBlock_65 dX8_isBlindInVBlock_66 (by decide) (fun c65 => ?_) (fun c65 => ?_)
        · skip
          refine z_iconst 73 C dX8_isBlindInVBlock_73 (nI 0) rfl ?_
          refine z_iret 74 C dX8_isBlindInVBlock_74 ?_
          have d30 : ¬ b % 2 = 0 := fun z => c30 (by rw [z]; rfl)
          rw [zm_b2 (Nat.mod_lt _ (by decide)) (Nat.mod_lt _ (by decide))] at c65
          first | exact ⟨z_ci (by rw [if_neg c9, if_neg c21, z_nk (k := a) (by omega), z_nk (k := b) (by omega), if_neg d30]; exact z_bo_t c65), rfl⟩ | exact ⟨z_ci (by rw [if_neg c9, if_neg c21, z_nk (k := a) (by omega), z_nk (k := b) (by omega), if_neg d30]; exact z_bo_f c65), rfl⟩
        · skip
          refine z_iconst 69 C dX8_isBlindInVBlock_69 (nI 1) rfl ?_
          refine z_goto 70 C 74 dX8_isBlindInVBlock_70 (by decide) ?_
          refine z_iret 74 C dX8_isBlindInVBlock_74 ?_
          have d30 : ¬ b % 2 = 0 := fun z => c30 (by rw [z]; rfl)
          rw [zm_b2 (Nat.mod_lt _ (by decide)) (Nat.mod_lt _ (by decide))] at c65
          first | exact ⟨z_ci (by rw [if_neg c9, if_neg c21, z_nk (k := a) (by omega), z_nk (k := b) (by omega), if_neg d30]; exact z_bo_t c65), rfl⟩ | exact ⟨z_ci (by rw [if_neg c9, if_neg c21, z_nk (k := a) (by omega), z_nk (k := b) (by omega), if_neg d30]; exact z_bo_f c65), rfl⟩
      · skip
        refine z_aload_n 33 C dX8_isBlindInVBlock_33 0 rfl ?_
        refine z_iload_n 34 C dX8_isBlindInVBlock_34 1 rfl ?_
        refine z_callV 35 C 105 (⟨rfl, rfl⟩) rfl (As := [.int (nI a)]) (rest := []) (m_X8_cosine_n P n u v w rc tl hM a (by omega)) k_X8_cosine q1203 ⟨rfl, rfl⟩ ⟨Nat.le_of_ble_eq_true rfl, Nat.le_of_ble_eq_true rfl⟩ rfl (Nat.le_of_ble_eq_true rfl) ⟨Nat.le_of_ble_eq_true rfl, Nat.le_of_ble_eq_true rfl⟩ rfl dX8_isBlindInVBlock_35 (z_k1 ?_)
        refine z_aload_n 38 C dX8_isBlindInVBlock_38 0 rfl ?_
        refine z_iload_n 39 C dX8_isBlindInVBlock_39 2 rfl ?_
        refine z_iload_n 40 C dX8_isBlindInVBlock_40 1 rfl ?_
        refine z_imulN 41 C b a rfl rfl dX8_isBlindInVBlock_41 ?_
        refine z_callV 42 C 105 (⟨rfl, rfl⟩) rfl (As := [.int (nI (b * a))]) (rest := [.long (Int32.toInt64 (z_tv 0 (a % 24)))]) (m_X8_cosine_n P n u v w rc tl hM (b * a) (by omega)) k_X8_cosine q1203 ⟨rfl, rfl⟩ ⟨Nat.le_of_ble_eq_true rfl, Nat.le_of_ble_eq_true rfl⟩ rfl (Nat.le_of_ble_eq_true rfl) ⟨Nat.le_of_ble_eq_true rfl, Nat.le_of_ble_eq_true rfl⟩ rfl dX8_isBlindInVBlock_42 (z_k1 ?_)
        refine z_ladd 45 C dX8_isBlindInVBlock_45 ?_
        refine z_goto 46 C 62 dX8_isBlindInVBlock_46 (by decide) ?_
        refine z_lstore_n 62 C dX8_isBlindInVBlock_62 [(3, .long ((Int32.toInt64 (z_tv 0 (a % 24))) + (Int32.toInt64 (z_tv 0 ((b * a) % 24))))), (0, .ref (z_ad G 105)), (1, .int (nI a)), (2, .int (nI b))] (by decide) rfl ?_
        refine z_lload_n 63 C dX8_isBlindInVBlock_63 0 rfl ?_
        refine z_lconst 64 C dX8_isBlindInVBlock_64 0 rfl ?_
        refine z_lcmp_ne 65 C 73 dX8_isBlindInVBlock_65 dX8_isBlindInVBlock_66 (by decide) (fun c65 => ?_) (fun c65 => ?_)
        · skip
          refine z_iconst 73 C dX8_isBlindInVBlock_73 (nI 0) rfl ?_
          refine z_iret 74 C dX8_isBlindInVBlock_74 ?_
          have d30 : b % 2 = 0 := (z_nI0 (by omega)).mp c30
          rw [zm_b1 (Nat.mod_lt _ (by decide)) (Nat.mod_lt _ (by decide))] at c65
          first | exact ⟨z_ci (by rw [if_neg c9, if_neg c21, z_nk (k := a) (by omega), z_nk (k := b) (by omega), if_pos d30]; exact z_bo_t c65), rfl⟩ | exact ⟨z_ci (by rw [if_neg c9, if_neg c21, z_nk (k := a) (by omega), z_nk (k := b) (by omega), if_pos d30]; exact z_bo_f c65), rfl⟩
        · skip
          refine z_iconst 69 C dX8_isBlindInVBlock_69 (nI 1) rfl ?_
          refine z_goto 70 C 74 dX8_isBlindInVBlock_70 (by decide) ?_
          refine z_iret 74 C dX8_isBlindInVBlock_74 ?_
          have d30 : b % 2 = 0 := (z_nI0 (by omega)).mp c30
          rw [zm_b1 (Nat.mod_lt _ (by decide)) (Nat.mod_lt _ (by decide))] at c65
          first | exact ⟨z_ci (by rw [if_neg c9, if_neg c21, z_nk (k := a) (by omega), z_nk (k := b) (by omega), if_pos d30]; exact z_bo_t c65), rfl⟩ | exact ⟨z_ci (by rw [if_neg c9, if_neg c21, z_nk (k := a) (by omega), z_nk (k := b) (by omega), if_pos d30]; exact z_bo_f c65), rfl⟩
    · skip
      replace c21 := Classical.not_not.mp c21
      refine z_ldc 24 C dX8_isBlindInVBlock_24 q1064 ?_
      refine z_iret 26 C dX8_isBlindInVBlock_26 ?_
      first | exact ⟨z_ci (by rw [if_pos c9]), rfl⟩ | exact ⟨z_ci (by rw [if_neg c9, if_pos c21]), rfl⟩
theorem dX8_fetches_0 : decode cX8_fetches 0 = .ok (.iload_n 1, 1) := by decide +kernel
theorem dX8_fetches_1 : decode cX8_fetches 1 = .ok (.i2l, 1) := by decide +kernel
theorem dX8_fetches_2 : decode cX8_fetches 2 = .ok (.lconst 0, 1) := by decide +kernel
theorem dX8_fetches_3 : decode cX8_fetches 3 = .ok (.ldc2_w 145, 3) := by decide +kernel
theorem dX8_fetches_6 : decode cX8_fetches 6 = .ok (.invokestatic 68, 3) := by decide +kernel
theorem dX8_fetches_9 : decode cX8_fetches 9 = .ok (.ifCond .eq 15, 3) := by decide +kernel
theorem dX8_fetches_12 : decode cX8_fetches 12 = .ok (.iload_n 1, 1) := by decide +kernel
theorem dX8_fetches_13 : decode cX8_fetches 13 = .ok (.ifCond .ne 14, 3) := by decide +kernel
theorem dX8_fetches_16 : decode cX8_fetches 16 = .ok (.aload_n 0, 1) := by decide +kernel
theorem dX8_fetches_17 : decode cX8_fetches 17 = .ok (.iload_n 2, 1) := by decide +kernel
theorem dX8_fetches_18 : decode cX8_fetches 18 = .ok (.invokevirtual 98, 3) := by decide +kernel
theorem dX8_fetches_21 : decode cX8_fetches 21 = .ok (.ifCond .eq 6, 3) := by decide +kernel
theorem dX8_fetches_24 : decode cX8_fetches 24 = .ok (.ldc 87, 2) := by decide +kernel
theorem dX8_fetches_26 : decode cX8_fetches 26 = .ok (.ireturn, 1) := by decide +kernel
theorem dX8_fetches_27 : decode cX8_fetches 27 = .ok (.iload_n 1, 1) := by decide +kernel
theorem dX8_fetches_28 : decode cX8_fetches 28 = .ok (.ifCond .ne 11, 3) := by decide +kernel
theorem dX8_fetches_31 : decode cX8_fetches 31 = .ok (.aload_n 0, 1) := by decide +kernel
theorem dX8_fetches_32 : decode cX8_fetches 32 = .ok (.iload_n 2, 1) := by decide +kernel
theorem dX8_fetches_33 : decode cX8_fetches 33 = .ok (.invokevirtual 104, 3) := by decide +kernel
theorem dX8_fetches_36 : decode cX8_fetches 36 = .ok (.ifCond .eq 20, 3) := by decide +kernel
theorem dX8_fetches_39 : decode cX8_fetches 39 = .ok (.iload_n 1, 1) := by decide +kernel
theorem dX8_fetches_40 : decode cX8_fetches 40 = .ok (.iconst 1, 1) := by decide +kernel
theorem dX8_fetches_41 : decode cX8_fetches 41 = .ok (.if_icmp .eq 8, 3) := by decide +kernel
theorem dX8_fetches_44 : decode cX8_fetches 44 = .ok (.iload_n 1, 1) := by decide +kernel
theorem dX8_fetches_45 : decode cX8_fetches 45 = .ok (.iconst 2, 1) := by decide +kernel
theorem dX8_fetches_46 : decode cX8_fetches 46 = .ok (.if_icmp .ne 13, 3) := by decide +kernel
theorem dX8_fetches_49 : decode cX8_fetches 49 = .ok (.aload_n 0, 1) := by decide +kernel
theorem dX8_fetches_50 : decode cX8_fetches 50 = .ok (.invokevirtual 92, 3) := by decide +kernel
theorem dX8_fetches_53 : decode cX8_fetches 53 = .ok (.ifCond .ne 6, 3) := by decide +kernel
theorem dX8_fetches_56 : decode cX8_fetches 56 = .ok (.ldc 96, 2) := by decide +kernel
theorem dX8_fetches_58 : decode cX8_fetches 58 = .ok (.ireturn, 1) := by decide +kernel
theorem dX8_fetches_59 : decode cX8_fetches 59 = .ok (.iconst 0, 1) := by decide +kernel
theorem dX8_fetches_60 : decode cX8_fetches 60 = .ok (.istore_n 3, 1) := by decide +kernel
theorem dX8_fetches_61 : decode cX8_fetches 61 = .ok (.iload_n 3, 1) := by decide +kernel
theorem dX8_fetches_62 : decode cX8_fetches 62 = .ok (.bipush 24, 2) := by decide +kernel
theorem dX8_fetches_64 : decode cX8_fetches 64 = .ok (.if_icmp .ge 82, 3) := by decide +kernel
theorem dX8_fetches_67 : decode cX8_fetches 67 = .ok (.aload_n 0, 1) := by decide +kernel
theorem dX8_fetches_68 : decode cX8_fetches 68 = .ok (.getfield 26, 3) := by decide +kernel
theorem dX8_fetches_71 : decode cX8_fetches 71 = .ok (.iload_n 3, 1) := by decide +kernel
theorem dX8_fetches_72 : decode cX8_fetches 72 = .ok (.iload_n 1, 1) := by decide +kernel
theorem dX8_fetches_73 : decode cX8_fetches 73 = .ok (.ifCond .ne 22, 3) := by decide +kernel
theorem dX8_fetches_76 : decode cX8_fetches 76 = .ok (.ldc2_w 125, 3) := by decide +kernel
theorem dX8_fetches_79 : decode cX8_fetches 79 = .ok (.aload_n 0, 1) := by decide +kernel
theorem dX8_fetches_80 : decode cX8_fetches 80 = .ok (.getfield 19, 3) := by decide +kernel
theorem dX8_fetches_83 : decode cX8_fetches 83 = .ok (.bipush 24, 2) := by decide +kernel
theorem dX8_fetches_85 : decode cX8_fetches 85 = .ok (.iload_n 2, 1) := by decide +kernel
theorem dX8_fetches_86 : decode cX8_fetches 86 = .ok (.imul, 1) := by decide +kernel
theorem dX8_fetches_87 : decode cX8_fetches 87 = .ok (.iload_n 3, 1) := by decide +kernel
theorem dX8_fetches_88 : decode cX8_fetches 88 = .ok (.iadd, 1) := by decide +kernel
theorem dX8_fetches_89 : decode cX8_fetches 89 = .ok (.iaload, 1) := by decide +kernel
theorem dX8_fetches_90 : decode cX8_fetches 90 = .ok (.i2l, 1) := by decide +kernel
theorem dX8_fetches_91 : decode cX8_fetches 91 = .ok (.lmul, 1) := by decide +kernel
theorem dX8_fetches_92 : decode cX8_fetches 92 = .ok (.goto 47, 3) := by decide +kernel
theorem dX8_fetches_95 : decode cX8_fetches 95 = .ok (.iload_n 1, 1) := by decide +kernel
theorem dX8_fetches_96 : decode cX8_fetches 96 = .ok (.iconst 1, 1) := by decide +kernel
theorem dX8_fetches_97 : decode cX8_fetches 97 = .ok (.if_icmp .ne 11, 3) := by decide +kernel
theorem dX8_fetches_100 : decode cX8_fetches 100 = .ok (.aload_n 0, 1) := by decide +kernel
theorem dX8_fetches_101 : decode cX8_fetches 101 = .ok (.iload_n 3, 1) := by decide +kernel
theorem dX8_fetches_102 : decode cX8_fetches 102 = .ok (.invokevirtual 131, 3) := by decide +kernel
theorem dX8_fetches_105 : decode cX8_fetches 105 = .ok (.goto 34, 3) := by decide +kernel
theorem dX8_fetches_108 : decode cX8_fetches 108 = .ok (.iload_n 1, 1) := by decide +kernel
theorem dX8_fetches_109 : decode cX8_fetches 109 = .ok (.iconst 2, 1) := by decide +kernel
theorem dX8_fetches_110 : decode cX8_fetches 110 = .ok (.if_icmp .ne 11, 3) := by decide +kernel
theorem dX8_fetches_113 : decode cX8_fetches 113 = .ok (.aload_n 0, 1) := by decide +kernel
theorem dX8_fetches_114 : decode cX8_fetches 114 = .ok (.iload_n 3, 1) := by decide +kernel
theorem dX8_fetches_115 : decode cX8_fetches 115 = .ok (.invokevirtual 134, 3) := by decide +kernel
theorem dX8_fetches_118 : decode cX8_fetches 118 = .ok (.goto 21, 3) := by decide +kernel
theorem dX8_fetches_121 : decode cX8_fetches 121 = .ok (.ldc2_w 125, 3) := by decide +kernel
theorem dX8_fetches_124 : decode cX8_fetches 124 = .ok (.aload_n 0, 1) := by decide +kernel
theorem dX8_fetches_125 : decode cX8_fetches 125 = .ok (.getfield 57, 3) := by decide +kernel
theorem dX8_fetches_128 : decode cX8_fetches 128 = .ok (.bipush 24, 2) := by decide +kernel
theorem dX8_fetches_130 : decode cX8_fetches 130 = .ok (.iload_n 1, 1) := by decide +kernel
theorem dX8_fetches_131 : decode cX8_fetches 131 = .ok (.iconst 3, 1) := by decide +kernel
theorem dX8_fetches_132 : decode cX8_fetches 132 = .ok (.isub, 1) := by decide +kernel
theorem dX8_fetches_133 : decode cX8_fetches 133 = .ok (.imul, 1) := by decide +kernel
theorem dX8_fetches_134 : decode cX8_fetches 134 = .ok (.iload_n 3, 1) := by decide +kernel
theorem dX8_fetches_135 : decode cX8_fetches 135 = .ok (.iadd, 1) := by decide +kernel
theorem dX8_fetches_136 : decode cX8_fetches 136 = .ok (.iaload, 1) := by decide +kernel
theorem dX8_fetches_137 : decode cX8_fetches 137 = .ok (.i2l, 1) := by decide +kernel
theorem dX8_fetches_138 : decode cX8_fetches 138 = .ok (.lmul, 1) := by decide +kernel
theorem dX8_fetches_139 : decode cX8_fetches 139 = .ok (.lastore, 1) := by decide +kernel
theorem dX8_fetches_140 : decode cX8_fetches 140 = .ok (.iinc 3 1, 3) := by decide +kernel
theorem dX8_fetches_143 : decode cX8_fetches 143 = .ok (.goto (-82), 3) := by decide +kernel
theorem dX8_fetches_146 : decode cX8_fetches 146 = .ok (.iconst 1, 1) := by decide +kernel
theorem dX8_fetches_147 : decode cX8_fetches 147 = .ok (.ireturn, 1) := by decide +kernel
set_option maxRecDepth 100000 in
set_option maxHeartbeats 4000000 in
theorem m_X8_fetches {l : Launch} {G : z_Gl} {σ : z_St} (P n u v w rc tl : Nat) (hM : z_mi σ P n u v w rc tl) (x : Int32) (y : Int32) : z_M l G yX8_fetches cX8_fetches 4 (some .int) (z_rm 3 70) [.ref (z_ad G 105), .int x, .int y] σ (fun w_ σ1 => (z_se P n x y = -1000001 ∧ w_ = some (.int (-1000001)) ∧ σ1 = σ) ∨ (z_se P n x y = -1000002 ∧ w_ = some (.int (-1000002)) ∧ σ1 = σ) ∨ (z_se P n x y = 0 ∧ w_ = some (.int (nI 1)) ∧ σ1 = z_uL σ 109 (z_fil (z_src (σ.1 107) (σ.1 119) (z_shI (σ.1 119) 24) P (z_n x) (z_n y)) (σ.2 109) 24))) := by
  refine z_M.of (by decide) (Nat.le_of_ble_eq_true rfl) (fun p e s m below meth c C => ?_)
  refine z_sub [0, 1, 2] (lv1 := [(0, .ref (z_ad G 105)), (1, .int x), (2, .int y)]) rfl ?_
  have hM0 := hM
  obtain ⟨⟨hP, hn, hu, hv, hw, hrc, htl⟩, hPs, hnP, huv, hw6, hrc8, htl2, hqt, hah⟩ := hM0
  have h0 : 0 < P := by omega
  have h12 : P ≤ 12 := by omega
  have h288 : n ≤ 288 := by omega
  refine z_iload_n 0 C dX8_fetches_0 1 rfl ?_
  refine z_i2l 1 C dX8_fetches_1 ?_
  refine z_lconst 2 C dX8_fetches_2 0 rfl ?_
  refine z_ldc2 3 C dX8_fetches_3 q1173 ?_
  refine z_callS 6 C (As := [.long (Int32.toInt64 x), .long 0, .long 4]) (rest := []) (m_X8_in_i x (nI 0) (nI 4) (by decide) (by decide)) k_X8_in q1071 ⟨rfl, rfl⟩ ⟨Nat.le_of_ble_eq_true rfl, Nat.le_of_ble_eq_true rfl⟩ rfl (Nat.le_of_ble_eq_true rfl) ⟨Nat.le_of_ble_eq_true rfl, Nat.le_of_ble_eq_true rfl⟩ rfl dX8_fetches_6 (z_k1 ?_)
  refine z_if_eqb 9 C 24 dX8_fetches_9 (by decide) (fun c9 => ?_) (fun c9 => ?_)
  · skip
    replace c9 := Classical.not_not.mp c9
    refine z_ldc 24 C dX8_fetches_24 q1064 ?_
    refine z_iret 26 C dX8_fetches_26 ?_
    exact Or.inl ⟨zm_se0 c9, rfl, rfl⟩
  · skip
    obtain ⟨sr, hs, rfl⟩ := z_in0 (by decide) c9
    rcases (by omega : sr = 0 ∨ sr = 1 ∨ sr = 2 ∨ sr = 3 ∨ sr = 4) with rfl | rfl | rfl | rfl | rfl
    · skip
      refine z_iload_n 12 C dX8_fetches_12 1 rfl ?_
      refine z_if_ne 13 C 27 dX8_fetches_13 (by decide) (fun c13 => ?_) (fun c13 => ?_)
      · skip
        exact absurd c13 (by decide)
      · skip
        refine z_aload_n 16 C dX8_fetches_16 0 rfl ?_
        refine z_iload_n 17 C dX8_fetches_17 2 rfl ?_
        refine z_callV 18 C 105 (⟨rfl, rfl⟩) rfl (As := [.int y]) (rest := []) (m_X8_noStep P n u v w rc tl hM y ) k_X8_noStep q1092 ⟨rfl, rfl⟩ ⟨Nat.le_of_ble_eq_true rfl, Nat.le_of_ble_eq_true rfl⟩ rfl (Nat.le_of_ble_eq_true rfl) ⟨Nat.le_of_ble_eq_true rfl, Nat.le_of_ble_eq_true rfl⟩ rfl dX8_fetches_18 (z_k1 ?_)
        refine z_if_eqb 21 C 27 dX8_fetches_21 (by decide) (fun c21 => ?_) (fun c21 => ?_)
        · skip
          obtain ⟨j, hj, rfl⟩ := z_inw (by omega) c21
          refine z_iload_n 27 C dX8_fetches_27 1 rfl ?_
          refine z_if_ne 28 C 39 dX8_fetches_28 (by decide) (fun c28 => ?_) (fun c28 => ?_)
          · skip
            exact absurd c28 (by decide)
          · skip
            refine z_aload_n 31 C dX8_fetches_31 0 rfl ?_
            refine z_iload_n 32 C dX8_fetches_32 2 rfl ?_
            refine z_callV 33 C 105 (⟨rfl, rfl⟩) rfl (As := [.int (nI j)]) (rest := []) (m_X8_isFinished P n u v w rc tl hM j (by omega)) k_X8_isFinished q1104 ⟨rfl, rfl⟩ ⟨Nat.le_of_ble_eq_true rfl, Nat.le_of_ble_eq_true rfl⟩ rfl (Nat.le_of_ble_eq_true rfl) ⟨Nat.le_of_ble_eq_true rfl, Nat.le_of_ble_eq_true rfl⟩ rfl dX8_fetches_33 (z_k1 ?_)
            refine z_if_eqb 36 C 56 dX8_fetches_36 (by decide) (fun c36 => ?_) (fun c36 => ?_)
            · skip
              refine z_ldc 56 C dX8_fetches_56 q1078 ?_
              refine z_iret 58 C dX8_fetches_58 ?_
              exact Or.inr (Or.inl ⟨zm_se2 h288 h12 hj c36, rfl, rfl⟩)
            · skip
              refine z_iload_n 39 C dX8_fetches_39 1 rfl ?_
              refine z_iconst 40 C dX8_fetches_40 (nI 1) rfl ?_
              refine z_icmp_eqN 41 C 0 1 rfl rfl (by omega) (by omega) 49 dX8_fetches_41 (by decide) (fun c41 => ?_) (fun c41 => ?_)
              · skip
                exact absurd c41 (by decide)
              · skip
                refine z_iload_n 44 C dX8_fetches_44 1 rfl ?_
                refine z_iconst 45 C dX8_fetches_45 (nI 2) rfl ?_
                refine z_icmp_neN 46 C 0 2 rfl rfl (by omega) (by omega) 59 dX8_fetches_46 (by decide) (fun c46 => ?_) (fun c46 => ?_)
                · skip
                  refine z_iconst 59 C dX8_fetches_59 (nI 0) rfl ?_
                  refine z_istore_n 60 C dX8_fetches_60 [(3, .int (nI 0)), (0, .ref (z_ad G 105)), (1, .int (nI 0)), (2, .int (nI j))] (by decide) rfl ?_
                  refine z_sub [1, 2, 3, 0] (lv1 := [(0, .ref (z_ad G 105)), (1, .int (nI 0)), (2, .int (nI j)), (3, .int (nI 0))]) rfl ?_
                  refine z_cv (lv1 := [(0, .ref (z_ad G 105)), (1, .int (nI 0)), (2, .int (nI j)), (3, .int (nI 0))]) (st1 := []) (σ1 := z_uL σ 109 (z_fil (z_src (σ.1 107) (σ.1 119) (z_shI (σ.1 119) 24) P 0 j) (σ.2 109) 0)) rfl rfl (z_fil0L σ 109 _) ?_
                  refine z_lp1 (fun (k : Nat) => k ≤ 24) (fun (k : Nat) => 24 - k) (fun (k : Nat) => [(0, .ref (z_ad G 105)), (1, .int (nI 0)), (2, .int (nI j)), (3, .int (nI k))]) (fun (k : Nat) => z_uL σ 109 (z_fil (z_src (σ.1 107) (σ.1 119) (z_shI (σ.1 119) 24) P 0 j) (σ.2 109) k)) (fun k hi_61 ih_61 => ?_) 0 (by omega)
                  try dsimp only
                  refine z_iload_n 61 C dX8_fetches_61 3 rfl ?_
                  refine z_bipush 62 C dX8_fetches_62 (nI 24) rfl ?_
                  refine z_icmp_geN 64 C k 24 rfl rfl (by omega) (by omega) 146 dX8_fetches_64 (by decide) (fun c64 => ?_) (fun c64 => ?_)
                  · skip
                    have ek : k = 24 := by omega
                    subst ek
                    refine z_iconst 146 C dX8_fetches_146 (nI 1) rfl ?_
                    refine z_iret 147 C dX8_fetches_147 ?_
                    refine Or.inr (Or.inr ⟨zm_se3 h288 h12 hj c36, rfl, ?_⟩)
                    rw [z_nk (k := 0) (by omega), z_nk (k := j) (by omega)]
                  · skip
                    refine z_aload_n 67 C dX8_fetches_67 0 rfl ?_
                    refine z_getf 68 C 105 z_dX8 (⟨rfl, rfl⟩) 5 (by decide) q971 (.ref (z_ad G 109)) rfl dX8_fetches_68 ?_
                    refine z_iload_n 71 C dX8_fetches_71 3 rfl ?_
                    refine z_iload_n 72 C dX8_fetches_72 1 rfl ?_
                    refine z_if_ne 73 C 95 dX8_fetches_73 (by decide) (fun c73 => ?_) (fun c73 => ?_)
                    · skip
                      exact absurd c73 (by decide)
                    · skip
                      refine z_ldc2 76 C dX8_fetches_76 q1139 ?_
                      refine z_aload_n 79 C dX8_fetches_79 0 rfl ?_
                      refine z_getf 80 C 105 z_dX8 (⟨rfl, rfl⟩) 3 (by decide) q969 (.ref (z_ad G 107)) rfl dX8_fetches_80 ?_
                      refine z_bipush 83 C dX8_fetches_83 (nI 24) rfl ?_
                      refine z_iload_n 85 C dX8_fetches_85 2 rfl ?_
                      refine z_imulN 86 C 24 j rfl rfl dX8_fetches_86 ?_
                      refine z_iload_n 87 C dX8_fetches_87 3 rfl ?_
                      refine z_iaddN 88 C (24 * j) k rfl rfl dX8_fetches_88 ?_
                      refine z_ialdN 89 C 107 (n := 288) (⟨rfl, rfl⟩) ((24 * j) + k) rfl (by omega) (by decide) dX8_fetches_89 ?_
                      refine z_cv (st1 := [.int (σ.1 107 ((24 * j) + k)), .long 1000000, .int (nI k), .ref (z_ad G 109)]) rfl rfl rfl ?_
                      refine z_i2l 90 C dX8_fetches_90 ?_
                      refine z_lmul 91 C dX8_fetches_91 ?_
                      refine z_goto 92 C 139 dX8_fetches_92 (by decide) ?_
                      refine z_lastN 139 C 109 (n := 24) (⟨rfl, rfl⟩) k rfl (by omega) (by decide) dX8_fetches_139 ?_
                      refine z_iincN 140 C 3 k [(3, .int (nI (k + 1))), (0, .ref (z_ad G 105)), (1, .int (nI 0)), (2, .int (nI j))] rfl rfl (by decide) rfl dX8_fetches_140 ?_
                      refine z_goto 143 C 61 dX8_fetches_143 (by decide) ?_
                      refine z_sub [1, 2, 3, 0] (lv1 := [(0, .ref (z_ad G 105)), (1, .int (nI 0)), (2, .int (nI j)), (3, .int (nI (k + 1)))]) rfl ?_
                      refine z_cv (lv1 := [(0, .ref (z_ad G 105)), (1, .int (nI 0)), (2, .int (nI j)), (3, .int (nI (k + 1)))]) (st1 := []) (σ1 := z_uL σ 109 (z_fil (z_src (σ.1 107) (σ.1 119) (z_shI (σ.1 119) 24) P 0 j) (σ.2 109) (k + 1))) rfl rfl (z_filSL σ 109 k _ _ (zm_s0 (by omega))) ?_
                      exact ih_61 (k + 1) (by omega) (by omega)
                · skip
                  exact absurd c46 (by decide)
        · skip
          refine z_ldc 24 C dX8_fetches_24 q1064 ?_
          refine z_iret 26 C dX8_fetches_26 ?_
          exact Or.inl ⟨zm_se1 c21, rfl, rfl⟩
    · skip
      refine z_iload_n 12 C dX8_fetches_12 1 rfl ?_
      refine z_if_ne 13 C 27 dX8_fetches_13 (by decide) (fun c13 => ?_) (fun c13 => ?_)
      · skip
        refine z_iload_n 27 C dX8_fetches_27 1 rfl ?_
        refine z_if_ne 28 C 39 dX8_fetches_28 (by decide) (fun c28 => ?_) (fun c28 => ?_)
        · skip
          refine z_iload_n 39 C dX8_fetches_39 1 rfl ?_
          refine z_iconst 40 C dX8_fetches_40 (nI 1) rfl ?_
          refine z_icmp_eqN 41 C 1 1 rfl rfl (by omega) (by omega) 49 dX8_fetches_41 (by decide) (fun c41 => ?_) (fun c41 => ?_)
          · skip
            refine z_aload_n 49 C dX8_fetches_49 0 rfl ?_
            refine z_callV 50 C 105 (⟨rfl, rfl⟩) rfl (As := []) (rest := []) (m_X8_isComplete P n u v w rc tl hM  ) k_X8_isComplete q1074 ⟨rfl, rfl⟩ ⟨Nat.le_of_ble_eq_true rfl, Nat.le_of_ble_eq_true rfl⟩ rfl (Nat.le_of_ble_eq_true rfl) ⟨Nat.le_of_ble_eq_true rfl, Nat.le_of_ble_eq_true rfl⟩ rfl dX8_fetches_50 (z_k1 ?_)
            refine z_if_neb 53 C 59 dX8_fetches_53 (by decide) (fun c53 => ?_) (fun c53 => ?_)
            · skip
              refine z_iconst 59 C dX8_fetches_59 (nI 0) rfl ?_
              refine z_istore_n 60 C dX8_fetches_60 [(3, .int (nI 0)), (0, .ref (z_ad G 105)), (1, .int (nI 1)), (2, .int y)] (by decide) rfl ?_
              refine z_sub [1, 2, 3, 0] (lv1 := [(0, .ref (z_ad G 105)), (1, .int (nI 1)), (2, .int y), (3, .int (nI 0))]) rfl ?_
              refine z_cv (lv1 := [(0, .ref (z_ad G 105)), (1, .int (nI 1)), (2, .int y), (3, .int (nI 0))]) (st1 := []) (σ1 := z_uL σ 109 (z_fil (z_src (σ.1 107) (σ.1 119) (z_shI (σ.1 119) 24) P 1 (z_n y)) (σ.2 109) 0)) rfl rfl (z_fil0L σ 109 _) ?_
              refine z_lp1 (fun (k : Nat) => k ≤ 24) (fun (k : Nat) => 24 - k) (fun (k : Nat) => [(0, .ref (z_ad G 105)), (1, .int (nI 1)), (2, .int y), (3, .int (nI k))]) (fun (k : Nat) => z_uL σ 109 (z_fil (z_src (σ.1 107) (σ.1 119) (z_shI (σ.1 119) 24) P 1 (z_n y)) (σ.2 109) k)) (fun k hi_61 ih_61 => ?_) 0 (by omega)
              try dsimp only
              refine z_iload_n 61 C dX8_fetches_61 3 rfl ?_
              refine z_bipush 62 C dX8_fetches_62 (nI 24) rfl ?_
              refine z_icmp_geN 64 C k 24 rfl rfl (by omega) (by omega) 146 dX8_fetches_64 (by decide) (fun c64 => ?_) (fun c64 => ?_)
              · skip
                have ek : k = 24 := by omega
                subst ek
                refine z_iconst 146 C dX8_fetches_146 (nI 1) rfl ?_
                refine z_iret 147 C dX8_fetches_147 ?_
                refine Or.inr (Or.inr ⟨zm_se5 (Or.inl rfl) c53, rfl, ?_⟩)
                rw [z_nk (k := 1) (by omega)]
              · skip
                refine z_aload_n 67 C dX8_fetches_67 0 rfl ?_
                refine z_getf 68 C 105 z_dX8 (⟨rfl, rfl⟩) 5 (by decide) q971 (.ref (z_ad G 109)) rfl dX8_fetches_68 ?_
                refine z_iload_n 71 C dX8_fetches_71 3 rfl ?_
                refine z_iload_n 72 C dX8_fetches_72 1 rfl ?_
                refine z_if_ne 73 C 95 dX8_fetches_73 (by decide) (fun c73 => ?_) (fun c73 => ?_)
                · skip
                  refine z_iload_n 95 C dX8_fetches_95 1 rfl ?_
                  refine z_iconst 96 C dX8_fetches_96 (nI 1) rfl ?_
                  refine z_icmp_neN 97 C 1 1 rfl rfl (by omega) (by omega) 108 dX8_fetches_97 (by decide) (fun c97 => ?_) (fun c97 => ?_)
                  · skip
                    exact absurd c97 (by decide)
                  · skip
                    refine z_aload_n 100 C dX8_fetches_100 0 rfl ?_
                    refine z_iload_n 101 C dX8_fetches_101 3 rfl ?_
                    refine z_callV 102 C 105 (⟨rfl, rfl⟩) rfl (As := [.int (nI k)]) (rest := [.int (nI k), .ref (z_ad G 109)]) (m_X8_partAt (σ := z_uL σ 109 (z_fil (z_src (σ.1 107) (σ.1 119) (z_shI (σ.1 119) 24) P 1 (z_n y)) (σ.2 109) k)) P n u v w rc tl hM k (by omega)) k_X8_partAt q1127 ⟨rfl, rfl⟩ ⟨Nat.le_of_ble_eq_true rfl, Nat.le_of_ble_eq_true rfl⟩ rfl (Nat.le_of_ble_eq_true rfl) ⟨Nat.le_of_ble_eq_true rfl, Nat.le_of_ble_eq_true rfl⟩ rfl dX8_fetches_102 (z_k1 ?_)
                    refine z_goto 105 C 139 dX8_fetches_105 (by decide) ?_
                    refine z_lastN 139 C 109 (n := 24) (⟨rfl, rfl⟩) k rfl (by omega) (by decide) dX8_fetches_139 ?_
                    refine z_iincN 140 C 3 k [(3, .int (nI (k + 1))), (0, .ref (z_ad G 105)), (1, .int (nI 1)), (2, .int y)] rfl rfl (by decide) rfl dX8_fetches_140 ?_
                    refine z_goto 143 C 61 dX8_fetches_143 (by decide) ?_
                    refine z_sub [1, 2, 3, 0] (lv1 := [(0, .ref (z_ad G 105)), (1, .int (nI 1)), (2, .int y), (3, .int (nI (k + 1)))]) rfl ?_
                    refine z_cv (lv1 := [(0, .ref (z_ad G 105)), (1, .int (nI 1)), (2, .int y), (3, .int (nI (k + 1)))]) (st1 := []) (σ1 := z_uL σ 109 (z_fil (z_src (σ.1 107) (σ.1 119) (z_shI (σ.1 119) 24) P 1 (z_n y)) (σ.2 109) (k + 1))) rfl rfl (z_filSL σ 109 k _ _ rfl) ?_
                    exact ih_61 (k + 1) (by omega) (by omega)
                · skip
                  exact absurd c73 (by decide)
            · skip
              refine z_ldc 56 C dX8_fetches_56 q1078 ?_
              refine z_iret 58 C dX8_fetches_58 ?_
              exact Or.inr (Or.inl ⟨zm_se4 (Or.inl rfl) c53, rfl, rfl⟩)
          · skip
            exact absurd c41 (by decide)
        · skip
          exact absurd c28 (by decide)
      · skip
        exact absurd c13 (by decide)
    · skip
      refine z_iload_n 12 C dX8_fetches_12 1 rfl ?_
      refine z_if_ne 13 C 27 dX8_fetches_13 (by decide) (fun c13 => ?_) (fun c13 => ?_)
      · skip
        refine z_iload_n 27 C dX8_fetches_27 1 rfl ?_
        refine z_if_ne 28 C 39 dX8_fetches_28 (by decide) (fun c28 => ?_) (fun c28 => ?_)
        · skip
          refine z_iload_n 39 C dX8_fetches_39 1 rfl ?_
          refine z_iconst 40 C dX8_fetches_40 (nI 1) rfl ?_
          refine z_icmp_eqN 41 C 2 1 rfl rfl (by omega) (by omega) 49 dX8_fetches_41 (by decide) (fun c41 => ?_) (fun c41 => ?_)
          · skip
            exact absurd c41 (by decide)
          · skip
            refine z_iload_n 44 C dX8_fetches_44 1 rfl ?_
            refine z_iconst 45 C dX8_fetches_45 (nI 2) rfl ?_
            refine z_icmp_neN 46 C 2 2 rfl rfl (by omega) (by omega) 59 dX8_fetches_46 (by decide) (fun c46 => ?_) (fun c46 => ?_)
            · skip
              exact absurd c46 (by decide)
            · skip
              refine z_aload_n 49 C dX8_fetches_49 0 rfl ?_
              refine z_callV 50 C 105 (⟨rfl, rfl⟩) rfl (As := []) (rest := []) (m_X8_isComplete P n u v w rc tl hM  ) k_X8_isComplete q1074 ⟨rfl, rfl⟩ ⟨Nat.le_of_ble_eq_true rfl, Nat.le_of_ble_eq_true rfl⟩ rfl (Nat.le_of_ble_eq_true rfl) ⟨Nat.le_of_ble_eq_true rfl, Nat.le_of_ble_eq_true rfl⟩ rfl dX8_fetches_50 (z_k1 ?_)
              refine z_if_neb 53 C 59 dX8_fetches_53 (by decide) (fun c53 => ?_) (fun c53 => ?_)
              · skip
                refine z_iconst 59 C dX8_fetches_59 (nI 0) rfl ?_
                refine z_istore_n 60 C dX8_fetches_60 [(3, .int (nI 0)), (0, .ref (z_ad G 105)), (1, .int (nI 2)), (2, .int y)] (by decide) rfl ?_
                refine z_sub [1, 2, 3, 0] (lv1 := [(0, .ref (z_ad G 105)), (1, .int (nI 2)), (2, .int y), (3, .int (nI 0))]) rfl ?_
                refine z_cv (lv1 := [(0, .ref (z_ad G 105)), (1, .int (nI 2)), (2, .int y), (3, .int (nI 0))]) (st1 := []) (σ1 := z_uL σ 109 (z_fil (z_src (σ.1 107) (σ.1 119) (z_shI (σ.1 119) 24) P 2 (z_n y)) (σ.2 109) 0)) rfl rfl (z_fil0L σ 109 _) ?_
                refine z_lp1 (fun (k : Nat) => k ≤ 24) (fun (k : Nat) => 24 - k) (fun (k : Nat) => [(0, .ref (z_ad G 105)), (1, .int (nI 2)), (2, .int y), (3, .int (nI k))]) (fun (k : Nat) => z_uL σ 109 (z_fil (z_src (σ.1 107) (σ.1 119) (z_shI (σ.1 119) 24) P 2 (z_n y)) (σ.2 109) k)) (fun k hi_61 ih_61 => ?_) 0 (by omega)
                try dsimp only
                refine z_iload_n 61 C dX8_fetches_61 3 rfl ?_
                refine z_bipush 62 C dX8_fetches_62 (nI 24) rfl ?_
                refine z_icmp_geN 64 C k 24 rfl rfl (by omega) (by omega) 146 dX8_fetches_64 (by decide) (fun c64 => ?_) (fun c64 => ?_)
                · skip
                  have ek : k = 24 := by omega
                  subst ek
                  refine z_iconst 146 C dX8_fetches_146 (nI 1) rfl ?_
                  refine z_iret 147 C dX8_fetches_147 ?_
                  refine Or.inr (Or.inr ⟨zm_se5 (Or.inr rfl) c53, rfl, ?_⟩)
                  rw [z_nk (k := 2) (by omega)]
                · skip
                  refine z_aload_n 67 C dX8_fetches_67 0 rfl ?_
                  refine z_getf 68 C 105 z_dX8 (⟨rfl, rfl⟩) 5 (by decide) q971 (.ref (z_ad G 109)) rfl dX8_fetches_68 ?_
                  refine z_iload_n 71 C dX8_fetches_71 3 rfl ?_
                  refine z_iload_n 72 C dX8_fetches_72 1 rfl ?_
                  refine z_if_ne 73 C 95 dX8_fetches_73 (by decide) (fun c73 => ?_) (fun c73 => ?_)
                  · skip
                    refine z_iload_n 95 C dX8_fetches_95 1 rfl ?_
                    refine z_iconst 96 C dX8_fetches_96 (nI 1) rfl ?_
                    refine z_icmp_neN 97 C 2 1 rfl rfl (by omega) (by omega) 108 dX8_fetches_97 (by decide) (fun c97 => ?_) (fun c97 => ?_)
                    · skip
                      refine z_iload_n 108 C dX8_fetches_108 1 rfl ?_
                      refine z_iconst 109 C dX8_fetches_109 (nI 2) rfl ?_
                      refine z_icmp_neN 110 C 2 2 rfl rfl (by omega) (by omega) 121 dX8_fetches_110 (by decide) (fun c110 => ?_) (fun c110 => ?_)
                      · skip
                        exact absurd c110 (by decide)
                      · skip
                        refine z_aload_n 113 C dX8_fetches_113 0 rfl ?_
                        refine z_iload_n 114 C dX8_fetches_114 3 rfl ?_
                        refine z_callV 115 C 105 (⟨rfl, rfl⟩) rfl (As := [.int (nI k)]) (rest := [.int (nI k), .ref (z_ad G 109)]) (m_X8_spindleAt (σ := z_uL σ 109 (z_fil (z_src (σ.1 107) (σ.1 119) (z_shI (σ.1 119) 24) P 2 (z_n y)) (σ.2 109) k)) P n u v w rc tl hM k (by omega)) k_X8_spindleAt q1144 ⟨rfl, rfl⟩ ⟨Nat.le_of_ble_eq_true rfl, Nat.le_of_ble_eq_true rfl⟩ rfl (Nat.le_of_ble_eq_true rfl) ⟨Nat.le_of_ble_eq_true rfl, Nat.le_of_ble_eq_true rfl⟩ rfl dX8_fetches_115 (z_k1 ?_)
                        refine z_goto 118 C 139 dX8_fetches_118 (by decide) ?_
                        refine z_lastN 139 C 109 (n := 24) (⟨rfl, rfl⟩) k rfl (by omega) (by decide) dX8_fetches_139 ?_
                        refine z_iincN 140 C 3 k [(3, .int (nI (k + 1))), (0, .ref (z_ad G 105)), (1, .int (nI 2)), (2, .int y)] rfl rfl (by decide) rfl dX8_fetches_140 ?_
                        refine z_goto 143 C 61 dX8_fetches_143 (by decide) ?_
                        refine z_sub [1, 2, 3, 0] (lv1 := [(0, .ref (z_ad G 105)), (1, .int (nI 2)), (2, .int y), (3, .int (nI (k + 1)))]) rfl ?_
                        refine z_cv (lv1 := [(0, .ref (z_ad G 105)), (1, .int (nI 2)), (2, .int y), (3, .int (nI (k + 1)))]) (st1 := []) (σ1 := z_uL σ 109 (z_fil (z_src (σ.1 107) (σ.1 119) (z_shI (σ.1 119) 24) P 2 (z_n y)) (σ.2 109) (k + 1))) rfl rfl (z_filSL σ 109 k _ _ rfl) ?_
                        exact ih_61 (k + 1) (by omega) (by omega)
                    · skip
                      exact absurd c97 (by decide)
                  · skip
                    exact absurd c73 (by decide)
              · skip
                refine z_ldc 56 C dX8_fetches_56 q1078 ?_
                refine z_iret 58 C dX8_fetches_58 ?_
                exact Or.inr (Or.inl ⟨zm_se4 (Or.inr rfl) c53, rfl, rfl⟩)
        · skip
          exact absurd c28 (by decide)
      · skip
        exact absurd c13 (by decide)
    · skip
      refine z_iload_n 12 C dX8_fetches_12 1 rfl ?_
      refine z_if_ne 13 C 27 dX8_fetches_13 (by decide) (fun c13 => ?_) (fun c13 => ?_)
      · skip
        refine z_iload_n 27 C dX8_fetches_27 1 rfl ?_
        refine z_if_ne 28 C 39 dX8_fetches_28 (by decide) (fun c28 => ?_) (fun c28 => ?_)
        · skip
          refine z_iload_n 39 C dX8_fetches_39 1 rfl ?_
          refine z_iconst 40 C dX8_fetches_40 (nI 1) rfl ?_
          refine z_icmp_eqN 41 C 3 1 rfl rfl (by omega) (by omega) 49 dX8_fetches_41 (by decide) (fun c41 => ?_) (fun c41 => ?_)
          · skip
            exact absurd c41 (by decide)
          · skip
            refine z_iload_n 44 C dX8_fetches_44 1 rfl ?_
            refine z_iconst 45 C dX8_fetches_45 (nI 2) rfl ?_
            refine z_icmp_neN 46 C 3 2 rfl rfl (by omega) (by omega) 59 dX8_fetches_46 (by decide) (fun c46 => ?_) (fun c46 => ?_)
            · skip
              refine z_iconst 59 C dX8_fetches_59 (nI 0) rfl ?_
              refine z_istore_n 60 C dX8_fetches_60 [(3, .int (nI 0)), (0, .ref (z_ad G 105)), (1, .int (nI 3)), (2, .int y)] (by decide) rfl ?_
              refine z_sub [1, 2, 3, 0] (lv1 := [(0, .ref (z_ad G 105)), (1, .int (nI 3)), (2, .int y), (3, .int (nI 0))]) rfl ?_
              refine z_cv (lv1 := [(0, .ref (z_ad G 105)), (1, .int (nI 3)), (2, .int y), (3, .int (nI 0))]) (st1 := []) (σ1 := z_uL σ 109 (z_fil (z_src (σ.1 107) (σ.1 119) (z_shI (σ.1 119) 24) P 3 (z_n y)) (σ.2 109) 0)) rfl rfl (z_fil0L σ 109 _) ?_
              refine z_lp1 (fun (k : Nat) => k ≤ 24) (fun (k : Nat) => 24 - k) (fun (k : Nat) => [(0, .ref (z_ad G 105)), (1, .int (nI 3)), (2, .int y), (3, .int (nI k))]) (fun (k : Nat) => z_uL σ 109 (z_fil (z_src (σ.1 107) (σ.1 119) (z_shI (σ.1 119) 24) P 3 (z_n y)) (σ.2 109) k)) (fun k hi_61 ih_61 => ?_) 0 (by omega)
              try dsimp only
              refine z_iload_n 61 C dX8_fetches_61 3 rfl ?_
              refine z_bipush 62 C dX8_fetches_62 (nI 24) rfl ?_
              refine z_icmp_geN 64 C k 24 rfl rfl (by omega) (by omega) 146 dX8_fetches_64 (by decide) (fun c64 => ?_) (fun c64 => ?_)
              · skip
                have ek : k = 24 := by omega
                subst ek
                refine z_iconst 146 C dX8_fetches_146 (nI 1) rfl ?_
                refine z_iret 147 C dX8_fetches_147 ?_
                refine Or.inr (Or.inr ⟨zm_se6 (Or.inl rfl), rfl, ?_⟩)
                rw [z_nk (k := 3) (by omega)]
              · skip
                refine z_aload_n 67 C dX8_fetches_67 0 rfl ?_
                refine z_getf 68 C 105 z_dX8 (⟨rfl, rfl⟩) 5 (by decide) q971 (.ref (z_ad G 109)) rfl dX8_fetches_68 ?_
                refine z_iload_n 71 C dX8_fetches_71 3 rfl ?_
                refine z_iload_n 72 C dX8_fetches_72 1 rfl ?_
                refine z_if_ne 73 C 95 dX8_fetches_73 (by decide) (fun c73 => ?_) (fun c73 => ?_)
                · skip
                  refine z_iload_n 95 C dX8_fetches_95 1 rfl ?_
                  refine z_iconst 96 C dX8_fetches_96 (nI 1) rfl ?_
                  refine z_icmp_neN 97 C 3 1 rfl rfl (by omega) (by omega) 108 dX8_fetches_97 (by decide) (fun c97 => ?_) (fun c97 => ?_)
                  · skip
                    refine z_iload_n 108 C dX8_fetches_108 1 rfl ?_
                    refine z_iconst 109 C dX8_fetches_109 (nI 2) rfl ?_
                    refine z_icmp_neN 110 C 3 2 rfl rfl (by omega) (by omega) 121 dX8_fetches_110 (by decide) (fun c110 => ?_) (fun c110 => ?_)
                    · skip
                      refine z_ldc2 121 C dX8_fetches_121 q1139 ?_
                      refine z_aload_n 124 C dX8_fetches_124 0 rfl ?_
                      refine z_getf 125 C 105 z_dX8 (⟨rfl, rfl⟩) 27 (by decide) q993 (.ref (z_ad G 119)) rfl dX8_fetches_125 ?_
                      refine z_bipush 128 C dX8_fetches_128 (nI 24) rfl ?_
                      refine z_iload_n 130 C dX8_fetches_130 1 rfl ?_
                      refine z_iconst 131 C dX8_fetches_131 (nI 3) rfl ?_
                      refine z_isubN 132 C 3 3 rfl rfl (by omega) dX8_fetches_132 ?_
                      refine z_imulN 133 C 24 (3 - 3) rfl rfl dX8_fetches_133 ?_
                      refine z_iload_n 134 C dX8_fetches_134 3 rfl ?_
                      refine z_iaddN 135 C (24 * (3 - 3)) k rfl rfl dX8_fetches_135 ?_
                      refine z_ialdN 136 C 119 (n := 48) (⟨rfl, rfl⟩) ((24 * (3 - 3)) + k) rfl (by omega) (by decide) dX8_fetches_136 ?_
                      refine z_cv (st1 := [.int (σ.1 119 ((24 * (3 - 3)) + k)), .long 1000000, .int (nI k), .ref (z_ad G 109)]) rfl rfl rfl ?_
                      refine z_i2l 137 C dX8_fetches_137 ?_
                      refine z_lmul 138 C dX8_fetches_138 ?_
                      refine z_lastN 139 C 109 (n := 24) (⟨rfl, rfl⟩) k rfl (by omega) (by decide) dX8_fetches_139 ?_
                      refine z_iincN 140 C 3 k [(3, .int (nI (k + 1))), (0, .ref (z_ad G 105)), (1, .int (nI 3)), (2, .int y)] rfl rfl (by decide) rfl dX8_fetches_140 ?_
                      refine z_goto 143 C 61 dX8_fetches_143 (by decide) ?_
                      refine z_sub [1, 2, 3, 0] (lv1 := [(0, .ref (z_ad G 105)), (1, .int (nI 3)), (2, .int y), (3, .int (nI (k + 1)))]) rfl ?_
                      refine z_cv (lv1 := [(0, .ref (z_ad G 105)), (1, .int (nI 3)), (2, .int y), (3, .int (nI (k + 1)))]) (st1 := []) (σ1 := z_uL σ 109 (z_fil (z_src (σ.1 107) (σ.1 119) (z_shI (σ.1 119) 24) P 3 (z_n y)) (σ.2 109) (k + 1))) rfl rfl (z_filSL σ 109 k _ _ (by rw [show 24 * (3 - 3) + k = k by omega]; exact zm_s3)) ?_
                      exact ih_61 (k + 1) (by omega) (by omega)
                    · skip
                      exact absurd c110 (by decide)
                  · skip
                    exact absurd c97 (by decide)
                · skip
                  exact absurd c73 (by decide)
            · skip
              exact absurd c46 (by decide)
        · skip
          exact absurd c28 (by decide)
      · skip
        exact absurd c13 (by decide)
    · skip
      refine z_iload_n 12 C dX8_fetches_12 1 rfl ?_
      refine z_if_ne 13 C 27 dX8_fetches_13 (by decide) (fun c13 => ?_) (fun c13 => ?_)
      · skip
        refine z_iload_n 27 C dX8_fetches_27 1 rfl ?_
        refine z_if_ne 28 C 39 dX8_fetches_28 (by decide) (fun c28 => ?_) (fun c28 => ?_)
        · skip
          refine z_iload_n 39 C dX8_fetches_39 1 rfl ?_
          refine z_iconst 40 C dX8_fetches_40 (nI 1) rfl ?_
          refine z_icmp_eqN 41 C 4 1 rfl rfl (by omega) (by omega) 49 dX8_fetches_41 (by decide) (fun c41 => ?_) (fun c41 => ?_)
          · skip
            exact absurd c41 (by decide)
          · skip
            refine z_iload_n 44 C dX8_fetches_44 1 rfl ?_
            refine z_iconst 45 C dX8_fetches_45 (nI 2) rfl ?_
            refine z_icmp_neN 46 C 4 2 rfl rfl (by omega) (by omega) 59 dX8_fetches_46 (by decide) (fun c46 => ?_) (fun c46 => ?_)
            · skip
              refine z_iconst 59 C dX8_fetches_59 (nI 0) rfl ?_
              refine z_istore_n 60 C dX8_fetches_60 [(3, .int (nI 0)), (0, .ref (z_ad G 105)), (1, .int (nI 4)), (2, .int y)] (by decide) rfl ?_
              refine z_sub [1, 2, 3, 0] (lv1 := [(0, .ref (z_ad G 105)), (1, .int (nI 4)), (2, .int y), (3, .int (nI 0))]) rfl ?_
              refine z_cv (lv1 := [(0, .ref (z_ad G 105)), (1, .int (nI 4)), (2, .int y), (3, .int (nI 0))]) (st1 := []) (σ1 := z_uL σ 109 (z_fil (z_src (σ.1 107) (σ.1 119) (z_shI (σ.1 119) 24) P 4 (z_n y)) (σ.2 109) 0)) rfl rfl (z_fil0L σ 109 _) ?_
              refine z_lp1 (fun (k : Nat) => k ≤ 24) (fun (k : Nat) => 24 - k) (fun (k : Nat) => [(0, .ref (z_ad G 105)), (1, .int (nI 4)), (2, .int y), (3, .int (nI k))]) (fun (k : Nat) => z_uL σ 109 (z_fil (z_src (σ.1 107) (σ.1 119) (z_shI (σ.1 119) 24) P 4 (z_n y)) (σ.2 109) k)) (fun k hi_61 ih_61 => ?_) 0 (by omega)
              try dsimp only
              refine z_iload_n 61 C dX8_fetches_61 3 rfl ?_
              refine z_bipush 62 C dX8_fetches_62 (nI 24) rfl ?_
              refine z_icmp_geN 64 C k 24 rfl rfl (by omega) (by omega) 146 dX8_fetches_64 (by decide) (fun c64 => ?_) (fun c64 => ?_)
              · skip
                have ek : k = 24 := by omega
                subst ek
                refine z_iconst 146 C dX8_fetches_146 (nI 1) rfl ?_
                refine z_iret 147 C dX8_fetches_147 ?_
                refine Or.inr (Or.inr ⟨zm_se6 (Or.inr rfl), rfl, ?_⟩)
                rw [z_nk (k := 4) (by omega)]
              · skip
                refine z_aload_n 67 C dX8_fetches_67 0 rfl ?_
                refine z_getf 68 C 105 z_dX8 (⟨rfl, rfl⟩) 5 (by decide) q971 (.ref (z_ad G 109)) rfl dX8_fetches_68 ?_
                refine z_iload_n 71 C dX8_fetches_71 3 rfl ?_
                refine z_iload_n 72 C dX8_fetches_72 1 rfl ?_
                refine z_if_ne 73 C 95 dX8_fetches_73 (by decide) (fun c73 => ?_) (fun c73 => ?_)
                · skip
                  refine z_iload_n 95 C dX8_fetches_95 1 rfl ?_
                  refine z_iconst 96 C dX8_fetches_96 (nI 1) rfl ?_
                  refine z_icmp_neN 97 C 4 1 rfl rfl (by omega) (by omega) 108 dX8_fetches_97 (by decide) (fun c97 => ?_) (fun c97 => ?_)
                  · skip
                    refine z_iload_n 108 C dX8_fetches_108 1 rfl ?_
                    refine z_iconst 109 C dX8_fetches_109 (nI 2) rfl ?_
                    refine z_icmp_neN 110 C 4 2 rfl rfl (by omega) (by omega) 121 dX8_fetches_110 (by decide) (fun c110 => ?_) (fun c110 => ?_)
                    · skip
                      refine z_ldc2 121 C dX8_fetches_121 q1139 ?_
                      refine z_aload_n 124 C dX8_fetches_124 0 rfl ?_
                      refine z_getf 125 C 105 z_dX8 (⟨rfl, rfl⟩) 27 (by decide) q993 (.ref (z_ad G 119)) rfl dX8_fetches_125 ?_
                      refine z_bipush 128 C dX8_fetches_128 (nI 24) rfl ?_
                      refine z_iload_n 130 C dX8_fetches_130 1 rfl ?_
                      refine z_iconst 131 C dX8_fetches_131 (nI 3) rfl ?_
                      refine z_isubN 132 C 4 3 rfl rfl (by omega) dX8_fetches_132 ?_
                      refine z_imulN 133 C 24 (4 - 3) rfl rfl dX8_fetches_133 ?_
                      refine z_iload_n 134 C dX8_fetches_134 3 rfl ?_
                      refine z_iaddN 135 C (24 * (4 - 3)) k rfl rfl dX8_fetches_135 ?_
                      refine z_ialdN 136 C 119 (n := 48) (⟨rfl, rfl⟩) ((24 * (4 - 3)) + k) rfl (by omega) (by decide) dX8_fetches_136 ?_
                      refine z_cv (st1 := [.int (σ.1 119 ((24 * (4 - 3)) + k)), .long 1000000, .int (nI k), .ref (z_ad G 109)]) rfl rfl rfl ?_
                      refine z_i2l 137 C dX8_fetches_137 ?_
                      refine z_lmul 138 C dX8_fetches_138 ?_
                      refine z_lastN 139 C 109 (n := 24) (⟨rfl, rfl⟩) k rfl (by omega) (by decide) dX8_fetches_139 ?_
                      refine z_iincN 140 C 3 k [(3, .int (nI (k + 1))), (0, .ref (z_ad G 105)), (1, .int (nI 4)), (2, .int y)] rfl rfl (by decide) rfl dX8_fetches_140 ?_
                      refine z_goto 143 C 61 dX8_fetches_143 (by decide) ?_
                      refine z_sub [1, 2, 3, 0] (lv1 := [(0, .ref (z_ad G 105)), (1, .int (nI 4)), (2, .int y), (3, .int (nI (k + 1)))]) rfl ?_
                      refine z_cv (lv1 := [(0, .ref (z_ad G 105)), (1, .int (nI 4)), (2, .int y), (3, .int (nI (k + 1)))]) (st1 := []) (σ1 := z_uL σ 109 (z_fil (z_src (σ.1 107) (σ.1 119) (z_shI (σ.1 119) 24) P 4 (z_n y)) (σ.2 109) (k + 1))) rfl rfl (z_filSL σ 109 k _ _ (zm_s4 (sp := z_shI (σ.1 119) 24))) ?_
                      exact ih_61 (k + 1) (by omega) (by omega)
                    · skip
                      exact absurd c110 (by decide)
                  · skip
                    exact absurd c97 (by decide)
                · skip
                  exact absurd c73 (by decide)
            · skip
              exact absurd c46 (by decide)
        · skip
          exact absurd c28 (by decide)
      · skip
        exact absurd c13 (by decide)
theorem dX8_load_0 : decode cX8_load 0 = .ok (.aload_n 0, 1) := by decide +kernel
theorem dX8_load_1 : decode cX8_load 1 = .ok (.iload_n 1, 1) := by decide +kernel
theorem dX8_load_2 : decode cX8_load 2 = .ok (.iload_n 2, 1) := by decide +kernel
theorem dX8_load_3 : decode cX8_load 3 = .ok (.invokevirtual 147, 3) := by decide +kernel
theorem dX8_load_6 : decode cX8_load 6 = .ok (.istore_n 3, 1) := by decide +kernel
theorem dX8_load_7 : decode cX8_load 7 = .ok (.iload_n 3, 1) := by decide +kernel
theorem dX8_load_8 : decode cX8_load 8 = .ok (.iconst 1, 1) := by decide +kernel
theorem dX8_load_9 : decode cX8_load 9 = .ok (.if_icmp .ne 8, 3) := by decide +kernel
theorem dX8_load_12 : decode cX8_load 12 = .ok (.aload_n 0, 1) := by decide +kernel
theorem dX8_load_13 : decode cX8_load 13 = .ok (.invokevirtual 151, 3) := by decide +kernel
theorem dX8_load_16 : decode cX8_load 16 = .ok (.pop, 1) := by decide +kernel
theorem dX8_load_17 : decode cX8_load 17 = .ok (.iload_n 3, 1) := by decide +kernel
theorem dX8_load_18 : decode cX8_load 18 = .ok (.ireturn, 1) := by decide +kernel
set_option maxRecDepth 100000 in
set_option maxHeartbeats 4000000 in
theorem m_X8_load {l : Launch} {G : z_Gl} {σ : z_St} (P n u v w rc tl : Nat) (hM : z_mi σ P n u v w rc tl) (x : Int32) (y : Int32) : z_M l G yX8_load cX8_load 4 (some .int) (z_rm 4 93) [.ref (z_ad G 105), .int x, .int y] σ (z_p1 (.int (if ¬ z_se P n x y = 0 then z_se P n x y else nI 1)) (if ¬ z_se P n x y = 0 then σ else z_mtk (z_uL σ 109 (z_fil (z_src (σ.1 107) (σ.1 119) (z_shI (σ.1 119) 24) P (z_n x) (z_n y)) (σ.2 109) 24)) u)) := by
  refine z_M.of (by decide) (Nat.le_of_ble_eq_true rfl) (fun p e s m below meth c C => ?_)
  refine z_sub [0, 1, 2] (lv1 := [(0, .ref (z_ad G 105)), (1, .int x), (2, .int y)]) rfl ?_
  have hM0 := hM
  obtain ⟨⟨hP, hn, hu, hv, hw, hrc, htl⟩, hPs, hnP, huv, hw6, hrc8, htl2, hqt, hah⟩ := hM0
  have h0 : 0 < P := by omega
  have h12 : P ≤ 12 := by omega
  have h288 : n ≤ 288 := by omega
  refine z_aload_n 0 C dX8_load_0 0 rfl ?_
  refine z_iload_n 1 C dX8_load_1 1 rfl ?_
  refine z_iload_n 2 C dX8_load_2 2 rfl ?_
  refine z_callV 3 C 105 (⟨rfl, rfl⟩) rfl (As := [.int x, .int y]) (rest := []) (m_X8_fetches P n u v w rc tl hM x y) k_X8_fetches q1169 ⟨rfl, rfl⟩ ⟨Nat.le_of_ble_eq_true rfl, Nat.le_of_ble_eq_true rfl⟩ rfl (Nat.le_of_ble_eq_true rfl) ⟨Nat.le_of_ble_eq_true rfl, Nat.le_of_ble_eq_true rfl⟩ rfl dX8_load_3 (fun v3 σ3 hv3 => ?_)
  rcases hv3 with ⟨hz, rfl, rfl⟩ | ⟨hz, rfl, rfl⟩ | ⟨hz, rfl, rfl⟩
  · skip
    refine z_cv (st1 := [.int (-1000001)]) rfl rfl rfl ?_
    refine z_istore_n 6 C dX8_load_6 [(3, .int (-1000001)), (0, .ref (z_ad G 105)), (1, .int x), (2, .int y)] (by decide) rfl ?_
    refine z_iload_n 7 C dX8_load_7 0 rfl ?_
    refine z_iconst 8 C dX8_load_8 (nI 1) rfl ?_
    refine z_icmp_ne 9 C 17 dX8_load_9 (by decide) (fun c9 => ?_) (fun c9 => ?_)
    · skip
      refine z_iload_n 17 C dX8_load_17 0 rfl ?_
      refine z_iret 18 C dX8_load_18 ?_
      have hnz : ¬ z_se P n x y = 0 := by rw [hz]; decide
      exact ⟨z_ci (by rw [if_pos hnz, hz]), by rw [if_pos hnz]⟩
    · skip
      exact absurd c9 (by decide)
  · skip
    refine z_cv (st1 := [.int (-1000002)]) rfl rfl rfl ?_
    refine z_istore_n 6 C dX8_load_6 [(3, .int (-1000002)), (0, .ref (z_ad G 105)), (1, .int x), (2, .int y)] (by decide) rfl ?_
    refine z_iload_n 7 C dX8_load_7 0 rfl ?_
    refine z_iconst 8 C dX8_load_8 (nI 1) rfl ?_
    refine z_icmp_ne 9 C 17 dX8_load_9 (by decide) (fun c9 => ?_) (fun c9 => ?_)
    · skip
      refine z_iload_n 17 C dX8_load_17 0 rfl ?_
      refine z_iret 18 C dX8_load_18 ?_
      have hnz : ¬ z_se P n x y = 0 := by rw [hz]; decide
      exact ⟨z_ci (by rw [if_pos hnz, hz]), by rw [if_pos hnz]⟩
    · skip
      exact absurd c9 (by decide)
  · skip
    refine z_cv (st1 := [.int (nI 1)]) rfl rfl rfl ?_
    refine z_istore_n 6 C dX8_load_6 [(3, .int (nI 1)), (0, .ref (z_ad G 105)), (1, .int x), (2, .int y)] (by decide) rfl ?_
    refine z_iload_n 7 C dX8_load_7 0 rfl ?_
    refine z_iconst 8 C dX8_load_8 (nI 1) rfl ?_
    refine z_icmp_neN 9 C 1 1 rfl rfl (by omega) (by omega) 17 dX8_load_9 (by decide) (fun c9 => ?_) (fun c9 => ?_)
    · skip
      exact absurd c9 (by decide)
    · skip
      refine z_aload_n 12 C dX8_load_12 1 rfl ?_
      refine z_callV 13 C 105 (⟨rfl, rfl⟩) rfl (As := []) (rest := []) (m_X8_takes (σ := z_uL σ 109 (z_fil (z_src (σ.1 107) (σ.1 119) (z_shI (σ.1 119) 24) P (z_n x) (z_n y)) (σ.2 109) 24)) P n u v w rc tl hM) k_X8_takes q1174 ⟨rfl, rfl⟩ ⟨Nat.le_of_ble_eq_true rfl, Nat.le_of_ble_eq_true rfl⟩ rfl (Nat.le_of_ble_eq_true rfl) ⟨Nat.le_of_ble_eq_true rfl, Nat.le_of_ble_eq_true rfl⟩ rfl dX8_load_13 (z_k1 ?_)
      refine z_pop 16 C dX8_load_16 rfl ?_
      refine z_iload_n 17 C dX8_load_17 0 rfl ?_
      refine z_iret 18 C dX8_load_18 ?_
      exact ⟨z_ci (by rw [if_neg (fun z => z hz)]), by rw [if_neg (fun z => z hz)]⟩
theorem dX8_subtract_0 : decode cX8_subtract 0 = .ok (.aload_n 0, 1) := by decide +kernel
theorem dX8_subtract_1 : decode cX8_subtract 1 = .ok (.iload_n 1, 1) := by decide +kernel
theorem dX8_subtract_2 : decode cX8_subtract 2 = .ok (.iload_n 2, 1) := by decide +kernel
theorem dX8_subtract_3 : decode cX8_subtract 3 = .ok (.invokevirtual 147, 3) := by decide +kernel
theorem dX8_subtract_6 : decode cX8_subtract 6 = .ok (.istore_n 3, 1) := by decide +kernel
theorem dX8_subtract_7 : decode cX8_subtract 7 = .ok (.iload_n 3, 1) := by decide +kernel
theorem dX8_subtract_8 : decode cX8_subtract 8 = .ok (.ifCond .ge 5, 3) := by decide +kernel
theorem dX8_subtract_11 : decode cX8_subtract 11 = .ok (.iload_n 3, 1) := by decide +kernel
theorem dX8_subtract_12 : decode cX8_subtract 12 = .ok (.ireturn, 1) := by decide +kernel
theorem dX8_subtract_13 : decode cX8_subtract 13 = .ok (.iconst 0, 1) := by decide +kernel
theorem dX8_subtract_14 : decode cX8_subtract 14 = .ok (.istore 4, 2) := by decide +kernel
theorem dX8_subtract_16 : decode cX8_subtract 16 = .ok (.iload 4, 2) := by decide +kernel
theorem dX8_subtract_18 : decode cX8_subtract 18 = .ok (.bipush 24, 2) := by decide +kernel
theorem dX8_subtract_20 : decode cX8_subtract 20 = .ok (.if_icmp .ge 31, 3) := by decide +kernel
theorem dX8_subtract_23 : decode cX8_subtract 23 = .ok (.aload_n 0, 1) := by decide +kernel
theorem dX8_subtract_24 : decode cX8_subtract 24 = .ok (.getfield 26, 3) := by decide +kernel
theorem dX8_subtract_27 : decode cX8_subtract 27 = .ok (.iload 4, 2) := by decide +kernel
theorem dX8_subtract_29 : decode cX8_subtract 29 = .ok (.aload_n 0, 1) := by decide +kernel
theorem dX8_subtract_30 : decode cX8_subtract 30 = .ok (.getfield 22, 3) := by decide +kernel
theorem dX8_subtract_33 : decode cX8_subtract 33 = .ok (.iload 4, 2) := by decide +kernel
theorem dX8_subtract_35 : decode cX8_subtract 35 = .ok (.laload, 1) := by decide +kernel
theorem dX8_subtract_36 : decode cX8_subtract 36 = .ok (.aload_n 0, 1) := by decide +kernel
theorem dX8_subtract_37 : decode cX8_subtract 37 = .ok (.getfield 26, 3) := by decide +kernel
theorem dX8_subtract_40 : decode cX8_subtract 40 = .ok (.iload 4, 2) := by decide +kernel
theorem dX8_subtract_42 : decode cX8_subtract 42 = .ok (.laload, 1) := by decide +kernel
theorem dX8_subtract_43 : decode cX8_subtract 43 = .ok (.lsub, 1) := by decide +kernel
theorem dX8_subtract_44 : decode cX8_subtract 44 = .ok (.lastore, 1) := by decide +kernel
theorem dX8_subtract_45 : decode cX8_subtract 45 = .ok (.iinc 4 1, 3) := by decide +kernel
theorem dX8_subtract_48 : decode cX8_subtract 48 = .ok (.goto (-32), 3) := by decide +kernel
theorem dX8_subtract_51 : decode cX8_subtract 51 = .ok (.aload_n 0, 1) := by decide +kernel
theorem dX8_subtract_52 : decode cX8_subtract 52 = .ok (.invokevirtual 174, 3) := by decide +kernel
theorem dX8_subtract_55 : decode cX8_subtract 55 = .ok (.ifCond .eq 8, 3) := by decide +kernel
theorem dX8_subtract_58 : decode cX8_subtract 58 = .ok (.ldc 87, 2) := by decide +kernel
theorem dX8_subtract_60 : decode cX8_subtract 60 = .ok (.goto 7, 3) := by decide +kernel
theorem dX8_subtract_63 : decode cX8_subtract 63 = .ok (.aload_n 0, 1) := by decide +kernel
theorem dX8_subtract_64 : decode cX8_subtract 64 = .ok (.invokevirtual 151, 3) := by decide +kernel
theorem dX8_subtract_67 : decode cX8_subtract 67 = .ok (.ireturn, 1) := by decide +kernel
set_option maxRecDepth 100000 in
set_option maxHeartbeats 4000000 in
theorem m_X8_subtract {l : Launch} {G : z_Gl} {σ : z_St} (P n u v w rc tl : Nat) (hM : z_mi σ P n u v w rc tl) (x : Int32) (y : Int32) : z_M l G yX8_subtract cX8_subtract 5 (some .int) (z_rm 4 93) [.ref (z_ad G 105), .int x, .int y] σ (z_p1 (.int (if ¬ z_se P n x y = 0 then z_se P n x y else if z_tg (z_sbt (σ.2 108) (z_src (σ.1 107) (σ.1 119) (z_shI (σ.1 119) 24) P (z_n x) (z_n y))) 24 = true then (-1000001) else z_bo (¬ z_eq24 (σ.2 108) (z_fil (z_sbt (σ.2 108) (z_src (σ.1 107) (σ.1 119) (z_shI (σ.1 119) 24) P (z_n x) (z_n y))) (σ.2 109) 24)))) (if ¬ z_se P n x y = 0 then σ else if z_tg (z_sbt (σ.2 108) (z_src (σ.1 107) (σ.1 119) (z_shI (σ.1 119) 24) P (z_n x) (z_n y))) 24 = true then z_uL σ 109 (z_fil (z_sbt (σ.2 108) (z_src (σ.1 107) (σ.1 119) (z_shI (σ.1 119) 24) P (z_n x) (z_n y))) (σ.2 109) 24) else z_mtk (z_uL σ 109 (z_fil (z_sbt (σ.2 108) (z_src (σ.1 107) (σ.1 119) (z_shI (σ.1 119) 24) P (z_n x) (z_n y))) (σ.2 109) 24)) u)) := by
  refine z_M.of (by decide) (Nat.le_of_ble_eq_true rfl) (fun p e s m below meth c C => ?_)
  refine z_sub [0, 1, 2] (lv1 := [(0, .ref (z_ad G 105)), (1, .int x), (2, .int y)]) rfl ?_
  have hM0 := hM
  obtain ⟨⟨hP, hn, hu, hv, hw, hrc, htl⟩, hPs, hnP, huv, hw6, hrc8, htl2, hqt, hah⟩ := hM0
  have h0 : 0 < P := by omega
  have h12 : P ≤ 12 := by omega
  have h288 : n ≤ 288 := by omega
  refine z_aload_n 0 C dX8_subtract_0 0 rfl ?_
  refine z_iload_n 1 C dX8_subtract_1 1 rfl ?_
  refine z_iload_n 2 C dX8_subtract_2 2 rfl ?_
  refine z_callV 3 C 105 (⟨rfl, rfl⟩) rfl (As := [.int x, .int y]) (rest := []) (m_X8_fetches P n u v w rc tl hM x y) k_X8_fetches q1169 ⟨rfl, rfl⟩ ⟨Nat.le_of_ble_eq_true rfl, Nat.le_of_ble_eq_true rfl⟩ rfl (Nat.le_of_ble_eq_true rfl) ⟨Nat.le_of_ble_eq_true rfl, Nat.le_of_ble_eq_true rfl⟩ rfl dX8_subtract_3 (fun v3 σ3 hv3 => ?_)
  rcases hv3 with ⟨hz, rfl, rfl⟩ | ⟨hz, rfl, rfl⟩ | ⟨hz, rfl, rfl⟩
  · skip
    refine z_cv (st1 := [.int (-1000001)]) rfl rfl rfl ?_
    refine z_istore_n 6 C dX8_subtract_6 [(3, .int (-1000001)), (0, .ref (z_ad G 105)), (1, .int x), (2, .int y)] (by decide) rfl ?_
    refine z_iload_n 7 C dX8_subtract_7 0 rfl ?_
    refine z_if_ge 8 C 13 dX8_subtract_8 (by decide) (fun c8 => ?_) (fun c8 => ?_)
    · skip
      exact absurd c8 (by decide)
    · skip
      refine z_iload_n 11 C dX8_subtract_11 0 rfl ?_
      refine z_iret 12 C dX8_subtract_12 ?_
      have hnz : ¬ z_se P n x y = 0 := by rw [hz]; decide
      exact ⟨z_ci (by rw [if_pos hnz, hz]), by rw [if_pos hnz]⟩
  · skip
    refine z_cv (st1 := [.int (-1000002)]) rfl rfl rfl ?_
    refine z_istore_n 6 C dX8_subtract_6 [(3, .int (-1000002)), (0, .ref (z_ad G 105)), (1, .int x), (2, .int y)] (by decide) rfl ?_
    refine z_iload_n 7 C dX8_subtract_7 0 rfl ?_
    refine z_if_ge 8 C 13 dX8_subtract_8 (by decide) (fun c8 => ?_) (fun c8 => ?_)
    · skip
      exact absurd c8 (by decide)
    · skip
      refine z_iload_n 11 C dX8_subtract_11 0 rfl ?_
      refine z_iret 12 C dX8_subtract_12 ?_
      have hnz : ¬ z_se P n x y = 0 := by rw [hz]; decide
      exact ⟨z_ci (by rw [if_pos hnz, hz]), by rw [if_pos hnz]⟩
  · skip
    refine z_cv (st1 := [.int (nI 1)]) rfl rfl rfl ?_
    refine z_istore_n 6 C dX8_subtract_6 [(3, .int (nI 1)), (0, .ref (z_ad G 105)), (1, .int x), (2, .int y)] (by decide) rfl ?_
    refine z_iload_n 7 C dX8_subtract_7 0 rfl ?_
    refine z_if_ge 8 C 13 dX8_subtract_8 (by decide) (fun c8 => ?_) (fun c8 => ?_)
    · skip
      refine z_iconst 13 C dX8_subtract_13 (nI 0) rfl ?_
      refine z_istore 14 C dX8_subtract_14 [(4, .int (nI 0)), (3, .int (nI 1)), (0, .ref (z_ad G 105)), (1, .int x), (2, .int y)] (by decide) rfl ?_
      refine z_sub [2, 3, 4, 1, 0] (lv1 := [(0, .ref (z_ad G 105)), (1, .int x), (2, .int y), (3, .int (nI 1)), (4, .int (nI 0))]) rfl ?_
      refine z_cv (lv1 := [(0, .ref (z_ad G 105)), (1, .int x), (2, .int y), (3, .int (nI 1)), (4, .int (nI 0))]) (st1 := []) (σ1 := z_uL σ 109 (z_fil (z_sbt (σ.2 108) (z_src (σ.1 107) (σ.1 119) (z_shI (σ.1 119) 24) P (z_n x) (z_n y))) (z_fil (z_src (σ.1 107) (σ.1 119) (z_shI (σ.1 119) 24) P (z_n x) (z_n y)) (σ.2 109) 24) 0)) rfl rfl (by rw [z_fil_0]) ?_
      refine z_lp1 (fun (k : Nat) => k ≤ 24) (fun (k : Nat) => 24 - k) (fun (k : Nat) => [(0, .ref (z_ad G 105)), (1, .int x), (2, .int y), (3, .int (nI 1)), (4, .int (nI k))]) (fun (k : Nat) => z_uL σ 109 (z_fil (z_sbt (σ.2 108) (z_src (σ.1 107) (σ.1 119) (z_shI (σ.1 119) 24) P (z_n x) (z_n y))) (z_fil (z_src (σ.1 107) (σ.1 119) (z_shI (σ.1 119) 24) P (z_n x) (z_n y)) (σ.2 109) 24) k)) (fun k hi_16 ih_16 => ?_) 0 (by omega)
      try dsimp only
      refine z_iload 16 C dX8_subtract_16 4 rfl ?_
      refine z_bipush 18 C dX8_subtract_18 (nI 24) rfl ?_
      refine z_icmp_geN 20 C k 24 rfl rfl (by omega) (by omega) 51 dX8_subtract_20 (by decide) (fun c20 => ?_) (fun c20 => ?_)
      · skip
        have ek : k = 24 := by omega
        subst ek
        refine z_cv (lv1 := [(0, .ref (z_ad G 105)), (1, .int x), (2, .int y), (3, .int (nI 1)), (4, .int (nI 24))]) (st1 := []) (σ1 := z_uL σ 109 (z_fil (z_sbt (σ.2 108) (z_src (σ.1 107) (σ.1 119) (z_shI (σ.1 119) 24) P (z_n x) (z_n y))) (σ.2 109) 24)) rfl rfl (z_mix σ 109 _ _ _) ?_
        refine z_aload_n 51 C dX8_subtract_51 0 rfl ?_
        refine z_callV 52 C 105 (⟨rfl, rfl⟩) rfl (As := []) (rest := []) (m_X8_isTooFar (σ := z_uL σ 109 (z_fil (z_sbt (σ.2 108) (z_src (σ.1 107) (σ.1 119) (z_shI (σ.1 119) 24) P (z_n x) (z_n y))) (σ.2 109) 24)) P n u v w rc tl hM) k_X8_isTooFar q1224 ⟨rfl, rfl⟩ ⟨Nat.le_of_ble_eq_true rfl, Nat.le_of_ble_eq_true rfl⟩ rfl (Nat.le_of_ble_eq_true rfl) ⟨Nat.le_of_ble_eq_true rfl, Nat.le_of_ble_eq_true rfl⟩ rfl dX8_subtract_52 (z_k1 ?_)
        refine z_if_eqb 55 C 63 dX8_subtract_55 (by decide) (fun c55 => ?_) (fun c55 => ?_)
        · skip
          refine z_aload_n 63 C dX8_subtract_63 0 rfl ?_
          refine z_callV 64 C 105 (⟨rfl, rfl⟩) rfl (As := []) (rest := []) (m_X8_takes (σ := z_uL σ 109 (z_fil (z_sbt (σ.2 108) (z_src (σ.1 107) (σ.1 119) (z_shI (σ.1 119) 24) P (z_n x) (z_n y))) (σ.2 109) 24)) P n u v w rc tl hM) k_X8_takes q1174 ⟨rfl, rfl⟩ ⟨Nat.le_of_ble_eq_true rfl, Nat.le_of_ble_eq_true rfl⟩ rfl (Nat.le_of_ble_eq_true rfl) ⟨Nat.le_of_ble_eq_true rfl, Nat.le_of_ble_eq_true rfl⟩ rfl dX8_subtract_64 (z_k1 ?_)
          refine z_iret 67 C dX8_subtract_67 ?_
          have hz0 : ¬ ¬ z_se P n x y = 0 := fun z => z hz
          rw [zm_tgf] at c55
          first | exact ⟨z_ci (by rw [if_neg hz0, if_pos c55]), by rw [if_neg hz0, if_pos c55]⟩ | exact ⟨z_ci (by rw [if_neg hz0, if_neg c55] <;> rfl), by rw [if_neg hz0, if_neg c55] <;> rfl⟩
        · skip
          refine z_ldc 58 C dX8_subtract_58 q1064 ?_
          refine z_goto 60 C 67 dX8_subtract_60 (by decide) ?_
          refine z_iret 67 C dX8_subtract_67 ?_
          have hz0 : ¬ ¬ z_se P n x y = 0 := fun z => z hz
          rw [zm_tgf] at c55
          first | exact ⟨z_ci (by rw [if_neg hz0, if_pos c55]), by rw [if_neg hz0, if_pos c55]⟩ | exact ⟨z_ci (by rw [if_neg hz0, if_neg c55] <;> rfl), by rw [if_neg hz0, if_neg c55] <;> rfl⟩
      · skip
        refine z_aload_n 23 C dX8_subtract_23 0 rfl ?_
        refine z_getf 24 C 105 z_dX8 (⟨rfl, rfl⟩) 5 (by decide) q971 (.ref (z_ad G 109)) rfl dX8_subtract_24 ?_
        refine z_iload 27 C dX8_subtract_27 4 rfl ?_
        refine z_aload_n 29 C dX8_subtract_29 0 rfl ?_
        refine z_getf 30 C 105 z_dX8 (⟨rfl, rfl⟩) 4 (by decide) q970 (.ref (z_ad G 108)) rfl dX8_subtract_30 ?_
        refine z_iload 33 C dX8_subtract_33 4 rfl ?_
        refine z_laldN 35 C 108 (n := 24) (⟨rfl, rfl⟩) k rfl (by omega) (by decide) dX8_subtract_35 ?_
        refine z_cv (st1 := [.long (σ.2 108 k), .int (nI k), .ref (z_ad G 109)]) rfl rfl rfl ?_
        refine z_aload_n 36 C dX8_subtract_36 0 rfl ?_
        refine z_getf 37 C 105 z_dX8 (⟨rfl, rfl⟩) 5 (by decide) q971 (.ref (z_ad G 109)) rfl dX8_subtract_37 ?_
        refine z_iload 40 C dX8_subtract_40 4 rfl ?_
        refine z_laldN 42 C 109 (n := 24) (⟨rfl, rfl⟩) k rfl (by omega) (by decide) dX8_subtract_42 ?_
        refine z_cv (lv1 := [(0, .ref (z_ad G 105)), (1, .int x), (2, .int y), (3, .int (nI 1)), (4, .int (nI k))]) (st1 := [.long (z_src (σ.1 107) (σ.1 119) (z_shI (σ.1 119) 24) P (z_n x) (z_n y) k), .long (σ.2 108 k), .int (nI k), .ref (z_ad G 109)]) (σ1 := z_uL σ 109 (z_fil (z_sbt (σ.2 108) (z_src (σ.1 107) (σ.1 119) (z_shI (σ.1 119) 24) P (z_n x) (z_n y))) (z_fil (z_src (σ.1 107) (σ.1 119) (z_shI (σ.1 119) 24) P (z_n x) (z_n y)) (σ.2 109) 24) k)) rfl (by rw [z_uL2s, z_fil_ge (Nat.le_refl k), z_fil_lt c20]) rfl ?_
        refine z_lsub 43 C dX8_subtract_43 ?_
        refine z_lastN 44 C 109 (n := 24) (⟨rfl, rfl⟩) k rfl (by omega) (by decide) dX8_subtract_44 ?_
        refine z_iincN 45 C 4 k [(4, .int (nI (k + 1))), (0, .ref (z_ad G 105)), (1, .int x), (2, .int y), (3, .int (nI 1))] rfl rfl (by decide) rfl dX8_subtract_45 ?_
        refine z_goto 48 C 16 dX8_subtract_48 (by decide) ?_
        refine z_sub [1, 2, 3, 4, 0] (lv1 := [(0, .ref (z_ad G 105)), (1, .int x), (2, .int y), (3, .int (nI 1)), (4, .int (nI (k + 1)))]) rfl ?_
        refine z_cv (lv1 := [(0, .ref (z_ad G 105)), (1, .int x), (2, .int y), (3, .int (nI 1)), (4, .int (nI (k + 1)))]) (st1 := []) (σ1 := z_uL σ 109 (z_fil (z_sbt (σ.2 108) (z_src (σ.1 107) (σ.1 119) (z_shI (σ.1 119) 24) P (z_n x) (z_n y))) (z_fil (z_src (σ.1 107) (σ.1 119) (z_shI (σ.1 119) 24) P (z_n x) (z_n y)) (σ.2 109) 24) (k + 1))) rfl rfl (z_filSL σ 109 k _ _ rfl) ?_
        exact ih_16 (k + 1) (by omega) (by omega)
    · skip
      exact absurd c8 (by decide)
