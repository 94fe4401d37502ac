/-! THE REFERENCE: traces -/
def zm_hq (h : Nat → Int32) : Nat → Int64
  | 0 => 0
  | i + 1 => zm_hq h i + (h i * h i).toInt64
def zm_den (h : Nat → Int32) (w : Nat) : Int64 := lN w * zm_hq h w - z_hs h w * z_hs h w
def zm_ax (h : Nat → Int32) (x : Nat → Int64) (w : Nat) (t : Int32) : Int64 := z_fd (zm_hq h w * z_xs x w - z_hs h w * z_hx h x w + t.toInt64 * (lN w * z_hx h x w - z_hs h w * z_xs x w)) (zm_den h w)
/-- the traces' coefficients, out of the one row that holds them -/
def zm_x (T : Nat → Int64) (t : Nat) : Nat → Int64 := fun i => z_cf (z_sh T (24 * i)) t 1
def zm_m (T : Nat → Int64) : Nat → Int64 := fun i => z_cf (z_sh T (24 * i)) 0 0
def zm_far (h : Nat → Int32) (T : Nat → Int64) (w i : Nat) : Int64 := z_ab (zm_x T 0 i - zm_ax h (zm_x T 0) w (h i)) + z_ab (zm_x T 1 i - zm_ax h (zm_x T 1) w (h i))
def zm_hi (D : Nat → Int64) : Nat → Int64
  | 0 => 0
  | k + 1 => if k = 0 ∨ zm_hi D k < D k then D k else zm_hi D k
theorem zm_hi1 {D : Nat → Int64} {k : Nat} (h : k = 0 ∨ zm_hi D k < D k) : zm_hi D (k + 1) = D k := if_pos h
theorem zm_hi0 {D : Nat → Int64} {k : Nat} (h0 : ¬ k = 0) (h : D k ≤ zm_hi D k) : zm_hi D (k + 1) = zm_hi D k := if_neg (fun z => z.elim h0 (Int64.not_lt.mpr h))
def zm_cd (h : Nat → Int32) (T : Nat → Int64) (w i : Nat) : Nat → Int64 := z_df (z_sh T (24 * i)) (zm_ax h (zm_x T 0) w (h i)) (zm_ax h (zm_x T 1) w (h i))
def zm_fH (h : Nat → Int32) (T : Nat → Int64) (w i : Nat) : Int64 := z_fmx (zm_cd h T w i) (-9223372036854775808) 24
def zm_fL (h : Nat → Int32) (T : Nat → Int64) (w i : Nat) : Int64 := z_fmn (zm_cd h T w i) 9223372036854775807 24
theorem zm_bm_lt (f : Nat → Int64) : ∀ n, z_bm f (n + 1) ≤ n
  | 0 => by show (if f 0 < f 0 then 0 else 0) ≤ 0; split <;> exact Nat.le_refl 0
  | n + 1 => by
    have := zm_bm_lt f n
    rw [z_bm]
    split <;> omega
theorem zm_bm_l (f : Nat → Int64) {k : Nat} (h : 1 ≤ k) : z_bm f k < k := by
  obtain ⟨n, rfl⟩ : ∃ n, k = n + 1 := ⟨k - 1, by omega⟩
  have := zm_bm_lt f n
  omega
theorem zm_bl_lt (f : Nat → Int64) : ∀ n, z_bl f (n + 1) ≤ n
  | 0 => by show (if f 0 < f 0 then 0 else 0) ≤ 0; split <;> exact Nat.le_refl 0
  | n + 1 => by
    have := zm_bl_lt f n
    rw [z_bl]
    split <;> omega
theorem zm_bl_l (f : Nat → Int64) {k : Nat} (h : 1 ≤ k) : z_bl f k < k := by
  obtain ⟨n, rfl⟩ : ∃ n, k = n + 1 := ⟨k - 1, by omega⟩
  have := zm_bl_lt f n
  omega
theorem zm_put1 {σ : z_St} {a : Nat} {X X1 : Nat → Int64} {i : Nat} {x : Int64} (hP : vp_updL X i x = X1) : z_ul (z_uL σ a X) a i x = z_uL σ a X1 := by
  rw [← hP]
  unfold z_ul z_uL
  refine Prod.ext rfl ?_
  funext b
  by_cases h : b = a
  · subst h; simp
  · simp [h]
theorem dX8_storeTrace_0 : decode cX8_storeTrace 0 = .ok (.iload_n 1, 1) := by decide +kernel
theorem dX8_storeTrace_1 : decode cX8_storeTrace 1 = .ok (.i2l, 1) := by decide +kernel
theorem dX8_storeTrace_2 : decode cX8_storeTrace 2 = .ok (.lconst 0, 1) := by decide +kernel
theorem dX8_storeTrace_3 : decode cX8_storeTrace 3 = .ok (.ldc2_w 264, 3) := by decide +kernel
theorem dX8_storeTrace_6 : decode cX8_storeTrace 6 = .ok (.invokestatic 68, 3) := by decide +kernel
theorem dX8_storeTrace_9 : decode cX8_storeTrace 9 = .ok (.ifCond .ne 6, 3) := by decide +kernel
theorem dX8_storeTrace_12 : decode cX8_storeTrace 12 = .ok (.ldc 87, 2) := by decide +kernel
theorem dX8_storeTrace_14 : decode cX8_storeTrace 14 = .ok (.ireturn, 1) := by decide +kernel
theorem dX8_storeTrace_15 : decode cX8_storeTrace 15 = .ok (.iconst 0, 1) := by decide +kernel
theorem dX8_storeTrace_16 : decode cX8_storeTrace 16 = .ok (.istore_n 2, 1) := by decide +kernel
theorem dX8_storeTrace_17 : decode cX8_storeTrace 17 = .ok (.iload_n 2, 1) := by decide +kernel
theorem dX8_storeTrace_18 : decode cX8_storeTrace 18 = .ok (.aload_n 0, 1) := by decide +kernel
theorem dX8_storeTrace_19 : decode cX8_storeTrace 19 = .ok (.getfield 261, 3) := by decide +kernel
theorem dX8_storeTrace_22 : decode cX8_storeTrace 22 = .ok (.if_icmp .ge 22, 3) := by decide +kernel
theorem dX8_storeTrace_25 : decode cX8_storeTrace 25 = .ok (.aload_n 0, 1) := by decide +kernel
theorem dX8_storeTrace_26 : decode cX8_storeTrace 26 = .ok (.getfield 47, 3) := by decide +kernel
theorem dX8_storeTrace_29 : decode cX8_storeTrace 29 = .ok (.iload_n 2, 1) := by decide +kernel
theorem dX8_storeTrace_30 : decode cX8_storeTrace 30 = .ok (.iaload, 1) := by decide +kernel
theorem dX8_storeTrace_31 : decode cX8_storeTrace 31 = .ok (.iload_n 1, 1) := by decide +kernel
theorem dX8_storeTrace_32 : decode cX8_storeTrace 32 = .ok (.if_icmp .ne 6, 3) := by decide +kernel
theorem dX8_storeTrace_35 : decode cX8_storeTrace 35 = .ok (.ldc 87, 2) := by decide +kernel
theorem dX8_storeTrace_37 : decode cX8_storeTrace 37 = .ok (.ireturn, 1) := by decide +kernel
theorem dX8_storeTrace_38 : decode cX8_storeTrace 38 = .ok (.iinc 2 1, 3) := by decide +kernel
theorem dX8_storeTrace_41 : decode cX8_storeTrace 41 = .ok (.goto (-24), 3) := by decide +kernel
theorem dX8_storeTrace_44 : decode cX8_storeTrace 44 = .ok (.aload_n 0, 1) := by decide +kernel
theorem dX8_storeTrace_45 : decode cX8_storeTrace 45 = .ok (.getfield 261, 3) := by decide +kernel
theorem dX8_storeTrace_48 : decode cX8_storeTrace 48 = .ok (.bipush 6, 2) := by decide +kernel
theorem dX8_storeTrace_50 : decode cX8_storeTrace 50 = .ok (.if_icmp .ne 7, 3) := by decide +kernel
theorem dX8_storeTrace_53 : decode cX8_storeTrace 53 = .ok (.ldc_w 266, 3) := by decide +kernel
theorem dX8_storeTrace_56 : decode cX8_storeTrace 56 = .ok (.ireturn, 1) := by decide +kernel
theorem dX8_storeTrace_57 : decode cX8_storeTrace 57 = .ok (.iconst 0, 1) := by decide +kernel
theorem dX8_storeTrace_58 : decode cX8_storeTrace 58 = .ok (.istore_n 2, 1) := by decide +kernel
theorem dX8_storeTrace_59 : decode cX8_storeTrace 59 = .ok (.iload_n 2, 1) := by decide +kernel
theorem dX8_storeTrace_60 : decode cX8_storeTrace 60 = .ok (.bipush 24, 2) := by decide +kernel
theorem dX8_storeTrace_62 : decode cX8_storeTrace 62 = .ok (.if_icmp .ge 29, 3) := by decide +kernel
theorem dX8_storeTrace_65 : decode cX8_storeTrace 65 = .ok (.aload_n 0, 1) := by decide +kernel
theorem dX8_storeTrace_66 : decode cX8_storeTrace 66 = .ok (.getfield 44, 3) := by decide +kernel
theorem dX8_storeTrace_69 : decode cX8_storeTrace 69 = .ok (.bipush 24, 2) := by decide +kernel
theorem dX8_storeTrace_71 : decode cX8_storeTrace 71 = .ok (.aload_n 0, 1) := by decide +kernel
theorem dX8_storeTrace_72 : decode cX8_storeTrace 72 = .ok (.getfield 261, 3) := by decide +kernel
theorem dX8_storeTrace_75 : decode cX8_storeTrace 75 = .ok (.imul, 1) := by decide +kernel
theorem dX8_storeTrace_76 : decode cX8_storeTrace 76 = .ok (.iload_n 2, 1) := by decide +kernel
theorem dX8_storeTrace_77 : decode cX8_storeTrace 77 = .ok (.iadd, 1) := by decide +kernel
theorem dX8_storeTrace_78 : decode cX8_storeTrace 78 = .ok (.aload_n 0, 1) := by decide +kernel
theorem dX8_storeTrace_79 : decode cX8_storeTrace 79 = .ok (.getfield 22, 3) := by decide +kernel
theorem dX8_storeTrace_82 : decode cX8_storeTrace 82 = .ok (.iload_n 2, 1) := by decide +kernel
theorem dX8_storeTrace_83 : decode cX8_storeTrace 83 = .ok (.laload, 1) := by decide +kernel
theorem dX8_storeTrace_84 : decode cX8_storeTrace 84 = .ok (.lastore, 1) := by decide +kernel
theorem dX8_storeTrace_85 : decode cX8_storeTrace 85 = .ok (.iinc 2 1, 3) := by decide +kernel
theorem dX8_storeTrace_88 : decode cX8_storeTrace 88 = .ok (.goto (-29), 3) := by decide +kernel
theorem dX8_storeTrace_91 : decode cX8_storeTrace 91 = .ok (.aload_n 0, 1) := by decide +kernel
theorem dX8_storeTrace_92 : decode cX8_storeTrace 92 = .ok (.getfield 47, 3) := by decide +kernel
theorem dX8_storeTrace_95 : decode cX8_storeTrace 95 = .ok (.aload_n 0, 1) := by decide +kernel
theorem dX8_storeTrace_96 : decode cX8_storeTrace 96 = .ok (.getfield 261, 3) := by decide +kernel
theorem dX8_storeTrace_99 : decode cX8_storeTrace 99 = .ok (.iload_n 1, 1) := by decide +kernel
theorem dX8_storeTrace_100 : decode cX8_storeTrace 100 = .ok (.iastore, 1) := by decide +kernel
theorem dX8_storeTrace_101 : decode cX8_storeTrace 101 = .ok (.aload_n 0, 1) := by decide +kernel
theorem dX8_storeTrace_102 : decode cX8_storeTrace 102 = .ok (.dup, 1) := by decide +kernel
theorem dX8_storeTrace_103 : decode cX8_storeTrace 103 = .ok (.getfield 261, 3) := by decide +kernel
theorem dX8_storeTrace_106 : decode cX8_storeTrace 106 = .ok (.iconst 1, 1) := by decide +kernel
theorem dX8_storeTrace_107 : decode cX8_storeTrace 107 = .ok (.iadd, 1) := by decide +kernel
theorem dX8_storeTrace_108 : decode cX8_storeTrace 108 = .ok (.putfield 261, 3) := by decide +kernel
theorem dX8_storeTrace_111 : decode cX8_storeTrace 111 = .ok (.aload_n 0, 1) := by decide +kernel
theorem dX8_storeTrace_112 : decode cX8_storeTrace 112 = .ok (.getfield 261, 3) := by decide +kernel
theorem dX8_storeTrace_115 : decode cX8_storeTrace 115 = .ok (.iconst 1, 1) := by decide +kernel
theorem dX8_storeTrace_116 : decode cX8_storeTrace 116 = .ok (.isub, 1) := by decide +kernel
theorem dX8_storeTrace_117 : decode cX8_storeTrace 117 = .ok (.ireturn, 1) := by decide +kernel
set_option maxRecDepth 100000 in
set_option maxHeartbeats 4000000 in
theorem m_X8_storeTrace {l : Launch} {G : z_Gl} {σ : z_St} (P n u v w rc tl : Nat) (hM : z_mi σ P n u v w rc tl) (x : Int32) : z_M l G yX8_storeTrace cX8_storeTrace 3 (some .int) (z_rm 1 25) [.ref (z_ad G 105), .int x] σ (z_p1 (.int (if x < nI 0 ∨ nI 100 < x then (-1000001) else if ¬ ∀ j, j < w → ¬ σ.1 116 j = x then (-1000001) else if w = 6 then (-1000004) else nI w)) (if x < nI 0 ∨ nI 100 < x then σ else if ¬ ∀ j, j < w → ¬ σ.1 116 j = x then σ else if w = 6 then σ else z_ui (z_ui (z_uL σ 115 (fb_put (σ.2 115) (σ.2 108) (24 * w) 24)) 116 w x) 105 17 (nI (w + 1)))) := by
  refine z_M.of (by decide) (Nat.le_of_ble_eq_true rfl) (fun p e s m below meth c C => ?_)
  refine z_sub [0, 1] (lv1 := [(0, .ref (z_ad G 105)), (1, .int x)]) rfl ?_
  have hM0 := hM
  obtain ⟨⟨hP, hn, hu, hv, hw, hrc, htl⟩, hPs, hnP, huv, hw6, hrc8, htl2, hqt, hah⟩ := hM0
  have h0 : 0 < P := by omega
  have h12 : P ≤ 12 := by omega
  have h288 : n ≤ 288 := by omega
  refine z_iload_n 0 C dX8_storeTrace_0 1 rfl ?_
  refine z_i2l 1 C dX8_storeTrace_1 ?_
  refine z_lconst 2 C dX8_storeTrace_2 0 rfl ?_
  refine z_ldc2 3 C dX8_storeTrace_3 q1335 ?_
  refine z_callS 6 C (As := [.long (Int32.toInt64 x), .long 0, .long 100]) (rest := []) (m_X8_in_i x (nI 0) (nI 100) (by decide) (by decide)) k_X8_in q1071 ⟨rfl, rfl⟩ ⟨Nat.le_of_ble_eq_true rfl, Nat.le_of_ble_eq_true rfl⟩ rfl (Nat.le_of_ble_eq_true rfl) ⟨Nat.le_of_ble_eq_true rfl, Nat.le_of_ble_eq_true rfl⟩ rfl dX8_storeTrace_6 (z_k1 ?_)
  refine z_if_neb 9 C 15 dX8_storeTrace_9 (by decide) (fun c9 => ?_) (fun c9 => ?_)
  · skip
    refine z_iconst 15 C dX8_storeTrace_15 (nI 0) rfl ?_
    refine z_istore_n 16 C dX8_storeTrace_16 [(2, .int (nI 0)), (0, .ref (z_ad G 105)), (1, .int x)] (by decide) rfl ?_
    refine z_sub [1, 2, 0] (lv1 := [(0, .ref (z_ad G 105)), (1, .int x), (2, .int (nI 0))]) rfl ?_
    refine z_cv (lv1 := [(0, .ref (z_ad G 105)), (1, .int x), (2, .int (nI 0))]) (st1 := []) (σ1 := σ) rfl rfl rfl ?_
    refine z_lp1 (fun (k : Nat) => k ≤ w ∧ ∀ j, j < k → ¬ σ.1 116 j = x) (fun (k : Nat) => w - k) (fun (k : Nat) => [(0, .ref (z_ad G 105)), (1, .int x), (2, .int (nI k))]) (fun (k : Nat) => σ) (fun k hi_17 ih_17 => ?_) 0 (⟨by omega, fun j h => absurd h (Nat.not_lt_zero j)⟩)
    try dsimp only
    obtain ⟨hk, hj⟩ := hi_17
    refine z_iload_n 17 C dX8_storeTrace_17 2 rfl ?_
    refine z_aload_n 18 C dX8_storeTrace_18 0 rfl ?_
    refine z_getf 19 C 105 z_dX8 (⟨rfl, rfl⟩) 17 (by decide) q983 (.int (nI w)) (z_ci hw) dX8_storeTrace_19 ?_
    refine z_icmp_geN 22 C k w rfl rfl (by omega) (by omega) 44 dX8_storeTrace_22 (by decide) (fun c22 => ?_) (fun c22 => ?_)
    · skip
      have ek : w = k := by omega
      subst ek
      refine z_aload_n 44 C dX8_storeTrace_44 0 rfl ?_
      refine z_getf 45 C 105 z_dX8 (⟨rfl, rfl⟩) 17 (by decide) q983 (.int (nI w)) (z_ci hw) dX8_storeTrace_45 ?_
      refine z_bipush 48 C dX8_storeTrace_48 (nI 6) rfl ?_
      refine z_icmp_neN 50 C w 6 rfl rfl (by omega) (by omega) 57 dX8_storeTrace_50 (by decide) (fun c50 => ?_) (fun c50 => ?_)
      · skip
        refine z_iconst 57 C dX8_storeTrace_57 (nI 0) rfl ?_
        refine z_istore_n 58 C dX8_storeTrace_58 [(2, .int (nI 0)), (0, .ref (z_ad G 105)), (1, .int x)] (by decide) rfl ?_
        refine z_sub [1, 2, 0] (lv1 := [(0, .ref (z_ad G 105)), (1, .int x), (2, .int (nI 0))]) rfl ?_
        refine z_cv (lv1 := [(0, .ref (z_ad G 105)), (1, .int x), (2, .int (nI 0))]) (st1 := []) (σ1 := z_uL σ 115 (fb_put (σ.2 115) (σ.2 108) (24 * w) 0)) rfl rfl (by rw [fb_put_0, z_uL_same]) ?_
        refine z_lp1 (fun (k : Nat) => k ≤ 24) (fun (k : Nat) => 24 - k) (fun (k : Nat) => [(0, .ref (z_ad G 105)), (1, .int x), (2, .int (nI k))]) (fun (k : Nat) => z_uL σ 115 (fb_put (σ.2 115) (σ.2 108) (24 * w) k)) (fun k hi_59 ih_59 => ?_) 0 (by omega)
        try dsimp only
        refine z_iload_n 59 C dX8_storeTrace_59 2 rfl ?_
        refine z_bipush 60 C dX8_storeTrace_60 (nI 24) rfl ?_
        refine z_icmp_geN 62 C k 24 rfl rfl (by omega) (by omega) 91 dX8_storeTrace_62 (by decide) (fun c62 => ?_) (fun c62 => ?_)
        · skip
          have ek : k = 24 := by omega
          subst ek
          refine z_aload_n 91 C dX8_storeTrace_91 0 rfl ?_
          refine z_getf 92 C 105 z_dX8 (⟨rfl, rfl⟩) 19 (by decide) q985 (.ref (z_ad G 116)) rfl dX8_storeTrace_92 ?_
          refine z_aload_n 95 C dX8_storeTrace_95 0 rfl ?_
          refine z_getf 96 C 105 z_dX8 (⟨rfl, rfl⟩) 17 (by decide) q983 (.int (nI w)) (z_ci hw) dX8_storeTrace_96 ?_
          refine z_iload_n 99 C dX8_storeTrace_99 1 rfl ?_
          refine z_iastN 100 C 116 (n := 6) (⟨rfl, rfl⟩) w rfl (by omega) (by decide) dX8_storeTrace_100 ?_
          refine z_aload_n 101 C dX8_storeTrace_101 0 rfl ?_
          refine z_dup 102 C dX8_storeTrace_102 rfl ?_
          refine z_getf 103 C 105 z_dX8 (⟨rfl, rfl⟩) 17 (by decide) q983 (.int (nI w)) (z_ci hw) dX8_storeTrace_103 ?_
          refine z_iconst 106 C dX8_storeTrace_106 (nI 1) rfl ?_
          refine z_iaddN 107 C w 1 rfl rfl dX8_storeTrace_107 ?_
          refine z_puti 108 C 105 z_dX8 (⟨rfl, rfl⟩) 17 (by decide) q983 rfl (rfl) rfl ⟨Nat.le_of_ble_eq_true rfl, rfl⟩ dX8_storeTrace_108 ?_
          refine z_aload_n 111 C dX8_storeTrace_111 0 rfl ?_
          refine z_getf 112 C 105 z_dX8 (⟨rfl, rfl⟩) 17 (by decide) q983 (.int (nI (w + 1))) rfl dX8_storeTrace_112 ?_
          refine z_iconst 115 C dX8_storeTrace_115 (nI 1) rfl ?_
          refine z_isubN 116 C (w + 1) 1 rfl rfl (by omega) dX8_storeTrace_116 ?_
          refine z_iret 117 C dX8_storeTrace_117 ?_
          exact ⟨z_ci (by rw [if_neg c9, if_neg (fun z => z hj), if_neg c50]; rfl), by rw [if_neg c9, if_neg (fun z => z hj), if_neg c50]⟩
        · skip
          refine z_aload_n 65 C dX8_storeTrace_65 0 rfl ?_
          refine z_getf 66 C 105 z_dX8 (⟨rfl, rfl⟩) 18 (by decide) q984 (.ref (z_ad G 115)) rfl dX8_storeTrace_66 ?_
          refine z_bipush 69 C dX8_storeTrace_69 (nI 24) rfl ?_
          refine z_aload_n 71 C dX8_storeTrace_71 0 rfl ?_
          refine z_getf 72 C 105 z_dX8 (⟨rfl, rfl⟩) 17 (by decide) q983 (.int (nI w)) (z_ci hw) dX8_storeTrace_72 ?_
          refine z_imulN 75 C 24 w rfl rfl dX8_storeTrace_75 ?_
          refine z_iload_n 76 C dX8_storeTrace_76 2 rfl ?_
          refine z_iaddN 77 C (24 * w) k rfl rfl dX8_storeTrace_77 ?_
          refine z_aload_n 78 C dX8_storeTrace_78 0 rfl ?_
          refine z_getf 79 C 105 z_dX8 (⟨rfl, rfl⟩) 4 (by decide) q970 (.ref (z_ad G 108)) rfl dX8_storeTrace_79 ?_
          refine z_iload_n 82 C dX8_storeTrace_82 2 rfl ?_
          refine z_laldN 83 C 108 (n := 24) (⟨rfl, rfl⟩) k rfl (by omega) (by decide) dX8_storeTrace_83 ?_
          refine z_cv (st1 := [.long (σ.2 108 k), .int (nI ((24 * w) + k)), .ref (z_ad G 115)]) rfl rfl rfl ?_
          refine z_lastN 84 C 115 (n := 144) (⟨rfl, rfl⟩) ((24 * w) + k) rfl (by omega) (by decide) dX8_storeTrace_84 ?_
          refine z_iincN 85 C 2 k [(2, .int (nI (k + 1))), (0, .ref (z_ad G 105)), (1, .int x)] rfl rfl (by decide) rfl dX8_storeTrace_85 ?_
          refine z_goto 88 C 59 dX8_storeTrace_88 (by decide) ?_
          refine z_sub [1, 2, 0] (lv1 := [(0, .ref (z_ad G 105)), (1, .int x), (2, .int (nI (k + 1)))]) rfl ?_
          refine z_cv (lv1 := [(0, .ref (z_ad G 105)), (1, .int x), (2, .int (nI (k + 1)))]) (st1 := []) (σ1 := z_uL σ 115 (fb_put (σ.2 115) (σ.2 108) (24 * w) (k + 1))) rfl rfl (zm_put1 fb_putL) ?_
          exact ih_59 (k + 1) (by omega) (by omega)
      · skip
        refine z_ldcw 53 C dX8_storeTrace_53 q1336 ?_
        refine z_iret 56 C dX8_storeTrace_56 ?_
        exact ⟨z_ci (by rw [if_neg c9, if_neg (fun z => z hj), if_pos c50]), by rw [if_neg c9, if_neg (fun z => z hj), if_pos c50]⟩
    · skip
      refine z_aload_n 25 C dX8_storeTrace_25 0 rfl ?_
      refine z_getf 26 C 105 z_dX8 (⟨rfl, rfl⟩) 19 (by decide) q985 (.ref (z_ad G 116)) rfl dX8_storeTrace_26 ?_
      refine z_iload_n 29 C dX8_storeTrace_29 2 rfl ?_
      refine z_ialdN 30 C 116 (n := 6) (⟨rfl, rfl⟩) k rfl (by omega) (by decide) dX8_storeTrace_30 ?_
      refine z_iload_n 31 C dX8_storeTrace_31 1 rfl ?_
      refine z_icmp_ne 32 C 38 dX8_storeTrace_32 (by decide) (fun c32 => ?_) (fun c32 => ?_)
      · skip
        refine z_iincN 38 C 2 k [(2, .int (nI (k + 1))), (0, .ref (z_ad G 105)), (1, .int x)] rfl rfl (by decide) rfl dX8_storeTrace_38 ?_
        refine z_goto 41 C 17 dX8_storeTrace_41 (by decide) ?_
        refine z_sub [1, 2, 0] (lv1 := [(0, .ref (z_ad G 105)), (1, .int x), (2, .int (nI (k + 1)))]) rfl ?_
        refine z_cv (lv1 := [(0, .ref (z_ad G 105)), (1, .int x), (2, .int (nI (k + 1)))]) (st1 := []) (σ1 := σ) rfl rfl rfl ?_
        exact ih_17 (k + 1) (⟨by omega, lt_s hj c32⟩) (by omega)
      · skip
        refine z_ldc 35 C dX8_storeTrace_35 q1064 ?_
        refine z_iret 37 C dX8_storeTrace_37 ?_
        exact ⟨z_ci (by rw [if_neg c9, if_pos (fun z => z k c22 c32)]), by rw [if_neg c9, if_pos (fun z => z k c22 c32)]⟩
  · skip
    replace c9 := Classical.not_not.mp c9
    refine z_ldc 12 C dX8_storeTrace_12 q1064 ?_
    refine z_iret 14 C dX8_storeTrace_14 ?_
    exact ⟨z_ci (by rw [if_pos c9]), by rw [if_pos c9]⟩
theorem dX8_removeTraces_0 : decode cX8_removeTraces 0 = .ok (.iload_n 1, 1) := by decide +kernel
theorem dX8_removeTraces_1 : decode cX8_removeTraces 1 = .ok (.i2l, 1) := by decide +kernel
theorem dX8_removeTraces_2 : decode cX8_removeTraces 2 = .ok (.lconst 0, 1) := by decide +kernel
theorem dX8_removeTraces_3 : decode cX8_removeTraces 3 = .ok (.aload_n 0, 1) := by decide +kernel
theorem dX8_removeTraces_4 : decode cX8_removeTraces 4 = .ok (.getfield 261, 3) := by decide +kernel
theorem dX8_removeTraces_7 : decode cX8_removeTraces 7 = .ok (.i2l, 1) := by decide +kernel
theorem dX8_removeTraces_8 : decode cX8_removeTraces 8 = .ok (.invokestatic 68, 3) := by decide +kernel
theorem dX8_removeTraces_11 : decode cX8_removeTraces 11 = .ok (.ifCond .ne 6, 3) := by decide +kernel
theorem dX8_removeTraces_14 : decode cX8_removeTraces 14 = .ok (.ldc 87, 2) := by decide +kernel
theorem dX8_removeTraces_16 : decode cX8_removeTraces 16 = .ok (.ireturn, 1) := by decide +kernel
theorem dX8_removeTraces_17 : decode cX8_removeTraces 17 = .ok (.aload_n 0, 1) := by decide +kernel
theorem dX8_removeTraces_18 : decode cX8_removeTraces 18 = .ok (.dup, 1) := by decide +kernel
theorem dX8_removeTraces_19 : decode cX8_removeTraces 19 = .ok (.getfield 261, 3) := by decide +kernel
theorem dX8_removeTraces_22 : decode cX8_removeTraces 22 = .ok (.iload_n 1, 1) := by decide +kernel
theorem dX8_removeTraces_23 : decode cX8_removeTraces 23 = .ok (.isub, 1) := by decide +kernel
theorem dX8_removeTraces_24 : decode cX8_removeTraces 24 = .ok (.putfield 261, 3) := by decide +kernel
theorem dX8_removeTraces_27 : decode cX8_removeTraces 27 = .ok (.aload_n 0, 1) := by decide +kernel
theorem dX8_removeTraces_28 : decode cX8_removeTraces 28 = .ok (.getfield 261, 3) := by decide +kernel
theorem dX8_removeTraces_31 : decode cX8_removeTraces 31 = .ok (.ireturn, 1) := by decide +kernel
set_option maxRecDepth 100000 in
set_option maxHeartbeats 4000000 in
theorem m_X8_removeTraces {l : Launch} {G : z_Gl} {σ : z_St} (P n u v w rc tl : Nat) (hM : z_mi σ P n u v w rc tl) (x : Int32) : z_M l G yX8_removeTraces cX8_removeTraces 2 (some .int) (z_rm 1 25) [.ref (z_ad G 105), .int x] σ (z_p1 (.int (if x < nI 0 ∨ nI w < x then (-1000001) else nI (w - z_n x))) (if x < nI 0 ∨ nI w < x then σ else z_ui σ 105 17 (nI (w - z_n x)))) := by
  refine z_M.of (by decide) (Nat.le_of_ble_eq_true rfl) (fun p e s m below meth c C => ?_)
  refine z_sub [0, 1] (lv1 := [(0, .ref (z_ad G 105)), (1, .int x)]) rfl ?_
  have hM0 := hM
  obtain ⟨⟨hP, hn, hu, hv, hw, hrc, htl⟩, hPs, hnP, huv, hw6, hrc8, htl2, hqt, hah⟩ := hM0
  have h0 : 0 < P := by omega
  have h12 : P ≤ 12 := by omega
  have h288 : n ≤ 288 := by omega
  refine z_iload_n 0 C dX8_removeTraces_0 1 rfl ?_
  refine z_i2l 1 C dX8_removeTraces_1 ?_
  refine z_lconst 2 C dX8_removeTraces_2 0 rfl ?_
  refine z_aload_n 3 C dX8_removeTraces_3 0 rfl ?_
  refine z_getf 4 C 105 z_dX8 (⟨rfl, rfl⟩) 17 (by decide) q983 (.int (nI w)) (z_ci hw) dX8_removeTraces_4 ?_
  refine z_i2l 7 C dX8_removeTraces_7 ?_
  refine z_callS 8 C (As := [.long (Int32.toInt64 x), .long 0, .long (Int32.toInt64 (nI w))]) (rest := []) (m_X8_in_i x (nI 0) (nI w) (by decide) (rfl)) k_X8_in q1071 ⟨rfl, rfl⟩ ⟨Nat.le_of_ble_eq_true rfl, Nat.le_of_ble_eq_true rfl⟩ rfl (Nat.le_of_ble_eq_true rfl) ⟨Nat.le_of_ble_eq_true rfl, Nat.le_of_ble_eq_true rfl⟩ rfl dX8_removeTraces_8 (z_k1 ?_)
  refine z_if_neb 11 C 17 dX8_removeTraces_11 (by decide) (fun c11 => ?_) (fun c11 => ?_)
  · skip
    obtain ⟨a, ha, rfl⟩ := z_in0 (by omega) c11
    refine z_aload_n 17 C dX8_removeTraces_17 0 rfl ?_
    refine z_dup 18 C dX8_removeTraces_18 rfl ?_
    refine z_getf 19 C 105 z_dX8 (⟨rfl, rfl⟩) 17 (by decide) q983 (.int (nI w)) (z_ci hw) dX8_removeTraces_19 ?_
    refine z_iload_n 22 C dX8_removeTraces_22 1 rfl ?_
    refine z_isubN 23 C w a rfl rfl (ha) dX8_removeTraces_23 ?_
    refine z_puti 24 C 105 z_dX8 (⟨rfl, rfl⟩) 17 (by decide) q983 rfl (rfl) rfl ⟨Nat.le_of_ble_eq_true rfl, rfl⟩ dX8_removeTraces_24 ?_
    refine z_aload_n 27 C dX8_removeTraces_27 0 rfl ?_
    refine z_getf 28 C 105 z_dX8 (⟨rfl, rfl⟩) 17 (by decide) q983 (.int (nI (w - a))) rfl dX8_removeTraces_28 ?_
    refine z_iret 31 C dX8_removeTraces_31 ?_
    refine ⟨?_, ?_⟩
    · (rw [if_neg (c11), z_nk (by omega)]) <;> (try rfl)
    · first | rfl | ((rw [if_neg (c11), z_nk (by omega)]) <;> (try rfl))
  · skip
    replace c11 := Classical.not_not.mp c11
    refine z_ldc 14 C dX8_removeTraces_14 q1064 ?_
    refine z_iret 16 C dX8_removeTraces_16 ?_
    refine ⟨?_, ?_⟩
    · (rw [if_pos (c11)]) <;> (try rfl)
    · first | rfl | ((rw [if_pos (c11)]) <;> (try rfl))
theorem dX8_recall_0 : decode cX8_recall 0 = .ok (.aload_n 0, 1) := by decide +kernel
theorem dX8_recall_1 : decode cX8_recall 1 = .ok (.iload_n 1, 1) := by decide +kernel
theorem dX8_recall_2 : decode cX8_recall 2 = .ok (.invokevirtual 267, 3) := by decide +kernel
theorem dX8_recall_5 : decode cX8_recall 5 = .ok (.ifCond .eq 6, 3) := by decide +kernel
theorem dX8_recall_8 : decode cX8_recall 8 = .ok (.ldc 87, 2) := by decide +kernel
theorem dX8_recall_10 : decode cX8_recall 10 = .ok (.ireturn, 1) := by decide +kernel
theorem dX8_recall_11 : decode cX8_recall 11 = .ok (.iconst 0, 1) := by decide +kernel
theorem dX8_recall_12 : decode cX8_recall 12 = .ok (.istore_n 2, 1) := by decide +kernel
theorem dX8_recall_13 : decode cX8_recall 13 = .ok (.iload_n 2, 1) := by decide +kernel
theorem dX8_recall_14 : decode cX8_recall 14 = .ok (.bipush 24, 2) := by decide +kernel
theorem dX8_recall_16 : decode cX8_recall 16 = .ok (.if_icmp .ge 26, 3) := by decide +kernel
theorem dX8_recall_19 : decode cX8_recall 19 = .ok (.aload_n 0, 1) := by decide +kernel
theorem dX8_recall_20 : decode cX8_recall 20 = .ok (.getfield 26, 3) := by decide +kernel
theorem dX8_recall_23 : decode cX8_recall 23 = .ok (.iload_n 2, 1) := by decide +kernel
theorem dX8_recall_24 : decode cX8_recall 24 = .ok (.aload_n 0, 1) := by decide +kernel
theorem dX8_recall_25 : decode cX8_recall 25 = .ok (.getfield 44, 3) := by decide +kernel
theorem dX8_recall_28 : decode cX8_recall 28 = .ok (.bipush 24, 2) := by decide +kernel
theorem dX8_recall_30 : decode cX8_recall 30 = .ok (.iload_n 1, 1) := by decide +kernel
theorem dX8_recall_31 : decode cX8_recall 31 = .ok (.imul, 1) := by decide +kernel
theorem dX8_recall_32 : decode cX8_recall 32 = .ok (.iload_n 2, 1) := by decide +kernel
theorem dX8_recall_33 : decode cX8_recall 33 = .ok (.iadd, 1) := by decide +kernel
theorem dX8_recall_34 : decode cX8_recall 34 = .ok (.laload, 1) := by decide +kernel
theorem dX8_recall_35 : decode cX8_recall 35 = .ok (.lastore, 1) := by decide +kernel
theorem dX8_recall_36 : decode cX8_recall 36 = .ok (.iinc 2 1, 3) := by decide +kernel
theorem dX8_recall_39 : decode cX8_recall 39 = .ok (.goto (-26), 3) := by decide +kernel
theorem dX8_recall_42 : decode cX8_recall 42 = .ok (.aload_n 0, 1) := by decide +kernel
theorem dX8_recall_43 : decode cX8_recall 43 = .ok (.invokevirtual 151, 3) := by decide +kernel
theorem dX8_recall_46 : decode cX8_recall 46 = .ok (.ireturn, 1) := by decide +kernel
set_option maxRecDepth 100000 in
set_option maxHeartbeats 4000000 in
theorem m_X8_recall {l : Launch} {G : z_Gl} {σ : z_St} (P n u v w rc tl : Nat) (hM : z_mi σ P n u v w rc tl) (x : Int32) : z_M l G yX8_recall cX8_recall 3 (some .int) (z_rm 2 46) [.ref (z_ad G 105), .int x] σ (z_p1 (.int (if x < nI 0 ∨ nI w - nI 1 < x then (-1000001) else z_bo (¬ z_eq24 (σ.2 108) (z_fil (z_sh (σ.2 115) (24 * z_n x)) (σ.2 109) 24)))) (if x < nI 0 ∨ nI w - nI 1 < x then σ else z_mtk (z_uL σ 109 (z_fil (z_sh (σ.2 115) (24 * z_n x)) (σ.2 109) 24)) u)) := by
  refine z_M.of (by decide) (Nat.le_of_ble_eq_true rfl) (fun p e s m below meth c C => ?_)
  refine z_sub [0, 1] (lv1 := [(0, .ref (z_ad G 105)), (1, .int x)]) rfl ?_
  have hM0 := hM
  obtain ⟨⟨hP, hn, hu, hv, hw, hrc, htl⟩, hPs, hnP, huv, hw6, hrc8, htl2, hqt, hah⟩ := hM0
  have h0 : 0 < P := by omega
  have h12 : P ≤ 12 := by omega
  have h288 : n ≤ 288 := by omega
  refine z_aload_n 0 C dX8_recall_0 0 rfl ?_
  refine z_iload_n 1 C dX8_recall_1 1 rfl ?_
  refine z_callV 2 C 105 (⟨rfl, rfl⟩) rfl (As := [.int x]) (rest := []) (m_X8_noTrace P n u v w rc tl hM x ) k_X8_noTrace q1345 ⟨rfl, rfl⟩ ⟨Nat.le_of_ble_eq_true rfl, Nat.le_of_ble_eq_true rfl⟩ rfl (Nat.le_of_ble_eq_true rfl) ⟨Nat.le_of_ble_eq_true rfl, Nat.le_of_ble_eq_true rfl⟩ rfl dX8_recall_2 (z_k1 ?_)
  refine z_if_eqb 5 C 11 dX8_recall_5 (by decide) (fun c5 => ?_) (fun c5 => ?_)
  · skip
    obtain ⟨a, ha, rfl⟩ := z_inw (by omega) c5
    refine z_iconst 11 C dX8_recall_11 (nI 0) rfl ?_
    refine z_istore_n 12 C dX8_recall_12 [(2, .int (nI 0)), (0, .ref (z_ad G 105)), (1, .int (nI a))] (by decide) rfl ?_
    refine z_sub [1, 2, 0] (lv1 := [(0, .ref (z_ad G 105)), (1, .int (nI a)), (2, .int (nI 0))]) rfl ?_
    refine z_cv (lv1 := [(0, .ref (z_ad G 105)), (1, .int (nI a)), (2, .int (nI 0))]) (st1 := []) (σ1 := z_uL σ 109 (z_fil (z_sh (σ.2 115) (24 * a)) (σ.2 109) 0)) rfl rfl (z_fil0L σ 109 _) ?_
    refine z_lp1 (fun (k : Nat) => k ≤ 24) (fun (k : Nat) => 24 - k) (fun (k : Nat) => [(0, .ref (z_ad G 105)), (1, .int (nI a)), (2, .int (nI k))]) (fun (k : Nat) => z_uL σ 109 (z_fil (z_sh (σ.2 115) (24 * a)) (σ.2 109) k)) (fun k hi_13 ih_13 => ?_) 0 (by omega)
    try dsimp only
    refine z_iload_n 13 C dX8_recall_13 2 rfl ?_
    refine z_bipush 14 C dX8_recall_14 (nI 24) rfl ?_
    refine z_icmp_geN 16 C k 24 rfl rfl (by omega) (by omega) 42 dX8_recall_16 (by decide) (fun c16 => ?_) (fun c16 => ?_)
    · skip
      have ek : k = 24 := by omega
      subst ek
      refine z_aload_n 42 C dX8_recall_42 0 rfl ?_
      refine z_callV 43 C 105 (⟨rfl, rfl⟩) rfl (As := []) (rest := []) (m_X8_takes (σ := z_uL σ 109 (z_fil (z_sh (σ.2 115) (24 * a)) (σ.2 109) 24)) P n u v w rc tl hM) k_X8_takes q1174 ⟨rfl, rfl⟩ ⟨Nat.le_of_ble_eq_true rfl, Nat.le_of_ble_eq_true rfl⟩ rfl (Nat.le_of_ble_eq_true rfl) ⟨Nat.le_of_ble_eq_true rfl, Nat.le_of_ble_eq_true rfl⟩ rfl dX8_recall_43 (z_k1 ?_)
      refine z_iret 46 C dX8_recall_46 ?_
      exact ⟨z_ci (by rw [if_neg c5, z_nk (k := a) (by omega)] <;> rfl), by rw [if_neg c5, z_nk (k := a) (by omega)] <;> rfl⟩
    · skip
      refine z_aload_n 19 C dX8_recall_19 0 rfl ?_
      refine z_getf 20 C 105 z_dX8 (⟨rfl, rfl⟩) 5 (by decide) q971 (.ref (z_ad G 109)) rfl dX8_recall_20 ?_
      refine z_iload_n 23 C dX8_recall_23 2 rfl ?_
      refine z_aload_n 24 C dX8_recall_24 0 rfl ?_
      refine z_getf 25 C 105 z_dX8 (⟨rfl, rfl⟩) 18 (by decide) q984 (.ref (z_ad G 115)) rfl dX8_recall_25 ?_
      refine z_bipush 28 C dX8_recall_28 (nI 24) rfl ?_
      refine z_iload_n 30 C dX8_recall_30 1 rfl ?_
      refine z_imulN 31 C 24 a rfl rfl dX8_recall_31 ?_
      refine z_iload_n 32 C dX8_recall_32 2 rfl ?_
      refine z_iaddN 33 C (24 * a) k rfl rfl dX8_recall_33 ?_
      refine z_laldN 34 C 115 (n := 144) (⟨rfl, rfl⟩) ((24 * a) + k) rfl (by omega) (by decide) dX8_recall_34 ?_
      refine z_cv (st1 := [.long (σ.2 115 ((24 * a) + k)), .int (nI k), .ref (z_ad G 109)]) rfl rfl rfl ?_
      refine z_lastN 35 C 109 (n := 24) (⟨rfl, rfl⟩) k rfl (by omega) (by decide) dX8_recall_35 ?_
      refine z_iincN 36 C 2 k [(2, .int (nI (k + 1))), (0, .ref (z_ad G 105)), (1, .int (nI a))] rfl rfl (by decide) rfl dX8_recall_36 ?_
      refine z_goto 39 C 13 dX8_recall_39 (by decide) ?_
      refine z_sub [1, 2, 0] (lv1 := [(0, .ref (z_ad G 105)), (1, .int (nI a)), (2, .int (nI (k + 1)))]) rfl ?_
      refine z_cv (lv1 := [(0, .ref (z_ad G 105)), (1, .int (nI a)), (2, .int (nI (k + 1)))]) (st1 := []) (σ1 := z_uL σ 109 (z_fil (z_sh (σ.2 115) (24 * a)) (σ.2 109) (k + 1))) rfl rfl (z_filSL σ 109 k _ _ rfl) ?_
      exact ih_13 (k + 1) (by omega) (by omega)
  · skip
    refine z_ldc 8 C dX8_recall_8 q1064 ?_
    refine z_iret 10 C dX8_recall_10 ?_
    exact ⟨z_ci (by rw [if_pos c5]), by rw [if_pos c5]⟩
theorem dX8_traceHarmonic_0 : decode cX8_traceHarmonic 0 = .ok (.aload_n 0, 1) := by decide +kernel
theorem dX8_traceHarmonic_1 : decode cX8_traceHarmonic 1 = .ok (.aload_n 0, 1) := by decide +kernel
theorem dX8_traceHarmonic_2 : decode cX8_traceHarmonic 2 = .ok (.getfield 44, 3) := by decide +kernel
theorem dX8_traceHarmonic_5 : decode cX8_traceHarmonic 5 = .ok (.bipush 24, 2) := by decide +kernel
theorem dX8_traceHarmonic_7 : decode cX8_traceHarmonic 7 = .ok (.iload_n 1, 1) := by decide +kernel
theorem dX8_traceHarmonic_8 : decode cX8_traceHarmonic 8 = .ok (.imul, 1) := by decide +kernel
theorem dX8_traceHarmonic_9 : decode cX8_traceHarmonic 9 = .ok (.iload_n 2, 1) := by decide +kernel
theorem dX8_traceHarmonic_10 : decode cX8_traceHarmonic 10 = .ok (.iload_n 3, 1) := by decide +kernel
theorem dX8_traceHarmonic_11 : decode cX8_traceHarmonic 11 = .ok (.invokevirtual 181, 3) := by decide +kernel
theorem dX8_traceHarmonic_14 : decode cX8_traceHarmonic 14 = .ok (.lreturn, 1) := by decide +kernel
set_option maxRecDepth 100000 in
set_option maxHeartbeats 4000000 in
theorem m_X8_traceHarmonic {l : Launch} {G : z_Gl} {σ : z_St} (P n u v w rc tl : Nat) (hM : z_mi σ P n u v w rc tl) (i h t : Nat) (hi : i < 6) (hh : h ≤ 12) (ht : t < 2) : z_M l G yX8_traceHarmonic cX8_traceHarmonic 4 (some .long) (z_rm 4 91) [.ref (z_ad G 105), .int (nI i), .int (nI h), .int (nI t)] σ (z_p1 (.long (z_cf (z_sh (σ.2 115) (24 * i)) t h)) σ) := by
  refine z_M.of (by decide) (Nat.le_of_ble_eq_true rfl) (fun p e s m below meth c C => ?_)
  refine z_sub [0, 1, 2, 3] (lv1 := [(0, .ref (z_ad G 105)), (1, .int (nI i)), (2, .int (nI h)), (3, .int (nI t))]) rfl ?_
  have hM0 := hM
  obtain ⟨⟨hP, hn, hu, hv, hw, hrc, htl⟩, hPs, hnP, huv, hw6, hrc8, htl2, hqt, hah⟩ := hM0
  have h0 : 0 < P := by omega
  have h12 : P ≤ 12 := by omega
  have h288 : n ≤ 288 := by omega
  refine z_aload_n 0 C dX8_traceHarmonic_0 0 rfl ?_
  refine z_aload_n 1 C dX8_traceHarmonic_1 0 rfl ?_
  refine z_getf 2 C 105 z_dX8 (⟨rfl, rfl⟩) 18 (by decide) q984 (.ref (z_ad G 115)) rfl dX8_traceHarmonic_2 ?_
  refine z_bipush 5 C dX8_traceHarmonic_5 (nI 24) rfl ?_
  refine z_iload_n 7 C dX8_traceHarmonic_7 1 rfl ?_
  refine z_imulN 8 C 24 i rfl rfl dX8_traceHarmonic_8 ?_
  refine z_iload_n 9 C dX8_traceHarmonic_9 2 rfl ?_
  refine z_iload_n 10 C dX8_traceHarmonic_10 3 rfl ?_
  refine z_callV 11 C 105 (⟨rfl, rfl⟩) rfl (As := [.ref (z_ad G 115), .int (nI (24 * i)), .int (nI h), .int (nI t)]) (rest := []) (m_X8_harmonicIn P n u v w rc tl hM 115 (24 * i) h t 144 (⟨rfl, rfl⟩) (by omega) (by omega) (by omega) (by omega)) k_X8_harmonicIn q1195 ⟨rfl, rfl⟩ ⟨Nat.le_of_ble_eq_true rfl, Nat.le_of_ble_eq_true rfl⟩ rfl (Nat.le_of_ble_eq_true rfl) ⟨Nat.le_of_ble_eq_true rfl, Nat.le_of_ble_eq_true rfl⟩ rfl dX8_traceHarmonic_11 (z_k1 ?_)
  refine z_lret 14 C dX8_traceHarmonic_14 ?_
  exact ⟨rfl, rfl⟩
theorem dX8_traceValue_0 : decode cX8_traceValue 0 = .ok (.aload_n 0, 1) := by decide +kernel
theorem dX8_traceValue_1 : decode cX8_traceValue 1 = .ok (.iload_n 1, 1) := by decide +kernel
theorem dX8_traceValue_2 : decode cX8_traceValue 2 = .ok (.invokevirtual 267, 3) := by decide +kernel
theorem dX8_traceValue_5 : decode cX8_traceValue 5 = .ok (.ifCond .ne 15, 3) := by decide +kernel
theorem dX8_traceValue_8 : decode cX8_traceValue 8 = .ok (.iload_n 2, 1) := by decide +kernel
theorem dX8_traceValue_9 : decode cX8_traceValue 9 = .ok (.i2l, 1) := by decide +kernel
theorem dX8_traceValue_10 : decode cX8_traceValue 10 = .ok (.lconst 0, 1) := by decide +kernel
theorem dX8_traceValue_11 : decode cX8_traceValue 11 = .ok (.ldc2_w 230, 3) := by decide +kernel
theorem dX8_traceValue_14 : decode cX8_traceValue 14 = .ok (.invokestatic 68, 3) := by decide +kernel
theorem dX8_traceValue_17 : decode cX8_traceValue 17 = .ok (.ifCond .ne 7, 3) := by decide +kernel
theorem dX8_traceValue_20 : decode cX8_traceValue 20 = .ok (.invokestatic 127, 3) := by decide +kernel
theorem dX8_traceValue_23 : decode cX8_traceValue 23 = .ok (.lreturn, 1) := by decide +kernel
theorem dX8_traceValue_24 : decode cX8_traceValue 24 = .ok (.iload_n 2, 1) := by decide +kernel
theorem dX8_traceValue_25 : decode cX8_traceValue 25 = .ok (.ifCond .ne 13, 3) := by decide +kernel
theorem dX8_traceValue_28 : decode cX8_traceValue 28 = .ok (.aload_n 0, 1) := by decide +kernel
theorem dX8_traceValue_29 : decode cX8_traceValue 29 = .ok (.getfield 47, 3) := by decide +kernel
theorem dX8_traceValue_32 : decode cX8_traceValue 32 = .ok (.iload_n 1, 1) := by decide +kernel
theorem dX8_traceValue_33 : decode cX8_traceValue 33 = .ok (.iaload, 1) := by decide +kernel
theorem dX8_traceValue_34 : decode cX8_traceValue 34 = .ok (.i2l, 1) := by decide +kernel
theorem dX8_traceValue_35 : decode cX8_traceValue 35 = .ok (.goto 34, 3) := by decide +kernel
theorem dX8_traceValue_38 : decode cX8_traceValue 38 = .ok (.iload_n 2, 1) := by decide +kernel
theorem dX8_traceValue_39 : decode cX8_traceValue 39 = .ok (.iconst 3, 1) := by decide +kernel
theorem dX8_traceValue_40 : decode cX8_traceValue 40 = .ok (.if_icmp .ne 13, 3) := by decide +kernel
theorem dX8_traceValue_43 : decode cX8_traceValue 43 = .ok (.aload_n 0, 1) := by decide +kernel
theorem dX8_traceValue_44 : decode cX8_traceValue 44 = .ok (.iload_n 1, 1) := by decide +kernel
theorem dX8_traceValue_45 : decode cX8_traceValue 45 = .ok (.iconst 0, 1) := by decide +kernel
theorem dX8_traceValue_46 : decode cX8_traceValue 46 = .ok (.iconst 0, 1) := by decide +kernel
theorem dX8_traceValue_47 : decode cX8_traceValue 47 = .ok (.invokevirtual 270, 3) := by decide +kernel
theorem dX8_traceValue_50 : decode cX8_traceValue 50 = .ok (.goto 19, 3) := by decide +kernel
theorem dX8_traceValue_53 : decode cX8_traceValue 53 = .ok (.aload_n 0, 1) := by decide +kernel
theorem dX8_traceValue_54 : decode cX8_traceValue 54 = .ok (.iload_n 1, 1) := by decide +kernel
theorem dX8_traceValue_55 : decode cX8_traceValue 55 = .ok (.iconst 1, 1) := by decide +kernel
theorem dX8_traceValue_56 : decode cX8_traceValue 56 = .ok (.iload_n 2, 1) := by decide +kernel
theorem dX8_traceValue_57 : decode cX8_traceValue 57 = .ok (.iconst 2, 1) := by decide +kernel
theorem dX8_traceValue_58 : decode cX8_traceValue 58 = .ok (.if_icmp .ne 7, 3) := by decide +kernel
theorem dX8_traceValue_61 : decode cX8_traceValue 61 = .ok (.iconst 1, 1) := by decide +kernel
theorem dX8_traceValue_62 : decode cX8_traceValue 62 = .ok (.goto 4, 3) := by decide +kernel
theorem dX8_traceValue_65 : decode cX8_traceValue 65 = .ok (.iconst 0, 1) := by decide +kernel
theorem dX8_traceValue_66 : decode cX8_traceValue 66 = .ok (.invokevirtual 270, 3) := by decide +kernel
theorem dX8_traceValue_69 : decode cX8_traceValue 69 = .ok (.lreturn, 1) := by decide +kernel
set_option maxRecDepth 100000 in
set_option maxHeartbeats 4000000 in
theorem m_X8_traceValue {l : Launch} {G : z_Gl} {σ : z_St} (P n u v w rc tl : Nat) (hM : z_mi σ P n u v w rc tl) (x : Int32) (y : Int32) : z_M l G yX8_traceValue cX8_traceValue 3 (some .long) (z_rm 5 114) [.ref (z_ad G 105), .int x, .int y] σ (z_p1 (.long (if x < nI 0 ∨ nI w - nI 1 < x then (-9223372036854775808) else if y < nI 0 ∨ nI 3 < y then (-9223372036854775808) else if z_n y = 0 then (σ.1 116 (z_n x)).toInt64 else if z_n y = 3 then z_cf (z_sh (σ.2 115) (24 * z_n x)) 0 0 else if z_n y = 2 then z_cf (z_sh (σ.2 115) (24 * z_n x)) 1 1 else z_cf (z_sh (σ.2 115) (24 * z_n x)) 0 1)) σ) := by
  refine z_M.of (by decide) (Nat.le_of_ble_eq_true rfl) (fun p e s m below meth c C => ?_)
  refine z_sub [0, 1, 2] (lv1 := [(0, .ref (z_ad G 105)), (1, .int x), (2, .int y)]) rfl ?_
  have hM0 := hM
  obtain ⟨⟨hP, hn, hu, hv, hw, hrc, htl⟩, hPs, hnP, huv, hw6, hrc8, htl2, hqt, hah⟩ := hM0
  have h0 : 0 < P := by omega
  have h12 : P ≤ 12 := by omega
  have h288 : n ≤ 288 := by omega
  refine z_aload_n 0 C dX8_traceValue_0 0 rfl ?_
  refine z_iload_n 1 C dX8_traceValue_1 1 rfl ?_
  refine z_callV 2 C 105 (⟨rfl, rfl⟩) rfl (As := [.int x]) (rest := []) (m_X8_noTrace P n u v w rc tl hM x ) k_X8_noTrace q1345 ⟨rfl, rfl⟩ ⟨Nat.le_of_ble_eq_true rfl, Nat.le_of_ble_eq_true rfl⟩ rfl (Nat.le_of_ble_eq_true rfl) ⟨Nat.le_of_ble_eq_true rfl, Nat.le_of_ble_eq_true rfl⟩ rfl dX8_traceValue_2 (z_k1 ?_)
  refine z_if_neb 5 C 20 dX8_traceValue_5 (by decide) (fun c5 => ?_) (fun c5 => ?_)
  · skip
    refine z_callS 20 C (As := []) (rest := []) (m_X8_lost) k_X8_lost q1123 ⟨rfl, rfl⟩ ⟨Nat.le_of_ble_eq_true rfl, Nat.le_of_ble_eq_true rfl⟩ rfl (Nat.le_of_ble_eq_true rfl) ⟨Nat.le_of_ble_eq_true rfl, Nat.le_of_ble_eq_true rfl⟩ rfl dX8_traceValue_20 (z_k1 ?_)
    refine z_lret 23 C dX8_traceValue_23 ?_
    first | exact ⟨z_cl (by rw [if_pos c5]), rfl⟩ | exact ⟨z_cl (by rw [if_neg c5, if_pos c17]), rfl⟩
  · skip
    obtain ⟨a, ha, rfl⟩ := z_inw (by omega) c5
    refine z_iload_n 8 C dX8_traceValue_8 2 rfl ?_
    refine z_i2l 9 C dX8_traceValue_9 ?_
    refine z_lconst 10 C dX8_traceValue_10 0 rfl ?_
    refine z_ldc2 11 C dX8_traceValue_11 q1265 ?_
    refine z_callS 14 C (As := [.long (Int32.toInt64 y), .long 0, .long 3]) (rest := []) (m_X8_in_i y (nI 0) (nI 3) (by decide) (by decide)) k_X8_in q1071 ⟨rfl, rfl⟩ ⟨Nat.le_of_ble_eq_true rfl, Nat.le_of_ble_eq_true rfl⟩ rfl (Nat.le_of_ble_eq_true rfl) ⟨Nat.le_of_ble_eq_true rfl, Nat.le_of_ble_eq_true rfl⟩ rfl dX8_traceValue_14 (z_k1 ?_)
    refine z_if_neb 17 C 24 dX8_traceValue_17 (by decide) (fun c17 => ?_) (fun c17 => ?_)
    · skip
      obtain ⟨d, hd, rfl⟩ := z_in0 (by decide) c17
      refine z_iload_n 24 C dX8_traceValue_24 2 rfl ?_
      refine z_if_ne 25 C 38 dX8_traceValue_25 (by decide) (fun c25 => ?_) (fun c25 => ?_)
      · skip
        refine z_iload_n 38 C dX8_traceValue_38 2 rfl ?_
        refine z_iconst 39 C dX8_traceValue_39 (nI 3) rfl ?_
        refine z_icmp_neN 40 C d 3 rfl rfl (by omega) (by omega) 53 dX8_traceValue_40 (by decide) (fun c40 => ?_) (fun c40 => ?_)
        · skip
          refine z_aload_n 53 C dX8_traceValue_53 0 rfl ?_
          refine z_iload_n 54 C dX8_traceValue_54 1 rfl ?_
          refine z_iconst 55 C dX8_traceValue_55 (nI 1) rfl ?_
          refine z_iload_n 56 C dX8_traceValue_56 2 rfl ?_
          refine z_iconst 57 C dX8_traceValue_57 (nI 2) rfl ?_
          refine z_icmp_neN 58 C d 2 rfl rfl (by omega) (by omega) 65 dX8_traceValue_58 (by decide) (fun c58 => ?_) (fun c58 => ?_)
          · skip
            refine z_iconst 65 C dX8_traceValue_65 (nI 0) rfl ?_
            refine z_callV 66 C 105 (⟨rfl, rfl⟩) rfl (As := [.int (nI a), .int (nI 1), .int (nI 0)]) (rest := []) (m_X8_traceHarmonic P n u v w rc tl hM a 1 0 (by omega) (by omega) (by omega)) k_X8_traceHarmonic q1353 ⟨rfl, rfl⟩ ⟨Nat.le_of_ble_eq_true rfl, Nat.le_of_ble_eq_true rfl⟩ rfl (Nat.le_of_ble_eq_true rfl) ⟨Nat.le_of_ble_eq_true rfl, Nat.le_of_ble_eq_true rfl⟩ rfl dX8_traceValue_66 (z_k1 ?_)
            refine z_lret 69 C dX8_traceValue_69 ?_
            first | exact ⟨z_cl (by rw [if_neg c5, if_neg c17, z_nk (k := a) (by omega), z_nk (k := d) (by omega), if_pos ((z_nI0 (by omega)).mp c25)]), rfl⟩ | exact ⟨z_cl (by rw [if_neg c5, if_neg c17, z_nk (k := a) (by omega), z_nk (k := d) (by omega), if_neg (fun z => c25 (by rw [z]; rfl)), if_pos c40]), rfl⟩ | exact ⟨z_cl (by rw [if_neg c5, if_neg c17, z_nk (k := a) (by omega), z_nk (k := d) (by omega), if_neg (fun z => c25 (by rw [z]; rfl)), if_neg c40, if_pos c58]), rfl⟩ | exact ⟨z_cl (by rw [if_neg c5, if_neg c17, z_nk (k := a) (by omega), z_nk (k := d) (by omega), if_neg (fun z => c25 (by rw [z]; rfl)), if_neg c40, if_neg c58]), rfl⟩
          · skip
            refine z_iconst 61 C dX8_traceValue_61 (nI 1) rfl ?_
            refine z_goto 62 C 66 dX8_traceValue_62 (by decide) ?_
            refine z_callV 66 C 105 (⟨rfl, rfl⟩) rfl (As := [.int (nI a), .int (nI 1), .int (nI 1)]) (rest := []) (m_X8_traceHarmonic P n u v w rc tl hM a 1 1 (by omega) (by omega) (by omega)) k_X8_traceHarmonic q1353 ⟨rfl, rfl⟩ ⟨Nat.le_of_ble_eq_true rfl, Nat.le_of_ble_eq_true rfl⟩ rfl (Nat.le_of_ble_eq_true rfl) ⟨Nat.le_of_ble_eq_true rfl, Nat.le_of_ble_eq_true rfl⟩ rfl dX8_traceValue_66 (z_k1 ?_)
            refine z_lret 69 C dX8_traceValue_69 ?_
            first | exact ⟨z_cl (by rw [if_neg c5, if_neg c17, z_nk (k := a) (by omega), z_nk (k := d) (by omega), if_pos ((z_nI0 (by omega)).mp c25)]), rfl⟩ | exact ⟨z_cl (by rw [if_neg c5, if_neg c17, z_nk (k := a) (by omega), z_nk (k := d) (by omega), if_neg (fun z => c25 (by rw [z]; rfl)), if_pos c40]), rfl⟩ | exact ⟨z_cl (by rw [if_neg c5, if_neg c17, z_nk (k := a) (by omega), z_nk (k := d) (by omega), if_neg (fun z => c25 (by rw [z]; rfl)), if_neg c40, if_pos c58]), rfl⟩ | exact ⟨z_cl (by rw [if_neg c5, if_neg c17, z_nk (k := a) (by omega), z_nk (k := d) (by omega), if_neg (fun z => c25 (by rw [z]; rfl)), if_neg c40, if_neg c58]), rfl⟩
        · skip
          refine z_aload_n 43 C dX8_traceValue_43 0 rfl ?_
          refine z_iload_n 44 C dX8_traceValue_44 1 rfl ?_
          refine z_iconst 45 C dX8_traceValue_45 (nI 0) rfl ?_
          refine z_iconst 46 C dX8_traceValue_46 (nI 0) rfl ?_
          refine z_callV 47 C 105 (⟨rfl, rfl⟩) rfl (As := [.int (nI a), .int (nI 0), .int (nI 0)]) (rest := []) (m_X8_traceHarmonic P n u v w rc tl hM a 0 0 (by omega) (by omega) (by omega)) k_X8_traceHarmonic q1353 ⟨rfl, rfl⟩ ⟨Nat.le_of_ble_eq_true rfl, Nat.le_of_ble_eq_true rfl⟩ rfl (Nat.le_of_ble_eq_true rfl) ⟨Nat.le_of_ble_eq_true rfl, Nat.le_of_ble_eq_true rfl⟩ rfl dX8_traceValue_47 (z_k1 ?_)
          refine z_goto 50 C 69 dX8_traceValue_50 (by decide) ?_
          refine z_lret 69 C dX8_traceValue_69 ?_
          first | exact ⟨z_cl (by rw [if_neg c5, if_neg c17, z_nk (k := a) (by omega), z_nk (k := d) (by omega), if_pos ((z_nI0 (by omega)).mp c25)]), rfl⟩ | exact ⟨z_cl (by rw [if_neg c5, if_neg c17, z_nk (k := a) (by omega), z_nk (k := d) (by omega), if_neg (fun z => c25 (by rw [z]; rfl)), if_pos c40]), rfl⟩ | exact ⟨z_cl (by rw [if_neg c5, if_neg c17, z_nk (k := a) (by omega), z_nk (k := d) (by omega), if_neg (fun z => c25 (by rw [z]; rfl)), if_neg c40, if_pos c58]), rfl⟩ | exact ⟨z_cl (by rw [if_neg c5, if_neg c17, z_nk (k := a) (by omega), z_nk (k := d) (by omega), if_neg (fun z => c25 (by rw [z]; rfl)), if_neg c40, if_neg c58]), rfl⟩
      · skip
        refine z_aload_n 28 C dX8_traceValue_28 0 rfl ?_
        refine z_getf 29 C 105 z_dX8 (⟨rfl, rfl⟩) 19 (by decide) q985 (.ref (z_ad G 116)) rfl dX8_traceValue_29 ?_
        refine z_iload_n 32 C dX8_traceValue_32 1 rfl ?_
        refine z_ialdN 33 C 116 (n := 6) (⟨rfl, rfl⟩) a rfl (by omega) (by decide) dX8_traceValue_33 ?_
        refine z_i2l 34 C dX8_traceValue_34 ?_
        refine z_goto 35 C 69 dX8_traceValue_35 (by decide) ?_
        refine z_lret 69 C dX8_traceValue_69 ?_
        first | exact ⟨z_cl (by rw [if_neg c5, if_neg c17, z_nk (k := a) (by omega), z_nk (k := d) (by omega), if_pos ((z_nI0 (by omega)).mp c25)]), rfl⟩ | exact ⟨z_cl (by rw [if_neg c5, if_neg c17, z_nk (k := a) (by omega), z_nk (k := d) (by omega), if_neg (fun z => c25 (by rw [z]; rfl)), if_pos c40]), rfl⟩ | exact ⟨z_cl (by rw [if_neg c5, if_neg c17, z_nk (k := a) (by omega), z_nk (k := d) (by omega), if_neg (fun z => c25 (by rw [z]; rfl)), if_neg c40, if_pos c58]), rfl⟩ | exact ⟨z_cl (by rw [if_neg c5, if_neg c17, z_nk (k := a) (by omega), z_nk (k := d) (by omega), if_neg (fun z => c25 (by rw [z]; rfl)), if_neg c40, if_neg c58]), rfl⟩
    · skip
      replace c17 := Classical.not_not.mp c17
      refine z_callS 20 C (As := []) (rest := []) (m_X8_lost) k_X8_lost q1123 ⟨rfl, rfl⟩ ⟨Nat.le_of_ble_eq_true rfl, Nat.le_of_ble_eq_true rfl⟩ rfl (Nat.le_of_ble_eq_true rfl) ⟨Nat.le_of_ble_eq_true rfl, Nat.le_of_ble_eq_true rfl⟩ rfl dX8_traceValue_20 (z_k1 ?_)
      refine z_lret 23 C dX8_traceValue_23 ?_
      first | exact ⟨z_cl (by rw [if_pos c5]), rfl⟩ | exact ⟨z_cl (by rw [if_neg c5, if_pos c17]), rfl⟩
theorem dX8_axisAt_0 : decode cX8_axisAt 0 = .ok (.lconst 0, 1) := by decide +kernel
theorem dX8_axisAt_1 : decode cX8_axisAt 1 = .ok (.lstore_n 3, 1) := by decide +kernel
theorem dX8_axisAt_2 : decode cX8_axisAt 2 = .ok (.lconst 0, 1) := by decide +kernel
theorem dX8_axisAt_3 : decode cX8_axisAt 3 = .ok (.lstore 5, 2) := by decide +kernel
theorem dX8_axisAt_5 : decode cX8_axisAt 5 = .ok (.lconst 0, 1) := by decide +kernel
theorem dX8_axisAt_6 : decode cX8_axisAt 6 = .ok (.lstore 7, 2) := by decide +kernel
theorem dX8_axisAt_8 : decode cX8_axisAt 8 = .ok (.lconst 0, 1) := by decide +kernel
theorem dX8_axisAt_9 : decode cX8_axisAt 9 = .ok (.lstore 9, 2) := by decide +kernel
theorem dX8_axisAt_11 : decode cX8_axisAt 11 = .ok (.iconst 0, 1) := by decide +kernel
theorem dX8_axisAt_12 : decode cX8_axisAt 12 = .ok (.istore 11, 2) := by decide +kernel
theorem dX8_axisAt_14 : decode cX8_axisAt 14 = .ok (.iload 11, 2) := by decide +kernel
theorem dX8_axisAt_16 : decode cX8_axisAt 16 = .ok (.aload_n 0, 1) := by decide +kernel
theorem dX8_axisAt_17 : decode cX8_axisAt 17 = .ok (.getfield 261, 3) := by decide +kernel
theorem dX8_axisAt_20 : decode cX8_axisAt 20 = .ok (.if_icmp .ge 74, 3) := by decide +kernel
theorem dX8_axisAt_23 : decode cX8_axisAt 23 = .ok (.aload_n 0, 1) := by decide +kernel
theorem dX8_axisAt_24 : decode cX8_axisAt 24 = .ok (.iload 11, 2) := by decide +kernel
theorem dX8_axisAt_26 : decode cX8_axisAt 26 = .ok (.iconst 1, 1) := by decide +kernel
theorem dX8_axisAt_27 : decode cX8_axisAt 27 = .ok (.iload_n 2, 1) := by decide +kernel
theorem dX8_axisAt_28 : decode cX8_axisAt 28 = .ok (.invokevirtual 270, 3) := by decide +kernel
theorem dX8_axisAt_31 : decode cX8_axisAt 31 = .ok (.lstore 12, 2) := by decide +kernel
theorem dX8_axisAt_33 : decode cX8_axisAt 33 = .ok (.lload_n 3, 1) := by decide +kernel
theorem dX8_axisAt_34 : decode cX8_axisAt 34 = .ok (.aload_n 0, 1) := by decide +kernel
theorem dX8_axisAt_35 : decode cX8_axisAt 35 = .ok (.getfield 47, 3) := by decide +kernel
theorem dX8_axisAt_38 : decode cX8_axisAt 38 = .ok (.iload 11, 2) := by decide +kernel
theorem dX8_axisAt_40 : decode cX8_axisAt 40 = .ok (.iaload, 1) := by decide +kernel
theorem dX8_axisAt_41 : decode cX8_axisAt 41 = .ok (.i2l, 1) := by decide +kernel
theorem dX8_axisAt_42 : decode cX8_axisAt 42 = .ok (.ladd, 1) := by decide +kernel
theorem dX8_axisAt_43 : decode cX8_axisAt 43 = .ok (.lstore_n 3, 1) := by decide +kernel
theorem dX8_axisAt_44 : decode cX8_axisAt 44 = .ok (.lload 5, 2) := by decide +kernel
theorem dX8_axisAt_46 : decode cX8_axisAt 46 = .ok (.aload_n 0, 1) := by decide +kernel
theorem dX8_axisAt_47 : decode cX8_axisAt 47 = .ok (.getfield 47, 3) := by decide +kernel
theorem dX8_axisAt_50 : decode cX8_axisAt 50 = .ok (.iload 11, 2) := by decide +kernel
theorem dX8_axisAt_52 : decode cX8_axisAt 52 = .ok (.iaload, 1) := by decide +kernel
theorem dX8_axisAt_53 : decode cX8_axisAt 53 = .ok (.aload_n 0, 1) := by decide +kernel
theorem dX8_axisAt_54 : decode cX8_axisAt 54 = .ok (.getfield 47, 3) := by decide +kernel
theorem dX8_axisAt_57 : decode cX8_axisAt 57 = .ok (.iload 11, 2) := by decide +kernel
theorem dX8_axisAt_59 : decode cX8_axisAt 59 = .ok (.iaload, 1) := by decide +kernel
theorem dX8_axisAt_60 : decode cX8_axisAt 60 = .ok (.imul, 1) := by decide +kernel
theorem dX8_axisAt_61 : decode cX8_axisAt 61 = .ok (.i2l, 1) := by decide +kernel
theorem dX8_axisAt_62 : decode cX8_axisAt 62 = .ok (.ladd, 1) := by decide +kernel
theorem dX8_axisAt_63 : decode cX8_axisAt 63 = .ok (.lstore 5, 2) := by decide +kernel
theorem dX8_axisAt_65 : decode cX8_axisAt 65 = .ok (.lload 7, 2) := by decide +kernel
theorem dX8_axisAt_67 : decode cX8_axisAt 67 = .ok (.lload 12, 2) := by decide +kernel
theorem dX8_axisAt_69 : decode cX8_axisAt 69 = .ok (.ladd, 1) := by decide +kernel
theorem dX8_axisAt_70 : decode cX8_axisAt 70 = .ok (.lstore 7, 2) := by decide +kernel
theorem dX8_axisAt_72 : decode cX8_axisAt 72 = .ok (.lload 9, 2) := by decide +kernel
theorem dX8_axisAt_74 : decode cX8_axisAt 74 = .ok (.aload_n 0, 1) := by decide +kernel
theorem dX8_axisAt_75 : decode cX8_axisAt 75 = .ok (.getfield 47, 3) := by decide +kernel
theorem dX8_axisAt_78 : decode cX8_axisAt 78 = .ok (.iload 11, 2) := by decide +kernel
theorem dX8_axisAt_80 : decode cX8_axisAt 80 = .ok (.iaload, 1) := by decide +kernel
theorem dX8_axisAt_81 : decode cX8_axisAt 81 = .ok (.i2l, 1) := by decide +kernel
theorem dX8_axisAt_82 : decode cX8_axisAt 82 = .ok (.lload 12, 2) := by decide +kernel
theorem dX8_axisAt_84 : decode cX8_axisAt 84 = .ok (.lmul, 1) := by decide +kernel
theorem dX8_axisAt_85 : decode cX8_axisAt 85 = .ok (.ladd, 1) := by decide +kernel
theorem dX8_axisAt_86 : decode cX8_axisAt 86 = .ok (.lstore 9, 2) := by decide +kernel
theorem dX8_axisAt_88 : decode cX8_axisAt 88 = .ok (.iinc 11 1, 3) := by decide +kernel
theorem dX8_axisAt_91 : decode cX8_axisAt 91 = .ok (.goto (-77), 3) := by decide +kernel
theorem dX8_axisAt_94 : decode cX8_axisAt 94 = .ok (.lload 5, 2) := by decide +kernel
theorem dX8_axisAt_96 : decode cX8_axisAt 96 = .ok (.lload 7, 2) := by decide +kernel
theorem dX8_axisAt_98 : decode cX8_axisAt 98 = .ok (.lmul, 1) := by decide +kernel
theorem dX8_axisAt_99 : decode cX8_axisAt 99 = .ok (.lload_n 3, 1) := by decide +kernel
theorem dX8_axisAt_100 : decode cX8_axisAt 100 = .ok (.lload 9, 2) := by decide +kernel
theorem dX8_axisAt_102 : decode cX8_axisAt 102 = .ok (.lmul, 1) := by decide +kernel
theorem dX8_axisAt_103 : decode cX8_axisAt 103 = .ok (.lsub, 1) := by decide +kernel
theorem dX8_axisAt_104 : decode cX8_axisAt 104 = .ok (.iload_n 1, 1) := by decide +kernel
theorem dX8_axisAt_105 : decode cX8_axisAt 105 = .ok (.i2l, 1) := by decide +kernel
theorem dX8_axisAt_106 : decode cX8_axisAt 106 = .ok (.aload_n 0, 1) := by decide +kernel
theorem dX8_axisAt_107 : decode cX8_axisAt 107 = .ok (.getfield 261, 3) := by decide +kernel
theorem dX8_axisAt_110 : decode cX8_axisAt 110 = .ok (.i2l, 1) := by decide +kernel
theorem dX8_axisAt_111 : decode cX8_axisAt 111 = .ok (.lload 9, 2) := by decide +kernel
theorem dX8_axisAt_113 : decode cX8_axisAt 113 = .ok (.lmul, 1) := by decide +kernel
theorem dX8_axisAt_114 : decode cX8_axisAt 114 = .ok (.lload_n 3, 1) := by decide +kernel
theorem dX8_axisAt_115 : decode cX8_axisAt 115 = .ok (.lload 7, 2) := by decide +kernel
theorem dX8_axisAt_117 : decode cX8_axisAt 117 = .ok (.lmul, 1) := by decide +kernel
theorem dX8_axisAt_118 : decode cX8_axisAt 118 = .ok (.lsub, 1) := by decide +kernel
theorem dX8_axisAt_119 : decode cX8_axisAt 119 = .ok (.lmul, 1) := by decide +kernel
theorem dX8_axisAt_120 : decode cX8_axisAt 120 = .ok (.ladd, 1) := by decide +kernel
theorem dX8_axisAt_121 : decode cX8_axisAt 121 = .ok (.aload_n 0, 1) := by decide +kernel
theorem dX8_axisAt_122 : decode cX8_axisAt 122 = .ok (.getfield 261, 3) := by decide +kernel
theorem dX8_axisAt_125 : decode cX8_axisAt 125 = .ok (.i2l, 1) := by decide +kernel
theorem dX8_axisAt_126 : decode cX8_axisAt 126 = .ok (.lload 5, 2) := by decide +kernel
theorem dX8_axisAt_128 : decode cX8_axisAt 128 = .ok (.lmul, 1) := by decide +kernel
theorem dX8_axisAt_129 : decode cX8_axisAt 129 = .ok (.lload_n 3, 1) := by decide +kernel
theorem dX8_axisAt_130 : decode cX8_axisAt 130 = .ok (.lload_n 3, 1) := by decide +kernel
theorem dX8_axisAt_131 : decode cX8_axisAt 131 = .ok (.lmul, 1) := by decide +kernel
theorem dX8_axisAt_132 : decode cX8_axisAt 132 = .ok (.lsub, 1) := by decide +kernel
theorem dX8_axisAt_133 : decode cX8_axisAt 133 = .ok (.invokestatic 115, 3) := by decide +kernel
theorem dX8_axisAt_136 : decode cX8_axisAt 136 = .ok (.lreturn, 1) := by decide +kernel
set_option maxRecDepth 100000 in
set_option maxHeartbeats 4000000 in
theorem m_X8_axisAt {l : Launch} {G : z_Gl} {σ : z_St} (P n u v w rc tl : Nat) (hM : z_mi σ P n u v w rc tl) (x : Int32) (t : Nat) (ht : t < 2) (hpos : 0 < zm_den (σ.1 116) w) : z_M l G yX8_axisAt cX8_axisAt 14 (some .long) (z_rm 5 114) [.ref (z_ad G 105), .int x, .int (nI t)] σ (z_p1 (.long (zm_ax (σ.1 116) (zm_x (σ.2 115) t) w x)) σ) := by
  refine z_M.of (by decide) (Nat.le_of_ble_eq_true rfl) (fun p e s m below meth c C => ?_)
  refine z_sub [0, 1, 2] (lv1 := [(0, .ref (z_ad G 105)), (1, .int x), (2, .int (nI t))]) rfl ?_
  have hM0 := hM
  obtain ⟨⟨hP, hn, hu, hv, hw, hrc, htl⟩, hPs, hnP, huv, hw6, hrc8, htl2, hqt, hah⟩ := hM0
  have h0 : 0 < P := by omega
  have h12 : P ≤ 12 := by omega
  have h288 : n ≤ 288 := by omega
  refine z_lconst 0 C dX8_axisAt_0 0 rfl ?_
  refine z_lstore_n 1 C dX8_axisAt_1 [(3, .long 0), (0, .ref (z_ad G 105)), (1, .int x), (2, .int (nI t))] (by decide) rfl ?_
  refine z_lconst 2 C dX8_axisAt_2 0 rfl ?_
  refine z_lstore 3 C dX8_axisAt_3 [(5, .long 0), (3, .long 0), (0, .ref (z_ad G 105)), (1, .int x), (2, .int (nI t))] (by decide) rfl ?_
  refine z_lconst 5 C dX8_axisAt_5 0 rfl ?_
  refine z_lstore 6 C dX8_axisAt_6 [(7, .long 0), (5, .long 0), (3, .long 0), (0, .ref (z_ad G 105)), (1, .int x), (2, .int (nI t))] (by decide) rfl ?_
  refine z_lconst 8 C dX8_axisAt_8 0 rfl ?_
  refine z_lstore 9 C dX8_axisAt_9 [(9, .long 0), (7, .long 0), (5, .long 0), (3, .long 0), (0, .ref (z_ad G 105)), (1, .int x), (2, .int (nI t))] (by decide) rfl ?_
  refine z_iconst 11 C dX8_axisAt_11 (nI 0) rfl ?_
  refine z_istore 12 C dX8_axisAt_12 [(11, .int (nI 0)), (9, .long 0), (7, .long 0), (5, .long 0), (3, .long 0), (0, .ref (z_ad G 105)), (1, .int x), (2, .int (nI t))] (by decide) rfl ?_
  refine z_sub [5, 6, 7, 4, 3, 2, 1, 0] (lv1 := [(0, .ref (z_ad G 105)), (1, .int x), (2, .int (nI t)), (3, .long 0), (5, .long 0), (7, .long 0), (9, .long 0), (11, .int (nI 0))]) rfl ?_
  refine z_cv (lv1 := [(0, .ref (z_ad G 105)), (1, .int x), (2, .int (nI t)), (3, .long (z_hs (σ.1 116) 0)), (5, .long (zm_hq (σ.1 116) 0)), (7, .long (z_xs (zm_x (σ.2 115) t) 0)), (9, .long (z_hx (σ.1 116) (zm_x (σ.2 115) t) 0)), (11, .int (nI 0))]) (st1 := []) (σ1 := σ) rfl rfl rfl ?_
  refine z_lp1 (fun (k : Nat) => k ≤ w) (fun (k : Nat) => w - k) (fun (k : Nat) => [(0, .ref (z_ad G 105)), (1, .int x), (2, .int (nI t)), (3, .long (z_hs (σ.1 116) k)), (5, .long (zm_hq (σ.1 116) k)), (7, .long (z_xs (zm_x (σ.2 115) t) k)), (9, .long (z_hx (σ.1 116) (zm_x (σ.2 115) t) k)), (11, .int (nI k))]) (fun (k : Nat) => σ) (fun k hi_14 ih_14 => ?_) 0 (by omega)
  try dsimp only
  refine z_iload 14 C dX8_axisAt_14 7 rfl ?_
  refine z_aload_n 16 C dX8_axisAt_16 0 rfl ?_
  refine z_getf 17 C 105 z_dX8 (⟨rfl, rfl⟩) 17 (by decide) q983 (.int (nI w)) (z_ci hw) dX8_axisAt_17 ?_
  refine z_icmp_geN 20 C k w rfl rfl (by omega) (by omega) 94 dX8_axisAt_20 (by decide) (fun c20 => ?_) (fun c20 => ?_)
  · skip
    have ek : w = k := by omega
    subst ek
    refine z_lload 94 C dX8_axisAt_94 4 rfl ?_
    refine z_lload 96 C dX8_axisAt_96 5 rfl ?_
    refine z_lmul 98 C dX8_axisAt_98 ?_
    refine z_lload_n 99 C dX8_axisAt_99 3 rfl ?_
    refine z_lload 100 C dX8_axisAt_100 6 rfl ?_
    refine z_lmul 102 C dX8_axisAt_102 ?_
    refine z_lsub 103 C dX8_axisAt_103 ?_
    refine z_iload_n 104 C dX8_axisAt_104 1 rfl ?_
    refine z_i2l 105 C dX8_axisAt_105 ?_
    refine z_aload_n 106 C dX8_axisAt_106 0 rfl ?_
    refine z_getf 107 C 105 z_dX8 (⟨rfl, rfl⟩) 17 (by decide) q983 (.int (nI w)) (z_ci hw) dX8_axisAt_107 ?_
    refine z_i2l 110 C dX8_axisAt_110 ?_
    refine z_cv (lv1 := [(0, .ref (z_ad G 105)), (1, .int x), (2, .int (nI t)), (3, .long (z_hs (σ.1 116) w)), (5, .long (zm_hq (σ.1 116) w)), (7, .long (z_xs (zm_x (σ.2 115) t) w)), (9, .long (z_hx (σ.1 116) (zm_x (σ.2 115) t) w)), (11, .int (nI w))]) (st1 := [.long (lN w), .long (Int32.toInt64 x), .long (((zm_hq (σ.1 116) w) * (z_xs (zm_x (σ.2 115) t) w)) - ((z_hs (σ.1 116) w) * (z_hx (σ.1 116) (zm_x (σ.2 115) t) w)))]) (σ1 := σ) rfl (by rw [nI_l (by omega)]) rfl ?_
    refine z_lload 111 C dX8_axisAt_111 6 rfl ?_
    refine z_lmul 113 C dX8_axisAt_113 ?_
    refine z_lload_n 114 C dX8_axisAt_114 3 rfl ?_
    refine z_lload 115 C dX8_axisAt_115 5 rfl ?_
    refine z_lmul 117 C dX8_axisAt_117 ?_
    refine z_lsub 118 C dX8_axisAt_118 ?_
    refine z_lmul 119 C dX8_axisAt_119 ?_
    refine z_ladd 120 C dX8_axisAt_120 ?_
    refine z_aload_n 121 C dX8_axisAt_121 0 rfl ?_
    refine z_getf 122 C 105 z_dX8 (⟨rfl, rfl⟩) 17 (by decide) q983 (.int (nI w)) (z_ci hw) dX8_axisAt_122 ?_
    refine z_i2l 125 C dX8_axisAt_125 ?_
    refine z_cv (lv1 := [(0, .ref (z_ad G 105)), (1, .int x), (2, .int (nI t)), (3, .long (z_hs (σ.1 116) w)), (5, .long (zm_hq (σ.1 116) w)), (7, .long (z_xs (zm_x (σ.2 115) t) w)), (9, .long (z_hx (σ.1 116) (zm_x (σ.2 115) t) w)), (11, .int (nI w))]) (st1 := [.long (lN w), .long ((((zm_hq (σ.1 116) w) * (z_xs (zm_x (σ.2 115) t) w)) - ((z_hs (σ.1 116) w) * (z_hx (σ.1 116) (zm_x (σ.2 115) t) w))) + ((Int32.toInt64 x) * (((lN w) * (z_hx (σ.1 116) (zm_x (σ.2 115) t) w)) - ((z_hs (σ.1 116) w) * (z_xs (zm_x (σ.2 115) t) w)))))]) (σ1 := σ) rfl (by rw [nI_l (by omega)]) rfl ?_
    refine z_lload 126 C dX8_axisAt_126 4 rfl ?_
    refine z_lmul 128 C dX8_axisAt_128 ?_
    refine z_lload_n 129 C dX8_axisAt_129 3 rfl ?_
    refine z_lload_n 130 C dX8_axisAt_130 3 rfl ?_
    refine z_lmul 131 C dX8_axisAt_131 ?_
    refine z_lsub 132 C dX8_axisAt_132 ?_
    refine z_callS 133 C (As := [.long ((((zm_hq (σ.1 116) w) * (z_xs (zm_x (σ.2 115) t) w)) - ((z_hs (σ.1 116) w) * (z_hx (σ.1 116) (zm_x (σ.2 115) t) w))) + ((Int32.toInt64 x) * (((lN w) * (z_hx (σ.1 116) (zm_x (σ.2 115) t) w)) - ((z_hs (σ.1 116) w) * (z_xs (zm_x (σ.2 115) t) w))))), .long (((lN w) * (zm_hq (σ.1 116) w)) - ((z_hs (σ.1 116) w) * (z_hs (σ.1 116) w)))]) (rest := []) (m_X8_down ((((zm_hq (σ.1 116) w) * (z_xs (zm_x (σ.2 115) t) w)) - ((z_hs (σ.1 116) w) * (z_hx (σ.1 116) (zm_x (σ.2 115) t) w))) + ((Int32.toInt64 x) * (((lN w) * (z_hx (σ.1 116) (zm_x (σ.2 115) t) w)) - ((z_hs (σ.1 116) w) * (z_xs (zm_x (σ.2 115) t) w))))) (((lN w) * (zm_hq (σ.1 116) w)) - ((z_hs (σ.1 116) w) * (z_hs (σ.1 116) w))) (hpos)) k_X8_down q1116 ⟨rfl, rfl⟩ ⟨Nat.le_of_ble_eq_true rfl, Nat.le_of_ble_eq_true rfl⟩ rfl (Nat.le_of_ble_eq_true rfl) ⟨Nat.le_of_ble_eq_true rfl, Nat.le_of_ble_eq_true rfl⟩ rfl dX8_axisAt_133 (z_k1 ?_)
    refine z_lret 136 C dX8_axisAt_136 ?_
    exact ⟨rfl, rfl⟩
  · skip
    refine z_aload_n 23 C dX8_axisAt_23 0 rfl ?_
    refine z_iload 24 C dX8_axisAt_24 7 rfl ?_
    refine z_iconst 26 C dX8_axisAt_26 (nI 1) rfl ?_
    refine z_iload_n 27 C dX8_axisAt_27 2 rfl ?_
    refine z_callV 28 C 105 (⟨rfl, rfl⟩) rfl (As := [.int (nI k), .int (nI 1), .int (nI t)]) (rest := []) (m_X8_traceHarmonic P n u v w rc tl hM k 1 t (by omega) (by omega) (by omega)) k_X8_traceHarmonic q1353 ⟨rfl, rfl⟩ ⟨Nat.le_of_ble_eq_true rfl, Nat.le_of_ble_eq_true rfl⟩ rfl (Nat.le_of_ble_eq_true rfl) ⟨Nat.le_of_ble_eq_true rfl, Nat.le_of_ble_eq_true rfl⟩ rfl dX8_axisAt_28 (z_k1 ?_)
    refine z_lstore 31 C dX8_axisAt_31 [(12, .long (z_cf (z_sh (σ.2 115) (24 * k)) t 1)), (0, .ref (z_ad G 105)), (1, .int x), (2, .int (nI t)), (3, .long (z_hs (σ.1 116) k)), (5, .long (zm_hq (σ.1 116) k)), (7, .long (z_xs (zm_x (σ.2 115) t) k)), (9, .long (z_hx (σ.1 116) (zm_x (σ.2 115) t) k)), (11, .int (nI k))] (by decide) rfl ?_
    refine z_lload_n 33 C dX8_axisAt_33 4 rfl ?_
    refine z_aload_n 34 C dX8_axisAt_34 1 rfl ?_
    refine z_getf 35 C 105 z_dX8 (⟨rfl, rfl⟩) 19 (by decide) q985 (.ref (z_ad G 116)) rfl dX8_axisAt_35 ?_
    refine z_iload 38 C dX8_axisAt_38 8 rfl ?_
    refine z_ialdN 40 C 116 (n := 6) (⟨rfl, rfl⟩) k rfl (by omega) (by decide) dX8_axisAt_40 ?_
    refine z_i2l 41 C dX8_axisAt_41 ?_
    refine z_ladd 42 C dX8_axisAt_42 ?_
    refine z_lstore_n 43 C dX8_axisAt_43 [(3, .long ((z_hs (σ.1 116) k) + (Int32.toInt64 (σ.1 116 k)))), (12, .long (z_cf (z_sh (σ.2 115) (24 * k)) t 1)), (0, .ref (z_ad G 105)), (1, .int x), (2, .int (nI t)), (5, .long (zm_hq (σ.1 116) k)), (7, .long (z_xs (zm_x (σ.2 115) t) k)), (9, .long (z_hx (σ.1 116) (zm_x (σ.2 115) t) k)), (11, .int (nI k))] (by decide) rfl ?_
    refine z_lload 44 C dX8_axisAt_44 5 rfl ?_
    refine z_aload_n 46 C dX8_axisAt_46 2 rfl ?_
    refine z_getf 47 C 105 z_dX8 (⟨rfl, rfl⟩) 19 (by decide) q985 (.ref (z_ad G 116)) rfl dX8_axisAt_47 ?_
    refine z_iload 50 C dX8_axisAt_50 8 rfl ?_
    refine z_ialdN 52 C 116 (n := 6) (⟨rfl, rfl⟩) k rfl (by omega) (by decide) dX8_axisAt_52 ?_
    refine z_aload_n 53 C dX8_axisAt_53 2 rfl ?_
    refine z_getf 54 C 105 z_dX8 (⟨rfl, rfl⟩) 19 (by decide) q985 (.ref (z_ad G 116)) rfl dX8_axisAt_54 ?_
    refine z_iload 57 C dX8_axisAt_57 8 rfl ?_
    refine z_ialdN 59 C 116 (n := 6) (⟨rfl, rfl⟩) k rfl (by omega) (by decide) dX8_axisAt_59 ?_
    refine z_imul 60 C dX8_axisAt_60 ?_
    refine z_i2l 61 C dX8_axisAt_61 ?_
    refine z_ladd 62 C dX8_axisAt_62 ?_
    refine z_lstore 63 C dX8_axisAt_63 [(5, .long ((zm_hq (σ.1 116) k) + (Int32.toInt64 ((σ.1 116 k) * (σ.1 116 k))))), (3, .long ((z_hs (σ.1 116) k) + (Int32.toInt64 (σ.1 116 k)))), (12, .long (z_cf (z_sh (σ.2 115) (24 * k)) t 1)), (0, .ref (z_ad G 105)), (1, .int x), (2, .int (nI t)), (7, .long (z_xs (zm_x (σ.2 115) t) k)), (9, .long (z_hx (σ.1 116) (zm_x (σ.2 115) t) k)), (11, .int (nI k))] (by decide) rfl ?_
    refine z_lload 65 C dX8_axisAt_65 6 rfl ?_
    refine z_lload 67 C dX8_axisAt_67 2 rfl ?_
    refine z_ladd 69 C dX8_axisAt_69 ?_
    refine z_lstore 70 C dX8_axisAt_70 [(7, .long ((z_xs (zm_x (σ.2 115) t) k) + (z_cf (z_sh (σ.2 115) (24 * k)) t 1))), (5, .long ((zm_hq (σ.1 116) k) + (Int32.toInt64 ((σ.1 116 k) * (σ.1 116 k))))), (3, .long ((z_hs (σ.1 116) k) + (Int32.toInt64 (σ.1 116 k)))), (12, .long (z_cf (z_sh (σ.2 115) (24 * k)) t 1)), (0, .ref (z_ad G 105)), (1, .int x), (2, .int (nI t)), (9, .long (z_hx (σ.1 116) (zm_x (σ.2 115) t) k)), (11, .int (nI k))] (by decide) rfl ?_
    refine z_lload 72 C dX8_axisAt_72 7 rfl ?_
    refine z_aload_n 74 C dX8_axisAt_74 4 rfl ?_
    refine z_getf 75 C 105 z_dX8 (⟨rfl, rfl⟩) 19 (by decide) q985 (.ref (z_ad G 116)) rfl dX8_axisAt_75 ?_
    refine z_iload 78 C dX8_axisAt_78 8 rfl ?_
    refine z_ialdN 80 C 116 (n := 6) (⟨rfl, rfl⟩) k rfl (by omega) (by decide) dX8_axisAt_80 ?_
    refine z_i2l 81 C dX8_axisAt_81 ?_
    refine z_lload 82 C dX8_axisAt_82 3 rfl ?_
    refine z_lmul 84 C dX8_axisAt_84 ?_
    refine z_ladd 85 C dX8_axisAt_85 ?_
    refine z_lstore 86 C dX8_axisAt_86 [(9, .long ((z_hx (σ.1 116) (zm_x (σ.2 115) t) k) + ((Int32.toInt64 (σ.1 116 k)) * (z_cf (z_sh (σ.2 115) (24 * k)) t 1)))), (7, .long ((z_xs (zm_x (σ.2 115) t) k) + (z_cf (z_sh (σ.2 115) (24 * k)) t 1))), (5, .long ((zm_hq (σ.1 116) k) + (Int32.toInt64 ((σ.1 116 k) * (σ.1 116 k))))), (3, .long ((z_hs (σ.1 116) k) + (Int32.toInt64 (σ.1 116 k)))), (12, .long (z_cf (z_sh (σ.2 115) (24 * k)) t 1)), (0, .ref (z_ad G 105)), (1, .int x), (2, .int (nI t)), (11, .int (nI k))] (by decide) rfl ?_
    refine z_iincN 88 C 8 k [(11, .int (nI (k + 1))), (9, .long ((z_hx (σ.1 116) (zm_x (σ.2 115) t) k) + ((Int32.toInt64 (σ.1 116 k)) * (z_cf (z_sh (σ.2 115) (24 * k)) t 1)))), (7, .long ((z_xs (zm_x (σ.2 115) t) k) + (z_cf (z_sh (σ.2 115) (24 * k)) t 1))), (5, .long ((zm_hq (σ.1 116) k) + (Int32.toInt64 ((σ.1 116 k) * (σ.1 116 k))))), (3, .long ((z_hs (σ.1 116) k) + (Int32.toInt64 (σ.1 116 k)))), (12, .long (z_cf (z_sh (σ.2 115) (24 * k)) t 1)), (0, .ref (z_ad G 105)), (1, .int x), (2, .int (nI t))] rfl rfl (by decide) rfl dX8_axisAt_88 ?_
    refine z_goto 91 C 14 dX8_axisAt_91 (by decide) ?_
    refine z_sub [6, 7, 8, 4, 3, 2, 1, 0] (lv1 := [(0, .ref (z_ad G 105)), (1, .int x), (2, .int (nI t)), (3, .long ((z_hs (σ.1 116) k) + (Int32.toInt64 (σ.1 116 k)))), (5, .long ((zm_hq (σ.1 116) k) + (Int32.toInt64 ((σ.1 116 k) * (σ.1 116 k))))), (7, .long ((z_xs (zm_x (σ.2 115) t) k) + (z_cf (z_sh (σ.2 115) (24 * k)) t 1))), (9, .long ((z_hx (σ.1 116) (zm_x (σ.2 115) t) k) + ((Int32.toInt64 (σ.1 116 k)) * (z_cf (z_sh (σ.2 115) (24 * k)) t 1)))), (11, .int (nI (k + 1)))]) rfl ?_
    refine z_cv (lv1 := [(0, .ref (z_ad G 105)), (1, .int x), (2, .int (nI t)), (3, .long (z_hs (σ.1 116) (k + 1))), (5, .long (zm_hq (σ.1 116) (k + 1))), (7, .long (z_xs (zm_x (σ.2 115) t) (k + 1))), (9, .long (z_hx (σ.1 116) (zm_x (σ.2 115) t) (k + 1))), (11, .int (nI (k + 1)))]) (st1 := []) (σ1 := σ) rfl rfl rfl ?_
    exact ih_14 (k + 1) (by omega) (by omega)
theorem dX8_axis_0 : decode cX8_axis 0 = .ok (.iload_n 1, 1) := by decide +kernel
theorem dX8_axis_1 : decode cX8_axis 1 = .ok (.i2l, 1) := by decide +kernel
theorem dX8_axis_2 : decode cX8_axis 2 = .ok (.lconst 0, 1) := by decide +kernel
theorem dX8_axis_3 : decode cX8_axis 3 = .ok (.ldc2_w 264, 3) := by decide +kernel
theorem dX8_axis_6 : decode cX8_axis 6 = .ok (.invokestatic 68, 3) := by decide +kernel
theorem dX8_axis_9 : decode cX8_axis 9 = .ok (.ifCond .eq 11, 3) := by decide +kernel
theorem dX8_axis_12 : decode cX8_axis 12 = .ok (.aload_n 0, 1) := by decide +kernel
theorem dX8_axis_13 : decode cX8_axis 13 = .ok (.getfield 261, 3) := by decide +kernel
theorem dX8_axis_16 : decode cX8_axis 16 = .ok (.iconst 2, 1) := by decide +kernel
theorem dX8_axis_17 : decode cX8_axis 17 = .ok (.if_icmp .ge 9, 3) := by decide +kernel
theorem dX8_axis_20 : decode cX8_axis 20 = .ok (.invokestatic 127, 3) := by decide +kernel
theorem dX8_axis_23 : decode cX8_axis 23 = .ok (.goto 9, 3) := by decide +kernel
theorem dX8_axis_26 : decode cX8_axis 26 = .ok (.aload_n 0, 1) := by decide +kernel
theorem dX8_axis_27 : decode cX8_axis 27 = .ok (.iload_n 1, 1) := by decide +kernel
theorem dX8_axis_28 : decode cX8_axis 28 = .ok (.iload_n 2, 1) := by decide +kernel
theorem dX8_axis_29 : decode cX8_axis 29 = .ok (.invokevirtual 274, 3) := by decide +kernel
theorem dX8_axis_32 : decode cX8_axis 32 = .ok (.lreturn, 1) := by decide +kernel
set_option maxRecDepth 100000 in
set_option maxHeartbeats 4000000 in
theorem m_X8_axis {l : Launch} {G : z_Gl} {σ : z_St} (P n u v w rc tl : Nat) (hM : z_mi σ P n u v w rc tl) (x : Int32) (t : Nat) (ht : t < 2) (hpos : 2 ≤ w → 0 < zm_den (σ.1 116) w) : z_M l G yX8_axis cX8_axis 3 (some .long) (z_rm 6 147) [.ref (z_ad G 105), .int x, .int (nI t)] σ (z_p1 (.long (if x < nI 0 ∨ nI 100 < x then (-9223372036854775808) else if ¬ 2 ≤ w then (-9223372036854775808) else zm_ax (σ.1 116) (zm_x (σ.2 115) t) w x)) σ) := by
  refine z_M.of (by decide) (Nat.le_of_ble_eq_true rfl) (fun p e s m below meth c C => ?_)
  refine z_sub [0, 1, 2] (lv1 := [(0, .ref (z_ad G 105)), (1, .int x), (2, .int (nI t))]) rfl ?_
  have hM0 := hM
  obtain ⟨⟨hP, hn, hu, hv, hw, hrc, htl⟩, hPs, hnP, huv, hw6, hrc8, htl2, hqt, hah⟩ := hM0
  have h0 : 0 < P := by omega
  have h12 : P ≤ 12 := by omega
  have h288 : n ≤ 288 := by omega
  refine z_iload_n 0 C dX8_axis_0 1 rfl ?_
  refine z_i2l 1 C dX8_axis_1 ?_
  refine z_lconst 2 C dX8_axis_2 0 rfl ?_
  refine z_ldc2 3 C dX8_axis_3 q1335 ?_
  refine z_callS 6 C (As := [.long (Int32.toInt64 x), .long 0, .long 100]) (rest := []) (m_X8_in_i x (nI 0) (nI 100) (by decide) (by decide)) k_X8_in q1071 ⟨rfl, rfl⟩ ⟨Nat.le_of_ble_eq_true rfl, Nat.le_of_ble_eq_true rfl⟩ rfl (Nat.le_of_ble_eq_true rfl) ⟨Nat.le_of_ble_eq_true rfl, Nat.le_of_ble_eq_true rfl⟩ rfl dX8_axis_6 (z_k1 ?_)
  refine z_if_eqb 9 C 20 dX8_axis_9 (by decide) (fun c9 => ?_) (fun c9 => ?_)
  · skip
    replace c9 := Classical.not_not.mp c9
    refine z_callS 20 C (As := []) (rest := []) (m_X8_lost) k_X8_lost q1123 ⟨rfl, rfl⟩ ⟨Nat.le_of_ble_eq_true rfl, Nat.le_of_ble_eq_true rfl⟩ rfl (Nat.le_of_ble_eq_true rfl) ⟨Nat.le_of_ble_eq_true rfl, Nat.le_of_ble_eq_true rfl⟩ rfl dX8_axis_20 (z_k1 ?_)
    refine z_goto 23 C 32 dX8_axis_23 (by decide) ?_
    refine z_lret 32 C dX8_axis_32 ?_
    first | exact ⟨z_cl (by rw [if_pos c9]), rfl⟩ | exact ⟨z_cl (by rw [if_neg c9, if_pos (Nat.not_le.mpr c17)]), rfl⟩
  · skip
    refine z_aload_n 12 C dX8_axis_12 0 rfl ?_
    refine z_getf 13 C 105 z_dX8 (⟨rfl, rfl⟩) 17 (by decide) q983 (.int (nI w)) (z_ci hw) dX8_axis_13 ?_
    refine z_iconst 16 C dX8_axis_16 (nI 2) rfl ?_
    refine z_icmp_geN 17 C w 2 rfl rfl (by omega) (by omega) 26 dX8_axis_17 (by decide) (fun c17 => ?_) (fun c17 => ?_)
    · skip
      refine z_aload_n 26 C dX8_axis_26 0 rfl ?_
      refine z_iload_n 27 C dX8_axis_27 1 rfl ?_
      refine z_iload_n 28 C dX8_axis_28 2 rfl ?_
      refine z_callV 29 C 105 (⟨rfl, rfl⟩) rfl (As := [.int x, .int (nI t)]) (rest := []) (m_X8_axisAt P n u v w rc tl hM x t (by omega) (hpos c17)) k_X8_axisAt q1361 ⟨rfl, rfl⟩ ⟨Nat.le_of_ble_eq_true rfl, Nat.le_of_ble_eq_true rfl⟩ rfl (Nat.le_of_ble_eq_true rfl) ⟨Nat.le_of_ble_eq_true rfl, Nat.le_of_ble_eq_true rfl⟩ rfl dX8_axis_29 (z_k1 ?_)
      refine z_lret 32 C dX8_axis_32 ?_
      exact ⟨z_cl (by rw [if_neg c9, if_neg (fun z => z c17)]), rfl⟩
    · skip
      refine z_callS 20 C (As := []) (rest := []) (m_X8_lost) k_X8_lost q1123 ⟨rfl, rfl⟩ ⟨Nat.le_of_ble_eq_true rfl, Nat.le_of_ble_eq_true rfl⟩ rfl (Nat.le_of_ble_eq_true rfl) ⟨Nat.le_of_ble_eq_true rfl, Nat.le_of_ble_eq_true rfl⟩ rfl dX8_axis_20 (z_k1 ?_)
      refine z_goto 23 C 32 dX8_axis_23 (by decide) ?_
      refine z_lret 32 C dX8_axis_32 ?_
      first | exact ⟨z_cl (by rw [if_pos c9]), rfl⟩ | exact ⟨z_cl (by rw [if_neg c9, if_pos (Nat.not_le.mpr c17)]), rfl⟩
theorem dX8_cylindricity_0 : decode cX8_cylindricity 0 = .ok (.aload_n 0, 1) := by decide +kernel
theorem dX8_cylindricity_1 : decode cX8_cylindricity 1 = .ok (.getfield 261, 3) := by decide +kernel
theorem dX8_cylindricity_4 : decode cX8_cylindricity 4 = .ok (.iconst 2, 1) := by decide +kernel
theorem dX8_cylindricity_5 : decode cX8_cylindricity 5 = .ok (.if_icmp .ge 7, 3) := by decide +kernel
theorem dX8_cylindricity_8 : decode cX8_cylindricity 8 = .ok (.ldc2_w 239, 3) := by decide +kernel
theorem dX8_cylindricity_11 : decode cX8_cylindricity 11 = .ok (.dreturn, 1) := by decide +kernel
theorem dX8_cylindricity_12 : decode cX8_cylindricity 12 = .ok (.lconst 0, 1) := by decide +kernel
theorem dX8_cylindricity_13 : decode cX8_cylindricity 13 = .ok (.lstore_n 1, 1) := by decide +kernel
theorem dX8_cylindricity_14 : decode cX8_cylindricity 14 = .ok (.lconst 0, 1) := by decide +kernel
theorem dX8_cylindricity_15 : decode cX8_cylindricity 15 = .ok (.lstore_n 3, 1) := by decide +kernel
theorem dX8_cylindricity_16 : decode cX8_cylindricity 16 = .ok (.iconst 0, 1) := by decide +kernel
theorem dX8_cylindricity_17 : decode cX8_cylindricity 17 = .ok (.istore 5, 2) := by decide +kernel
theorem dX8_cylindricity_19 : decode cX8_cylindricity 19 = .ok (.iload 5, 2) := by decide +kernel
theorem dX8_cylindricity_21 : decode cX8_cylindricity 21 = .ok (.aload_n 0, 1) := by decide +kernel
theorem dX8_cylindricity_22 : decode cX8_cylindricity 22 = .ok (.getfield 261, 3) := by decide +kernel
theorem dX8_cylindricity_25 : decode cX8_cylindricity 25 = .ok (.if_icmp .ge 92, 3) := by decide +kernel
theorem dX8_cylindricity_28 : decode cX8_cylindricity 28 = .ok (.aload_n 0, 1) := by decide +kernel
theorem dX8_cylindricity_29 : decode cX8_cylindricity 29 = .ok (.aload_n 0, 1) := by decide +kernel
theorem dX8_cylindricity_30 : decode cX8_cylindricity 30 = .ok (.getfield 44, 3) := by decide +kernel
theorem dX8_cylindricity_33 : decode cX8_cylindricity 33 = .ok (.bipush 24, 2) := by decide +kernel
theorem dX8_cylindricity_35 : decode cX8_cylindricity 35 = .ok (.iload 5, 2) := by decide +kernel
theorem dX8_cylindricity_37 : decode cX8_cylindricity 37 = .ok (.imul, 1) := by decide +kernel
theorem dX8_cylindricity_38 : decode cX8_cylindricity 38 = .ok (.aload_n 0, 1) := by decide +kernel
theorem dX8_cylindricity_39 : decode cX8_cylindricity 39 = .ok (.aload_n 0, 1) := by decide +kernel
theorem dX8_cylindricity_40 : decode cX8_cylindricity 40 = .ok (.getfield 47, 3) := by decide +kernel
theorem dX8_cylindricity_43 : decode cX8_cylindricity 43 = .ok (.iload 5, 2) := by decide +kernel
theorem dX8_cylindricity_45 : decode cX8_cylindricity 45 = .ok (.iaload, 1) := by decide +kernel
theorem dX8_cylindricity_46 : decode cX8_cylindricity 46 = .ok (.iconst 0, 1) := by decide +kernel
theorem dX8_cylindricity_47 : decode cX8_cylindricity 47 = .ok (.invokevirtual 274, 3) := by decide +kernel
theorem dX8_cylindricity_50 : decode cX8_cylindricity 50 = .ok (.aload_n 0, 1) := by decide +kernel
theorem dX8_cylindricity_51 : decode cX8_cylindricity 51 = .ok (.aload_n 0, 1) := by decide +kernel
theorem dX8_cylindricity_52 : decode cX8_cylindricity 52 = .ok (.getfield 47, 3) := by decide +kernel
theorem dX8_cylindricity_55 : decode cX8_cylindricity 55 = .ok (.iload 5, 2) := by decide +kernel
theorem dX8_cylindricity_57 : decode cX8_cylindricity 57 = .ok (.iaload, 1) := by decide +kernel
theorem dX8_cylindricity_58 : decode cX8_cylindricity 58 = .ok (.iconst 1, 1) := by decide +kernel
theorem dX8_cylindricity_59 : decode cX8_cylindricity 59 = .ok (.invokevirtual 274, 3) := by decide +kernel
theorem dX8_cylindricity_62 : decode cX8_cylindricity 62 = .ok (.invokevirtual 210, 3) := by decide +kernel
theorem dX8_cylindricity_65 : decode cX8_cylindricity 65 = .ok (.iload 5, 2) := by decide +kernel
theorem dX8_cylindricity_67 : decode cX8_cylindricity 67 = .ok (.ifCond .eq 12, 3) := by decide +kernel
theorem dX8_cylindricity_70 : decode cX8_cylindricity 70 = .ok (.aload_n 0, 1) := by decide +kernel
theorem dX8_cylindricity_71 : decode cX8_cylindricity 71 = .ok (.getfield 203, 3) := by decide +kernel
theorem dX8_cylindricity_74 : decode cX8_cylindricity 74 = .ok (.lload_n 1, 1) := by decide +kernel
theorem dX8_cylindricity_75 : decode cX8_cylindricity 75 = .ok (.lcmp, 1) := by decide +kernel
theorem dX8_cylindricity_76 : decode cX8_cylindricity 76 = .ok (.ifCond .le 10, 3) := by decide +kernel
theorem dX8_cylindricity_79 : decode cX8_cylindricity 79 = .ok (.aload_n 0, 1) := by decide +kernel
theorem dX8_cylindricity_80 : decode cX8_cylindricity 80 = .ok (.getfield 203, 3) := by decide +kernel
theorem dX8_cylindricity_83 : decode cX8_cylindricity 83 = .ok (.goto 4, 3) := by decide +kernel
theorem dX8_cylindricity_86 : decode cX8_cylindricity 86 = .ok (.lload_n 1, 1) := by decide +kernel
theorem dX8_cylindricity_87 : decode cX8_cylindricity 87 = .ok (.lstore_n 1, 1) := by decide +kernel
theorem dX8_cylindricity_88 : decode cX8_cylindricity 88 = .ok (.iload 5, 2) := by decide +kernel
theorem dX8_cylindricity_90 : decode cX8_cylindricity 90 = .ok (.ifCond .eq 12, 3) := by decide +kernel
theorem dX8_cylindricity_93 : decode cX8_cylindricity 93 = .ok (.aload_n 0, 1) := by decide +kernel
theorem dX8_cylindricity_94 : decode cX8_cylindricity 94 = .ok (.getfield 207, 3) := by decide +kernel
theorem dX8_cylindricity_97 : decode cX8_cylindricity 97 = .ok (.lload_n 3, 1) := by decide +kernel
theorem dX8_cylindricity_98 : decode cX8_cylindricity 98 = .ok (.lcmp, 1) := by decide +kernel
theorem dX8_cylindricity_99 : decode cX8_cylindricity 99 = .ok (.ifCond .ge 10, 3) := by decide +kernel
theorem dX8_cylindricity_102 : decode cX8_cylindricity 102 = .ok (.aload_n 0, 1) := by decide +kernel
theorem dX8_cylindricity_103 : decode cX8_cylindricity 103 = .ok (.getfield 207, 3) := by decide +kernel
theorem dX8_cylindricity_106 : decode cX8_cylindricity 106 = .ok (.goto 4, 3) := by decide +kernel
theorem dX8_cylindricity_109 : decode cX8_cylindricity 109 = .ok (.lload_n 3, 1) := by decide +kernel
theorem dX8_cylindricity_110 : decode cX8_cylindricity 110 = .ok (.lstore_n 3, 1) := by decide +kernel
theorem dX8_cylindricity_111 : decode cX8_cylindricity 111 = .ok (.iinc 5 1, 3) := by decide +kernel
theorem dX8_cylindricity_114 : decode cX8_cylindricity 114 = .ok (.goto (-95), 3) := by decide +kernel
theorem dX8_cylindricity_117 : decode cX8_cylindricity 117 = .ok (.lload_n 1, 1) := by decide +kernel
theorem dX8_cylindricity_118 : decode cX8_cylindricity 118 = .ok (.lload_n 3, 1) := by decide +kernel
theorem dX8_cylindricity_119 : decode cX8_cylindricity 119 = .ok (.lsub, 1) := by decide +kernel
theorem dX8_cylindricity_120 : decode cX8_cylindricity 120 = .ok (.l2d, 1) := by decide +kernel
theorem dX8_cylindricity_121 : decode cX8_cylindricity 121 = .ok (.ldc2_w 245, 3) := by decide +kernel
theorem dX8_cylindricity_124 : decode cX8_cylindricity 124 = .ok (.ddiv, 1) := by decide +kernel
theorem dX8_cylindricity_125 : decode cX8_cylindricity 125 = .ok (.dreturn, 1) := by decide +kernel
set_option maxRecDepth 100000 in
set_option maxHeartbeats 4000000 in
theorem m_X8_cylindricity {l : Launch} {G : z_Gl} {σ : z_St} (P n u v w rc tl : Nat) (hM : z_mi σ P n u v w rc tl) (cx cy mo le : Int64) (as_ of_ : Nat → Int64) (hpos : 2 ≤ w → 0 < zm_den (σ.1 116) w) : z_M l G yX8_cylindricity cX8_cylindricity 6 (some .double) (z_rm 6 147) [.ref (z_ad G 105)] (z_mU σ cx cy mo le as_ of_) (fun w_ σ1 => w_ = some (.double (if 2 ≤ w then z_mic (zm_hi (zm_fH (σ.1 116) (σ.2 115) w) w - zm_bst (zm_fL (σ.1 116) (σ.2 115) w) w) else 13830554455654793216)) ∧ ∃ q1 q2 q3 q4, σ1 = z_mU σ q1 q2 q3 q4 as_ of_) := by
  refine z_M.of (by decide) (Nat.le_of_ble_eq_true rfl) (fun p e s m below meth c C => ?_)
  refine z_sub [0] (lv1 := [(0, .ref (z_ad G 105))]) rfl ?_
  have hM0 := hM
  obtain ⟨⟨hP, hn, hu, hv, hw, hrc, htl⟩, hPs, hnP, huv, hw6, hrc8, htl2, hqt, hah⟩ := hM0
  have h0 : 0 < P := by omega
  have h12 : P ≤ 12 := by omega
  have h288 : n ≤ 288 := by omega
  refine z_aload_n 0 C dX8_cylindricity_0 0 rfl ?_
  refine z_getf 1 C 105 z_dX8 (⟨rfl, rfl⟩) 17 (by decide) q983 (.int (nI w)) (z_ci hw) dX8_cylindricity_1 ?_
  refine z_iconst 4 C dX8_cylindricity_4 (nI 2) rfl ?_
  refine z_icmp_geN 5 C w 2 rfl rfl (by omega) (by omega) 12 dX8_cylindricity_5 (by decide) (fun c5 => ?_) (fun c5 => ?_)
  · skip
    refine z_lconst 12 C dX8_cylindricity_12 0 rfl ?_
    refine z_lstore_n 13 C dX8_cylindricity_13 [(1, .long 0), (0, .ref (z_ad G 105))] (by decide) rfl ?_
    refine z_lconst 14 C dX8_cylindricity_14 0 rfl ?_
    refine z_lstore_n 15 C dX8_cylindricity_15 [(3, .long 0), (1, .long 0), (0, .ref (z_ad G 105))] (by decide) rfl ?_
    refine z_iconst 16 C dX8_cylindricity_16 (nI 0) rfl ?_
    refine z_istore 17 C dX8_cylindricity_17 [(5, .int (nI 0)), (3, .long 0), (1, .long 0), (0, .ref (z_ad G 105))] (by decide) rfl ?_
    refine z_sub [3, 2, 1, 0] (lv1 := [(0, .ref (z_ad G 105)), (1, .long 0), (3, .long 0), (5, .int (nI 0))]) rfl ?_
    refine z_cv (lv1 := [(0, .ref (z_ad G 105)), (1, .long (zm_hi (zm_fH (σ.1 116) (σ.2 115) w) 0)), (3, .long (zm_bst (zm_fL (σ.1 116) (σ.2 115) w) 0)), (5, .int (nI 0))]) (st1 := []) (σ1 := z_mU σ cx cy mo le as_ of_) rfl rfl rfl ?_
    refine z_lp3 (fun (i : Nat) (md : Int64) (me : Int64) => i ≤ w) (fun (i : Nat) (md : Int64) (me : Int64) => w - i) (fun (i : Nat) (md : Int64) (me : Int64) => [(0, .ref (z_ad G 105)), (1, .long (zm_hi (zm_fH (σ.1 116) (σ.2 115) w) i)), (3, .long (zm_bst (zm_fL (σ.1 116) (σ.2 115) w) i)), (5, .int (nI i))]) (fun (i : Nat) (md : Int64) (me : Int64) => z_mU σ cx cy md me as_ of_) (fun i md me hi_19 ih_19 => ?_) 0 mo le (by omega)
    try dsimp only
    refine z_iload 19 C dX8_cylindricity_19 3 rfl ?_
    refine z_aload_n 21 C dX8_cylindricity_21 0 rfl ?_
    refine z_getf 22 C 105 z_dX8 (⟨rfl, rfl⟩) 17 (by decide) q983 (.int (nI w)) (z_ci hw) dX8_cylindricity_22 ?_
    refine z_icmp_geN 25 C i w rfl rfl (by omega) (by omega) 117 dX8_cylindricity_25 (by decide) (fun c25 => ?_) (fun c25 => ?_)
    · skip
      have ek : w = i := by omega
      subst ek
      refine z_lload_n 117 C dX8_cylindricity_117 1 rfl ?_
      refine z_lload_n 118 C dX8_cylindricity_118 2 rfl ?_
      refine z_lsub 119 C dX8_cylindricity_119 ?_
      refine z_l2d 120 C dX8_cylindricity_120 ?_
      refine z_ldc2d 121 C dX8_cylindricity_121 q1303 ?_
      refine z_ddiv 124 C dX8_cylindricity_124 ((zf_mic _).1) ?_
      refine z_dret 125 C dX8_cylindricity_125 ?_
      exact ⟨z_cdb (by rw [if_pos c5]; rfl), _, _, _, _, rfl⟩
    · skip
      refine z_aload_n 28 C dX8_cylindricity_28 0 rfl ?_
      refine z_aload_n 29 C dX8_cylindricity_29 0 rfl ?_
      refine z_getf 30 C 105 z_dX8 (⟨rfl, rfl⟩) 18 (by decide) q984 (.ref (z_ad G 115)) rfl dX8_cylindricity_30 ?_
      refine z_bipush 33 C dX8_cylindricity_33 (nI 24) rfl ?_
      refine z_iload 35 C dX8_cylindricity_35 3 rfl ?_
      refine z_imulN 37 C 24 i rfl rfl dX8_cylindricity_37 ?_
      refine z_aload_n 38 C dX8_cylindricity_38 0 rfl ?_
      refine z_aload_n 39 C dX8_cylindricity_39 0 rfl ?_
      refine z_getf 40 C 105 z_dX8 (⟨rfl, rfl⟩) 19 (by decide) q985 (.ref (z_ad G 116)) rfl dX8_cylindricity_40 ?_
      refine z_iload 43 C dX8_cylindricity_43 3 rfl ?_
      refine z_ialdN 45 C 116 (n := 6) (⟨rfl, rfl⟩) i rfl (by omega) (by decide) dX8_cylindricity_45 ?_
      refine z_cv (st1 := [.int (σ.1 116 i), .ref (z_ad G 105), .int (nI (24 * i)), .ref (z_ad G 115), .ref (z_ad G 105)]) rfl rfl rfl ?_
      refine z_iconst 46 C dX8_cylindricity_46 (nI 0) rfl ?_
      refine z_callV 47 C 105 (⟨rfl, rfl⟩) rfl (As := [.int (σ.1 116 i), .int (nI 0)]) (rest := [.int (nI (24 * i)), .ref (z_ad G 115), .ref (z_ad G 105)]) (m_X8_axisAt (σ := z_mU σ cx cy md me as_ of_) P n u v w rc tl hM.mU (σ.1 116 i) 0 (by omega) (hpos c5)) k_X8_axisAt q1361 ⟨rfl, rfl⟩ ⟨Nat.le_of_ble_eq_true rfl, Nat.le_of_ble_eq_true rfl⟩ rfl (Nat.le_of_ble_eq_true rfl) ⟨Nat.le_of_ble_eq_true rfl, Nat.le_of_ble_eq_true rfl⟩ rfl dX8_cylindricity_47 (z_k1 ?_)
      refine z_aload_n 50 C dX8_cylindricity_50 0 rfl ?_
      refine z_aload_n 51 C dX8_cylindricity_51 0 rfl ?_
      refine z_getf 52 C 105 z_dX8 (⟨rfl, rfl⟩) 19 (by decide) q985 (.ref (z_ad G 116)) rfl dX8_cylindricity_52 ?_
      refine z_iload 55 C dX8_cylindricity_55 3 rfl ?_
      refine z_ialdN 57 C 116 (n := 6) (⟨rfl, rfl⟩) i rfl (by omega) (by decide) dX8_cylindricity_57 ?_
      refine z_cv (st1 := [.int (σ.1 116 i), .ref (z_ad G 105), .long (zm_ax (σ.1 116) (zm_x (σ.2 115) 0) w (σ.1 116 i)), .int (nI (24 * i)), .ref (z_ad G 115), .ref (z_ad G 105)]) rfl rfl rfl ?_
      refine z_iconst 58 C dX8_cylindricity_58 (nI 1) rfl ?_
      refine z_callV 59 C 105 (⟨rfl, rfl⟩) rfl (As := [.int (σ.1 116 i), .int (nI 1)]) (rest := [.long (zm_ax (σ.1 116) (zm_x (σ.2 115) 0) w (σ.1 116 i)), .int (nI (24 * i)), .ref (z_ad G 115), .ref (z_ad G 105)]) (m_X8_axisAt (σ := z_mU σ cx cy md me as_ of_) P n u v w rc tl hM.mU (σ.1 116 i) 1 (by omega) (hpos c5)) k_X8_axisAt q1361 ⟨rfl, rfl⟩ ⟨Nat.le_of_ble_eq_true rfl, Nat.le_of_ble_eq_true rfl⟩ rfl (Nat.le_of_ble_eq_true rfl) ⟨Nat.le_of_ble_eq_true rfl, Nat.le_of_ble_eq_true rfl⟩ rfl dX8_cylindricity_59 (z_k1 ?_)
      refine z_callV 62 C 105 (⟨rfl, rfl⟩) rfl (As := [.ref (z_ad G 115), .int (nI (24 * i)), .long (zm_ax (σ.1 116) (zm_x (σ.2 115) 0) w (σ.1 116 i)), .long (zm_ax (σ.1 116) (zm_x (σ.2 115) 1) w (σ.1 116 i))]) (rest := []) (@m_X8_findEnds _ _ σ P n u v w rc tl hM cx cy md me as_ of_ 115 (24 * i) 144 (zm_ax (σ.1 116) (zm_x (σ.2 115) 0) w (σ.1 116 i)) (zm_ax (σ.1 116) (zm_x (σ.2 115) 1) w (σ.1 116 i)) (σ.2 115) (⟨rfl, rfl⟩) (by omega) (by omega) (fun _ _ _ _ => rfl)) k_X8_findEnds q1274 ⟨rfl, rfl⟩ ⟨Nat.le_of_ble_eq_true rfl, Nat.le_of_ble_eq_true rfl⟩ rfl (Nat.le_of_ble_eq_true rfl) ⟨Nat.le_of_ble_eq_true rfl, Nat.le_of_ble_eq_true rfl⟩ rfl dX8_cylindricity_62 (z_k0 ?_)
      refine z_iload 65 C dX8_cylindricity_65 3 rfl ?_
      refine z_if_eq 67 C 79 dX8_cylindricity_67 (by decide) (fun c67 => ?_) (fun c67 => ?_)
      · skip
        refine z_aload_n 79 C dX8_cylindricity_79 0 rfl ?_
        refine z_getf 80 C 105 z_dX8 (⟨rfl, rfl⟩) 12 (by decide) q978 (.long (z_fmx (z_df (z_sh (σ.2 115) (24 * i)) (zm_ax (σ.1 116) (zm_x (σ.2 115) 0) w (σ.1 116 i)) (zm_ax (σ.1 116) (zm_x (σ.2 115) 1) w (σ.1 116 i))) (-9223372036854775808) 24)) z_mU_gmo dX8_cylindricity_80 ?_
        refine z_goto 83 C 87 dX8_cylindricity_83 (by decide) ?_
        refine z_lstore_n 87 C dX8_cylindricity_87 [(1, .long (z_fmx (z_df (z_sh (σ.2 115) (24 * i)) (zm_ax (σ.1 116) (zm_x (σ.2 115) 0) w (σ.1 116 i)) (zm_ax (σ.1 116) (zm_x (σ.2 115) 1) w (σ.1 116 i))) (-9223372036854775808) 24)), (0, .ref (z_ad G 105)), (3, .long (zm_bst (zm_fL (σ.1 116) (σ.2 115) w) i)), (5, .int (nI i))] (by decide) rfl ?_
        refine z_iload 88 C dX8_cylindricity_88 3 rfl ?_
        refine z_if_eq 90 C 102 dX8_cylindricity_90 (by decide) (fun c90 => ?_) (fun c90 => ?_)
        · skip
          refine z_aload_n 102 C dX8_cylindricity_102 1 rfl ?_
          refine z_getf 103 C 105 z_dX8 (⟨rfl, rfl⟩) 13 (by decide) q979 (.long (z_fmn (z_df (z_sh (σ.2 115) (24 * i)) (zm_ax (σ.1 116) (zm_x (σ.2 115) 0) w (σ.1 116 i)) (zm_ax (σ.1 116) (zm_x (σ.2 115) 1) w (σ.1 116 i))) 9223372036854775807 24)) z_mU_gle dX8_cylindricity_103 ?_
          refine z_goto 106 C 110 dX8_cylindricity_106 (by decide) ?_
          refine z_lstore_n 110 C dX8_cylindricity_110 [(3, .long (z_fmn (z_df (z_sh (σ.2 115) (24 * i)) (zm_ax (σ.1 116) (zm_x (σ.2 115) 0) w (σ.1 116 i)) (zm_ax (σ.1 116) (zm_x (σ.2 115) 1) w (σ.1 116 i))) 9223372036854775807 24)), (1, .long (z_fmx (z_df (z_sh (σ.2 115) (24 * i)) (zm_ax (σ.1 116) (zm_x (σ.2 115) 0) w (σ.1 116 i)) (zm_ax (σ.1 116) (zm_x (σ.2 115) 1) w (σ.1 116 i))) (-9223372036854775808) 24)), (0, .ref (z_ad G 105)), (5, .int (nI i))] (by decide) rfl ?_
          refine z_iincN 111 C 3 i [(5, .int (nI (i + 1))), (3, .long (z_fmn (z_df (z_sh (σ.2 115) (24 * i)) (zm_ax (σ.1 116) (zm_x (σ.2 115) 0) w (σ.1 116 i)) (zm_ax (σ.1 116) (zm_x (σ.2 115) 1) w (σ.1 116 i))) 9223372036854775807 24)), (1, .long (z_fmx (z_df (z_sh (σ.2 115) (24 * i)) (zm_ax (σ.1 116) (zm_x (σ.2 115) 0) w (σ.1 116 i)) (zm_ax (σ.1 116) (zm_x (σ.2 115) 1) w (σ.1 116 i))) (-9223372036854775808) 24)), (0, .ref (z_ad G 105))] rfl rfl (by decide) rfl dX8_cylindricity_111 ?_
          refine z_goto 114 C 19 dX8_cylindricity_114 (by decide) ?_
          refine z_sub [3, 2, 1, 0] (lv1 := [(0, .ref (z_ad G 105)), (1, .long (z_fmx (z_df (z_sh (σ.2 115) (24 * i)) (zm_ax (σ.1 116) (zm_x (σ.2 115) 0) w (σ.1 116 i)) (zm_ax (σ.1 116) (zm_x (σ.2 115) 1) w (σ.1 116 i))) (-9223372036854775808) 24)), (3, .long (z_fmn (z_df (z_sh (σ.2 115) (24 * i)) (zm_ax (σ.1 116) (zm_x (σ.2 115) 0) w (σ.1 116 i)) (zm_ax (σ.1 116) (zm_x (σ.2 115) 1) w (σ.1 116 i))) 9223372036854775807 24)), (5, .int (nI (i + 1)))]) rfl ?_
          refine z_cv (lv1 := [(0, .ref (z_ad G 105)), (1, .long (zm_hi (zm_fH (σ.1 116) (σ.2 115) w) (i + 1))), (3, .long (zm_bst (zm_fL (σ.1 116) (σ.2 115) w) (i + 1))), (5, .int (nI (i + 1)))]) (st1 := []) (σ1 := z_mU σ cx cy (z_fmx (z_df (z_sh (σ.2 115) (24 * i)) (zm_ax (σ.1 116) (zm_x (σ.2 115) 0) w (σ.1 116 i)) (zm_ax (σ.1 116) (zm_x (σ.2 115) 1) w (σ.1 116 i))) (-9223372036854775808) 24) (z_fmn (z_df (z_sh (σ.2 115) (24 * i)) (zm_ax (σ.1 116) (zm_x (σ.2 115) 0) w (σ.1 116 i)) (zm_ax (σ.1 116) (zm_x (σ.2 115) 1) w (σ.1 116 i))) 9223372036854775807 24) as_ of_) (by rw [zm_hi1 (D := zm_fH (σ.1 116) (σ.2 115) w) (Or.inl ((z_nI0 (by omega)).mp c67)), (zm_wb1 (D := zm_fL (σ.1 116) (σ.2 115) w) (Or.inl ((z_nI0 (by omega)).mp c67))).2] <;> rfl) rfl rfl ?_
          exact ih_19 (i + 1) (z_fmx (z_df (z_sh (σ.2 115) (24 * i)) (zm_ax (σ.1 116) (zm_x (σ.2 115) 0) w (σ.1 116 i)) (zm_ax (σ.1 116) (zm_x (σ.2 115) 1) w (σ.1 116 i))) (-9223372036854775808) 24) (z_fmn (z_df (z_sh (σ.2 115) (24 * i)) (zm_ax (σ.1 116) (zm_x (σ.2 115) 0) w (σ.1 116 i)) (zm_ax (σ.1 116) (zm_x (σ.2 115) 1) w (σ.1 116 i))) 9223372036854775807 24) (by omega) (by omega)
        · skip
          exact absurd c67 c90
      · skip
        refine z_aload_n 70 C dX8_cylindricity_70 0 rfl ?_
        refine z_getf 71 C 105 z_dX8 (⟨rfl, rfl⟩) 12 (by decide) q978 (.long (z_fmx (z_df (z_sh (σ.2 115) (24 * i)) (zm_ax (σ.1 116) (zm_x (σ.2 115) 0) w (σ.1 116 i)) (zm_ax (σ.1 116) (zm_x (σ.2 115) 1) w (σ.1 116 i))) (-9223372036854775808) 24)) z_mU_gmo dX8_cylindricity_71 ?_
        refine z_lload_n 74 C dX8_cylindricity_74 1 rfl ?_
        refine z_lcmp_le 75 C 86 dX8_cylindricity_75 dX8_cylindricity_76 (by decide) (fun c75 => ?_) (fun c75 => ?_)
        · skip
          refine z_lload_n 86 C dX8_cylindricity_86 1 rfl ?_
          refine z_lstore_n 87 C dX8_cylindricity_87 [(1, .long (zm_hi (zm_fH (σ.1 116) (σ.2 115) w) i)), (0, .ref (z_ad G 105)), (3, .long (zm_bst (zm_fL (σ.1 116) (σ.2 115) w) i)), (5, .int (nI i))] (by decide) rfl ?_
          refine z_iload 88 C dX8_cylindricity_88 3 rfl ?_
          refine z_if_eq 90 C 102 dX8_cylindricity_90 (by decide) (fun c90 => ?_) (fun c90 => ?_)
          · skip
            exact absurd c90 c67
          · skip
            refine z_aload_n 93 C dX8_cylindricity_93 1 rfl ?_
            refine z_getf 94 C 105 z_dX8 (⟨rfl, rfl⟩) 13 (by decide) q979 (.long (z_fmn (z_df (z_sh (σ.2 115) (24 * i)) (zm_ax (σ.1 116) (zm_x (σ.2 115) 0) w (σ.1 116 i)) (zm_ax (σ.1 116) (zm_x (σ.2 115) 1) w (σ.1 116 i))) 9223372036854775807 24)) z_mU_gle dX8_cylindricity_94 ?_
            refine z_lload_n 97 C dX8_cylindricity_97 2 rfl ?_
            refine z_lcmp_ge 98 C 109 dX8_cylindricity_98 dX8_cylindricity_99 (by decide) (fun c98 => ?_) (fun c98 => ?_)
            · skip
              refine z_lload_n 109 C dX8_cylindricity_109 2 rfl ?_
              refine z_lstore_n 110 C dX8_cylindricity_110 [(3, .long (zm_bst (zm_fL (σ.1 116) (σ.2 115) w) i)), (1, .long (zm_hi (zm_fH (σ.1 116) (σ.2 115) w) i)), (0, .ref (z_ad G 105)), (5, .int (nI i))] (by decide) rfl ?_
              refine z_iincN 111 C 3 i [(5, .int (nI (i + 1))), (3, .long (zm_bst (zm_fL (σ.1 116) (σ.2 115) w) i)), (1, .long (zm_hi (zm_fH (σ.1 116) (σ.2 115) w) i)), (0, .ref (z_ad G 105))] rfl rfl (by decide) rfl dX8_cylindricity_111 ?_
              refine z_goto 114 C 19 dX8_cylindricity_114 (by decide) ?_
              refine z_sub [3, 2, 1, 0] (lv1 := [(0, .ref (z_ad G 105)), (1, .long (zm_hi (zm_fH (σ.1 116) (σ.2 115) w) i)), (3, .long (zm_bst (zm_fL (σ.1 116) (σ.2 115) w) i)), (5, .int (nI (i + 1)))]) rfl ?_
              refine z_cv (lv1 := [(0, .ref (z_ad G 105)), (1, .long (zm_hi (zm_fH (σ.1 116) (σ.2 115) w) (i + 1))), (3, .long (zm_bst (zm_fL (σ.1 116) (σ.2 115) w) (i + 1))), (5, .int (nI (i + 1)))]) (st1 := []) (σ1 := z_mU σ cx cy (z_fmx (z_df (z_sh (σ.2 115) (24 * i)) (zm_ax (σ.1 116) (zm_x (σ.2 115) 0) w (σ.1 116 i)) (zm_ax (σ.1 116) (zm_x (σ.2 115) 1) w (σ.1 116 i))) (-9223372036854775808) 24) (z_fmn (z_df (z_sh (σ.2 115) (24 * i)) (zm_ax (σ.1 116) (zm_x (σ.2 115) 0) w (σ.1 116 i)) (zm_ax (σ.1 116) (zm_x (σ.2 115) 1) w (σ.1 116 i))) 9223372036854775807 24) as_ of_) (by rw [zm_hi0 (D := zm_fH (σ.1 116) (σ.2 115) w) (fun z => c67 ((z_nI0 (by omega)).mpr z)) c75, (zm_wb0 (D := zm_fL (σ.1 116) (σ.2 115) w) (fun z => c67 ((z_nI0 (by omega)).mpr z)) c98).2] <;> rfl) rfl rfl ?_
              exact ih_19 (i + 1) (z_fmx (z_df (z_sh (σ.2 115) (24 * i)) (zm_ax (σ.1 116) (zm_x (σ.2 115) 0) w (σ.1 116 i)) (zm_ax (σ.1 116) (zm_x (σ.2 115) 1) w (σ.1 116 i))) (-9223372036854775808) 24) (z_fmn (z_df (z_sh (σ.2 115) (24 * i)) (zm_ax (σ.1 116) (zm_x (σ.2 115) 0) w (σ.1 116 i)) (zm_ax (σ.1 116) (zm_x (σ.2 115) 1) w (σ.1 116 i))) 9223372036854775807 24) (by omega) (by omega)
            · skip
              refine z_aload_n 102 C dX8_cylindricity_102 1 rfl ?_
              refine z_getf 103 C 105 z_dX8 (⟨rfl, rfl⟩) 13 (by decide) q979 (.long (z_fmn (z_df (z_sh (σ.2 115) (24 * i)) (zm_ax (σ.1 116) (zm_x (σ.2 115) 0) w (σ.1 116 i)) (zm_ax (σ.1 116) (zm_x (σ.2 115) 1) w (σ.1 116 i))) 9223372036854775807 24)) z_mU_gle dX8_cylindricity_103 ?_
              refine z_goto 106 C 110 dX8_cylindricity_106 (by decide) ?_
              refine z_lstore_n 110 C dX8_cylindricity_110 [(3, .long (z_fmn (z_df (z_sh (σ.2 115) (24 * i)) (zm_ax (σ.1 116) (zm_x (σ.2 115) 0) w (σ.1 116 i)) (zm_ax (σ.1 116) (zm_x (σ.2 115) 1) w (σ.1 116 i))) 9223372036854775807 24)), (1, .long (zm_hi (zm_fH (σ.1 116) (σ.2 115) w) i)), (0, .ref (z_ad G 105)), (5, .int (nI i))] (by decide) rfl ?_
              refine z_iincN 111 C 3 i [(5, .int (nI (i + 1))), (3, .long (z_fmn (z_df (z_sh (σ.2 115) (24 * i)) (zm_ax (σ.1 116) (zm_x (σ.2 115) 0) w (σ.1 116 i)) (zm_ax (σ.1 116) (zm_x (σ.2 115) 1) w (σ.1 116 i))) 9223372036854775807 24)), (1, .long (zm_hi (zm_fH (σ.1 116) (σ.2 115) w) i)), (0, .ref (z_ad G 105))] rfl rfl (by decide) rfl dX8_cylindricity_111 ?_
              refine z_goto 114 C 19 dX8_cylindricity_114 (by decide) ?_
              refine z_sub [3, 2, 1, 0] (lv1 := [(0, .ref (z_ad G 105)), (1, .long (zm_hi (zm_fH (σ.1 116) (σ.2 115) w) i)), (3, .long (z_fmn (z_df (z_sh (σ.2 115) (24 * i)) (zm_ax (σ.1 116) (zm_x (σ.2 115) 0) w (σ.1 116 i)) (zm_ax (σ.1 116) (zm_x (σ.2 115) 1) w (σ.1 116 i))) 9223372036854775807 24)), (5, .int (nI (i + 1)))]) rfl ?_
              refine z_cv (lv1 := [(0, .ref (z_ad G 105)), (1, .long (zm_hi (zm_fH (σ.1 116) (σ.2 115) w) (i + 1))), (3, .long (zm_bst (zm_fL (σ.1 116) (σ.2 115) w) (i + 1))), (5, .int (nI (i + 1)))]) (st1 := []) (σ1 := z_mU σ cx cy (z_fmx (z_df (z_sh (σ.2 115) (24 * i)) (zm_ax (σ.1 116) (zm_x (σ.2 115) 0) w (σ.1 116 i)) (zm_ax (σ.1 116) (zm_x (σ.2 115) 1) w (σ.1 116 i))) (-9223372036854775808) 24) (z_fmn (z_df (z_sh (σ.2 115) (24 * i)) (zm_ax (σ.1 116) (zm_x (σ.2 115) 0) w (σ.1 116 i)) (zm_ax (σ.1 116) (zm_x (σ.2 115) 1) w (σ.1 116 i))) 9223372036854775807 24) as_ of_) (by rw [zm_hi0 (D := zm_fH (σ.1 116) (σ.2 115) w) (fun z => c67 ((z_nI0 (by omega)).mpr z)) c75, (zm_wb1 (D := zm_fL (σ.1 116) (σ.2 115) w) (Or.inr (Int64.not_le.mp c98))).2] <;> rfl) rfl rfl ?_
              exact ih_19 (i + 1) (z_fmx (z_df (z_sh (σ.2 115) (24 * i)) (zm_ax (σ.1 116) (zm_x (σ.2 115) 0) w (σ.1 116 i)) (zm_ax (σ.1 116) (zm_x (σ.2 115) 1) w (σ.1 116 i))) (-9223372036854775808) 24) (z_fmn (z_df (z_sh (σ.2 115) (24 * i)) (zm_ax (σ.1 116) (zm_x (σ.2 115) 0) w (σ.1 116 i)) (zm_ax (σ.1 116) (zm_x (σ.2 115) 1) w (σ.1 116 i))) 9223372036854775807 24) (by omega) (by omega)
        · skip
          refine z_aload_n 79 C dX8_cylindricity_79 0 rfl ?_
          refine z_getf 80 C 105 z_dX8 (⟨rfl, rfl⟩) 12 (by decide) q978 (.long (z_fmx (z_df (z_sh (σ.2 115) (24 * i)) (zm_ax (σ.1 116) (zm_x (σ.2 115) 0) w (σ.1 116 i)) (zm_ax (σ.1 116) (zm_x (σ.2 115) 1) w (σ.1 116 i))) (-9223372036854775808) 24)) z_mU_gmo dX8_cylindricity_80 ?_
          refine z_goto 83 C 87 dX8_cylindricity_83 (by decide) ?_
          refine z_lstore_n 87 C dX8_cylindricity_87 [(1, .long (z_fmx (z_df (z_sh (σ.2 115) (24 * i)) (zm_ax (σ.1 116) (zm_x (σ.2 115) 0) w (σ.1 116 i)) (zm_ax (σ.1 116) (zm_x (σ.2 115) 1) w (σ.1 116 i))) (-9223372036854775808) 24)), (0, .ref (z_ad G 105)), (3, .long (zm_bst (zm_fL (σ.1 116) (σ.2 115) w) i)), (5, .int (nI i))] (by decide) rfl ?_
          refine z_iload 88 C dX8_cylindricity_88 3 rfl ?_
          refine z_if_eq 90 C 102 dX8_cylindricity_90 (by decide) (fun c90 => ?_) (fun c90 => ?_)
          · skip
            exact absurd c90 c67
          · skip
            refine z_aload_n 93 C dX8_cylindricity_93 1 rfl ?_
            refine z_getf 94 C 105 z_dX8 (⟨rfl, rfl⟩) 13 (by decide) q979 (.long (z_fmn (z_df (z_sh (σ.2 115) (24 * i)) (zm_ax (σ.1 116) (zm_x (σ.2 115) 0) w (σ.1 116 i)) (zm_ax (σ.1 116) (zm_x (σ.2 115) 1) w (σ.1 116 i))) 9223372036854775807 24)) z_mU_gle dX8_cylindricity_94 ?_
            refine z_lload_n 97 C dX8_cylindricity_97 2 rfl ?_
            refine z_lcmp_ge 98 C 109 dX8_cylindricity_98 dX8_cylindricity_99 (by decide) (fun c98 => ?_) (fun c98 => ?_)
            · skip
              refine z_lload_n 109 C dX8_cylindricity_109 2 rfl ?_
              refine z_lstore_n 110 C dX8_cylindricity_110 [(3, .long (zm_bst (zm_fL (σ.1 116) (σ.2 115) w) i)), (1, .long (z_fmx (z_df (z_sh (σ.2 115) (24 * i)) (zm_ax (σ.1 116) (zm_x (σ.2 115) 0) w (σ.1 116 i)) (zm_ax (σ.1 116) (zm_x (σ.2 115) 1) w (σ.1 116 i))) (-9223372036854775808) 24)), (0, .ref (z_ad G 105)), (5, .int (nI i))] (by decide) rfl ?_
              refine z_iincN 111 C 3 i [(5, .int (nI (i + 1))), (3, .long (zm_bst (zm_fL (σ.1 116) (σ.2 115) w) i)), (1, .long (z_fmx (z_df (z_sh (σ.2 115) (24 * i)) (zm_ax (σ.1 116) (zm_x (σ.2 115) 0) w (σ.1 116 i)) (zm_ax (σ.1 116) (zm_x (σ.2 115) 1) w (σ.1 116 i))) (-9223372036854775808) 24)), (0, .ref (z_ad G 105))] rfl rfl (by decide) rfl dX8_cylindricity_111 ?_
              refine z_goto 114 C 19 dX8_cylindricity_114 (by decide) ?_
              refine z_sub [3, 2, 1, 0] (lv1 := [(0, .ref (z_ad G 105)), (1, .long (z_fmx (z_df (z_sh (σ.2 115) (24 * i)) (zm_ax (σ.1 116) (zm_x (σ.2 115) 0) w (σ.1 116 i)) (zm_ax (σ.1 116) (zm_x (σ.2 115) 1) w (σ.1 116 i))) (-9223372036854775808) 24)), (3, .long (zm_bst (zm_fL (σ.1 116) (σ.2 115) w) i)), (5, .int (nI (i + 1)))]) rfl ?_
              refine z_cv (lv1 := [(0, .ref (z_ad G 105)), (1, .long (zm_hi (zm_fH (σ.1 116) (σ.2 115) w) (i + 1))), (3, .long (zm_bst (zm_fL (σ.1 116) (σ.2 115) w) (i + 1))), (5, .int (nI (i + 1)))]) (st1 := []) (σ1 := z_mU σ cx cy (z_fmx (z_df (z_sh (σ.2 115) (24 * i)) (zm_ax (σ.1 116) (zm_x (σ.2 115) 0) w (σ.1 116 i)) (zm_ax (σ.1 116) (zm_x (σ.2 115) 1) w (σ.1 116 i))) (-9223372036854775808) 24) (z_fmn (z_df (z_sh (σ.2 115) (24 * i)) (zm_ax (σ.1 116) (zm_x (σ.2 115) 0) w (σ.1 116 i)) (zm_ax (σ.1 116) (zm_x (σ.2 115) 1) w (σ.1 116 i))) 9223372036854775807 24) as_ of_) (by rw [zm_hi1 (D := zm_fH (σ.1 116) (σ.2 115) w) (Or.inr (Int64.not_le.mp c75)), (zm_wb0 (D := zm_fL (σ.1 116) (σ.2 115) w) (fun z => c67 ((z_nI0 (by omega)).mpr z)) c98).2] <;> rfl) rfl rfl ?_
              exact ih_19 (i + 1) (z_fmx (z_df (z_sh (σ.2 115) (24 * i)) (zm_ax (σ.1 116) (zm_x (σ.2 115) 0) w (σ.1 116 i)) (zm_ax (σ.1 116) (zm_x (σ.2 115) 1) w (σ.1 116 i))) (-9223372036854775808) 24) (z_fmn (z_df (z_sh (σ.2 115) (24 * i)) (zm_ax (σ.1 116) (zm_x (σ.2 115) 0) w (σ.1 116 i)) (zm_ax (σ.1 116) (zm_x (σ.2 115) 1) w (σ.1 116 i))) 9223372036854775807 24) (by omega) (by omega)
            · skip
              refine z_aload_n 102 C dX8_cylindricity_102 1 rfl ?_
              refine z_getf 103 C 105 z_dX8 (⟨rfl, rfl⟩) 13 (by decide) q979 (.long (z_fmn (z_df (z_sh (σ.2 115) (24 * i)) (zm_ax (σ.1 116) (zm_x (σ.2 115) 0) w (σ.1 116 i)) (zm_ax (σ.1 116) (zm_x (σ.2 115) 1) w (σ.1 116 i))) 9223372036854775807 24)) z_mU_gle dX8_cylindricity_103 ?_
              refine z_goto 106 C 110 dX8_cylindricity_106 (by decide) ?_
              refine z_lstore_n 110 C dX8_cylindricity_110 [(3, .long (z_fmn (z_df (z_sh (σ.2 115) (24 * i)) (zm_ax (σ.1 116) (zm_x (σ.2 115) 0) w (σ.1 116 i)) (zm_ax (σ.1 116) (zm_x (σ.2 115) 1) w (σ.1 116 i))) 9223372036854775807 24)), (1, .long (z_fmx (z_df (z_sh (σ.2 115) (24 * i)) (zm_ax (σ.1 116) (zm_x (σ.2 115) 0) w (σ.1 116 i)) (zm_ax (σ.1 116) (zm_x (σ.2 115) 1) w (σ.1 116 i))) (-9223372036854775808) 24)), (0, .ref (z_ad G 105)), (5, .int (nI i))] (by decide) rfl ?_
              refine z_iincN 111 C 3 i [(5, .int (nI (i + 1))), (3, .long (z_fmn (z_df (z_sh (σ.2 115) (24 * i)) (zm_ax (σ.1 116) (zm_x (σ.2 115) 0) w (σ.1 116 i)) (zm_ax (σ.1 116) (zm_x (σ.2 115) 1) w (σ.1 116 i))) 9223372036854775807 24)), (1, .long (z_fmx (z_df (z_sh (σ.2 115) (24 * i)) (zm_ax (σ.1 116) (zm_x (σ.2 115) 0) w (σ.1 116 i)) (zm_ax (σ.1 116) (zm_x (σ.2 115) 1) w (σ.1 116 i))) (-9223372036854775808) 24)), (0, .ref (z_ad G 105))] rfl rfl (by decide) rfl dX8_cylindricity_111 ?_
              refine z_goto 114 C 19 dX8_cylindricity_114 (by decide) ?_
              refine z_sub [3, 2, 1, 0] (lv1 := [(0, .ref (z_ad G 105)), (1, .long (z_fmx (z_df (z_sh (σ.2 115) (24 * i)) (zm_ax (σ.1 116) (zm_x (σ.2 115) 0) w (σ.1 116 i)) (zm_ax (σ.1 116) (zm_x (σ.2 115) 1) w (σ.1 116 i))) (-9223372036854775808) 24)), (3, .long (z_fmn (z_df (z_sh (σ.2 115) (24 * i)) (zm_ax (σ.1 116) (zm_x (σ.2 115) 0) w (σ.1 116 i)) (zm_ax (σ.1 116) (zm_x (σ.2 115) 1) w (σ.1 116 i))) 9223372036854775807 24)), (5, .int (nI (i + 1)))]) rfl ?_
              refine z_cv (lv1 := [(0, .ref (z_ad G 105)), (1, .long (zm_hi (zm_fH (σ.1 116) (σ.2 115) w) (i + 1))), (3, .long (zm_bst (zm_fL (σ.1 116) (σ.2 115) w) (i + 1))), (5, .int (nI (i + 1)))]) (st1 := []) (σ1 := z_mU σ cx cy (z_fmx (z_df (z_sh (σ.2 115) (24 * i)) (zm_ax (σ.1 116) (zm_x (σ.2 115) 0) w (σ.1 116 i)) (zm_ax (σ.1 116) (zm_x (σ.2 115) 1) w (σ.1 116 i))) (-9223372036854775808) 24) (z_fmn (z_df (z_sh (σ.2 115) (24 * i)) (zm_ax (σ.1 116) (zm_x (σ.2 115) 0) w (σ.1 116 i)) (zm_ax (σ.1 116) (zm_x (σ.2 115) 1) w (σ.1 116 i))) 9223372036854775807 24) as_ of_) (by rw [zm_hi1 (D := zm_fH (σ.1 116) (σ.2 115) w) (Or.inr (Int64.not_le.mp c75)), (zm_wb1 (D := zm_fL (σ.1 116) (σ.2 115) w) (Or.inr (Int64.not_le.mp c98))).2] <;> rfl) rfl rfl ?_
              exact ih_19 (i + 1) (z_fmx (z_df (z_sh (σ.2 115) (24 * i)) (zm_ax (σ.1 116) (zm_x (σ.2 115) 0) w (σ.1 116 i)) (zm_ax (σ.1 116) (zm_x (σ.2 115) 1) w (σ.1 116 i))) (-9223372036854775808) 24) (z_fmn (z_df (z_sh (σ.2 115) (24 * i)) (zm_ax (σ.1 116) (zm_x (σ.2 115) 0) w (σ.1 116 i)) (zm_ax (σ.1 116) (zm_x (σ.2 115) 1) w (σ.1 116 i))) 9223372036854775807 24) (by omega) (by omega)
  · skip
    refine z_ldc2d 8 C dX8_cylindricity_8 q1298 ?_
    refine z_dret 11 C dX8_cylindricity_11 ?_
    exact ⟨z_cdb (by rw [if_neg (Nat.not_le.mpr c5)]), _, _, _, _, rfl⟩
theorem dX8_farOf_0 : decode cX8_farOf 0 = .ok (.aload_n 0, 1) := by decide +kernel
theorem dX8_farOf_1 : decode cX8_farOf 1 = .ok (.iload_n 1, 1) := by decide +kernel
theorem dX8_farOf_2 : decode cX8_farOf 2 = .ok (.iconst 1, 1) := by decide +kernel
theorem dX8_farOf_3 : decode cX8_farOf 3 = .ok (.iconst 0, 1) := by decide +kernel
theorem dX8_farOf_4 : decode cX8_farOf 4 = .ok (.invokevirtual 270, 3) := by decide +kernel
theorem dX8_farOf_7 : decode cX8_farOf 7 = .ok (.aload_n 0, 1) := by decide +kernel
theorem dX8_farOf_8 : decode cX8_farOf 8 = .ok (.aload_n 0, 1) := by decide +kernel
theorem dX8_farOf_9 : decode cX8_farOf 9 = .ok (.getfield 47, 3) := by decide +kernel
theorem dX8_farOf_12 : decode cX8_farOf 12 = .ok (.iload_n 1, 1) := by decide +kernel
theorem dX8_farOf_13 : decode cX8_farOf 13 = .ok (.iaload, 1) := by decide +kernel
theorem dX8_farOf_14 : decode cX8_farOf 14 = .ok (.iconst 0, 1) := by decide +kernel
theorem dX8_farOf_15 : decode cX8_farOf 15 = .ok (.invokevirtual 274, 3) := by decide +kernel
theorem dX8_farOf_18 : decode cX8_farOf 18 = .ok (.lsub, 1) := by decide +kernel
theorem dX8_farOf_19 : decode cX8_farOf 19 = .ok (.invokestatic 111, 3) := by decide +kernel
theorem dX8_farOf_22 : decode cX8_farOf 22 = .ok (.aload_n 0, 1) := by decide +kernel
theorem dX8_farOf_23 : decode cX8_farOf 23 = .ok (.iload_n 1, 1) := by decide +kernel
theorem dX8_farOf_24 : decode cX8_farOf 24 = .ok (.iconst 1, 1) := by decide +kernel
theorem dX8_farOf_25 : decode cX8_farOf 25 = .ok (.iconst 1, 1) := by decide +kernel
theorem dX8_farOf_26 : decode cX8_farOf 26 = .ok (.invokevirtual 270, 3) := by decide +kernel
theorem dX8_farOf_29 : decode cX8_farOf 29 = .ok (.aload_n 0, 1) := by decide +kernel
theorem dX8_farOf_30 : decode cX8_farOf 30 = .ok (.aload_n 0, 1) := by decide +kernel
theorem dX8_farOf_31 : decode cX8_farOf 31 = .ok (.getfield 47, 3) := by decide +kernel
theorem dX8_farOf_34 : decode cX8_farOf 34 = .ok (.iload_n 1, 1) := by decide +kernel
theorem dX8_farOf_35 : decode cX8_farOf 35 = .ok (.iaload, 1) := by decide +kernel
theorem dX8_farOf_36 : decode cX8_farOf 36 = .ok (.iconst 1, 1) := by decide +kernel
theorem dX8_farOf_37 : decode cX8_farOf 37 = .ok (.invokevirtual 274, 3) := by decide +kernel
theorem dX8_farOf_40 : decode cX8_farOf 40 = .ok (.lsub, 1) := by decide +kernel
theorem dX8_farOf_41 : decode cX8_farOf 41 = .ok (.invokestatic 111, 3) := by decide +kernel
theorem dX8_farOf_44 : decode cX8_farOf 44 = .ok (.ladd, 1) := by decide +kernel
theorem dX8_farOf_45 : decode cX8_farOf 45 = .ok (.lreturn, 1) := by decide +kernel
set_option maxRecDepth 100000 in
set_option maxHeartbeats 4000000 in
theorem m_X8_farOf {l : Launch} {G : z_Gl} {σ : z_St} (P n u v w rc tl : Nat) (hM : z_mi σ P n u v w rc tl) (i : Nat) (hi : i < 6) (hpos : 0 < zm_den (σ.1 116) w) : z_M l G yX8_farOf cX8_farOf 2 (some .long) (z_rm 6 147) [.ref (z_ad G 105), .int (nI i)] σ (z_p1 (.long (zm_far (σ.1 116) (σ.2 115) w i)) σ) := by
  refine z_M.of (by decide) (Nat.le_of_ble_eq_true rfl) (fun p e s m below meth c C => ?_)
  refine z_sub [0, 1] (lv1 := [(0, .ref (z_ad G 105)), (1, .int (nI i))]) rfl ?_
  have hM0 := hM
  obtain ⟨⟨hP, hn, hu, hv, hw, hrc, htl⟩, hPs, hnP, huv, hw6, hrc8, htl2, hqt, hah⟩ := hM0
  have h0 : 0 < P := by omega
  have h12 : P ≤ 12 := by omega
  have h288 : n ≤ 288 := by omega
  refine z_aload_n 0 C dX8_farOf_0 0 rfl ?_
  refine z_iload_n 1 C dX8_farOf_1 1 rfl ?_
  refine z_iconst 2 C dX8_farOf_2 (nI 1) rfl ?_
  refine z_iconst 3 C dX8_farOf_3 (nI 0) rfl ?_
  refine z_callV 4 C 105 (⟨rfl, rfl⟩) rfl (As := [.int (nI i), .int (nI 1), .int (nI 0)]) (rest := []) (m_X8_traceHarmonic P n u v w rc tl hM i 1 0 (by omega) (by omega) (by omega)) k_X8_traceHarmonic q1353 ⟨rfl, rfl⟩ ⟨Nat.le_of_ble_eq_true rfl, Nat.le_of_ble_eq_true rfl⟩ rfl (Nat.le_of_ble_eq_true rfl) ⟨Nat.le_of_ble_eq_true rfl, Nat.le_of_ble_eq_true rfl⟩ rfl dX8_farOf_4 (z_k1 ?_)
  refine z_aload_n 7 C dX8_farOf_7 0 rfl ?_
  refine z_aload_n 8 C dX8_farOf_8 0 rfl ?_
  refine z_getf 9 C 105 z_dX8 (⟨rfl, rfl⟩) 19 (by decide) q985 (.ref (z_ad G 116)) rfl dX8_farOf_9 ?_
  refine z_iload_n 12 C dX8_farOf_12 1 rfl ?_
  refine z_ialdN 13 C 116 (n := 6) (⟨rfl, rfl⟩) i rfl (by omega) (by decide) dX8_farOf_13 ?_
  refine z_iconst 14 C dX8_farOf_14 (nI 0) rfl ?_
  refine z_callV 15 C 105 (⟨rfl, rfl⟩) rfl (As := [.int (σ.1 116 i), .int (nI 0)]) (rest := [.long (z_cf (z_sh (σ.2 115) (24 * i)) 0 1)]) (m_X8_axisAt P n u v w rc tl hM (σ.1 116 i) 0 (by omega) (hpos)) k_X8_axisAt q1361 ⟨rfl, rfl⟩ ⟨Nat.le_of_ble_eq_true rfl, Nat.le_of_ble_eq_true rfl⟩ rfl (Nat.le_of_ble_eq_true rfl) ⟨Nat.le_of_ble_eq_true rfl, Nat.le_of_ble_eq_true rfl⟩ rfl dX8_farOf_15 (z_k1 ?_)
  refine z_lsub 18 C dX8_farOf_18 ?_
  refine z_callS 19 C (As := [.long ((z_cf (z_sh (σ.2 115) (24 * i)) 0 1) - (zm_ax (σ.1 116) (zm_x (σ.2 115) 0) w (σ.1 116 i)))]) (rest := []) (m_X8_size ((z_cf (z_sh (σ.2 115) (24 * i)) 0 1) - (zm_ax (σ.1 116) (zm_x (σ.2 115) 0) w (σ.1 116 i)))) k_X8_size q1113 ⟨rfl, rfl⟩ ⟨Nat.le_of_ble_eq_true rfl, Nat.le_of_ble_eq_true rfl⟩ rfl (Nat.le_of_ble_eq_true rfl) ⟨Nat.le_of_ble_eq_true rfl, Nat.le_of_ble_eq_true rfl⟩ rfl dX8_farOf_19 (z_k1 ?_)
  refine z_aload_n 22 C dX8_farOf_22 0 rfl ?_
  refine z_iload_n 23 C dX8_farOf_23 1 rfl ?_
  refine z_iconst 24 C dX8_farOf_24 (nI 1) rfl ?_
  refine z_iconst 25 C dX8_farOf_25 (nI 1) rfl ?_
  refine z_callV 26 C 105 (⟨rfl, rfl⟩) rfl (As := [.int (nI i), .int (nI 1), .int (nI 1)]) (rest := [.long (z_ab ((z_cf (z_sh (σ.2 115) (24 * i)) 0 1) - (zm_ax (σ.1 116) (zm_x (σ.2 115) 0) w (σ.1 116 i))))]) (m_X8_traceHarmonic P n u v w rc tl hM i 1 1 (by omega) (by omega) (by omega)) k_X8_traceHarmonic q1353 ⟨rfl, rfl⟩ ⟨Nat.le_of_ble_eq_true rfl, Nat.le_of_ble_eq_true rfl⟩ rfl (Nat.le_of_ble_eq_true rfl) ⟨Nat.le_of_ble_eq_true rfl, Nat.le_of_ble_eq_true rfl⟩ rfl dX8_farOf_26 (z_k1 ?_)
  refine z_aload_n 29 C dX8_farOf_29 0 rfl ?_
  refine z_aload_n 30 C dX8_farOf_30 0 rfl ?_
  refine z_getf 31 C 105 z_dX8 (⟨rfl, rfl⟩) 19 (by decide) q985 (.ref (z_ad G 116)) rfl dX8_farOf_31 ?_
  refine z_iload_n 34 C dX8_farOf_34 1 rfl ?_
  refine z_ialdN 35 C 116 (n := 6) (⟨rfl, rfl⟩) i rfl (by omega) (by decide) dX8_farOf_35 ?_
  refine z_iconst 36 C dX8_farOf_36 (nI 1) rfl ?_
  refine z_callV 37 C 105 (⟨rfl, rfl⟩) rfl (As := [.int (σ.1 116 i), .int (nI 1)]) (rest := [.long (z_cf (z_sh (σ.2 115) (24 * i)) 1 1), .long (z_ab ((z_cf (z_sh (σ.2 115) (24 * i)) 0 1) - (zm_ax (σ.1 116) (zm_x (σ.2 115) 0) w (σ.1 116 i))))]) (m_X8_axisAt P n u v w rc tl hM (σ.1 116 i) 1 (by omega) (hpos)) k_X8_axisAt q1361 ⟨rfl, rfl⟩ ⟨Nat.le_of_ble_eq_true rfl, Nat.le_of_ble_eq_true rfl⟩ rfl (Nat.le_of_ble_eq_true rfl) ⟨Nat.le_of_ble_eq_true rfl, Nat.le_of_ble_eq_true rfl⟩ rfl dX8_farOf_37 (z_k1 ?_)
  refine z_lsub 40 C dX8_farOf_40 ?_
  refine z_callS 41 C (As := [.long ((z_cf (z_sh (σ.2 115) (24 * i)) 1 1) - (zm_ax (σ.1 116) (zm_x (σ.2 115) 1) w (σ.1 116 i)))]) (rest := [.long (z_ab ((z_cf (z_sh (σ.2 115) (24 * i)) 0 1) - (zm_ax (σ.1 116) (zm_x (σ.2 115) 0) w (σ.1 116 i))))]) (m_X8_size ((z_cf (z_sh (σ.2 115) (24 * i)) 1 1) - (zm_ax (σ.1 116) (zm_x (σ.2 115) 1) w (σ.1 116 i)))) k_X8_size q1113 ⟨rfl, rfl⟩ ⟨Nat.le_of_ble_eq_true rfl, Nat.le_of_ble_eq_true rfl⟩ rfl (Nat.le_of_ble_eq_true rfl) ⟨Nat.le_of_ble_eq_true rfl, Nat.le_of_ble_eq_true rfl⟩ rfl dX8_farOf_41 (z_k1 ?_)
  refine z_ladd 44 C dX8_farOf_44 ?_
  refine z_lret 45 C dX8_farOf_45 ?_
  exact ⟨rfl, rfl⟩
theorem dX8_farthestTrace_0 : decode cX8_farthestTrace 0 = .ok (.aload_n 0, 1) := by decide +kernel
theorem dX8_farthestTrace_1 : decode cX8_farthestTrace 1 = .ok (.getfield 261, 3) := by decide +kernel
theorem dX8_farthestTrace_4 : decode cX8_farthestTrace 4 = .ok (.iconst 2, 1) := by decide +kernel
theorem dX8_farthestTrace_5 : decode cX8_farthestTrace 5 = .ok (.if_icmp .ge 6, 3) := by decide +kernel
theorem dX8_farthestTrace_8 : decode cX8_farthestTrace 8 = .ok (.ldc 96, 2) := by decide +kernel
theorem dX8_farthestTrace_10 : decode cX8_farthestTrace 10 = .ok (.ireturn, 1) := by decide +kernel
theorem dX8_farthestTrace_11 : decode cX8_farthestTrace 11 = .ok (.iconst 0, 1) := by decide +kernel
theorem dX8_farthestTrace_12 : decode cX8_farthestTrace 12 = .ok (.istore_n 1, 1) := by decide +kernel
theorem dX8_farthestTrace_13 : decode cX8_farthestTrace 13 = .ok (.iconst 1, 1) := by decide +kernel
theorem dX8_farthestTrace_14 : decode cX8_farthestTrace 14 = .ok (.istore_n 2, 1) := by decide +kernel
theorem dX8_farthestTrace_15 : decode cX8_farthestTrace 15 = .ok (.iload_n 2, 1) := by decide +kernel
theorem dX8_farthestTrace_16 : decode cX8_farthestTrace 16 = .ok (.aload_n 0, 1) := by decide +kernel
theorem dX8_farthestTrace_17 : decode cX8_farthestTrace 17 = .ok (.getfield 261, 3) := by decide +kernel
theorem dX8_farthestTrace_20 : decode cX8_farthestTrace 20 = .ok (.if_icmp .ge 29, 3) := by decide +kernel
theorem dX8_farthestTrace_23 : decode cX8_farthestTrace 23 = .ok (.aload_n 0, 1) := by decide +kernel
theorem dX8_farthestTrace_24 : decode cX8_farthestTrace 24 = .ok (.iload_n 2, 1) := by decide +kernel
theorem dX8_farthestTrace_25 : decode cX8_farthestTrace 25 = .ok (.invokevirtual 277, 3) := by decide +kernel
theorem dX8_farthestTrace_28 : decode cX8_farthestTrace 28 = .ok (.aload_n 0, 1) := by decide +kernel
theorem dX8_farthestTrace_29 : decode cX8_farthestTrace 29 = .ok (.iload_n 1, 1) := by decide +kernel
theorem dX8_farthestTrace_30 : decode cX8_farthestTrace 30 = .ok (.invokevirtual 277, 3) := by decide +kernel
theorem dX8_farthestTrace_33 : decode cX8_farthestTrace 33 = .ok (.lcmp, 1) := by decide +kernel
theorem dX8_farthestTrace_34 : decode cX8_farthestTrace 34 = .ok (.ifCond .le 7, 3) := by decide +kernel
theorem dX8_farthestTrace_37 : decode cX8_farthestTrace 37 = .ok (.iload_n 2, 1) := by decide +kernel
theorem dX8_farthestTrace_38 : decode cX8_farthestTrace 38 = .ok (.goto 4, 3) := by decide +kernel
theorem dX8_farthestTrace_41 : decode cX8_farthestTrace 41 = .ok (.iload_n 1, 1) := by decide +kernel
theorem dX8_farthestTrace_42 : decode cX8_farthestTrace 42 = .ok (.istore_n 1, 1) := by decide +kernel
theorem dX8_farthestTrace_43 : decode cX8_farthestTrace 43 = .ok (.iinc 2 1, 3) := by decide +kernel
theorem dX8_farthestTrace_46 : decode cX8_farthestTrace 46 = .ok (.goto (-31), 3) := by decide +kernel
theorem dX8_farthestTrace_49 : decode cX8_farthestTrace 49 = .ok (.iload_n 1, 1) := by decide +kernel
theorem dX8_farthestTrace_50 : decode cX8_farthestTrace 50 = .ok (.ireturn, 1) := by decide +kernel
set_option maxRecDepth 100000 in
set_option maxHeartbeats 4000000 in
theorem m_X8_farthestTrace {l : Launch} {G : z_Gl} {σ : z_St} (P n u v w rc tl : Nat) (hM : z_mi σ P n u v w rc tl) (hpos : 2 ≤ w → 0 < zm_den (σ.1 116) w) : z_M l G yX8_farthestTrace cX8_farthestTrace 3 (some .int) (z_rm 7 168) [.ref (z_ad G 105)] σ (z_p1 (.int (if 2 ≤ w then nI (z_bm (zm_far (σ.1 116) (σ.2 115) w) w) else (-1000002))) σ) := by
  refine z_M.of (by decide) (Nat.le_of_ble_eq_true rfl) (fun p e s m below meth c C => ?_)
  refine z_sub [0] (lv1 := [(0, .ref (z_ad G 105))]) rfl ?_
  have hM0 := hM
  obtain ⟨⟨hP, hn, hu, hv, hw, hrc, htl⟩, hPs, hnP, huv, hw6, hrc8, htl2, hqt, hah⟩ := hM0
  have h0 : 0 < P := by omega
  have h12 : P ≤ 12 := by omega
  have h288 : n ≤ 288 := by omega
  refine z_aload_n 0 C dX8_farthestTrace_0 0 rfl ?_
  refine z_getf 1 C 105 z_dX8 (⟨rfl, rfl⟩) 17 (by decide) q983 (.int (nI w)) (z_ci hw) dX8_farthestTrace_1 ?_
  refine z_iconst 4 C dX8_farthestTrace_4 (nI 2) rfl ?_
  refine z_icmp_geN 5 C w 2 rfl rfl (by omega) (by omega) 11 dX8_farthestTrace_5 (by decide) (fun c5 => ?_) (fun c5 => ?_)
  · skip
    refine z_iconst 11 C dX8_farthestTrace_11 (nI 0) rfl ?_
    refine z_istore_n 12 C dX8_farthestTrace_12 [(1, .int (nI 0)), (0, .ref (z_ad G 105))] (by decide) rfl ?_
    refine z_iconst 13 C dX8_farthestTrace_13 (nI 1) rfl ?_
    refine z_istore_n 14 C dX8_farthestTrace_14 [(2, .int (nI 1)), (1, .int (nI 0)), (0, .ref (z_ad G 105))] (by decide) rfl ?_
    refine z_sub [2, 1, 0] (lv1 := [(0, .ref (z_ad G 105)), (1, .int (nI 0)), (2, .int (nI 1))]) rfl ?_
    refine z_cv (lv1 := [(0, .ref (z_ad G 105)), (1, .int (nI (z_bm (zm_far (σ.1 116) (σ.2 115) w) 1))), (2, .int (nI 1))]) (st1 := []) (σ1 := σ) (by rw [z_bm_1]) rfl rfl ?_
    refine z_lp1 (fun (i : Nat) => 1 ≤ i ∧ i ≤ w) (fun (i : Nat) => w - i) (fun (i : Nat) => [(0, .ref (z_ad G 105)), (1, .int (nI (z_bm (zm_far (σ.1 116) (σ.2 115) w) i))), (2, .int (nI i))]) (fun (i : Nat) => σ) (fun i hi_15 ih_15 => ?_) 1 (by omega)
    try dsimp only
    obtain ⟨hi1, hi2⟩ := hi_15
    refine z_iload_n 15 C dX8_farthestTrace_15 2 rfl ?_
    refine z_aload_n 16 C dX8_farthestTrace_16 0 rfl ?_
    refine z_getf 17 C 105 z_dX8 (⟨rfl, rfl⟩) 17 (by decide) q983 (.int (nI w)) (z_ci hw) dX8_farthestTrace_17 ?_
    refine z_icmp_geN 20 C i w rfl rfl (by omega) (by omega) 49 dX8_farthestTrace_20 (by decide) (fun c20 => ?_) (fun c20 => ?_)
    · skip
      have ei : w = i := by omega
      subst ei
      refine z_iload_n 49 C dX8_farthestTrace_49 1 rfl ?_
      refine z_iret 50 C dX8_farthestTrace_50 ?_
      exact ⟨z_ci (by rw [if_pos c5]), rfl⟩
    · skip
      refine z_aload_n 23 C dX8_farthestTrace_23 0 rfl ?_
      refine z_iload_n 24 C dX8_farthestTrace_24 2 rfl ?_
      refine z_callV 25 C 105 (⟨rfl, rfl⟩) rfl (As := [.int (nI i)]) (rest := []) (m_X8_farOf P n u v w rc tl hM i (by omega) (hpos c5)) k_X8_farOf q1373 ⟨rfl, rfl⟩ ⟨Nat.le_of_ble_eq_true rfl, Nat.le_of_ble_eq_true rfl⟩ rfl (Nat.le_of_ble_eq_true rfl) ⟨Nat.le_of_ble_eq_true rfl, Nat.le_of_ble_eq_true rfl⟩ rfl dX8_farthestTrace_25 (z_k1 ?_)
      refine z_aload_n 28 C dX8_farthestTrace_28 0 rfl ?_
      refine z_iload_n 29 C dX8_farthestTrace_29 1 rfl ?_
      refine z_callV 30 C 105 (⟨rfl, rfl⟩) rfl (As := [.int (nI (z_bm (zm_far (σ.1 116) (σ.2 115) w) i))]) (rest := [.long (zm_far (σ.1 116) (σ.2 115) w i)]) (m_X8_farOf P n u v w rc tl hM (z_bm (zm_far (σ.1 116) (σ.2 115) w) i) (by have := zm_bm_l (zm_far (σ.1 116) (σ.2 115) w) hi1; omega) (hpos c5)) k_X8_farOf q1373 ⟨rfl, rfl⟩ ⟨Nat.le_of_ble_eq_true rfl, Nat.le_of_ble_eq_true rfl⟩ rfl (Nat.le_of_ble_eq_true rfl) ⟨Nat.le_of_ble_eq_true rfl, Nat.le_of_ble_eq_true rfl⟩ rfl dX8_farthestTrace_30 (z_k1 ?_)
      refine z_lcmp_le 33 C 41 dX8_farthestTrace_33 dX8_farthestTrace_34 (by decide) (fun c33 => ?_) (fun c33 => ?_)
      · skip
        refine z_iload_n 41 C dX8_farthestTrace_41 1 rfl ?_
        refine z_istore_n 42 C dX8_farthestTrace_42 [(1, .int (nI (z_bm (zm_far (σ.1 116) (σ.2 115) w) i))), (0, .ref (z_ad G 105)), (2, .int (nI i))] (by decide) rfl ?_
        refine z_iincN 43 C 2 i [(2, .int (nI (i + 1))), (1, .int (nI (z_bm (zm_far (σ.1 116) (σ.2 115) w) i))), (0, .ref (z_ad G 105))] rfl rfl (by decide) rfl dX8_farthestTrace_43 ?_
        refine z_goto 46 C 15 dX8_farthestTrace_46 (by decide) ?_
        refine z_sub [2, 1, 0] (lv1 := [(0, .ref (z_ad G 105)), (1, .int (nI (z_bm (zm_far (σ.1 116) (σ.2 115) w) i))), (2, .int (nI (i + 1)))]) rfl ?_
        refine z_cv (lv1 := [(0, .ref (z_ad G 105)), (1, .int (nI (z_bm (zm_far (σ.1 116) (σ.2 115) w) (i + 1)))), (2, .int (nI (i + 1)))]) (st1 := []) (σ1 := σ) (by first | rw [z_bm_n (Int64.not_lt.mpr c33)] | rw [z_bm_s (Int64.not_le.mp c33)]) rfl rfl ?_
        exact ih_15 (i + 1) (by omega) (by omega)
      · skip
        refine z_iload_n 37 C dX8_farthestTrace_37 2 rfl ?_
        refine z_goto 38 C 42 dX8_farthestTrace_38 (by decide) ?_
        refine z_istore_n 42 C dX8_farthestTrace_42 [(1, .int (nI i)), (0, .ref (z_ad G 105)), (2, .int (nI i))] (by decide) rfl ?_
        refine z_iincN 43 C 2 i [(2, .int (nI (i + 1))), (1, .int (nI i)), (0, .ref (z_ad G 105))] rfl rfl (by decide) rfl dX8_farthestTrace_43 ?_
        refine z_goto 46 C 15 dX8_farthestTrace_46 (by decide) ?_
        refine z_sub [2, 1, 0] (lv1 := [(0, .ref (z_ad G 105)), (1, .int (nI i)), (2, .int (nI (i + 1)))]) rfl ?_
        refine z_cv (lv1 := [(0, .ref (z_ad G 105)), (1, .int (nI (z_bm (zm_far (σ.1 116) (σ.2 115) w) (i + 1)))), (2, .int (nI (i + 1)))]) (st1 := []) (σ1 := σ) (by first | rw [z_bm_n (Int64.not_lt.mpr c33)] | rw [z_bm_s (Int64.not_le.mp c33)]) rfl rfl ?_
        exact ih_15 (i + 1) (by omega) (by omega)
  · skip
    refine z_ldc 8 C dX8_farthestTrace_8 q1078 ?_
    refine z_iret 10 C dX8_farthestTrace_10 ?_
    exact ⟨z_ci (by rw [if_neg (Nat.not_le.mpr c5)]), rfl⟩
theorem dX8_taper_0 : decode cX8_taper 0 = .ok (.aload_n 0, 1) := by decide +kernel
theorem dX8_taper_1 : decode cX8_taper 1 = .ok (.getfield 261, 3) := by decide +kernel
theorem dX8_taper_4 : decode cX8_taper 4 = .ok (.ifCond .ne 7, 3) := by decide +kernel
theorem dX8_taper_7 : decode cX8_taper 7 = .ok (.invokestatic 127, 3) := by decide +kernel
theorem dX8_taper_10 : decode cX8_taper 10 = .ok (.lreturn, 1) := by decide +kernel
theorem dX8_taper_11 : decode cX8_taper 11 = .ok (.aload_n 0, 1) := by decide +kernel
theorem dX8_taper_12 : decode cX8_taper 12 = .ok (.iconst 0, 1) := by decide +kernel
theorem dX8_taper_13 : decode cX8_taper 13 = .ok (.iconst 0, 1) := by decide +kernel
theorem dX8_taper_14 : decode cX8_taper 14 = .ok (.iconst 0, 1) := by decide +kernel
theorem dX8_taper_15 : decode cX8_taper 15 = .ok (.invokevirtual 270, 3) := by decide +kernel
theorem dX8_taper_18 : decode cX8_taper 18 = .ok (.lstore_n 1, 1) := by decide +kernel
theorem dX8_taper_19 : decode cX8_taper 19 = .ok (.lload_n 1, 1) := by decide +kernel
theorem dX8_taper_20 : decode cX8_taper 20 = .ok (.lstore_n 3, 1) := by decide +kernel
theorem dX8_taper_21 : decode cX8_taper 21 = .ok (.iconst 1, 1) := by decide +kernel
theorem dX8_taper_22 : decode cX8_taper 22 = .ok (.istore 5, 2) := by decide +kernel
theorem dX8_taper_24 : decode cX8_taper 24 = .ok (.iload 5, 2) := by decide +kernel
theorem dX8_taper_26 : decode cX8_taper 26 = .ok (.aload_n 0, 1) := by decide +kernel
theorem dX8_taper_27 : decode cX8_taper 27 = .ok (.getfield 261, 3) := by decide +kernel
theorem dX8_taper_30 : decode cX8_taper 30 = .ok (.if_icmp .ge 47, 3) := by decide +kernel
theorem dX8_taper_33 : decode cX8_taper 33 = .ok (.aload_n 0, 1) := by decide +kernel
theorem dX8_taper_34 : decode cX8_taper 34 = .ok (.iload 5, 2) := by decide +kernel
theorem dX8_taper_36 : decode cX8_taper 36 = .ok (.iconst 0, 1) := by decide +kernel
theorem dX8_taper_37 : decode cX8_taper 37 = .ok (.iconst 0, 1) := by decide +kernel
theorem dX8_taper_38 : decode cX8_taper 38 = .ok (.invokevirtual 270, 3) := by decide +kernel
theorem dX8_taper_41 : decode cX8_taper 41 = .ok (.lstore 6, 2) := by decide +kernel
theorem dX8_taper_43 : decode cX8_taper 43 = .ok (.lload 6, 2) := by decide +kernel
theorem dX8_taper_45 : decode cX8_taper 45 = .ok (.lload_n 1, 1) := by decide +kernel
theorem dX8_taper_46 : decode cX8_taper 46 = .ok (.lcmp, 1) := by decide +kernel
theorem dX8_taper_47 : decode cX8_taper 47 = .ok (.ifCond .le 8, 3) := by decide +kernel
theorem dX8_taper_50 : decode cX8_taper 50 = .ok (.lload 6, 2) := by decide +kernel
theorem dX8_taper_52 : decode cX8_taper 52 = .ok (.goto 4, 3) := by decide +kernel
theorem dX8_taper_55 : decode cX8_taper 55 = .ok (.lload_n 1, 1) := by decide +kernel
theorem dX8_taper_56 : decode cX8_taper 56 = .ok (.lstore_n 1, 1) := by decide +kernel
theorem dX8_taper_57 : decode cX8_taper 57 = .ok (.lload 6, 2) := by decide +kernel
theorem dX8_taper_59 : decode cX8_taper 59 = .ok (.lload_n 3, 1) := by decide +kernel
theorem dX8_taper_60 : decode cX8_taper 60 = .ok (.lcmp, 1) := by decide +kernel
theorem dX8_taper_61 : decode cX8_taper 61 = .ok (.ifCond .ge 8, 3) := by decide +kernel
theorem dX8_taper_64 : decode cX8_taper 64 = .ok (.lload 6, 2) := by decide +kernel
theorem dX8_taper_66 : decode cX8_taper 66 = .ok (.goto 4, 3) := by decide +kernel
theorem dX8_taper_69 : decode cX8_taper 69 = .ok (.lload_n 3, 1) := by decide +kernel
theorem dX8_taper_70 : decode cX8_taper 70 = .ok (.lstore_n 3, 1) := by decide +kernel
theorem dX8_taper_71 : decode cX8_taper 71 = .ok (.iinc 5 1, 3) := by decide +kernel
theorem dX8_taper_74 : decode cX8_taper 74 = .ok (.goto (-50), 3) := by decide +kernel
theorem dX8_taper_77 : decode cX8_taper 77 = .ok (.lload_n 1, 1) := by decide +kernel
theorem dX8_taper_78 : decode cX8_taper 78 = .ok (.lload_n 3, 1) := by decide +kernel
theorem dX8_taper_79 : decode cX8_taper 79 = .ok (.lsub, 1) := by decide +kernel
theorem dX8_taper_80 : decode cX8_taper 80 = .ok (.lreturn, 1) := by decide +kernel
set_option maxRecDepth 100000 in
set_option maxHeartbeats 4000000 in
theorem m_X8_taper {l : Launch} {G : z_Gl} {σ : z_St} (P n u v w rc tl : Nat) (hM : z_mi σ P n u v w rc tl) : z_M l G yX8_taper cX8_taper 8 (some .long) (z_rm 5 114) [.ref (z_ad G 105)] σ (z_p1 (.long (if 1 ≤ w then z_fmx (zm_m (σ.2 115)) (zm_m (σ.2 115) 0) w - z_fmn (zm_m (σ.2 115)) (zm_m (σ.2 115) 0) w else (-9223372036854775808))) σ) := by
  refine z_M.of (by decide) (Nat.le_of_ble_eq_true rfl) (fun p e s m below meth c C => ?_)
  refine z_sub [0] (lv1 := [(0, .ref (z_ad G 105))]) rfl ?_
  have hM0 := hM
  obtain ⟨⟨hP, hn, hu, hv, hw, hrc, htl⟩, hPs, hnP, huv, hw6, hrc8, htl2, hqt, hah⟩ := hM0
  have h0 : 0 < P := by omega
  have h12 : P ≤ 12 := by omega
  have h288 : n ≤ 288 := by omega
  refine z_aload_n 0 C dX8_taper_0 0 rfl ?_
  refine z_getf 1 C 105 z_dX8 (⟨rfl, rfl⟩) 17 (by decide) q983 (.int (nI w)) (z_ci hw) dX8_taper_1 ?_
  refine z_if_ne 4 C 11 dX8_taper_4 (by decide) (fun c4 => ?_) (fun c4 => ?_)
  · skip
    have e4 : 1 ≤ w := by
      have : ¬ w = 0 := fun z => c4 (by rw [z]; rfl)
      omega
    refine z_aload_n 11 C dX8_taper_11 0 rfl ?_
    refine z_iconst 12 C dX8_taper_12 (nI 0) rfl ?_
    refine z_iconst 13 C dX8_taper_13 (nI 0) rfl ?_
    refine z_iconst 14 C dX8_taper_14 (nI 0) rfl ?_
    refine z_callV 15 C 105 (⟨rfl, rfl⟩) rfl (As := [.int (nI 0), .int (nI 0), .int (nI 0)]) (rest := []) (m_X8_traceHarmonic P n u v w rc tl hM 0 0 0 (by omega) (by omega) (by omega)) k_X8_traceHarmonic q1353 ⟨rfl, rfl⟩ ⟨Nat.le_of_ble_eq_true rfl, Nat.le_of_ble_eq_true rfl⟩ rfl (Nat.le_of_ble_eq_true rfl) ⟨Nat.le_of_ble_eq_true rfl, Nat.le_of_ble_eq_true rfl⟩ rfl dX8_taper_15 (z_k1 ?_)
    refine z_lstore_n 18 C dX8_taper_18 [(1, .long (z_cf (z_sh (σ.2 115) (24 * 0)) 0 0)), (0, .ref (z_ad G 105))] (by decide) rfl ?_
    refine z_lload_n 19 C dX8_taper_19 0 rfl ?_
    refine z_lstore_n 20 C dX8_taper_20 [(3, .long (z_cf (z_sh (σ.2 115) (24 * 0)) 0 0)), (1, .long (z_cf (z_sh (σ.2 115) (24 * 0)) 0 0)), (0, .ref (z_ad G 105))] (by decide) rfl ?_
    refine z_iconst 21 C dX8_taper_21 (nI 1) rfl ?_
    refine z_istore 22 C dX8_taper_22 [(5, .int (nI 1)), (3, .long (z_cf (z_sh (σ.2 115) (24 * 0)) 0 0)), (1, .long (z_cf (z_sh (σ.2 115) (24 * 0)) 0 0)), (0, .ref (z_ad G 105))] (by decide) rfl ?_
    refine z_sub [3, 2, 1, 0] (lv1 := [(0, .ref (z_ad G 105)), (1, .long (z_cf (z_sh (σ.2 115) (24 * 0)) 0 0)), (3, .long (z_cf (z_sh (σ.2 115) (24 * 0)) 0 0)), (5, .int (nI 1))]) rfl ?_
    refine z_cv (lv1 := [(0, .ref (z_ad G 105)), (1, .long (z_fmx (zm_m (σ.2 115)) (zm_m (σ.2 115) 0) 1)), (3, .long (z_fmn (zm_m (σ.2 115)) (zm_m (σ.2 115) 0) 1)), (5, .int (nI 1))]) (st1 := []) (σ1 := σ) (by rw [← z_fmx_1, ← z_fmn_1]; rfl) rfl rfl ?_
    refine z_lp1 (fun (i : Nat) => 1 ≤ i ∧ i ≤ w) (fun (i : Nat) => w - i) (fun (i : Nat) => [(0, .ref (z_ad G 105)), (1, .long (z_fmx (zm_m (σ.2 115)) (zm_m (σ.2 115) 0) i)), (3, .long (z_fmn (zm_m (σ.2 115)) (zm_m (σ.2 115) 0) i)), (5, .int (nI i))]) (fun (i : Nat) => σ) (fun i hi_24 ih_24 => ?_) 1 (by omega)
    try dsimp only
    obtain ⟨hi1, hi2⟩ := hi_24
    refine z_iload 24 C dX8_taper_24 3 rfl ?_
    refine z_aload_n 26 C dX8_taper_26 0 rfl ?_
    refine z_getf 27 C 105 z_dX8 (⟨rfl, rfl⟩) 17 (by decide) q983 (.int (nI w)) (z_ci hw) dX8_taper_27 ?_
    refine z_icmp_geN 30 C i w rfl rfl (by omega) (by omega) 77 dX8_taper_30 (by decide) (fun c30 => ?_) (fun c30 => ?_)
    · skip
      have ei : w = i := by omega
      subst ei
      refine z_lload_n 77 C dX8_taper_77 1 rfl ?_
      refine z_lload_n 78 C dX8_taper_78 2 rfl ?_
      refine z_lsub 79 C dX8_taper_79 ?_
      refine z_lret 80 C dX8_taper_80 ?_
      exact ⟨z_cl (by rw [if_pos e4]), rfl⟩
    · skip
      refine z_aload_n 33 C dX8_taper_33 0 rfl ?_
      refine z_iload 34 C dX8_taper_34 3 rfl ?_
      refine z_iconst 36 C dX8_taper_36 (nI 0) rfl ?_
      refine z_iconst 37 C dX8_taper_37 (nI 0) rfl ?_
      refine z_callV 38 C 105 (⟨rfl, rfl⟩) rfl (As := [.int (nI i), .int (nI 0), .int (nI 0)]) (rest := []) (m_X8_traceHarmonic P n u v w rc tl hM i 0 0 (by omega) (by omega) (by omega)) k_X8_traceHarmonic q1353 ⟨rfl, rfl⟩ ⟨Nat.le_of_ble_eq_true rfl, Nat.le_of_ble_eq_true rfl⟩ rfl (Nat.le_of_ble_eq_true rfl) ⟨Nat.le_of_ble_eq_true rfl, Nat.le_of_ble_eq_true rfl⟩ rfl dX8_taper_38 (z_k1 ?_)
      refine z_lstore 41 C dX8_taper_41 [(6, .long (z_cf (z_sh (σ.2 115) (24 * i)) 0 0)), (0, .ref (z_ad G 105)), (1, .long (z_fmx (zm_m (σ.2 115)) (zm_m (σ.2 115) 0) i)), (3, .long (z_fmn (zm_m (σ.2 115)) (zm_m (σ.2 115) 0) i)), (5, .int (nI i))] (by decide) rfl ?_
      refine z_cv (lv1 := [(6, .long (zm_m (σ.2 115) i)), (0, .ref (z_ad G 105)), (1, .long (z_fmx (zm_m (σ.2 115)) (zm_m (σ.2 115) 0) i)), (3, .long (z_fmn (zm_m (σ.2 115)) (zm_m (σ.2 115) 0) i)), (5, .int (nI i))]) (st1 := []) (σ1 := σ) rfl rfl rfl ?_
      refine z_lload 43 C dX8_taper_43 0 rfl ?_
      refine z_lload_n 45 C dX8_taper_45 2 rfl ?_
      refine z_lcmp_le 46 C 55 dX8_taper_46 dX8_taper_47 (by decide) (fun c46 => ?_) (fun c46 => ?_)
      · skip
        refine z_lload_n 55 C dX8_taper_55 2 rfl ?_
        refine z_lstore_n 56 C dX8_taper_56 [(1, .long (z_fmx (zm_m (σ.2 115)) (zm_m (σ.2 115) 0) i)), (6, .long (zm_m (σ.2 115) i)), (0, .ref (z_ad G 105)), (3, .long (z_fmn (zm_m (σ.2 115)) (zm_m (σ.2 115) 0) i)), (5, .int (nI i))] (by decide) rfl ?_
        refine z_lload 57 C dX8_taper_57 1 rfl ?_
        refine z_lload_n 59 C dX8_taper_59 3 rfl ?_
        refine z_lcmp_ge 60 C 69 dX8_taper_60 dX8_taper_61 (by decide) (fun c60 => ?_) (fun c60 => ?_)
        · skip
          refine z_lload_n 69 C dX8_taper_69 3 rfl ?_
          refine z_lstore_n 70 C dX8_taper_70 [(3, .long (z_fmn (zm_m (σ.2 115)) (zm_m (σ.2 115) 0) i)), (1, .long (z_fmx (zm_m (σ.2 115)) (zm_m (σ.2 115) 0) i)), (6, .long (zm_m (σ.2 115) i)), (0, .ref (z_ad G 105)), (5, .int (nI i))] (by decide) rfl ?_
          refine z_iincN 71 C 4 i [(5, .int (nI (i + 1))), (3, .long (z_fmn (zm_m (σ.2 115)) (zm_m (σ.2 115) 0) i)), (1, .long (z_fmx (zm_m (σ.2 115)) (zm_m (σ.2 115) 0) i)), (6, .long (zm_m (σ.2 115) i)), (0, .ref (z_ad G 105))] rfl rfl (by decide) rfl dX8_taper_71 ?_
          refine z_goto 74 C 24 dX8_taper_74 (by decide) ?_
          refine z_sub [4, 2, 1, 0] (lv1 := [(0, .ref (z_ad G 105)), (1, .long (z_fmx (zm_m (σ.2 115)) (zm_m (σ.2 115) 0) i)), (3, .long (z_fmn (zm_m (σ.2 115)) (zm_m (σ.2 115) 0) i)), (5, .int (nI (i + 1)))]) rfl ?_
          refine z_cv (lv1 := [(0, .ref (z_ad G 105)), (1, .long (z_fmx (zm_m (σ.2 115)) (zm_m (σ.2 115) 0) (i + 1))), (3, .long (z_fmn (zm_m (σ.2 115)) (zm_m (σ.2 115) 0) (i + 1))), (5, .int (nI (i + 1)))]) (st1 := []) (σ1 := σ) (by rw [show z_fmx (zm_m (σ.2 115)) (zm_m (σ.2 115) 0) (i + 1) = z_mx (z_fmx (zm_m (σ.2 115)) (zm_m (σ.2 115) 0) i) (zm_m (σ.2 115) i) from rfl, show z_fmn (zm_m (σ.2 115)) (zm_m (σ.2 115) 0) (i + 1) = z_mn (z_fmn (zm_m (σ.2 115)) (zm_m (σ.2 115) 0) i) (zm_m (σ.2 115) i) from rfl]; first | rw [← z_mx_0 c46, ← z_mn_0 c60] | rw [← z_mx_1 c46, ← z_mn_0 c60] | rw [← z_mx_0 c46, ← z_mn_1 c60] | rw [← z_mx_1 c46, ← z_mn_1 c60]) rfl rfl ?_
          exact ih_24 (i + 1) (by omega) (by omega)
        · skip
          refine z_lload 64 C dX8_taper_64 1 rfl ?_
          refine z_goto 66 C 70 dX8_taper_66 (by decide) ?_
          refine z_lstore_n 70 C dX8_taper_70 [(3, .long (zm_m (σ.2 115) i)), (1, .long (z_fmx (zm_m (σ.2 115)) (zm_m (σ.2 115) 0) i)), (6, .long (zm_m (σ.2 115) i)), (0, .ref (z_ad G 105)), (5, .int (nI i))] (by decide) rfl ?_
          refine z_iincN 71 C 4 i [(5, .int (nI (i + 1))), (3, .long (zm_m (σ.2 115) i)), (1, .long (z_fmx (zm_m (σ.2 115)) (zm_m (σ.2 115) 0) i)), (6, .long (zm_m (σ.2 115) i)), (0, .ref (z_ad G 105))] rfl rfl (by decide) rfl dX8_taper_71 ?_
          refine z_goto 74 C 24 dX8_taper_74 (by decide) ?_
          refine z_sub [4, 2, 1, 0] (lv1 := [(0, .ref (z_ad G 105)), (1, .long (z_fmx (zm_m (σ.2 115)) (zm_m (σ.2 115) 0) i)), (3, .long (zm_m (σ.2 115) i)), (5, .int (nI (i + 1)))]) rfl ?_
          refine z_cv (lv1 := [(0, .ref (z_ad G 105)), (1, .long (z_fmx (zm_m (σ.2 115)) (zm_m (σ.2 115) 0) (i + 1))), (3, .long (z_fmn (zm_m (σ.2 115)) (zm_m (σ.2 115) 0) (i + 1))), (5, .int (nI (i + 1)))]) (st1 := []) (σ1 := σ) (by rw [show z_fmx (zm_m (σ.2 115)) (zm_m (σ.2 115) 0) (i + 1) = z_mx (z_fmx (zm_m (σ.2 115)) (zm_m (σ.2 115) 0) i) (zm_m (σ.2 115) i) from rfl, show z_fmn (zm_m (σ.2 115)) (zm_m (σ.2 115) 0) (i + 1) = z_mn (z_fmn (zm_m (σ.2 115)) (zm_m (σ.2 115) 0) i) (zm_m (σ.2 115) i) from rfl]; first | rw [← z_mx_0 c46, ← z_mn_0 c60] | rw [← z_mx_1 c46, ← z_mn_0 c60] | rw [← z_mx_0 c46, ← z_mn_1 c60] | rw [← z_mx_1 c46, ← z_mn_1 c60]) rfl rfl ?_
          exact ih_24 (i + 1) (by omega) (by omega)
      · skip
        refine z_lload 50 C dX8_taper_50 0 rfl ?_
        refine z_goto 52 C 56 dX8_taper_52 (by decide) ?_
        refine z_lstore_n 56 C dX8_taper_56 [(1, .long (zm_m (σ.2 115) i)), (6, .long (zm_m (σ.2 115) i)), (0, .ref (z_ad G 105)), (3, .long (z_fmn (zm_m (σ.2 115)) (zm_m (σ.2 115) 0) i)), (5, .int (nI i))] (by decide) rfl ?_
        refine z_lload 57 C dX8_taper_57 1 rfl ?_
        refine z_lload_n 59 C dX8_taper_59 3 rfl ?_
        refine z_lcmp_ge 60 C 69 dX8_taper_60 dX8_taper_61 (by decide) (fun c60 => ?_) (fun c60 => ?_)
        · skip
          refine z_lload_n 69 C dX8_taper_69 3 rfl ?_
          refine z_lstore_n 70 C dX8_taper_70 [(3, .long (z_fmn (zm_m (σ.2 115)) (zm_m (σ.2 115) 0) i)), (1, .long (zm_m (σ.2 115) i)), (6, .long (zm_m (σ.2 115) i)), (0, .ref (z_ad G 105)), (5, .int (nI i))] (by decide) rfl ?_
          refine z_iincN 71 C 4 i [(5, .int (nI (i + 1))), (3, .long (z_fmn (zm_m (σ.2 115)) (zm_m (σ.2 115) 0) i)), (1, .long (zm_m (σ.2 115) i)), (6, .long (zm_m (σ.2 115) i)), (0, .ref (z_ad G 105))] rfl rfl (by decide) rfl dX8_taper_71 ?_
          refine z_goto 74 C 24 dX8_taper_74 (by decide) ?_
          refine z_sub [4, 2, 1, 0] (lv1 := [(0, .ref (z_ad G 105)), (1, .long (zm_m (σ.2 115) i)), (3, .long (z_fmn (zm_m (σ.2 115)) (zm_m (σ.2 115) 0) i)), (5, .int (nI (i + 1)))]) rfl ?_
          refine z_cv (lv1 := [(0, .ref (z_ad G 105)), (1, .long (z_fmx (zm_m (σ.2 115)) (zm_m (σ.2 115) 0) (i + 1))), (3, .long (z_fmn (zm_m (σ.2 115)) (zm_m (σ.2 115) 0) (i + 1))), (5, .int (nI (i + 1)))]) (st1 := []) (σ1 := σ) (by rw [show z_fmx (zm_m (σ.2 115)) (zm_m (σ.2 115) 0) (i + 1) = z_mx (z_fmx (zm_m (σ.2 115)) (zm_m (σ.2 115) 0) i) (zm_m (σ.2 115) i) from rfl, show z_fmn (zm_m (σ.2 115)) (zm_m (σ.2 115) 0) (i + 1) = z_mn (z_fmn (zm_m (σ.2 115)) (zm_m (σ.2 115) 0) i) (zm_m (σ.2 115) i) from rfl]; first | rw [← z_mx_0 c46, ← z_mn_0 c60] | rw [← z_mx_1 c46, ← z_mn_0 c60] | rw [← z_mx_0 c46, ← z_mn_1 c60] | rw [← z_mx_1 c46, ← z_mn_1 c60]) rfl rfl ?_
          exact ih_24 (i + 1) (by omega) (by omega)
        · skip
          refine z_lload 64 C dX8_taper_64 1 rfl ?_
          refine z_goto 66 C 70 dX8_taper_66 (by decide) ?_
          refine z_lstore_n 70 C dX8_taper_70 [(3, .long (zm_m (σ.2 115) i)), (1, .long (zm_m (σ.2 115) i)), (6, .long (zm_m (σ.2 115) i)), (0, .ref (z_ad G 105)), (5, .int (nI i))] (by decide) rfl ?_
          refine z_iincN 71 C 4 i [(5, .int (nI (i + 1))), (3, .long (zm_m (σ.2 115) i)), (1, .long (zm_m (σ.2 115) i)), (6, .long (zm_m (σ.2 115) i)), (0, .ref (z_ad G 105))] rfl rfl (by decide) rfl dX8_taper_71 ?_
          refine z_goto 74 C 24 dX8_taper_74 (by decide) ?_
          refine z_sub [4, 2, 1, 0] (lv1 := [(0, .ref (z_ad G 105)), (1, .long (zm_m (σ.2 115) i)), (3, .long (zm_m (σ.2 115) i)), (5, .int (nI (i + 1)))]) rfl ?_
          refine z_cv (lv1 := [(0, .ref (z_ad G 105)), (1, .long (z_fmx (zm_m (σ.2 115)) (zm_m (σ.2 115) 0) (i + 1))), (3, .long (z_fmn (zm_m (σ.2 115)) (zm_m (σ.2 115) 0) (i + 1))), (5, .int (nI (i + 1)))]) (st1 := []) (σ1 := σ) (by rw [show z_fmx (zm_m (σ.2 115)) (zm_m (σ.2 115) 0) (i + 1) = z_mx (z_fmx (zm_m (σ.2 115)) (zm_m (σ.2 115) 0) i) (zm_m (σ.2 115) i) from rfl, show z_fmn (zm_m (σ.2 115)) (zm_m (σ.2 115) 0) (i + 1) = z_mn (z_fmn (zm_m (σ.2 115)) (zm_m (σ.2 115) 0) i) (zm_m (σ.2 115) i) from rfl]; first | rw [← z_mx_0 c46, ← z_mn_0 c60] | rw [← z_mx_1 c46, ← z_mn_0 c60] | rw [← z_mx_0 c46, ← z_mn_1 c60] | rw [← z_mx_1 c46, ← z_mn_1 c60]) rfl rfl ?_
          exact ih_24 (i + 1) (by omega) (by omega)
  · skip
    have e4 : w = 0 := (z_nI0 (by omega)).mp c4
    refine z_callS 7 C (As := []) (rest := []) (m_X8_lost) k_X8_lost q1123 ⟨rfl, rfl⟩ ⟨Nat.le_of_ble_eq_true rfl, Nat.le_of_ble_eq_true rfl⟩ rfl (Nat.le_of_ble_eq_true rfl) ⟨Nat.le_of_ble_eq_true rfl, Nat.le_of_ble_eq_true rfl⟩ rfl dX8_taper_7 (z_k1 ?_)
    refine z_lret 10 C dX8_taper_10 ?_
    exact ⟨z_cl (by rw [if_neg (by omega)]), rfl⟩
theorem dX8_unlike_0 : decode cX8_unlike 0 = .ok (.lconst 0, 1) := by decide +kernel
theorem dX8_unlike_1 : decode cX8_unlike 1 = .ok (.lstore 4, 2) := by decide +kernel
theorem dX8_unlike_3 : decode cX8_unlike 3 = .ok (.iconst 0, 1) := by decide +kernel
theorem dX8_unlike_4 : decode cX8_unlike 4 = .ok (.istore 6, 2) := by decide +kernel
theorem dX8_unlike_6 : decode cX8_unlike 6 = .ok (.iload 6, 2) := by decide +kernel
theorem dX8_unlike_8 : decode cX8_unlike 8 = .ok (.bipush 24, 2) := by decide +kernel
theorem dX8_unlike_10 : decode cX8_unlike 10 = .ok (.if_icmp .ge 47, 3) := by decide +kernel
theorem dX8_unlike_13 : decode cX8_unlike 13 = .ok (.lload 4, 2) := by decide +kernel
theorem dX8_unlike_15 : decode cX8_unlike 15 = .ok (.aload_n 0, 1) := by decide +kernel
theorem dX8_unlike_16 : decode cX8_unlike 16 = .ok (.getfield 44, 3) := by decide +kernel
theorem dX8_unlike_19 : decode cX8_unlike 19 = .ok (.bipush 24, 2) := by decide +kernel
theorem dX8_unlike_21 : decode cX8_unlike 21 = .ok (.iload_n 1, 1) := by decide +kernel
theorem dX8_unlike_22 : decode cX8_unlike 22 = .ok (.imul, 1) := by decide +kernel
theorem dX8_unlike_23 : decode cX8_unlike 23 = .ok (.iload 6, 2) := by decide +kernel
theorem dX8_unlike_25 : decode cX8_unlike 25 = .ok (.iload_n 3, 1) := by decide +kernel
theorem dX8_unlike_26 : decode cX8_unlike 26 = .ok (.isub, 1) := by decide +kernel
theorem dX8_unlike_27 : decode cX8_unlike 27 = .ok (.invokestatic 72, 3) := by decide +kernel
theorem dX8_unlike_30 : decode cX8_unlike 30 = .ok (.iadd, 1) := by decide +kernel
theorem dX8_unlike_31 : decode cX8_unlike 31 = .ok (.laload, 1) := by decide +kernel
theorem dX8_unlike_32 : decode cX8_unlike 32 = .ok (.aload_n 0, 1) := by decide +kernel
theorem dX8_unlike_33 : decode cX8_unlike 33 = .ok (.getfield 44, 3) := by decide +kernel
theorem dX8_unlike_36 : decode cX8_unlike 36 = .ok (.bipush 24, 2) := by decide +kernel
theorem dX8_unlike_38 : decode cX8_unlike 38 = .ok (.iload_n 2, 1) := by decide +kernel
theorem dX8_unlike_39 : decode cX8_unlike 39 = .ok (.imul, 1) := by decide +kernel
theorem dX8_unlike_40 : decode cX8_unlike 40 = .ok (.iload 6, 2) := by decide +kernel
theorem dX8_unlike_42 : decode cX8_unlike 42 = .ok (.iadd, 1) := by decide +kernel
theorem dX8_unlike_43 : decode cX8_unlike 43 = .ok (.laload, 1) := by decide +kernel
theorem dX8_unlike_44 : decode cX8_unlike 44 = .ok (.lsub, 1) := by decide +kernel
theorem dX8_unlike_45 : decode cX8_unlike 45 = .ok (.invokestatic 111, 3) := by decide +kernel
theorem dX8_unlike_48 : decode cX8_unlike 48 = .ok (.ladd, 1) := by decide +kernel
theorem dX8_unlike_49 : decode cX8_unlike 49 = .ok (.lstore 4, 2) := by decide +kernel
theorem dX8_unlike_51 : decode cX8_unlike 51 = .ok (.iinc 6 1, 3) := by decide +kernel
theorem dX8_unlike_54 : decode cX8_unlike 54 = .ok (.goto (-48), 3) := by decide +kernel
theorem dX8_unlike_57 : decode cX8_unlike 57 = .ok (.lload 4, 2) := by decide +kernel
theorem dX8_unlike_59 : decode cX8_unlike 59 = .ok (.lreturn, 1) := by decide +kernel
set_option maxRecDepth 100000 in
set_option maxHeartbeats 4000000 in
theorem m_X8_unlike {l : Launch} {G : z_Gl} {σ : z_St} (P n u v w rc tl : Nat) (hM : z_mi σ P n u v w rc tl) (a b u_ : Nat) (ha : a < 6) (hb : b < 6) (hu_ : u_ < 24) : z_M l G yX8_unlike cX8_unlike 7 (some .long) (z_rm 1 21) [.ref (z_ad G 105), .int (nI a), .int (nI b), .int (nI u_)] σ (z_p1 (.long (z_mm (z_sh (σ.2 115) (24 * a)) (z_sh (σ.2 115) (24 * b)) u_ 24)) σ) := by
  refine z_M.of (by decide) (Nat.le_of_ble_eq_true rfl) (fun p e s m below meth c C => ?_)
  refine z_sub [0, 1, 2, 3] (lv1 := [(0, .ref (z_ad G 105)), (1, .int (nI a)), (2, .int (nI b)), (3, .int (nI u_))]) rfl ?_
  have hM0 := hM
  obtain ⟨⟨hP, hn, hu, hv, hw, hrc, htl⟩, hPs, hnP, huv, hw6, hrc8, htl2, hqt, hah⟩ := hM0
  have h0 : 0 < P := by omega
  have h12 : P ≤ 12 := by omega
  have h288 : n ≤ 288 := by omega
  refine z_lconst 0 C dX8_unlike_0 0 rfl ?_
  refine z_lstore 1 C dX8_unlike_1 [(4, .long 0), (0, .ref (z_ad G 105)), (1, .int (nI a)), (2, .int (nI b)), (3, .int (nI u_))] (by decide) rfl ?_
  refine z_iconst 3 C dX8_unlike_3 (nI 0) rfl ?_
  refine z_istore 4 C dX8_unlike_4 [(6, .int (nI 0)), (4, .long 0), (0, .ref (z_ad G 105)), (1, .int (nI a)), (2, .int (nI b)), (3, .int (nI u_))] (by decide) rfl ?_
  refine z_sub [2, 3, 4, 5, 1, 0] (lv1 := [(0, .ref (z_ad G 105)), (1, .int (nI a)), (2, .int (nI b)), (3, .int (nI u_)), (4, .long 0), (6, .int (nI 0))]) rfl ?_
  refine z_cv (lv1 := [(0, .ref (z_ad G 105)), (1, .int (nI a)), (2, .int (nI b)), (3, .int (nI u_)), (4, .long (z_mm (z_sh (σ.2 115) (24 * a)) (z_sh (σ.2 115) (24 * b)) u_ 0)), (6, .int (nI 0))]) (st1 := []) (σ1 := σ) rfl rfl rfl ?_
  refine z_lp1 (fun (k : Nat) => k ≤ 24) (fun (k : Nat) => 24 - k) (fun (k : Nat) => [(0, .ref (z_ad G 105)), (1, .int (nI a)), (2, .int (nI b)), (3, .int (nI u_)), (4, .long (z_mm (z_sh (σ.2 115) (24 * a)) (z_sh (σ.2 115) (24 * b)) u_ k)), (6, .int (nI k))]) (fun (k : Nat) => σ) (fun k hi_6 ih_6 => ?_) 0 (by omega)
  try dsimp only
  refine z_iload 6 C dX8_unlike_6 5 rfl ?_
  refine z_bipush 8 C dX8_unlike_8 (nI 24) rfl ?_
  refine z_icmp_geN 10 C k 24 rfl rfl (by omega) (by omega) 57 dX8_unlike_10 (by decide) (fun c10 => ?_) (fun c10 => ?_)
  · skip
    have ek : k = 24 := by omega
    subst ek
    refine z_lload 57 C dX8_unlike_57 4 rfl ?_
    refine z_lret 59 C dX8_unlike_59 ?_
    exact ⟨rfl, rfl⟩
  · skip
    refine z_lload 13 C dX8_unlike_13 4 rfl ?_
    refine z_aload_n 15 C dX8_unlike_15 0 rfl ?_
    refine z_getf 16 C 105 z_dX8 (⟨rfl, rfl⟩) 18 (by decide) q984 (.ref (z_ad G 115)) rfl dX8_unlike_16 ?_
    refine z_bipush 19 C dX8_unlike_19 (nI 24) rfl ?_
    refine z_iload_n 21 C dX8_unlike_21 1 rfl ?_
    refine z_imulN 22 C 24 a rfl rfl dX8_unlike_22 ?_
    refine z_iload 23 C dX8_unlike_23 5 rfl ?_
    refine z_iload_n 25 C dX8_unlike_25 3 rfl ?_
    refine z_isub 26 C dX8_unlike_26 ?_
    refine z_callS 27 C (As := [.int ((nI k) - (nI u_))]) (rest := [.int (nI (24 * a)), .ref (z_ad G 115), .long (z_mm (z_sh (σ.2 115) (24 * a)) (z_sh (σ.2 115) (24 * b)) u_ k)]) (m_X8_around_d k u_ (by omega) (by omega)) k_X8_around q1109 ⟨rfl, rfl⟩ ⟨Nat.le_of_ble_eq_true rfl, Nat.le_of_ble_eq_true rfl⟩ rfl (Nat.le_of_ble_eq_true rfl) ⟨Nat.le_of_ble_eq_true rfl, Nat.le_of_ble_eq_true rfl⟩ rfl dX8_unlike_27 (z_k1 ?_)
    refine z_iaddN 30 C (24 * a) ((k + (24 - u_ % 24)) % 24) rfl rfl dX8_unlike_30 ?_
    refine z_laldN 31 C 115 (n := 144) (⟨rfl, rfl⟩) ((24 * a) + ((k + (24 - u_ % 24)) % 24)) rfl (by omega) (by decide) dX8_unlike_31 ?_
    refine z_aload_n 32 C dX8_unlike_32 0 rfl ?_
    refine z_getf 33 C 105 z_dX8 (⟨rfl, rfl⟩) 18 (by decide) q984 (.ref (z_ad G 115)) rfl dX8_unlike_33 ?_
    refine z_bipush 36 C dX8_unlike_36 (nI 24) rfl ?_
    refine z_iload_n 38 C dX8_unlike_38 2 rfl ?_
    refine z_imulN 39 C 24 b rfl rfl dX8_unlike_39 ?_
    refine z_iload 40 C dX8_unlike_40 5 rfl ?_
    refine z_iaddN 42 C (24 * b) k rfl rfl dX8_unlike_42 ?_
    refine z_laldN 43 C 115 (n := 144) (⟨rfl, rfl⟩) ((24 * b) + k) rfl (by omega) (by decide) dX8_unlike_43 ?_
    refine z_lsub 44 C dX8_unlike_44 ?_
    refine z_callS 45 C (As := [.long ((σ.2 115 ((24 * a) + ((k + (24 - u_ % 24)) % 24))) - (σ.2 115 ((24 * b) + k)))]) (rest := [.long (z_mm (z_sh (σ.2 115) (24 * a)) (z_sh (σ.2 115) (24 * b)) u_ k)]) (m_X8_size ((σ.2 115 ((24 * a) + ((k + (24 - u_ % 24)) % 24))) - (σ.2 115 ((24 * b) + k)))) k_X8_size q1113 ⟨rfl, rfl⟩ ⟨Nat.le_of_ble_eq_true rfl, Nat.le_of_ble_eq_true rfl⟩ rfl (Nat.le_of_ble_eq_true rfl) ⟨Nat.le_of_ble_eq_true rfl, Nat.le_of_ble_eq_true rfl⟩ rfl dX8_unlike_45 (z_k1 ?_)
    refine z_ladd 48 C dX8_unlike_48 ?_
    refine z_lstore 49 C dX8_unlike_49 [(4, .long ((z_mm (z_sh (σ.2 115) (24 * a)) (z_sh (σ.2 115) (24 * b)) u_ k) + (z_ab ((σ.2 115 ((24 * a) + ((k + (24 - u_ % 24)) % 24))) - (σ.2 115 ((24 * b) + k)))))), (0, .ref (z_ad G 105)), (1, .int (nI a)), (2, .int (nI b)), (3, .int (nI u_)), (6, .int (nI k))] (by decide) rfl ?_
    refine z_iincN 51 C 5 k [(6, .int (nI (k + 1))), (4, .long ((z_mm (z_sh (σ.2 115) (24 * a)) (z_sh (σ.2 115) (24 * b)) u_ k) + (z_ab ((σ.2 115 ((24 * a) + ((k + (24 - u_ % 24)) % 24))) - (σ.2 115 ((24 * b) + k)))))), (0, .ref (z_ad G 105)), (1, .int (nI a)), (2, .int (nI b)), (3, .int (nI u_))] rfl rfl (by decide) rfl dX8_unlike_51 ?_
    refine z_goto 54 C 6 dX8_unlike_54 (by decide) ?_
    refine z_sub [2, 3, 4, 5, 1, 0] (lv1 := [(0, .ref (z_ad G 105)), (1, .int (nI a)), (2, .int (nI b)), (3, .int (nI u_)), (4, .long ((z_mm (z_sh (σ.2 115) (24 * a)) (z_sh (σ.2 115) (24 * b)) u_ k) + (z_ab ((σ.2 115 ((24 * a) + ((k + (24 - u_ % 24)) % 24))) - (σ.2 115 ((24 * b) + k)))))), (6, .int (nI (k + 1)))]) rfl ?_
    refine z_cv (lv1 := [(0, .ref (z_ad G 105)), (1, .int (nI a)), (2, .int (nI b)), (3, .int (nI u_)), (4, .long (z_mm (z_sh (σ.2 115) (24 * a)) (z_sh (σ.2 115) (24 * b)) u_ (k + 1))), (6, .int (nI (k + 1)))]) (st1 := []) (σ1 := σ) rfl rfl rfl ?_
    exact ih_6 (k + 1) (by omega) (by omega)
theorem dX8_difference_0 : decode cX8_difference 0 = .ok (.aload_n 0, 1) := by decide +kernel
theorem dX8_difference_1 : decode cX8_difference 1 = .ok (.iload_n 1, 1) := by decide +kernel
theorem dX8_difference_2 : decode cX8_difference 2 = .ok (.invokevirtual 267, 3) := by decide +kernel
theorem dX8_difference_5 : decode cX8_difference 5 = .ok (.ifCond .ne 18, 3) := by decide +kernel
theorem dX8_difference_8 : decode cX8_difference 8 = .ok (.aload_n 0, 1) := by decide +kernel
theorem dX8_difference_9 : decode cX8_difference 9 = .ok (.iload_n 2, 1) := by decide +kernel
theorem dX8_difference_10 : decode cX8_difference 10 = .ok (.invokevirtual 267, 3) := by decide +kernel
theorem dX8_difference_13 : decode cX8_difference 13 = .ok (.ifCond .ne 10, 3) := by decide +kernel
theorem dX8_difference_16 : decode cX8_difference 16 = .ok (.iload_n 3, 1) := by decide +kernel
theorem dX8_difference_17 : decode cX8_difference 17 = .ok (.invokestatic 101, 3) := by decide +kernel
theorem dX8_difference_20 : decode cX8_difference 20 = .ok (.ifCond .eq 9, 3) := by decide +kernel
theorem dX8_difference_23 : decode cX8_difference 23 = .ok (.invokestatic 127, 3) := by decide +kernel
theorem dX8_difference_26 : decode cX8_difference 26 = .ok (.goto 10, 3) := by decide +kernel
theorem dX8_difference_29 : decode cX8_difference 29 = .ok (.aload_n 0, 1) := by decide +kernel
theorem dX8_difference_30 : decode cX8_difference 30 = .ok (.iload_n 1, 1) := by decide +kernel
theorem dX8_difference_31 : decode cX8_difference 31 = .ok (.iload_n 2, 1) := by decide +kernel
theorem dX8_difference_32 : decode cX8_difference 32 = .ok (.iload_n 3, 1) := by decide +kernel
theorem dX8_difference_33 : decode cX8_difference 33 = .ok (.invokevirtual 280, 3) := by decide +kernel
theorem dX8_difference_36 : decode cX8_difference 36 = .ok (.lreturn, 1) := by decide +kernel
set_option maxRecDepth 100000 in
set_option maxHeartbeats 4000000 in
theorem m_X8_difference {l : Launch} {G : z_Gl} {σ : z_St} (P n u v w rc tl : Nat) (hM : z_mi σ P n u v w rc tl) (x : Int32) (y : Int32) (z : Int32) : z_M l G yX8_difference cX8_difference 4 (some .long) (z_rm 2 47) [.ref (z_ad G 105), .int x, .int y, .int z] σ (z_p1 (.long (if x < nI 0 ∨ nI w - nI 1 < x then (-9223372036854775808) else if y < nI 0 ∨ nI w - nI 1 < y then (-9223372036854775808) else if z < nI 0 ∨ nI 23 < z then (-9223372036854775808) else z_mm (z_sh (σ.2 115) (24 * z_n x)) (z_sh (σ.2 115) (24 * z_n y)) (z_n z) 24)) σ) := by
  refine z_M.of (by decide) (Nat.le_of_ble_eq_true rfl) (fun p e s m below meth c C => ?_)
  refine z_sub [0, 1, 2, 3] (lv1 := [(0, .ref (z_ad G 105)), (1, .int x), (2, .int y), (3, .int z)]) rfl ?_
  have hM0 := hM
  obtain ⟨⟨hP, hn, hu, hv, hw, hrc, htl⟩, hPs, hnP, huv, hw6, hrc8, htl2, hqt, hah⟩ := hM0
  have h0 : 0 < P := by omega
  have h12 : P ≤ 12 := by omega
  have h288 : n ≤ 288 := by omega
  refine z_aload_n 0 C dX8_difference_0 0 rfl ?_
  refine z_iload_n 1 C dX8_difference_1 1 rfl ?_
  refine z_callV 2 C 105 (⟨rfl, rfl⟩) rfl (As := [.int x]) (rest := []) (m_X8_noTrace P n u v w rc tl hM x ) k_X8_noTrace q1345 ⟨rfl, rfl⟩ ⟨Nat.le_of_ble_eq_true rfl, Nat.le_of_ble_eq_true rfl⟩ rfl (Nat.le_of_ble_eq_true rfl) ⟨Nat.le_of_ble_eq_true rfl, Nat.le_of_ble_eq_true rfl⟩ rfl dX8_difference_2 (z_k1 ?_)
  refine z_if_neb 5 C 23 dX8_difference_5 (by decide) (fun c5 => ?_) (fun c5 => ?_)
  · skip
    refine z_callS 23 C (As := []) (rest := []) (m_X8_lost) k_X8_lost q1123 ⟨rfl, rfl⟩ ⟨Nat.le_of_ble_eq_true rfl, Nat.le_of_ble_eq_true rfl⟩ rfl (Nat.le_of_ble_eq_true rfl) ⟨Nat.le_of_ble_eq_true rfl, Nat.le_of_ble_eq_true rfl⟩ rfl dX8_difference_23 (z_k1 ?_)
    refine z_goto 26 C 36 dX8_difference_26 (by decide) ?_
    refine z_lret 36 C dX8_difference_36 ?_
    first | exact ⟨z_cl (by rw [if_pos c5]), rfl⟩ | exact ⟨z_cl (by rw [if_neg c5, if_pos c13]), rfl⟩ | exact ⟨z_cl (by rw [if_neg c5, if_neg c13, if_pos c20]), rfl⟩
  · skip
    obtain ⟨a, ha, rfl⟩ := z_inw (by omega) c5
    refine z_aload_n 8 C dX8_difference_8 0 rfl ?_
    refine z_iload_n 9 C dX8_difference_9 2 rfl ?_
    refine z_callV 10 C 105 (⟨rfl, rfl⟩) rfl (As := [.int y]) (rest := []) (m_X8_noTrace P n u v w rc tl hM y ) k_X8_noTrace q1345 ⟨rfl, rfl⟩ ⟨Nat.le_of_ble_eq_true rfl, Nat.le_of_ble_eq_true rfl⟩ rfl (Nat.le_of_ble_eq_true rfl) ⟨Nat.le_of_ble_eq_true rfl, Nat.le_of_ble_eq_true rfl⟩ rfl dX8_difference_10 (z_k1 ?_)
    refine z_if_neb 13 C 23 dX8_difference_13 (by decide) (fun c13 => ?_) (fun c13 => ?_)
    · skip
      refine z_callS 23 C (As := []) (rest := []) (m_X8_lost) k_X8_lost q1123 ⟨rfl, rfl⟩ ⟨Nat.le_of_ble_eq_true rfl, Nat.le_of_ble_eq_true rfl⟩ rfl (Nat.le_of_ble_eq_true rfl) ⟨Nat.le_of_ble_eq_true rfl, Nat.le_of_ble_eq_true rfl⟩ rfl dX8_difference_23 (z_k1 ?_)
      refine z_goto 26 C 36 dX8_difference_26 (by decide) ?_
      refine z_lret 36 C dX8_difference_36 ?_
      first | exact ⟨z_cl (by rw [if_pos c5]), rfl⟩ | exact ⟨z_cl (by rw [if_neg c5, if_pos c13]), rfl⟩ | exact ⟨z_cl (by rw [if_neg c5, if_neg c13, if_pos c20]), rfl⟩
    · skip
      obtain ⟨b, hb, rfl⟩ := z_inw (by omega) c13
      refine z_iload_n 16 C dX8_difference_16 3 rfl ?_
      refine z_callS 17 C (As := [.int z]) (rest := []) (m_X8_noPlace z) k_X8_noPlace q1096 ⟨rfl, rfl⟩ ⟨Nat.le_of_ble_eq_true rfl, Nat.le_of_ble_eq_true rfl⟩ rfl (Nat.le_of_ble_eq_true rfl) ⟨Nat.le_of_ble_eq_true rfl, Nat.le_of_ble_eq_true rfl⟩ rfl dX8_difference_17 (z_k1 ?_)
      refine z_if_eqb 20 C 29 dX8_difference_20 (by decide) (fun c20 => ?_) (fun c20 => ?_)
      · skip
        obtain ⟨d, hd, rfl⟩ := z_in0 (by decide) c20
        refine z_aload_n 29 C dX8_difference_29 0 rfl ?_
        refine z_iload_n 30 C dX8_difference_30 1 rfl ?_
        refine z_iload_n 31 C dX8_difference_31 2 rfl ?_
        refine z_iload_n 32 C dX8_difference_32 3 rfl ?_
        refine z_callV 33 C 105 (⟨rfl, rfl⟩) rfl (As := [.int (nI a), .int (nI b), .int (nI d)]) (rest := []) (m_X8_unlike P n u v w rc tl hM a b d (by omega) (by omega) (by omega)) k_X8_unlike q1385 ⟨rfl, rfl⟩ ⟨Nat.le_of_ble_eq_true rfl, Nat.le_of_ble_eq_true rfl⟩ rfl (Nat.le_of_ble_eq_true rfl) ⟨Nat.le_of_ble_eq_true rfl, Nat.le_of_ble_eq_true rfl⟩ rfl dX8_difference_33 (z_k1 ?_)
        refine z_lret 36 C dX8_difference_36 ?_
        exact ⟨z_cl (by rw [if_neg c5, if_neg c13, if_neg c20, z_nk (k := a) (by omega), z_nk (k := b) (by omega), z_nk (k := d) (by omega)]), rfl⟩
      · skip
        refine z_callS 23 C (As := []) (rest := []) (m_X8_lost) k_X8_lost q1123 ⟨rfl, rfl⟩ ⟨Nat.le_of_ble_eq_true rfl, Nat.le_of_ble_eq_true rfl⟩ rfl (Nat.le_of_ble_eq_true rfl) ⟨Nat.le_of_ble_eq_true rfl, Nat.le_of_ble_eq_true rfl⟩ rfl dX8_difference_23 (z_k1 ?_)
        refine z_goto 26 C 36 dX8_difference_26 (by decide) ?_
        refine z_lret 36 C dX8_difference_36 ?_
        first | exact ⟨z_cl (by rw [if_pos c5]), rfl⟩ | exact ⟨z_cl (by rw [if_neg c5, if_pos c13]), rfl⟩ | exact ⟨z_cl (by rw [if_neg c5, if_neg c13, if_pos c20]), rfl⟩
theorem dX8_bestRotation_0 : decode cX8_bestRotation 0 = .ok (.aload_n 0, 1) := by decide +kernel
theorem dX8_bestRotation_1 : decode cX8_bestRotation 1 = .ok (.iload_n 1, 1) := by decide +kernel
theorem dX8_bestRotation_2 : decode cX8_bestRotation 2 = .ok (.invokevirtual 267, 3) := by decide +kernel
theorem dX8_bestRotation_5 : decode cX8_bestRotation 5 = .ok (.ifCond .ne 11, 3) := by decide +kernel
theorem dX8_bestRotation_8 : decode cX8_bestRotation 8 = .ok (.aload_n 0, 1) := by decide +kernel
theorem dX8_bestRotation_9 : decode cX8_bestRotation 9 = .ok (.iload_n 2, 1) := by decide +kernel
theorem dX8_bestRotation_10 : decode cX8_bestRotation 10 = .ok (.invokevirtual 267, 3) := by decide +kernel
theorem dX8_bestRotation_13 : decode cX8_bestRotation 13 = .ok (.ifCond .eq 6, 3) := by decide +kernel
theorem dX8_bestRotation_16 : decode cX8_bestRotation 16 = .ok (.ldc 87, 2) := by decide +kernel
theorem dX8_bestRotation_18 : decode cX8_bestRotation 18 = .ok (.ireturn, 1) := by decide +kernel
theorem dX8_bestRotation_19 : decode cX8_bestRotation 19 = .ok (.iconst 0, 1) := by decide +kernel
theorem dX8_bestRotation_20 : decode cX8_bestRotation 20 = .ok (.istore_n 3, 1) := by decide +kernel
theorem dX8_bestRotation_21 : decode cX8_bestRotation 21 = .ok (.iconst 1, 1) := by decide +kernel
theorem dX8_bestRotation_22 : decode cX8_bestRotation 22 = .ok (.istore 4, 2) := by decide +kernel
theorem dX8_bestRotation_24 : decode cX8_bestRotation 24 = .ok (.iload 4, 2) := by decide +kernel
theorem dX8_bestRotation_26 : decode cX8_bestRotation 26 = .ok (.bipush 24, 2) := by decide +kernel
theorem dX8_bestRotation_28 : decode cX8_bestRotation 28 = .ok (.if_icmp .ge 35, 3) := by decide +kernel
theorem dX8_bestRotation_31 : decode cX8_bestRotation 31 = .ok (.aload_n 0, 1) := by decide +kernel
theorem dX8_bestRotation_32 : decode cX8_bestRotation 32 = .ok (.iload_n 1, 1) := by decide +kernel
theorem dX8_bestRotation_33 : decode cX8_bestRotation 33 = .ok (.iload_n 2, 1) := by decide +kernel
theorem dX8_bestRotation_34 : decode cX8_bestRotation 34 = .ok (.iload 4, 2) := by decide +kernel
theorem dX8_bestRotation_36 : decode cX8_bestRotation 36 = .ok (.invokevirtual 280, 3) := by decide +kernel
theorem dX8_bestRotation_39 : decode cX8_bestRotation 39 = .ok (.aload_n 0, 1) := by decide +kernel
theorem dX8_bestRotation_40 : decode cX8_bestRotation 40 = .ok (.iload_n 1, 1) := by decide +kernel
theorem dX8_bestRotation_41 : decode cX8_bestRotation 41 = .ok (.iload_n 2, 1) := by decide +kernel
theorem dX8_bestRotation_42 : decode cX8_bestRotation 42 = .ok (.iload_n 3, 1) := by decide +kernel
theorem dX8_bestRotation_43 : decode cX8_bestRotation 43 = .ok (.invokevirtual 280, 3) := by decide +kernel
theorem dX8_bestRotation_46 : decode cX8_bestRotation 46 = .ok (.lcmp, 1) := by decide +kernel
theorem dX8_bestRotation_47 : decode cX8_bestRotation 47 = .ok (.ifCond .ge 8, 3) := by decide +kernel
theorem dX8_bestRotation_50 : decode cX8_bestRotation 50 = .ok (.iload 4, 2) := by decide +kernel
theorem dX8_bestRotation_52 : decode cX8_bestRotation 52 = .ok (.goto 4, 3) := by decide +kernel
theorem dX8_bestRotation_55 : decode cX8_bestRotation 55 = .ok (.iload_n 3, 1) := by decide +kernel
theorem dX8_bestRotation_56 : decode cX8_bestRotation 56 = .ok (.istore_n 3, 1) := by decide +kernel
theorem dX8_bestRotation_57 : decode cX8_bestRotation 57 = .ok (.iinc 4 1, 3) := by decide +kernel
theorem dX8_bestRotation_60 : decode cX8_bestRotation 60 = .ok (.goto (-36), 3) := by decide +kernel
theorem dX8_bestRotation_63 : decode cX8_bestRotation 63 = .ok (.iload_n 3, 1) := by decide +kernel
theorem dX8_bestRotation_64 : decode cX8_bestRotation 64 = .ok (.ireturn, 1) := by decide +kernel
set_option maxRecDepth 100000 in
set_option maxHeartbeats 4000000 in
theorem m_X8_bestRotation {l : Launch} {G : z_Gl} {σ : z_St} (P n u v w rc tl : Nat) (hM : z_mi σ P n u v w rc tl) (x : Int32) (y : Int32) : z_M l G yX8_bestRotation cX8_bestRotation 5 (some .int) (z_rm 2 47) [.ref (z_ad G 105), .int x, .int y] σ (z_p1 (.int (if x < nI 0 ∨ nI w - nI 1 < x then (-1000001) else if y < nI 0 ∨ nI w - nI 1 < y then (-1000001) else nI (z_bl (fun q => z_mm (z_sh (σ.2 115) (24 * z_n x)) (z_sh (σ.2 115) (24 * z_n y)) q 24) 24))) σ) := by
  refine z_M.of (by decide) (Nat.le_of_ble_eq_true rfl) (fun p e s m below meth c C => ?_)
  refine z_sub [0, 1, 2] (lv1 := [(0, .ref (z_ad G 105)), (1, .int x), (2, .int y)]) rfl ?_
  have hM0 := hM
  obtain ⟨⟨hP, hn, hu, hv, hw, hrc, htl⟩, hPs, hnP, huv, hw6, hrc8, htl2, hqt, hah⟩ := hM0
  have h0 : 0 < P := by omega
  have h12 : P ≤ 12 := by omega
  have h288 : n ≤ 288 := by omega
  refine z_aload_n 0 C dX8_bestRotation_0 0 rfl ?_
  refine z_iload_n 1 C dX8_bestRotation_1 1 rfl ?_
  refine z_callV 2 C 105 (⟨rfl, rfl⟩) rfl (As := [.int x]) (rest := []) (m_X8_noTrace P n u v w rc tl hM x ) k_X8_noTrace q1345 ⟨rfl, rfl⟩ ⟨Nat.le_of_ble_eq_true rfl, Nat.le_of_ble_eq_true rfl⟩ rfl (Nat.le_of_ble_eq_true rfl) ⟨Nat.le_of_ble_eq_true rfl, Nat.le_of_ble_eq_true rfl⟩ rfl dX8_bestRotation_2 (z_k1 ?_)
  refine z_if_neb 5 C 16 dX8_bestRotation_5 (by decide) (fun c5 => ?_) (fun c5 => ?_)
  · skip
    refine z_ldc 16 C dX8_bestRotation_16 q1064 ?_
    refine z_iret 18 C dX8_bestRotation_18 ?_
    first | exact ⟨z_ci (by rw [if_pos c5]), rfl⟩ | exact ⟨z_ci (by rw [if_neg c5, if_pos c13]), rfl⟩
  · skip
    obtain ⟨a, ha, rfl⟩ := z_inw (by omega) c5
    refine z_aload_n 8 C dX8_bestRotation_8 0 rfl ?_
    refine z_iload_n 9 C dX8_bestRotation_9 2 rfl ?_
    refine z_callV 10 C 105 (⟨rfl, rfl⟩) rfl (As := [.int y]) (rest := []) (m_X8_noTrace P n u v w rc tl hM y ) k_X8_noTrace q1345 ⟨rfl, rfl⟩ ⟨Nat.le_of_ble_eq_true rfl, Nat.le_of_ble_eq_true rfl⟩ rfl (Nat.le_of_ble_eq_true rfl) ⟨Nat.le_of_ble_eq_true rfl, Nat.le_of_ble_eq_true rfl⟩ rfl dX8_bestRotation_10 (z_k1 ?_)
    refine z_if_eqb 13 C 19 dX8_bestRotation_13 (by decide) (fun c13 => ?_) (fun c13 => ?_)
    · skip
      obtain ⟨b, hb, rfl⟩ := z_inw (by omega) c13
      refine z_iconst 19 C dX8_bestRotation_19 (nI 0) rfl ?_
      refine z_istore_n 20 C dX8_bestRotation_20 [(3, .int (nI 0)), (0, .ref (z_ad G 105)), (1, .int (nI a)), (2, .int (nI b))] (by decide) rfl ?_
      refine z_iconst 21 C dX8_bestRotation_21 (nI 1) rfl ?_
      refine z_istore 22 C dX8_bestRotation_22 [(4, .int (nI 1)), (3, .int (nI 0)), (0, .ref (z_ad G 105)), (1, .int (nI a)), (2, .int (nI b))] (by decide) rfl ?_
      refine z_sub [2, 3, 4, 1, 0] (lv1 := [(0, .ref (z_ad G 105)), (1, .int (nI a)), (2, .int (nI b)), (3, .int (nI 0)), (4, .int (nI 1))]) rfl ?_
      refine z_cv (lv1 := [(0, .ref (z_ad G 105)), (1, .int (nI a)), (2, .int (nI b)), (3, .int (nI (z_bl (fun q => z_mm (z_sh (σ.2 115) (24 * a)) (z_sh (σ.2 115) (24 * b)) q 24) 1))), (4, .int (nI 1))]) (st1 := []) (σ1 := σ) (by rw [z_bl_1]) rfl rfl ?_
      refine z_lp1 (fun (k : Nat) => 1 ≤ k ∧ k ≤ 24) (fun (k : Nat) => 24 - k) (fun (k : Nat) => [(0, .ref (z_ad G 105)), (1, .int (nI a)), (2, .int (nI b)), (3, .int (nI (z_bl (fun q => z_mm (z_sh (σ.2 115) (24 * a)) (z_sh (σ.2 115) (24 * b)) q 24) k))), (4, .int (nI k))]) (fun (k : Nat) => σ) (fun k hi_24 ih_24 => ?_) 1 (by omega)
      try dsimp only
      obtain ⟨hk1, hk2⟩ := hi_24
      refine z_iload 24 C dX8_bestRotation_24 4 rfl ?_
      refine z_bipush 26 C dX8_bestRotation_26 (nI 24) rfl ?_
      refine z_icmp_geN 28 C k 24 rfl rfl (by omega) (by omega) 63 dX8_bestRotation_28 (by decide) (fun c28 => ?_) (fun c28 => ?_)
      · skip
        have ek : k = 24 := by omega
        subst ek
        refine z_iload_n 63 C dX8_bestRotation_63 3 rfl ?_
        refine z_iret 64 C dX8_bestRotation_64 ?_
        exact ⟨z_ci (by rw [if_neg c5, if_neg c13, z_nk (k := a) (by omega), z_nk (k := b) (by omega)]), rfl⟩
      · skip
        refine z_aload_n 31 C dX8_bestRotation_31 0 rfl ?_
        refine z_iload_n 32 C dX8_bestRotation_32 1 rfl ?_
        refine z_iload_n 33 C dX8_bestRotation_33 2 rfl ?_
        refine z_iload 34 C dX8_bestRotation_34 4 rfl ?_
        refine z_callV 36 C 105 (⟨rfl, rfl⟩) rfl (As := [.int (nI a), .int (nI b), .int (nI k)]) (rest := []) (m_X8_unlike P n u v w rc tl hM a b k (by omega) (by omega) (by omega)) k_X8_unlike q1385 ⟨rfl, rfl⟩ ⟨Nat.le_of_ble_eq_true rfl, Nat.le_of_ble_eq_true rfl⟩ rfl (Nat.le_of_ble_eq_true rfl) ⟨Nat.le_of_ble_eq_true rfl, Nat.le_of_ble_eq_true rfl⟩ rfl dX8_bestRotation_36 (z_k1 ?_)
        refine z_aload_n 39 C dX8_bestRotation_39 0 rfl ?_
        refine z_iload_n 40 C dX8_bestRotation_40 1 rfl ?_
        refine z_iload_n 41 C dX8_bestRotation_41 2 rfl ?_
        refine z_iload_n 42 C dX8_bestRotation_42 3 rfl ?_
        refine z_callV 43 C 105 (⟨rfl, rfl⟩) rfl (As := [.int (nI a), .int (nI b), .int (nI (z_bl (fun q => z_mm (z_sh (σ.2 115) (24 * a)) (z_sh (σ.2 115) (24 * b)) q 24) k))]) (rest := [.long (z_mm (z_sh (σ.2 115) (24 * a)) (z_sh (σ.2 115) (24 * b)) k 24)]) (m_X8_unlike P n u v w rc tl hM a b (z_bl (fun q => z_mm (z_sh (σ.2 115) (24 * a)) (z_sh (σ.2 115) (24 * b)) q 24) k) (by omega) (by omega) (by have := zm_bl_l (fun q => z_mm (z_sh (σ.2 115) (24 * a)) (z_sh (σ.2 115) (24 * b)) q 24) hk1; omega)) k_X8_unlike q1385 ⟨rfl, rfl⟩ ⟨Nat.le_of_ble_eq_true rfl, Nat.le_of_ble_eq_true rfl⟩ rfl (Nat.le_of_ble_eq_true rfl) ⟨Nat.le_of_ble_eq_true rfl, Nat.le_of_ble_eq_true rfl⟩ rfl dX8_bestRotation_43 (z_k1 ?_)
        refine z_lcmp_ge 46 C 55 dX8_bestRotation_46 dX8_bestRotation_47 (by decide) (fun c46 => ?_) (fun c46 => ?_)
        · skip
          refine z_iload_n 55 C dX8_bestRotation_55 3 rfl ?_
          refine z_istore_n 56 C dX8_bestRotation_56 [(3, .int (nI (z_bl (fun q => z_mm (z_sh (σ.2 115) (24 * a)) (z_sh (σ.2 115) (24 * b)) q 24) k))), (0, .ref (z_ad G 105)), (1, .int (nI a)), (2, .int (nI b)), (4, .int (nI k))] (by decide) rfl ?_
          refine z_iincN 57 C 4 k [(4, .int (nI (k + 1))), (3, .int (nI (z_bl (fun q => z_mm (z_sh (σ.2 115) (24 * a)) (z_sh (σ.2 115) (24 * b)) q 24) k))), (0, .ref (z_ad G 105)), (1, .int (nI a)), (2, .int (nI b))] rfl rfl (by decide) rfl dX8_bestRotation_57 ?_
          refine z_goto 60 C 24 dX8_bestRotation_60 (by decide) ?_
          refine z_sub [2, 3, 4, 1, 0] (lv1 := [(0, .ref (z_ad G 105)), (1, .int (nI a)), (2, .int (nI b)), (3, .int (nI (z_bl (fun q => z_mm (z_sh (σ.2 115) (24 * a)) (z_sh (σ.2 115) (24 * b)) q 24) k))), (4, .int (nI (k + 1)))]) rfl ?_
          refine z_cv (lv1 := [(0, .ref (z_ad G 105)), (1, .int (nI a)), (2, .int (nI b)), (3, .int (nI (z_bl (fun q => z_mm (z_sh (σ.2 115) (24 * a)) (z_sh (σ.2 115) (24 * b)) q 24) (k + 1)))), (4, .int (nI (k + 1)))]) (st1 := []) (σ1 := σ) (by first | rw [z_bl_n (f := (fun q => z_mm (z_sh (σ.2 115) (24 * a)) (z_sh (σ.2 115) (24 * b)) q 24)) (Int64.not_lt.mpr c46)] | rw [z_bl_s (f := (fun q => z_mm (z_sh (σ.2 115) (24 * a)) (z_sh (σ.2 115) (24 * b)) q 24)) (Int64.not_le.mp c46)]) rfl rfl ?_
          exact ih_24 (k + 1) (by omega) (by omega)
        · skip
          refine z_iload 50 C dX8_bestRotation_50 4 rfl ?_
          refine z_goto 52 C 56 dX8_bestRotation_52 (by decide) ?_
          refine z_istore_n 56 C dX8_bestRotation_56 [(3, .int (nI k)), (0, .ref (z_ad G 105)), (1, .int (nI a)), (2, .int (nI b)), (4, .int (nI k))] (by decide) rfl ?_
          refine z_iincN 57 C 4 k [(4, .int (nI (k + 1))), (3, .int (nI k)), (0, .ref (z_ad G 105)), (1, .int (nI a)), (2, .int (nI b))] rfl rfl (by decide) rfl dX8_bestRotation_57 ?_
          refine z_goto 60 C 24 dX8_bestRotation_60 (by decide) ?_
          refine z_sub [2, 3, 4, 1, 0] (lv1 := [(0, .ref (z_ad G 105)), (1, .int (nI a)), (2, .int (nI b)), (3, .int (nI k)), (4, .int (nI (k + 1)))]) rfl ?_
          refine z_cv (lv1 := [(0, .ref (z_ad G 105)), (1, .int (nI a)), (2, .int (nI b)), (3, .int (nI (z_bl (fun q => z_mm (z_sh (σ.2 115) (24 * a)) (z_sh (σ.2 115) (24 * b)) q 24) (k + 1)))), (4, .int (nI (k + 1)))]) (st1 := []) (σ1 := σ) (by first | rw [z_bl_n (f := (fun q => z_mm (z_sh (σ.2 115) (24 * a)) (z_sh (σ.2 115) (24 * b)) q 24)) (Int64.not_lt.mpr c46)] | rw [z_bl_s (f := (fun q => z_mm (z_sh (σ.2 115) (24 * a)) (z_sh (σ.2 115) (24 * b)) q 24)) (Int64.not_le.mp c46)]) rfl rfl ?_
          exact ih_24 (k + 1) (by omega) (by omega)
    · skip
      refine z_ldc 16 C dX8_bestRotation_16 q1064 ?_
      refine z_iret 18 C dX8_bestRotation_18 ?_
      first | exact ⟨z_ci (by rw [if_pos c5]), rfl⟩ | exact ⟨z_ci (by rw [if_neg c5, if_pos c13]), rfl⟩
