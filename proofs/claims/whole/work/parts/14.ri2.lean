theorem z_M.mono {l : Launch} {G : z_Gl} {y : MethodName} {cc : ByteArray} {n : Nat} {ret : Option FieldType} {rm : Room} {av : List Value} {σ : z_St} {post post' : Option Value → z_St → Prop} (h : z_M l G y cc n ret rm av σ post) (hp : ∀ v σ1, post v σ1 → post' v σ1) : z_M l G y cc n ret rm av σ post' := by
  intro p e ha hc hk s m args below hf happ hP hK
  obtain ⟨k, o, h1, h2, h3, ⟨⟨⟨v, σ1, hv, hpo, hP1⟩, hF⟩, L, hL⟩⟩ := h p e ha hc hk s m args below hf happ hP hK
  exact ⟨k, o, h1, h2, h3, ⟨⟨v, σ1, hv, hp v σ1 hpo, hP1⟩, hF⟩, L, hL⟩
theorem z_tg_fil (F f : Nat → Int64) : ∀ k, k ≤ 24 → z_tg (z_fil F f 24) k = z_tg F k
  | 0, _ => rfl
  | k + 1, h => by rw [z_tg, z_tg, z_tg_fil F f k (by omega), z_fil_lt (by omega)]
theorem z_tg_f {σ : z_St} {F f : Nat → Int64} : (z_tg ((z_uL σ 88 (z_fil F f 24)).2 88) 24 = true) ↔ z_tg F 24 = true := by rw [z_uL2s, z_tg_fil F f 24 (Nat.le_refl _)]
theorem z_cpy24 {f g : Nat → Int64} : va_cpy f g 0 0 24 = z_fil f g 24 := by
  funext j
  by_cases h : j < 24
  · rw [pk_cpy_in (Nat.zero_le j) (by omega), z_fil_lt h]; simp
  · rw [pk_cpy_out (by omega), z_fil_ge (by omega)]
def z_vb (z : Nat → Int64) (a k : Nat) : Int64 := z k + z_fd ((z ((k + 12 - a) % 24) + z ((k + 12 + a) % 24)) * 500000) (z_tv 0 (a % 24)).toInt64
theorem z_cosp : ∀ a, a < 6 → 1 ≤ a → 0 < (z_tv 0 (a % 24)).toInt64 := by decide
def z_sbt (z f : Nat → Int64) (k : Nat) : Int64 := z k - f k
/-- the lobes with the greatest strength -/
def z_dm (z : Nat → Int64) (f : Nat) : Nat → Nat
  | 0 => f
  | d + 1 => if z_sg z (z_dm z f d) < z_sg z (f + 1 + d) then f + 1 + d else z_dm z f d
theorem z_dm_s {z : Nat → Int64} {f d : Nat} (h : z_sg z (z_dm z f d) < z_sg z (f + 1 + d)) : z_dm z f (d + 1) = f + 1 + d := if_pos h
theorem z_dm_n {z : Nat → Int64} {f d : Nat} (h : ¬ z_sg z (z_dm z f d) < z_sg z (f + 1 + d)) : z_dm z f (d + 1) = z_dm z f d := if_neg h
theorem z_boi {P : Prop} [Decidable P] {A : Nat} (h : P) : nI 1 = z_bo P := z_bo_t h
theorem dX7_subtract_0 : decode cX7_subtract 0 = .ok (.aload_n 0, 1) := by decide +kernel
theorem dX7_subtract_1 : decode cX7_subtract 1 = .ok (.iload_n 1, 1) := by decide +kernel
theorem dX7_subtract_2 : decode cX7_subtract 2 = .ok (.iload_n 2, 1) := by decide +kernel
theorem dX7_subtract_3 : decode cX7_subtract 3 = .ok (.invokevirtual 130, 3) := by decide +kernel
theorem dX7_subtract_6 : decode cX7_subtract 6 = .ok (.istore_n 3, 1) := by decide +kernel
theorem dX7_subtract_7 : decode cX7_subtract 7 = .ok (.iload_n 3, 1) := by decide +kernel
theorem dX7_subtract_8 : decode cX7_subtract 8 = .ok (.ifCond .eq 5, 3) := by decide +kernel
theorem dX7_subtract_11 : decode cX7_subtract 11 = .ok (.iload_n 3, 1) := by decide +kernel
theorem dX7_subtract_12 : decode cX7_subtract 12 = .ok (.ireturn, 1) := by decide +kernel
theorem dX7_subtract_13 : decode cX7_subtract 13 = .ok (.aload_n 0, 1) := by decide +kernel
theorem dX7_subtract_14 : decode cX7_subtract 14 = .ok (.iload_n 1, 1) := by decide +kernel
theorem dX7_subtract_15 : decode cX7_subtract 15 = .ok (.iload_n 2, 1) := by decide +kernel
theorem dX7_subtract_16 : decode cX7_subtract 16 = .ok (.invokevirtual 133, 3) := by decide +kernel
theorem dX7_subtract_19 : decode cX7_subtract 19 = .ok (.aload_n 0, 1) := by decide +kernel
theorem dX7_subtract_20 : decode cX7_subtract 20 = .ok (.getfield 28, 3) := by decide +kernel
theorem dX7_subtract_23 : decode cX7_subtract 23 = .ok (.invokevirtual 140, 3) := by decide +kernel
theorem dX7_subtract_26 : decode cX7_subtract 26 = .ok (.astore 4, 2) := by decide +kernel
theorem dX7_subtract_28 : decode cX7_subtract 28 = .ok (.iconst 0, 1) := by decide +kernel
theorem dX7_subtract_29 : decode cX7_subtract 29 = .ok (.istore 5, 2) := by decide +kernel
theorem dX7_subtract_31 : decode cX7_subtract 31 = .ok (.iload 5, 2) := by decide +kernel
theorem dX7_subtract_33 : decode cX7_subtract 33 = .ok (.bipush 24, 2) := by decide +kernel
theorem dX7_subtract_35 : decode cX7_subtract 35 = .ok (.if_icmp .ge 29, 3) := by decide +kernel
theorem dX7_subtract_38 : decode cX7_subtract 38 = .ok (.aload_n 0, 1) := by decide +kernel
theorem dX7_subtract_39 : decode cX7_subtract 39 = .ok (.getfield 59, 3) := by decide +kernel
theorem dX7_subtract_42 : decode cX7_subtract 42 = .ok (.iload 5, 2) := by decide +kernel
theorem dX7_subtract_44 : decode cX7_subtract 44 = .ok (.aload 4, 2) := by decide +kernel
theorem dX7_subtract_46 : decode cX7_subtract 46 = .ok (.iload 5, 2) := by decide +kernel
theorem dX7_subtract_48 : decode cX7_subtract 48 = .ok (.laload, 1) := by decide +kernel
theorem dX7_subtract_49 : decode cX7_subtract 49 = .ok (.aload_n 0, 1) := by decide +kernel
theorem dX7_subtract_50 : decode cX7_subtract 50 = .ok (.getfield 59, 3) := by decide +kernel
theorem dX7_subtract_53 : decode cX7_subtract 53 = .ok (.iload 5, 2) := by decide +kernel
theorem dX7_subtract_55 : decode cX7_subtract 55 = .ok (.laload, 1) := by decide +kernel
theorem dX7_subtract_56 : decode cX7_subtract 56 = .ok (.lsub, 1) := by decide +kernel
theorem dX7_subtract_57 : decode cX7_subtract 57 = .ok (.lastore, 1) := by decide +kernel
theorem dX7_subtract_58 : decode cX7_subtract 58 = .ok (.iinc 5 1, 3) := by decide +kernel
theorem dX7_subtract_61 : decode cX7_subtract 61 = .ok (.goto (-30), 3) := by decide +kernel
theorem dX7_subtract_64 : decode cX7_subtract 64 = .ok (.aload_n 0, 1) := by decide +kernel
theorem dX7_subtract_65 : decode cX7_subtract 65 = .ok (.invokevirtual 163, 3) := by decide +kernel
theorem dX7_subtract_68 : decode cX7_subtract 68 = .ok (.ifCond .eq 8, 3) := by decide +kernel
theorem dX7_subtract_71 : decode cX7_subtract 71 = .ok (.ldc 68, 2) := by decide +kernel
theorem dX7_subtract_73 : decode cX7_subtract 73 = .ok (.goto 7, 3) := by decide +kernel
theorem dX7_subtract_76 : decode cX7_subtract 76 = .ok (.aload_n 0, 1) := by decide +kernel
theorem dX7_subtract_77 : decode cX7_subtract 77 = .ok (.invokevirtual 137, 3) := by decide +kernel
theorem dX7_subtract_80 : decode cX7_subtract 80 = .ok (.ireturn, 1) := by decide +kernel
set_option maxRecDepth 100000 in
set_option maxHeartbeats 4000000 in
theorem m_X7_subtract {l : Launch} {G : z_Gl} {σ : z_St} (P n o u v w rc tl : Nat) (hI : z_inv σ P n o u v w rc tl) (x : Int32) (y : Int32) : z_M l G yX7_subtract cX7_subtract 6 (some .int) (z_rm 6 139) [.ref (z_ad G 0), .int x, .int y] σ (z_p1 (.int (if ¬ z_se P n x y = 0 then z_se P n x y else if z_tg (z_sbt (σ.2 (10 + (o + u) % 21)) (z_src (σ.1 2) (σ.1 6) (σ.1 7) P (z_n x) (z_n y))) 24 = true then (-1000001) else z_bo (¬ z_eq24 (σ.2 (10 + (o + u) % 21)) (z_fil (z_sbt (σ.2 (10 + (o + u) % 21)) (z_src (σ.1 2) (σ.1 6) (σ.1 7) P (z_n x) (z_n y))) (σ.2 88) 24)))) (if ¬ z_se P n x y = 0 then σ else if z_tg (z_sbt (σ.2 (10 + (o + u) % 21)) (z_src (σ.1 2) (σ.1 6) (σ.1 7) P (z_n x) (z_n y))) 24 = true then z_uL σ 88 (z_fil (z_sbt (σ.2 (10 + (o + u) % 21)) (z_src (σ.1 2) (σ.1 6) (σ.1 7) P (z_n x) (z_n y))) (σ.2 88) 24) else z_nx σ o u (z_fil (z_sbt (σ.2 (10 + (o + u) % 21)) (z_src (σ.1 2) (σ.1 6) (σ.1 7) P (z_n x) (z_n y))) (σ.2 88) 24))) := by
  refine z_M.of (by decide) (Nat.le_of_ble_eq_true rfl) (fun p e s m below meth c C => ?_)
  refine z_sub [0, 1, 2] (lv1 := [(0, .ref (z_ad G 0)), (1, .int x), (2, .int y)]) rfl ?_
  have hI0 := hI
  obtain ⟨⟨hP, hn, ho, hu, hv, hw, hrc, htl⟩, hPs, hnP, ho21, huv, hw6, hrc8, htl2⟩ := hI0
  have h0 : 0 < P := by omega
  have h12 : P ≤ 12 := by omega
  have h288 : n ≤ 288 := by omega
  refine z_aload_n 0 C dX7_subtract_0 0 rfl ?_
  refine z_iload_n 1 C dX7_subtract_1 1 rfl ?_
  refine z_iload_n 2 C dX7_subtract_2 2 rfl ?_
  refine z_callV 3 C 0 (⟨rfl, rfl⟩) rfl (As := [.int x, .int y]) (rest := []) (m_X7_sourceError P n o u v w rc tl hI x y ) k_X7_sourceError q522 ⟨rfl, rfl⟩ ⟨Nat.le_of_ble_eq_true rfl, Nat.le_of_ble_eq_true rfl⟩ rfl (Nat.le_of_ble_eq_true rfl) ⟨Nat.le_of_ble_eq_true rfl, Nat.le_of_ble_eq_true rfl⟩ rfl dX7_subtract_3 (z_k1 ?_)
  refine z_istore_n 6 C dX7_subtract_6 [(3, .int (z_se P n x y)), (0, .ref (z_ad G 0)), (1, .int x), (2, .int y)] (by decide) rfl ?_
  refine z_iload_n 7 C dX7_subtract_7 0 rfl ?_
  refine z_if_eq 8 C 13 dX7_subtract_8 (by decide) (fun c8 => ?_) (fun c8 => ?_)
  · skip
    obtain ⟨sr, hs, rfl, hse, hsc⟩ := z_se_ok h12 h288 c8
    obtain ⟨j, hj, hy⟩ : ∃ j, j < 12 ∧ (sr = 0 → y = nI j) := by
      by_cases q : sr = 0
      · obtain ⟨j, q1, q2, q3⟩ := hse q; exact ⟨j, by omega, fun _ => q3⟩
      · exact ⟨0, by omega, fun z => absurd z q⟩
    refine z_aload_n 13 C dX7_subtract_13 1 rfl ?_
    refine z_iload_n 14 C dX7_subtract_14 2 rfl ?_
    refine z_iload_n 15 C dX7_subtract_15 3 rfl ?_
    refine z_callV 16 C 0 (⟨rfl, rfl⟩) rfl (As := [.int (nI sr), .int y]) (rest := []) (m_X7_fillNext P n o u v w rc tl hI sr j y hs hj hy) k_X7_fillNext q526 ⟨rfl, rfl⟩ ⟨Nat.le_of_ble_eq_true rfl, Nat.le_of_ble_eq_true rfl⟩ rfl (Nat.le_of_ble_eq_true rfl) ⟨Nat.le_of_ble_eq_true rfl, Nat.le_of_ble_eq_true rfl⟩ rfl dX7_subtract_16 (z_k0 ?_)
    refine z_aload_n 19 C dX7_subtract_19 1 rfl ?_
    refine z_getf 20 C 0 z_dX7 (⟨rfl, rfl⟩) 2 (by decide) q341 (.ref (z_ad G 8)) rfl dX7_subtract_20 ?_
    refine z_callVN 23 C 8 (⟨rfl, rfl⟩) rfl (As := []) (rest := []) (m_X1_present (σ := z_uL σ 88 (z_fil (z_src (σ.1 2) (σ.1 6) (σ.1 7) P sr j) (σ.2 88) 24)) o u ho hu (by omega) (by omega)) k_X1_present (List.mem_of_getElem? (i := 28) rfl) ⟨rfl, rfl⟩ ⟨Nat.le_of_ble_eq_true rfl, Nat.le_of_ble_eq_true rfl⟩ rfl (Nat.le_of_ble_eq_true rfl) ⟨Nat.le_of_ble_eq_true rfl, Nat.le_of_ble_eq_true rfl⟩ rfl dX7_subtract_23 (z_k1 ?_)
    refine z_astore 26 C dX7_subtract_26 [(4, .ref (z_ad G (10 + (o + u) % 21))), (3, .int (z_se P n (nI sr) y)), (0, .ref (z_ad G 0)), (1, .int (nI sr)), (2, .int y)] (by decide) rfl ?_
    refine z_iconst 28 C dX7_subtract_28 (nI 0) rfl ?_
    refine z_istore 29 C dX7_subtract_29 [(5, .int (nI 0)), (4, .ref (z_ad G (10 + (o + u) % 21))), (3, .int (z_se P n (nI sr) y)), (0, .ref (z_ad G 0)), (1, .int (nI sr)), (2, .int y)] (by decide) rfl ?_
    refine z_sub [3, 4, 5, 2, 1, 0] (lv1 := [(0, .ref (z_ad G 0)), (1, .int (nI sr)), (2, .int y), (3, .int (z_se P n (nI sr) y)), (4, .ref (z_ad G (10 + (o + u) % 21))), (5, .int (nI 0))]) rfl ?_
    refine z_cv (lv1 := [(0, .ref (z_ad G 0)), (1, .int (nI sr)), (2, .int y), (3, .int (z_se P n (nI sr) y)), (4, .ref (z_ad G (10 + (o + u) % 21))), (5, .int (nI 0))]) (st1 := []) (σ1 := z_uL σ 88 (z_fil (z_sbt (σ.2 (10 + (o + u) % 21)) (z_src (σ.1 2) (σ.1 6) (σ.1 7) P sr j)) (z_fil (z_src (σ.1 2) (σ.1 6) (σ.1 7) P sr j) (σ.2 88) 24) 0)) rfl rfl (by rw [z_fil_0]) ?_
    refine z_lp1 (fun (k : Nat) => k ≤ 24) (fun (k : Nat) => 24 - k) (fun (k : Nat) => [(0, .ref (z_ad G 0)), (1, .int (nI sr)), (2, .int y), (3, .int (z_se P n (nI sr) y)), (4, .ref (z_ad G (10 + (o + u) % 21))), (5, .int (nI k))]) (fun (k : Nat) => z_uL σ 88 (z_fil (z_sbt (σ.2 (10 + (o + u) % 21)) (z_src (σ.1 2) (σ.1 6) (σ.1 7) P sr j)) (z_fil (z_src (σ.1 2) (σ.1 6) (σ.1 7) P sr j) (σ.2 88) 24) k)) (fun k hi_31 ih_31 => ?_) 0 (by omega)
    try dsimp only
    refine z_iload 31 C dX7_subtract_31 5 rfl ?_
    refine z_bipush 33 C dX7_subtract_33 (nI 24) rfl ?_
    refine z_icmp_geN 35 C k 24 rfl rfl (by omega) (by omega) 64 dX7_subtract_35 (by decide) (fun c35 => ?_) (fun c35 => ?_)
    · skip
      have ek : k = 24 := by omega
      subst ek
      refine z_cv (lv1 := [(0, .ref (z_ad G 0)), (1, .int (nI sr)), (2, .int y), (3, .int (z_se P n (nI sr) y)), (4, .ref (z_ad G (10 + (o + u) % 21))), (5, .int (nI 24))]) (st1 := []) (σ1 := z_uL σ 88 (z_fil (z_sbt (σ.2 (10 + (o + u) % 21)) (z_src (σ.1 2) (σ.1 6) (σ.1 7) P sr j)) (σ.2 88) 24)) rfl rfl (z_mix σ 88 _ _ _) ?_
      refine z_aload_n 64 C dX7_subtract_64 0 rfl ?_
      refine z_callV 65 C 0 (⟨rfl, rfl⟩) rfl (As := []) (rest := []) (m_X7_isNextTooGreat (σ := z_uL σ 88 (z_fil (z_sbt (σ.2 (10 + (o + u) % 21)) (z_src (σ.1 2) (σ.1 6) (σ.1 7) P sr j)) (σ.2 88) 24)) P n o u v w rc tl hI) k_X7_isNextTooGreat q588 ⟨rfl, rfl⟩ ⟨Nat.le_of_ble_eq_true rfl, Nat.le_of_ble_eq_true rfl⟩ rfl (Nat.le_of_ble_eq_true rfl) ⟨Nat.le_of_ble_eq_true rfl, Nat.le_of_ble_eq_true rfl⟩ rfl dX7_subtract_65 (z_k1 ?_)
      refine z_if_eqb 68 C 76 dX7_subtract_68 (by decide) (fun c68 => ?_) (fun c68 => ?_)
      · skip
        refine z_aload_n 76 C dX7_subtract_76 0 rfl ?_
        refine z_callV 77 C 0 (⟨rfl, rfl⟩) rfl (As := []) (rest := []) (@m_X7_makeNextPresent_F _ _ σ P n o u v w rc tl hI (z_fil (z_sbt (σ.2 (10 + (o + u) % 21)) (z_src (σ.1 2) (σ.1 6) (σ.1 7) P sr j)) (σ.2 88) 24)) k_X7_makeNextPresent q538 ⟨rfl, rfl⟩ ⟨Nat.le_of_ble_eq_true rfl, Nat.le_of_ble_eq_true rfl⟩ rfl (Nat.le_of_ble_eq_true rfl) ⟨Nat.le_of_ble_eq_true rfl, Nat.le_of_ble_eq_true rfl⟩ rfl dX7_subtract_77 (z_k1 ?_)
        refine z_iret 80 C dX7_subtract_80 ?_
        have c8n : ¬ ¬ z_se P n (nI sr) y = 0 := fun z => z c8
        rw [z_tg_f] at c68
        first | exact ⟨z_ci (by rw [if_neg c8n, z_nk (k := sr) (by omega), z_srcy hj hy, if_pos c68]), by rw [if_neg c8n, z_nk (k := sr) (by omega), z_srcy hj hy, if_pos c68]⟩ | exact ⟨z_ci (by rw [if_neg c8n, z_nk (k := sr) (by omega), z_srcy hj hy, if_neg c68]), by rw [if_neg c8n, z_nk (k := sr) (by omega), z_srcy hj hy, if_neg c68]⟩
      · skip
        refine z_ldc 71 C dX7_subtract_71 q371 ?_
        refine z_goto 73 C 80 dX7_subtract_73 (by decide) ?_
        refine z_iret 80 C dX7_subtract_80 ?_
        have c8n : ¬ ¬ z_se P n (nI sr) y = 0 := fun z => z c8
        rw [z_tg_f] at c68
        first | exact ⟨z_ci (by rw [if_neg c8n, z_nk (k := sr) (by omega), z_srcy hj hy, if_pos c68]), by rw [if_neg c8n, z_nk (k := sr) (by omega), z_srcy hj hy, if_pos c68]⟩ | exact ⟨z_ci (by rw [if_neg c8n, z_nk (k := sr) (by omega), z_srcy hj hy, if_neg c68]), by rw [if_neg c8n, z_nk (k := sr) (by omega), z_srcy hj hy, if_neg c68]⟩
    · skip
      refine z_aload_n 38 C dX7_subtract_38 0 rfl ?_
      refine z_getf 39 C 0 z_dX7 (⟨rfl, rfl⟩) 7 (by decide) q346 (.ref (z_ad G 88)) rfl dX7_subtract_39 ?_
      refine z_iload 42 C dX7_subtract_42 5 rfl ?_
      refine z_aload 44 C dX7_subtract_44 4 rfl ?_
      refine z_iload 46 C dX7_subtract_46 5 rfl ?_
      refine z_laldN 48 C (10 + (o + u) % 21) (n := 24) (z_rgK _ (by omega)) k rfl (by omega) (by decide) dX7_subtract_48 ?_
      refine z_cv (st1 := [.long (σ.2 (10 + (o + u) % 21) k), .int (nI k), .ref (z_ad G 88)]) rfl (by rw [z_uL2n (z_c88 _)]) rfl ?_
      refine z_aload_n 49 C dX7_subtract_49 0 rfl ?_
      refine z_getf 50 C 0 z_dX7 (⟨rfl, rfl⟩) 7 (by decide) q346 (.ref (z_ad G 88)) rfl dX7_subtract_50 ?_
      refine z_iload 53 C dX7_subtract_53 5 rfl ?_
      refine z_laldN 55 C 88 (n := 24) (⟨rfl, rfl⟩) k rfl (by omega) (by decide) dX7_subtract_55 ?_
      refine z_cv (lv1 := [(0, .ref (z_ad G 0)), (1, .int (nI sr)), (2, .int y), (3, .int (z_se P n (nI sr) y)), (4, .ref (z_ad G (10 + (o + u) % 21))), (5, .int (nI k))]) (st1 := [.long (z_src (σ.1 2) (σ.1 6) (σ.1 7) P sr j k), .long (σ.2 (10 + (o + u) % 21) k), .int (nI k), .ref (z_ad G 88)]) (σ1 := z_uL σ 88 (z_fil (z_sbt (σ.2 (10 + (o + u) % 21)) (z_src (σ.1 2) (σ.1 6) (σ.1 7) P sr j)) (z_fil (z_src (σ.1 2) (σ.1 6) (σ.1 7) P sr j) (σ.2 88) 24) k)) rfl (by rw [z_uL2s, z_fil_ge (Nat.le_refl k), z_fil_lt c35]) rfl ?_
      refine z_lsub 56 C dX7_subtract_56 ?_
      refine z_lastN 57 C 88 (n := 24) (⟨rfl, rfl⟩) k rfl (by omega) (by decide) dX7_subtract_57 ?_
      refine z_iincN 58 C 5 k [(5, .int (nI (k + 1))), (0, .ref (z_ad G 0)), (1, .int (nI sr)), (2, .int y), (3, .int (z_se P n (nI sr) y)), (4, .ref (z_ad G (10 + (o + u) % 21)))] rfl rfl (by decide) rfl dX7_subtract_58 ?_
      refine z_goto 61 C 31 dX7_subtract_61 (by decide) ?_
      refine z_sub [1, 2, 3, 4, 5, 0] (lv1 := [(0, .ref (z_ad G 0)), (1, .int (nI sr)), (2, .int y), (3, .int (z_se P n (nI sr) y)), (4, .ref (z_ad G (10 + (o + u) % 21))), (5, .int (nI (k + 1)))]) rfl ?_
      refine z_cv (lv1 := [(0, .ref (z_ad G 0)), (1, .int (nI sr)), (2, .int y), (3, .int (z_se P n (nI sr) y)), (4, .ref (z_ad G (10 + (o + u) % 21))), (5, .int (nI (k + 1)))]) (st1 := []) (σ1 := z_uL σ 88 (z_fil (z_sbt (σ.2 (10 + (o + u) % 21)) (z_src (σ.1 2) (σ.1 6) (σ.1 7) P sr j)) (z_fil (z_src (σ.1 2) (σ.1 6) (σ.1 7) P sr j) (σ.2 88) 24) (k + 1))) rfl rfl (z_filSL σ 88 k _ _ rfl) ?_
      exact ih_31 (k + 1) (by omega) (by omega)
  · skip
    refine z_iload_n 11 C dX7_subtract_11 0 rfl ?_
    refine z_iret 12 C dX7_subtract_12 ?_
    exact ⟨z_ci (by rw [if_pos c8]), by rw [if_pos c8]⟩
theorem dX7_vBlock_0 : decode cX7_vBlock 0 = .ok (.iload_n 1, 1) := by decide +kernel
theorem dX7_vBlock_1 : decode cX7_vBlock 1 = .ok (.iconst 1, 1) := by decide +kernel
theorem dX7_vBlock_2 : decode cX7_vBlock 2 = .ok (.iconst 5, 1) := by decide +kernel
theorem dX7_vBlock_3 : decode cX7_vBlock 3 = .ok (.invokestatic 77, 3) := by decide +kernel
theorem dX7_vBlock_6 : decode cX7_vBlock 6 = .ok (.ifCond .eq 6, 3) := by decide +kernel
theorem dX7_vBlock_9 : decode cX7_vBlock 9 = .ok (.ldc 68, 2) := by decide +kernel
theorem dX7_vBlock_11 : decode cX7_vBlock 11 = .ok (.ireturn, 1) := by decide +kernel
theorem dX7_vBlock_12 : decode cX7_vBlock 12 = .ok (.aload_n 0, 1) := by decide +kernel
theorem dX7_vBlock_13 : decode cX7_vBlock 13 = .ok (.getfield 28, 3) := by decide +kernel
theorem dX7_vBlock_16 : decode cX7_vBlock 16 = .ok (.invokevirtual 140, 3) := by decide +kernel
theorem dX7_vBlock_19 : decode cX7_vBlock 19 = .ok (.astore_n 2, 1) := by decide +kernel
theorem dX7_vBlock_20 : decode cX7_vBlock 20 = .ok (.iconst 0, 1) := by decide +kernel
theorem dX7_vBlock_21 : decode cX7_vBlock 21 = .ok (.istore_n 3, 1) := by decide +kernel
theorem dX7_vBlock_22 : decode cX7_vBlock 22 = .ok (.iload_n 3, 1) := by decide +kernel
theorem dX7_vBlock_23 : decode cX7_vBlock 23 = .ok (.bipush 24, 2) := by decide +kernel
theorem dX7_vBlock_25 : decode cX7_vBlock 25 = .ok (.if_icmp .ge 58, 3) := by decide +kernel
theorem dX7_vBlock_28 : decode cX7_vBlock 28 = .ok (.aload_n 2, 1) := by decide +kernel
theorem dX7_vBlock_29 : decode cX7_vBlock 29 = .ok (.iload_n 3, 1) := by decide +kernel
theorem dX7_vBlock_30 : decode cX7_vBlock 30 = .ok (.bipush 12, 2) := by decide +kernel
theorem dX7_vBlock_32 : decode cX7_vBlock 32 = .ok (.iadd, 1) := by decide +kernel
theorem dX7_vBlock_33 : decode cX7_vBlock 33 = .ok (.iload_n 1, 1) := by decide +kernel
theorem dX7_vBlock_34 : decode cX7_vBlock 34 = .ok (.isub, 1) := by decide +kernel
theorem dX7_vBlock_35 : decode cX7_vBlock 35 = .ok (.invokestatic 144, 3) := by decide +kernel
theorem dX7_vBlock_38 : decode cX7_vBlock 38 = .ok (.laload, 1) := by decide +kernel
theorem dX7_vBlock_39 : decode cX7_vBlock 39 = .ok (.aload_n 2, 1) := by decide +kernel
theorem dX7_vBlock_40 : decode cX7_vBlock 40 = .ok (.iload_n 3, 1) := by decide +kernel
theorem dX7_vBlock_41 : decode cX7_vBlock 41 = .ok (.bipush 12, 2) := by decide +kernel
theorem dX7_vBlock_43 : decode cX7_vBlock 43 = .ok (.iadd, 1) := by decide +kernel
theorem dX7_vBlock_44 : decode cX7_vBlock 44 = .ok (.iload_n 1, 1) := by decide +kernel
theorem dX7_vBlock_45 : decode cX7_vBlock 45 = .ok (.iadd, 1) := by decide +kernel
theorem dX7_vBlock_46 : decode cX7_vBlock 46 = .ok (.invokestatic 144, 3) := by decide +kernel
theorem dX7_vBlock_49 : decode cX7_vBlock 49 = .ok (.laload, 1) := by decide +kernel
theorem dX7_vBlock_50 : decode cX7_vBlock 50 = .ok (.ladd, 1) := by decide +kernel
theorem dX7_vBlock_51 : decode cX7_vBlock 51 = .ok (.lstore 4, 2) := by decide +kernel
theorem dX7_vBlock_53 : decode cX7_vBlock 53 = .ok (.aload_n 0, 1) := by decide +kernel
theorem dX7_vBlock_54 : decode cX7_vBlock 54 = .ok (.getfield 59, 3) := by decide +kernel
theorem dX7_vBlock_57 : decode cX7_vBlock 57 = .ok (.iload_n 3, 1) := by decide +kernel
theorem dX7_vBlock_58 : decode cX7_vBlock 58 = .ok (.aload_n 2, 1) := by decide +kernel
theorem dX7_vBlock_59 : decode cX7_vBlock 59 = .ok (.iload_n 3, 1) := by decide +kernel
theorem dX7_vBlock_60 : decode cX7_vBlock 60 = .ok (.laload, 1) := by decide +kernel
theorem dX7_vBlock_61 : decode cX7_vBlock 61 = .ok (.lload 4, 2) := by decide +kernel
theorem dX7_vBlock_63 : decode cX7_vBlock 63 = .ok (.ldc2_w 166, 3) := by decide +kernel
theorem dX7_vBlock_66 : decode cX7_vBlock 66 = .ok (.lmul, 1) := by decide +kernel
theorem dX7_vBlock_67 : decode cX7_vBlock 67 = .ok (.iload_n 1, 1) := by decide +kernel
theorem dX7_vBlock_68 : decode cX7_vBlock 68 = .ok (.invokestatic 168, 3) := by decide +kernel
theorem dX7_vBlock_71 : decode cX7_vBlock 71 = .ok (.i2l, 1) := by decide +kernel
theorem dX7_vBlock_72 : decode cX7_vBlock 72 = .ok (.invokestatic 171, 3) := by decide +kernel
theorem dX7_vBlock_75 : decode cX7_vBlock 75 = .ok (.ladd, 1) := by decide +kernel
theorem dX7_vBlock_76 : decode cX7_vBlock 76 = .ok (.lastore, 1) := by decide +kernel
theorem dX7_vBlock_77 : decode cX7_vBlock 77 = .ok (.iinc 3 1, 3) := by decide +kernel
theorem dX7_vBlock_80 : decode cX7_vBlock 80 = .ok (.goto (-58), 3) := by decide +kernel
theorem dX7_vBlock_83 : decode cX7_vBlock 83 = .ok (.aload_n 0, 1) := by decide +kernel
theorem dX7_vBlock_84 : decode cX7_vBlock 84 = .ok (.invokevirtual 163, 3) := by decide +kernel
theorem dX7_vBlock_87 : decode cX7_vBlock 87 = .ok (.ifCond .eq 8, 3) := by decide +kernel
theorem dX7_vBlock_90 : decode cX7_vBlock 90 = .ok (.ldc 68, 2) := by decide +kernel
theorem dX7_vBlock_92 : decode cX7_vBlock 92 = .ok (.goto 7, 3) := by decide +kernel
theorem dX7_vBlock_95 : decode cX7_vBlock 95 = .ok (.aload_n 0, 1) := by decide +kernel
theorem dX7_vBlock_96 : decode cX7_vBlock 96 = .ok (.invokevirtual 137, 3) := by decide +kernel
theorem dX7_vBlock_99 : decode cX7_vBlock 99 = .ok (.ireturn, 1) := by decide +kernel
set_option maxRecDepth 100000 in
set_option maxHeartbeats 4000000 in
theorem m_X7_vBlock {l : Launch} {G : z_Gl} {σ : z_St} (P n o u v w rc tl : Nat) (hI : z_inv σ P n o u v w rc tl) (x : Int32) : z_M l G yX7_vBlock cX7_vBlock 6 (some .int) (z_rm 3 82) [.ref (z_ad G 0), .int x] σ (z_p1 (.int (if x < nI 1 ∨ nI 5 < x then (-1000001) else if z_tg (z_vb (σ.2 (10 + (o + u) % 21)) (z_n x)) 24 = true then (-1000001) else z_bo (¬ z_eq24 (σ.2 (10 + (o + u) % 21)) (z_fil (z_vb (σ.2 (10 + (o + u) % 21)) (z_n x)) (σ.2 88) 24)))) (if x < nI 1 ∨ nI 5 < x then σ else if z_tg (z_vb (σ.2 (10 + (o + u) % 21)) (z_n x)) 24 = true then z_uL σ 88 (z_fil (z_vb (σ.2 (10 + (o + u) % 21)) (z_n x)) (σ.2 88) 24) else z_nx σ o u (z_fil (z_vb (σ.2 (10 + (o + u) % 21)) (z_n x)) (σ.2 88) 24))) := by
  refine z_M.of (by decide) (Nat.le_of_ble_eq_true rfl) (fun p e s m below meth c C => ?_)
  refine z_sub [0, 1] (lv1 := [(0, .ref (z_ad G 0)), (1, .int x)]) rfl ?_
  have hI0 := hI
  obtain ⟨⟨hP, hn, ho, hu, hv, hw, hrc, htl⟩, hPs, hnP, ho21, huv, hw6, hrc8, htl2⟩ := hI0
  have h0 : 0 < P := by omega
  have h12 : P ≤ 12 := by omega
  have h288 : n ≤ 288 := by omega
  refine z_iload_n 0 C dX7_vBlock_0 1 rfl ?_
  refine z_iconst 1 C dX7_vBlock_1 (nI 1) rfl ?_
  refine z_iconst 2 C dX7_vBlock_2 (nI 5) rfl ?_
  refine z_callS 3 C (As := [.int x, .int (nI 1), .int (nI 5)]) (rest := []) (m_X7_isOutside x (nI 1) (nI 5)) k_X7_isOutside q380 ⟨rfl, rfl⟩ ⟨Nat.le_of_ble_eq_true rfl, Nat.le_of_ble_eq_true rfl⟩ rfl (Nat.le_of_ble_eq_true rfl) ⟨Nat.le_of_ble_eq_true rfl, Nat.le_of_ble_eq_true rfl⟩ rfl dX7_vBlock_3 (z_k1 ?_)
  refine z_if_eqb 6 C 12 dX7_vBlock_6 (by decide) (fun c6 => ?_) (fun c6 => ?_)
  · skip
    obtain ⟨a, hla, ha, rfl⟩ := z_in1 (by decide) (by decide) c6
    refine z_aload_n 12 C dX7_vBlock_12 0 rfl ?_
    refine z_getf 13 C 0 z_dX7 (⟨rfl, rfl⟩) 2 (by decide) q341 (.ref (z_ad G 8)) rfl dX7_vBlock_13 ?_
    refine z_callVN 16 C 8 (⟨rfl, rfl⟩) rfl (As := []) (rest := []) (m_X1_present o u ho hu (by omega) (by omega)) k_X1_present (List.mem_of_getElem? (i := 28) rfl) ⟨rfl, rfl⟩ ⟨Nat.le_of_ble_eq_true rfl, Nat.le_of_ble_eq_true rfl⟩ rfl (Nat.le_of_ble_eq_true rfl) ⟨Nat.le_of_ble_eq_true rfl, Nat.le_of_ble_eq_true rfl⟩ rfl dX7_vBlock_16 (z_k1 ?_)
    refine z_astore_n 19 C dX7_vBlock_19 [(2, .ref (z_ad G (10 + (o + u) % 21))), (0, .ref (z_ad G 0)), (1, .int (nI a))] (by decide) rfl ?_
    refine z_iconst 20 C dX7_vBlock_20 (nI 0) rfl ?_
    refine z_istore_n 21 C dX7_vBlock_21 [(3, .int (nI 0)), (2, .ref (z_ad G (10 + (o + u) % 21))), (0, .ref (z_ad G 0)), (1, .int (nI a))] (by decide) rfl ?_
    refine z_sub [2, 3, 1, 0] (lv1 := [(0, .ref (z_ad G 0)), (1, .int (nI a)), (2, .ref (z_ad G (10 + (o + u) % 21))), (3, .int (nI 0))]) rfl ?_
    refine z_cv (lv1 := [(0, .ref (z_ad G 0)), (1, .int (nI a)), (2, .ref (z_ad G (10 + (o + u) % 21))), (3, .int (nI 0))]) (st1 := []) (σ1 := z_uL σ 88 (z_fil (z_vb (σ.2 (10 + (o + u) % 21)) a) (σ.2 88) 0)) rfl rfl (z_fil0L σ 88 _) ?_
    refine z_lp1 (fun (k : Nat) => k ≤ 24) (fun (k : Nat) => 24 - k) (fun (k : Nat) => [(0, .ref (z_ad G 0)), (1, .int (nI a)), (2, .ref (z_ad G (10 + (o + u) % 21))), (3, .int (nI k))]) (fun (k : Nat) => z_uL σ 88 (z_fil (z_vb (σ.2 (10 + (o + u) % 21)) a) (σ.2 88) k)) (fun k hi_22 ih_22 => ?_) 0 (by omega)
    try dsimp only
    refine z_iload_n 22 C dX7_vBlock_22 3 rfl ?_
    refine z_bipush 23 C dX7_vBlock_23 (nI 24) rfl ?_
    refine z_icmp_geN 25 C k 24 rfl rfl (by omega) (by omega) 83 dX7_vBlock_25 (by decide) (fun c25 => ?_) (fun c25 => ?_)
    · skip
      have ek : k = 24 := by omega
      subst ek
      refine z_aload_n 83 C dX7_vBlock_83 0 rfl ?_
      refine z_callV 84 C 0 (⟨rfl, rfl⟩) rfl (As := []) (rest := []) (m_X7_isNextTooGreat (σ := z_uL σ 88 (z_fil (z_vb (σ.2 (10 + (o + u) % 21)) a) (σ.2 88) 24)) P n o u v w rc tl hI) k_X7_isNextTooGreat q588 ⟨rfl, rfl⟩ ⟨Nat.le_of_ble_eq_true rfl, Nat.le_of_ble_eq_true rfl⟩ rfl (Nat.le_of_ble_eq_true rfl) ⟨Nat.le_of_ble_eq_true rfl, Nat.le_of_ble_eq_true rfl⟩ rfl dX7_vBlock_84 (z_k1 ?_)
      refine z_if_eqb 87 C 95 dX7_vBlock_87 (by decide) (fun c87 => ?_) (fun c87 => ?_)
      · skip
        refine z_aload_n 95 C dX7_vBlock_95 0 rfl ?_
        refine z_callV 96 C 0 (⟨rfl, rfl⟩) rfl (As := []) (rest := []) (@m_X7_makeNextPresent_F _ _ σ P n o u v w rc tl hI (z_fil (z_vb (σ.2 (10 + (o + u) % 21)) a) (σ.2 88) 24)) k_X7_makeNextPresent q538 ⟨rfl, rfl⟩ ⟨Nat.le_of_ble_eq_true rfl, Nat.le_of_ble_eq_true rfl⟩ rfl (Nat.le_of_ble_eq_true rfl) ⟨Nat.le_of_ble_eq_true rfl, Nat.le_of_ble_eq_true rfl⟩ rfl dX7_vBlock_96 (z_k1 ?_)
        refine z_iret 99 C dX7_vBlock_99 ?_
        rw [z_tg_f] at c87
        first | exact ⟨z_ci (by rw [if_neg c6, z_nk (k := a) (by omega), if_pos c87]), by rw [if_neg c6, z_nk (k := a) (by omega), if_pos c87]⟩ | exact ⟨z_ci (by rw [if_neg c6, z_nk (k := a) (by omega), if_neg c87]), by rw [if_neg c6, z_nk (k := a) (by omega), if_neg c87]⟩
      · skip
        refine z_ldc 90 C dX7_vBlock_90 q371 ?_
        refine z_goto 92 C 99 dX7_vBlock_92 (by decide) ?_
        refine z_iret 99 C dX7_vBlock_99 ?_
        rw [z_tg_f] at c87
        first | exact ⟨z_ci (by rw [if_neg c6, z_nk (k := a) (by omega), if_pos c87]), by rw [if_neg c6, z_nk (k := a) (by omega), if_pos c87]⟩ | exact ⟨z_ci (by rw [if_neg c6, z_nk (k := a) (by omega), if_neg c87]), by rw [if_neg c6, z_nk (k := a) (by omega), if_neg c87]⟩
    · skip
      refine z_aload_n 28 C dX7_vBlock_28 2 rfl ?_
      refine z_iload_n 29 C dX7_vBlock_29 3 rfl ?_
      refine z_bipush 30 C dX7_vBlock_30 (nI 12) rfl ?_
      refine z_iaddN 32 C k 12 rfl rfl dX7_vBlock_32 ?_
      refine z_iload_n 33 C dX7_vBlock_33 1 rfl ?_
      refine z_isubN 34 C (k + 12) a rfl rfl (by omega) dX7_vBlock_34 ?_
      refine z_callS 35 C (As := [.int (nI ((k + 12) - a))]) (rest := [.ref (z_ad G (10 + (o + u) % 21))]) (m_X7_place_n (σ := z_uL σ 88 (z_fil (z_vb (σ.2 (10 + (o + u) % 21)) a) (σ.2 88) k)) ((k + 12) - a) (by omega)) k_X7_place q563 ⟨rfl, rfl⟩ ⟨Nat.le_of_ble_eq_true rfl, Nat.le_of_ble_eq_true rfl⟩ rfl (Nat.le_of_ble_eq_true rfl) ⟨Nat.le_of_ble_eq_true rfl, Nat.le_of_ble_eq_true rfl⟩ rfl dX7_vBlock_35 (z_k1 ?_)
      refine z_laldN 38 C (10 + (o + u) % 21) (n := 24) (z_rgK _ (by omega)) (((k + 12) - a) % 24) rfl (by omega) (by decide) dX7_vBlock_38 ?_
      refine z_cv (st1 := [.long (σ.2 (10 + (o + u) % 21) (((k + 12) - a) % 24))]) rfl (by rw [z_uL2n (z_c88 _)]) rfl ?_
      refine z_aload_n 39 C dX7_vBlock_39 2 rfl ?_
      refine z_iload_n 40 C dX7_vBlock_40 3 rfl ?_
      refine z_bipush 41 C dX7_vBlock_41 (nI 12) rfl ?_
      refine z_iaddN 43 C k 12 rfl rfl dX7_vBlock_43 ?_
      refine z_iload_n 44 C dX7_vBlock_44 1 rfl ?_
      refine z_iaddN 45 C (k + 12) a rfl rfl dX7_vBlock_45 ?_
      refine z_callS 46 C (As := [.int (nI ((k + 12) + a))]) (rest := [.ref (z_ad G (10 + (o + u) % 21)), .long (σ.2 (10 + (o + u) % 21) (((k + 12) - a) % 24))]) (m_X7_place_n (σ := z_uL σ 88 (z_fil (z_vb (σ.2 (10 + (o + u) % 21)) a) (σ.2 88) k)) ((k + 12) + a) (by omega)) k_X7_place q563 ⟨rfl, rfl⟩ ⟨Nat.le_of_ble_eq_true rfl, Nat.le_of_ble_eq_true rfl⟩ rfl (Nat.le_of_ble_eq_true rfl) ⟨Nat.le_of_ble_eq_true rfl, Nat.le_of_ble_eq_true rfl⟩ rfl dX7_vBlock_46 (z_k1 ?_)
      refine z_laldN 49 C (10 + (o + u) % 21) (n := 24) (z_rgK _ (by omega)) (((k + 12) + a) % 24) rfl (by omega) (by decide) dX7_vBlock_49 ?_
      refine z_cv (st1 := [.long (σ.2 (10 + (o + u) % 21) (((k + 12) + a) % 24)), .long (σ.2 (10 + (o + u) % 21) (((k + 12) - a) % 24))]) rfl (by rw [z_uL2n (z_c88 _)]) rfl ?_
      refine z_ladd 50 C dX7_vBlock_50 ?_
      refine z_lstore 51 C dX7_vBlock_51 [(4, .long ((σ.2 (10 + (o + u) % 21) (((k + 12) - a) % 24)) + (σ.2 (10 + (o + u) % 21) (((k + 12) + a) % 24)))), (0, .ref (z_ad G 0)), (1, .int (nI a)), (2, .ref (z_ad G (10 + (o + u) % 21))), (3, .int (nI k))] (by decide) rfl ?_
      refine z_aload_n 53 C dX7_vBlock_53 1 rfl ?_
      refine z_getf 54 C 0 z_dX7 (⟨rfl, rfl⟩) 7 (by decide) q346 (.ref (z_ad G 88)) rfl dX7_vBlock_54 ?_
      refine z_iload_n 57 C dX7_vBlock_57 4 rfl ?_
      refine z_aload_n 58 C dX7_vBlock_58 3 rfl ?_
      refine z_iload_n 59 C dX7_vBlock_59 4 rfl ?_
      refine z_laldN 60 C (10 + (o + u) % 21) (n := 24) (z_rgK _ (by omega)) k rfl (by omega) (by decide) dX7_vBlock_60 ?_
      refine z_cv (st1 := [.long (σ.2 (10 + (o + u) % 21) k), .int (nI k), .ref (z_ad G 88)]) rfl (by rw [z_uL2n (z_c88 _)]) rfl ?_
      refine z_lload 61 C dX7_vBlock_61 0 rfl ?_
      refine z_ldc2 63 C dX7_vBlock_63 q598 ?_
      refine z_lmul 66 C dX7_vBlock_66 ?_
      refine z_iload_n 67 C dX7_vBlock_67 2 rfl ?_
      refine z_callS 68 C (As := [.int (nI a)]) (rest := [.long (((σ.2 (10 + (o + u) % 21) (((k + 12) - a) % 24)) + (σ.2 (10 + (o + u) % 21) (((k + 12) + a) % 24))) * 500000), .long (σ.2 (10 + (o + u) % 21) k), .int (nI k), .ref (z_ad G 88)]) (m_X7_cosine_n (σ := z_uL σ 88 (z_fil (z_vb (σ.2 (10 + (o + u) % 21)) a) (σ.2 88) k)) a (by omega)) k_X7_cosine q599 ⟨rfl, rfl⟩ ⟨Nat.le_of_ble_eq_true rfl, Nat.le_of_ble_eq_true rfl⟩ rfl (Nat.le_of_ble_eq_true rfl) ⟨Nat.le_of_ble_eq_true rfl, Nat.le_of_ble_eq_true rfl⟩ rfl dX7_vBlock_68 (z_k1 ?_)
      refine z_i2l 71 C dX7_vBlock_71 ?_
      refine z_callS 72 C (As := [.long (((σ.2 (10 + (o + u) % 21) (((k + 12) - a) % 24)) + (σ.2 (10 + (o + u) % 21) (((k + 12) + a) % 24))) * 500000), .long (Int32.toInt64 (z_tv 0 (a % 24)))]) (rest := [.long (σ.2 (10 + (o + u) % 21) k), .int (nI k), .ref (z_ad G 88)]) (m_X7_divide (σ := z_uL σ 88 (z_fil (z_vb (σ.2 (10 + (o + u) % 21)) a) (σ.2 88) k)) (((σ.2 (10 + (o + u) % 21) (((k + 12) - a) % 24)) + (σ.2 (10 + (o + u) % 21) (((k + 12) + a) % 24))) * 500000) (Int32.toInt64 (z_tv 0 (a % 24))) (z_cosp a (by omega) (by omega))) k_X7_divide q602 ⟨rfl, rfl⟩ ⟨Nat.le_of_ble_eq_true rfl, Nat.le_of_ble_eq_true rfl⟩ rfl (Nat.le_of_ble_eq_true rfl) ⟨Nat.le_of_ble_eq_true rfl, Nat.le_of_ble_eq_true rfl⟩ rfl dX7_vBlock_72 (z_k1 ?_)
      refine z_ladd 75 C dX7_vBlock_75 ?_
      refine z_lastN 76 C 88 (n := 24) (⟨rfl, rfl⟩) k rfl (by omega) (by decide) dX7_vBlock_76 ?_
      refine z_iincN 77 C 4 k [(3, .int (nI (k + 1))), (4, .long ((σ.2 (10 + (o + u) % 21) (((k + 12) - a) % 24)) + (σ.2 (10 + (o + u) % 21) (((k + 12) + a) % 24)))), (0, .ref (z_ad G 0)), (1, .int (nI a)), (2, .ref (z_ad G (10 + (o + u) % 21)))] rfl rfl (by decide) rfl dX7_vBlock_77 ?_
      refine z_goto 80 C 22 dX7_vBlock_80 (by decide) ?_
      refine z_sub [2, 3, 4, 0] (lv1 := [(0, .ref (z_ad G 0)), (1, .int (nI a)), (2, .ref (z_ad G (10 + (o + u) % 21))), (3, .int (nI (k + 1)))]) rfl ?_
      refine z_cv (lv1 := [(0, .ref (z_ad G 0)), (1, .int (nI a)), (2, .ref (z_ad G (10 + (o + u) % 21))), (3, .int (nI (k + 1)))]) (st1 := []) (σ1 := z_uL σ 88 (z_fil (z_vb (σ.2 (10 + (o + u) % 21)) a) (σ.2 88) (k + 1))) rfl rfl (z_filSL σ 88 k _ _ rfl) ?_
      exact ih_22 (k + 1) (by omega) (by omega)
  · skip
    refine z_ldc 9 C dX7_vBlock_9 q371 ?_
    refine z_iret 11 C dX7_vBlock_11 ?_
    exact ⟨z_ci (by rw [if_pos c6]), by rw [if_pos c6]⟩
theorem dX7_isBlindInVBlock_0 : decode cX7_isBlindInVBlock 0 = .ok (.iload_n 1, 1) := by decide +kernel
theorem dX7_isBlindInVBlock_1 : decode cX7_isBlindInVBlock 1 = .ok (.iconst 1, 1) := by decide +kernel
theorem dX7_isBlindInVBlock_2 : decode cX7_isBlindInVBlock 2 = .ok (.iconst 5, 1) := by decide +kernel
theorem dX7_isBlindInVBlock_3 : decode cX7_isBlindInVBlock 3 = .ok (.invokestatic 77, 3) := by decide +kernel
theorem dX7_isBlindInVBlock_6 : decode cX7_isBlindInVBlock 6 = .ok (.ifCond .ne 13, 3) := by decide +kernel
theorem dX7_isBlindInVBlock_9 : decode cX7_isBlindInVBlock 9 = .ok (.iload_n 2, 1) := by decide +kernel
theorem dX7_isBlindInVBlock_10 : decode cX7_isBlindInVBlock 10 = .ok (.iconst 1, 1) := by decide +kernel
theorem dX7_isBlindInVBlock_11 : decode cX7_isBlindInVBlock 11 = .ok (.bipush 12, 2) := by decide +kernel
theorem dX7_isBlindInVBlock_13 : decode cX7_isBlindInVBlock 13 = .ok (.invokestatic 77, 3) := by decide +kernel
theorem dX7_isBlindInVBlock_16 : decode cX7_isBlindInVBlock 16 = .ok (.ifCond .eq 6, 3) := by decide +kernel
theorem dX7_isBlindInVBlock_19 : decode cX7_isBlindInVBlock 19 = .ok (.ldc 68, 2) := by decide +kernel
theorem dX7_isBlindInVBlock_21 : decode cX7_isBlindInVBlock 21 = .ok (.ireturn, 1) := by decide +kernel
theorem dX7_isBlindInVBlock_22 : decode cX7_isBlindInVBlock 22 = .ok (.iload_n 2, 1) := by decide +kernel
theorem dX7_isBlindInVBlock_23 : decode cX7_isBlindInVBlock 23 = .ok (.iload_n 1, 1) := by decide +kernel
theorem dX7_isBlindInVBlock_24 : decode cX7_isBlindInVBlock 24 = .ok (.imul, 1) := by decide +kernel
theorem dX7_isBlindInVBlock_25 : decode cX7_isBlindInVBlock 25 = .ok (.invokestatic 168, 3) := by decide +kernel
theorem dX7_isBlindInVBlock_28 : decode cX7_isBlindInVBlock 28 = .ok (.istore_n 3, 1) := by decide +kernel
theorem dX7_isBlindInVBlock_29 : decode cX7_isBlindInVBlock 29 = .ok (.iload_n 2, 1) := by decide +kernel
theorem dX7_isBlindInVBlock_30 : decode cX7_isBlindInVBlock 30 = .ok (.iconst 2, 1) := by decide +kernel
theorem dX7_isBlindInVBlock_31 : decode cX7_isBlindInVBlock 31 = .ok (.irem, 1) := by decide +kernel
theorem dX7_isBlindInVBlock_32 : decode cX7_isBlindInVBlock 32 = .ok (.ifCond .ne 18, 3) := by decide +kernel
theorem dX7_isBlindInVBlock_35 : decode cX7_isBlindInVBlock 35 = .ok (.iload_n 1, 1) := by decide +kernel
theorem dX7_isBlindInVBlock_36 : decode cX7_isBlindInVBlock 36 = .ok (.invokestatic 168, 3) := by decide +kernel
theorem dX7_isBlindInVBlock_39 : decode cX7_isBlindInVBlock 39 = .ok (.iload_n 3, 1) := by decide +kernel
theorem dX7_isBlindInVBlock_40 : decode cX7_isBlindInVBlock 40 = .ok (.iadd, 1) := by decide +kernel
theorem dX7_isBlindInVBlock_41 : decode cX7_isBlindInVBlock 41 = .ok (.ifCond .ne 7, 3) := by decide +kernel
theorem dX7_isBlindInVBlock_44 : decode cX7_isBlindInVBlock 44 = .ok (.iconst 1, 1) := by decide +kernel
theorem dX7_isBlindInVBlock_45 : decode cX7_isBlindInVBlock 45 = .ok (.goto 4, 3) := by decide +kernel
theorem dX7_isBlindInVBlock_48 : decode cX7_isBlindInVBlock 48 = .ok (.iconst 0, 1) := by decide +kernel
theorem dX7_isBlindInVBlock_49 : decode cX7_isBlindInVBlock 49 = .ok (.ireturn, 1) := by decide +kernel
theorem dX7_isBlindInVBlock_50 : decode cX7_isBlindInVBlock 50 = .ok (.iload_n 1, 1) := by decide +kernel
theorem dX7_isBlindInVBlock_51 : decode cX7_isBlindInVBlock 51 = .ok (.invokestatic 168, 3) := by decide +kernel
theorem dX7_isBlindInVBlock_54 : decode cX7_isBlindInVBlock 54 = .ok (.iload_n 3, 1) := by decide +kernel
theorem dX7_isBlindInVBlock_55 : decode cX7_isBlindInVBlock 55 = .ok (.isub, 1) := by decide +kernel
theorem dX7_isBlindInVBlock_56 : decode cX7_isBlindInVBlock 56 = .ok (.ifCond .ne 7, 3) := by decide +kernel
theorem dX7_isBlindInVBlock_59 : decode cX7_isBlindInVBlock 59 = .ok (.iconst 1, 1) := by decide +kernel
theorem dX7_isBlindInVBlock_60 : decode cX7_isBlindInVBlock 60 = .ok (.goto 4, 3) := by decide +kernel
theorem dX7_isBlindInVBlock_63 : decode cX7_isBlindInVBlock 63 = .ok (.iconst 0, 1) := by decide +kernel
theorem dX7_isBlindInVBlock_64 : decode cX7_isBlindInVBlock 64 = .ok (.ireturn, 1) := by decide +kernel
set_option maxRecDepth 100000 in
set_option maxHeartbeats 4000000 in
theorem m_X7_isBlindInVBlock {l : Launch} {G : z_Gl} {σ : z_St} (P n o u v w rc tl : Nat) (hI : z_inv σ P n o u v w rc tl) (x : Int32) (y : Int32) : z_M l G yX7_isBlindInVBlock cX7_isBlindInVBlock 4 (some .int) (z_rm 3 62) [.ref (z_ad G 0), .int x, .int y] σ (z_p1 (.int (if x < nI 1 ∨ nI 5 < x then (-1000001) else if y < nI 1 ∨ nI 12 < y then (-1000001) else if z_n y % 2 = 0 then z_bo (z_tv 0 (z_n x % 24) + z_tv 0 (z_n y * z_n x % 24) = 0) else z_bo (z_tv 0 (z_n x % 24) - z_tv 0 (z_n y * z_n x % 24) = 0))) σ) := by
  refine z_M.of (by decide) (Nat.le_of_ble_eq_true rfl) (fun p e s m below meth c C => ?_)
  refine z_sub [0, 1, 2] (lv1 := [(0, .ref (z_ad G 0)), (1, .int x), (2, .int y)]) rfl ?_
  have hI0 := hI
  obtain ⟨⟨hP, hn, ho, hu, hv, hw, hrc, htl⟩, hPs, hnP, ho21, huv, hw6, hrc8, htl2⟩ := hI0
  have h0 : 0 < P := by omega
  have h12 : P ≤ 12 := by omega
  have h288 : n ≤ 288 := by omega
  refine z_iload_n 0 C dX7_isBlindInVBlock_0 1 rfl ?_
  refine z_iconst 1 C dX7_isBlindInVBlock_1 (nI 1) rfl ?_
  refine z_iconst 2 C dX7_isBlindInVBlock_2 (nI 5) rfl ?_
  refine z_callS 3 C (As := [.int x, .int (nI 1), .int (nI 5)]) (rest := []) (m_X7_isOutside x (nI 1) (nI 5)) k_X7_isOutside q380 ⟨rfl, rfl⟩ ⟨Nat.le_of_ble_eq_true rfl, Nat.le_of_ble_eq_true rfl⟩ rfl (Nat.le_of_ble_eq_true rfl) ⟨Nat.le_of_ble_eq_true rfl, Nat.le_of_ble_eq_true rfl⟩ rfl dX7_isBlindInVBlock_3 (z_k1 ?_)
  refine z_if_neb 6 C 19 dX7_isBlindInVBlock_6 (by decide) (fun c6 => ?_) (fun c6 => ?_)
  · skip
    refine z_ldc 19 C dX7_isBlindInVBlock_19 q371 ?_
    refine z_iret 21 C dX7_isBlindInVBlock_21 ?_
    first | exact ⟨z_ci (by rw [if_pos c6]), rfl⟩ | exact ⟨z_ci (by rw [if_neg c6, if_pos c16]), rfl⟩
  · skip
    obtain ⟨a, hla, ha, rfl⟩ := z_in1 (by decide) (by decide) c6
    refine z_iload_n 9 C dX7_isBlindInVBlock_9 2 rfl ?_
    refine z_iconst 10 C dX7_isBlindInVBlock_10 (nI 1) rfl ?_
    refine z_bipush 11 C dX7_isBlindInVBlock_11 (nI 12) rfl ?_
    refine z_callS 13 C (As := [.int y, .int (nI 1), .int (nI 12)]) (rest := []) (m_X7_isOutside y (nI 1) (nI 12)) k_X7_isOutside q380 ⟨rfl, rfl⟩ ⟨Nat.le_of_ble_eq_true rfl, Nat.le_of_ble_eq_true rfl⟩ rfl (Nat.le_of_ble_eq_true rfl) ⟨Nat.le_of_ble_eq_true rfl, Nat.le_of_ble_eq_true rfl⟩ rfl dX7_isBlindInVBlock_13 (z_k1 ?_)
    refine z_if_eqb 16 C 22 dX7_isBlindInVBlock_16 (by decide) (fun c16 => ?_) (fun c16 => ?_)
    · skip
      obtain ⟨b, hlb, hb, rfl⟩ := z_in1 (by decide) (by decide) c16
      have hab : b * a ≤ 12 * 5 := Nat.mul_le_mul hb ha
      refine z_iload_n 22 C dX7_isBlindInVBlock_22 2 rfl ?_
      refine z_iload_n 23 C dX7_isBlindInVBlock_23 1 rfl ?_
      refine z_imulN 24 C b a rfl rfl dX7_isBlindInVBlock_24 ?_
      refine z_callS 25 C (As := [.int (nI (b * a))]) (rest := []) (m_X7_cosine_n (b * a) (by omega)) k_X7_cosine q599 ⟨rfl, rfl⟩ ⟨Nat.le_of_ble_eq_true rfl, Nat.le_of_ble_eq_true rfl⟩ rfl (Nat.le_of_ble_eq_true rfl) ⟨Nat.le_of_ble_eq_true rfl, Nat.le_of_ble_eq_true rfl⟩ rfl dX7_isBlindInVBlock_25 (z_k1 ?_)
      refine z_istore_n 28 C dX7_isBlindInVBlock_28 [(3, .int (z_tv 0 ((b * a) % 24))), (0, .ref (z_ad G 0)), (1, .int (nI a)), (2, .int (nI b))] (by decide) rfl ?_
      refine z_iload_n 29 C dX7_isBlindInVBlock_29 3 rfl ?_
      refine z_iconst 30 C dX7_isBlindInVBlock_30 (nI 2) rfl ?_
      refine z_iremN 31 C b 2 rfl rfl (by omega) (by omega) (by omega) dX7_isBlindInVBlock_31 ?_
      refine z_if_ne 32 C 50 dX7_isBlindInVBlock_32 (by decide) (fun c32 => ?_) (fun c32 => ?_)
      · skip
        refine z_iload_n 50 C dX7_isBlindInVBlock_50 2 rfl ?_
        refine z_callS 51 C (As := [.int (nI a)]) (rest := []) (m_X7_cosine_n a (by omega)) k_X7_cosine q599 ⟨rfl, rfl⟩ ⟨Nat.le_of_ble_eq_true rfl, Nat.le_of_ble_eq_true rfl⟩ rfl (Nat.le_of_ble_eq_true rfl) ⟨Nat.le_of_ble_eq_true rfl, Nat.le_of_ble_eq_true rfl⟩ rfl dX7_isBlindInVBlock_51 (z_k1 ?_)
        refine z_iload_n 54 C dX7_isBlindInVBlock_54 0 rfl ?_
        refine z_isub 55 C dX7_isBlindInVBlock_55 ?_
        refine z_if_ne 56 C 63 dX7_isBlindInVBlock_56 (by decide) (fun c56 => ?_) (fun c56 => ?_)
        · skip
          refine z_iconst 63 C dX7_isBlindInVBlock_63 (nI 0) rfl ?_
          refine z_iret 64 C dX7_isBlindInVBlock_64 ?_
          have c32 : ¬ b % 2 = 0 := fun z => c32 (by rw [z]; rfl)
          first | exact ⟨z_ci (by rw [if_neg c6, if_neg c16, z_nk (k := a) (by omega), z_nk (k := b) (by omega), if_neg c32]; exact z_bo_t c56), rfl⟩ | exact ⟨z_ci (by rw [if_neg c6, if_neg c16, z_nk (k := a) (by omega), z_nk (k := b) (by omega), if_neg c32]; exact z_bo_f c56), rfl⟩
        · skip
          refine z_iconst 59 C dX7_isBlindInVBlock_59 (nI 1) rfl ?_
          refine z_goto 60 C 64 dX7_isBlindInVBlock_60 (by decide) ?_
          refine z_iret 64 C dX7_isBlindInVBlock_64 ?_
          have c32 : ¬ b % 2 = 0 := fun z => c32 (by rw [z]; rfl)
          first | exact ⟨z_ci (by rw [if_neg c6, if_neg c16, z_nk (k := a) (by omega), z_nk (k := b) (by omega), if_neg c32]; exact z_bo_t c56), rfl⟩ | exact ⟨z_ci (by rw [if_neg c6, if_neg c16, z_nk (k := a) (by omega), z_nk (k := b) (by omega), if_neg c32]; exact z_bo_f c56), rfl⟩
      · skip
        refine z_iload_n 35 C dX7_isBlindInVBlock_35 2 rfl ?_
        refine z_callS 36 C (As := [.int (nI a)]) (rest := []) (m_X7_cosine_n a (by omega)) k_X7_cosine q599 ⟨rfl, rfl⟩ ⟨Nat.le_of_ble_eq_true rfl, Nat.le_of_ble_eq_true rfl⟩ rfl (Nat.le_of_ble_eq_true rfl) ⟨Nat.le_of_ble_eq_true rfl, Nat.le_of_ble_eq_true rfl⟩ rfl dX7_isBlindInVBlock_36 (z_k1 ?_)
        refine z_iload_n 39 C dX7_isBlindInVBlock_39 0 rfl ?_
        refine z_iadd 40 C dX7_isBlindInVBlock_40 ?_
        refine z_if_ne 41 C 48 dX7_isBlindInVBlock_41 (by decide) (fun c41 => ?_) (fun c41 => ?_)
        · skip
          refine z_iconst 48 C dX7_isBlindInVBlock_48 (nI 0) rfl ?_
          refine z_iret 49 C dX7_isBlindInVBlock_49 ?_
          have c32 : b % 2 = 0 := (z_nI0 (by omega)).mp c32
          first | exact ⟨z_ci (by rw [if_neg c6, if_neg c16, z_nk (k := a) (by omega), z_nk (k := b) (by omega), if_pos c32]; exact z_bo_t c41), rfl⟩ | exact ⟨z_ci (by rw [if_neg c6, if_neg c16, z_nk (k := a) (by omega), z_nk (k := b) (by omega), if_pos c32]; exact z_bo_f c41), rfl⟩
        · skip
          refine z_iconst 44 C dX7_isBlindInVBlock_44 (nI 1) rfl ?_
          refine z_goto 45 C 49 dX7_isBlindInVBlock_45 (by decide) ?_
          refine z_iret 49 C dX7_isBlindInVBlock_49 ?_
          have c32 : b % 2 = 0 := (z_nI0 (by omega)).mp c32
          first | exact ⟨z_ci (by rw [if_neg c6, if_neg c16, z_nk (k := a) (by omega), z_nk (k := b) (by omega), if_pos c32]; exact z_bo_t c41), rfl⟩ | exact ⟨z_ci (by rw [if_neg c6, if_neg c16, z_nk (k := a) (by omega), z_nk (k := b) (by omega), if_pos c32]; exact z_bo_f c41), rfl⟩
    · skip
      refine z_ldc 19 C dX7_isBlindInVBlock_19 q371 ?_
      refine z_iret 21 C dX7_isBlindInVBlock_21 ?_
      first | exact ⟨z_ci (by rw [if_pos c6]), rfl⟩ | exact ⟨z_ci (by rw [if_neg c6, if_pos c16]), rfl⟩
theorem m_X1_stepBack_r {l : Launch} {G : z_Gl} {σ : z_St} (u v : Nat) (hu : σ.1 8 2 = nI u) (hv : σ.1 8 3 = nI v) (hu20 : u ≤ 20) (hv20 : v ≤ 20) : z_M l G yX1_stepBack cX1_stepBack 1 (some .boolean) (z_rm 0 0) [.ref (z_ad G 8)] σ (fun w σ1 => (u = 0 ∧ w = some (.int (nI 0)) ∧ σ1 = σ) ∨ (¬ u = 0 ∧ w = some (.int (nI 1)) ∧ σ1 = z_ui (z_ui σ 8 2 (nI (u - 1))) 8 3 (nI (v + 1)))) := by
  refine (m_X1_stepBack u v hu hv hu20 hv20).mono ?_
  rintro w σ1 ⟨rfl, rfl⟩
  by_cases h : u = 0
  · exact Or.inl ⟨h, z_ci (z_bo_f (fun z => z h)).symm, if_pos h⟩
  · exact Or.inr ⟨h, z_ci (z_bo_t h).symm, if_neg h⟩
theorem dX7_undo_0 : decode cX7_undo 0 = .ok (.aload_n 0, 1) := by decide +kernel
theorem dX7_undo_1 : decode cX7_undo 1 = .ok (.getfield 28, 3) := by decide +kernel
theorem dX7_undo_4 : decode cX7_undo 4 = .ok (.invokevirtual 175, 3) := by decide +kernel
theorem dX7_undo_7 : decode cX7_undo 7 = .ok (.ifCond .eq 13, 3) := by decide +kernel
theorem dX7_undo_10 : decode cX7_undo 10 = .ok (.aload_n 0, 1) := by decide +kernel
theorem dX7_undo_11 : decode cX7_undo 11 = .ok (.getfield 28, 3) := by decide +kernel
theorem dX7_undo_14 : decode cX7_undo 14 = .ok (.getfield 178, 3) := by decide +kernel
theorem dX7_undo_17 : decode cX7_undo 17 = .ok (.goto 5, 3) := by decide +kernel
theorem dX7_undo_20 : decode cX7_undo 20 = .ok (.ldc 107, 2) := by decide +kernel
theorem dX7_undo_22 : decode cX7_undo 22 = .ok (.ireturn, 1) := by decide +kernel
set_option maxRecDepth 100000 in
set_option maxHeartbeats 4000000 in
theorem m_X7_undo {l : Launch} {G : z_Gl} {σ : z_St} (P n o u v w rc tl : Nat) (hI : z_inv σ P n o u v w rc tl) : z_M l G yX7_undo cX7_undo 1 (some .int) (z_rm 1 20) [.ref (z_ad G 0)] σ (z_p1 (.int (if u = 0 then (-1000003) else nI (u - 1))) (if u = 0 then σ else z_ui (z_ui σ 8 2 (nI (u - 1))) 8 3 (nI (v + 1)))) := by
  refine z_M.of (by decide) (Nat.le_of_ble_eq_true rfl) (fun p e s m below meth c C => ?_)
  refine z_sub [0] (lv1 := [(0, .ref (z_ad G 0))]) rfl ?_
  have hI0 := hI
  obtain ⟨⟨hP, hn, ho, hu, hv, hw, hrc, htl⟩, hPs, hnP, ho21, huv, hw6, hrc8, htl2⟩ := hI0
  have h0 : 0 < P := by omega
  have h12 : P ≤ 12 := by omega
  have h288 : n ≤ 288 := by omega
  refine z_aload_n 0 C dX7_undo_0 0 rfl ?_
  refine z_getf 1 C 0 z_dX7 (⟨rfl, rfl⟩) 2 (by decide) q341 (.ref (z_ad G 8)) rfl dX7_undo_1 ?_
  refine z_callVN 4 C 8 (⟨rfl, rfl⟩) rfl (As := []) (rest := []) (m_X1_stepBack_r u v hu hv (by omega) (by omega)) k_X1_stepBack (List.mem_of_getElem? (i := 29) rfl) ⟨rfl, rfl⟩ ⟨Nat.le_of_ble_eq_true rfl, Nat.le_of_ble_eq_true rfl⟩ rfl (Nat.le_of_ble_eq_true rfl) ⟨Nat.le_of_ble_eq_true rfl, Nat.le_of_ble_eq_true rfl⟩ rfl dX7_undo_4 (fun v4 σ4 hv4 => ?_)
  rcases hv4 with ⟨hz, rfl, rfl⟩ | ⟨hz, rfl, rfl⟩
  · skip
    refine z_cv (st1 := [.int (nI 0)]) rfl rfl rfl ?_
    refine z_if_eq 7 C 20 dX7_undo_7 (by decide) (fun c7 => ?_) (fun c7 => ?_)
    · skip
      refine z_ldc 20 C dX7_undo_20 q440 ?_
      refine z_iret 22 C dX7_undo_22 ?_
      refine ⟨?_, ?_⟩
      · (rw [if_pos (hz)]) <;> (try rfl)
      · first | rfl | ((rw [if_pos (hz)]) <;> (try rfl))
    · skip
      exact absurd rfl c7
  · skip
    refine z_cv (st1 := [.int (nI 1)]) rfl rfl rfl ?_
    refine z_if_eq 7 C 20 dX7_undo_7 (by decide) (fun c7 => ?_) (fun c7 => ?_)
    · skip
      exact absurd c7 (by decide)
    · skip
      refine z_aload_n 10 C dX7_undo_10 0 rfl ?_
      refine z_getf 11 C 0 z_dX7 (⟨rfl, rfl⟩) 2 (by decide) q341 (.ref (z_ad G 8)) rfl dX7_undo_11 ?_
      refine z_getfN 14 C 8 z_dX1 (⟨rfl, rfl⟩) 2 (by decide) (List.mem_of_getElem? (i := 2) rfl) (.int (nI (u - 1))) rfl dX7_undo_14 ?_
      refine z_goto 17 C 22 dX7_undo_17 (by decide) ?_
      refine z_iret 22 C dX7_undo_22 ?_
      refine ⟨?_, ?_⟩
      · (rw [if_neg (hz)]) <;> (try rfl)
      · first | rfl | ((rw [if_neg (hz)]) <;> (try rfl))
theorem m_X1_stepForward_r {l : Launch} {G : z_Gl} {σ : z_St} (u v : Nat) (hu : σ.1 8 2 = nI u) (hv : σ.1 8 3 = nI v) (hu20 : u ≤ 20) (hv20 : v ≤ 20) : z_M l G yX1_stepForward cX1_stepForward 1 (some .boolean) (z_rm 0 0) [.ref (z_ad G 8)] σ (fun w σ1 => (v = 0 ∧ w = some (.int (nI 0)) ∧ σ1 = σ) ∨ (¬ v = 0 ∧ w = some (.int (nI 1)) ∧ σ1 = z_ui (z_ui σ 8 3 (nI (v - 1))) 8 2 (nI (u + 1)))) := by
  refine (m_X1_stepForward u v hu hv hu20 hv20).mono ?_
  rintro w σ1 ⟨rfl, rfl⟩
  by_cases h : v = 0
  · exact Or.inl ⟨h, z_ci (z_bo_f (fun z => z h)).symm, if_pos h⟩
  · exact Or.inr ⟨h, z_ci (z_bo_t h).symm, if_neg h⟩
theorem dX7_redo_0 : decode cX7_redo 0 = .ok (.aload_n 0, 1) := by decide +kernel
theorem dX7_redo_1 : decode cX7_redo 1 = .ok (.getfield 28, 3) := by decide +kernel
theorem dX7_redo_4 : decode cX7_redo 4 = .ok (.invokevirtual 181, 3) := by decide +kernel
theorem dX7_redo_7 : decode cX7_redo 7 = .ok (.ifCond .eq 13, 3) := by decide +kernel
theorem dX7_redo_10 : decode cX7_redo 10 = .ok (.aload_n 0, 1) := by decide +kernel
theorem dX7_redo_11 : decode cX7_redo 11 = .ok (.getfield 28, 3) := by decide +kernel
theorem dX7_redo_14 : decode cX7_redo 14 = .ok (.getfield 184, 3) := by decide +kernel
theorem dX7_redo_17 : decode cX7_redo 17 = .ok (.goto 5, 3) := by decide +kernel
theorem dX7_redo_20 : decode cX7_redo 20 = .ok (.ldc 107, 2) := by decide +kernel
theorem dX7_redo_22 : decode cX7_redo 22 = .ok (.ireturn, 1) := by decide +kernel
set_option maxRecDepth 100000 in
set_option maxHeartbeats 4000000 in
theorem m_X7_redo {l : Launch} {G : z_Gl} {σ : z_St} (P n o u v w rc tl : Nat) (hI : z_inv σ P n o u v w rc tl) : z_M l G yX7_redo cX7_redo 1 (some .int) (z_rm 1 20) [.ref (z_ad G 0)] σ (z_p1 (.int (if v = 0 then (-1000003) else nI (v - 1))) (if v = 0 then σ else z_ui (z_ui σ 8 3 (nI (v - 1))) 8 2 (nI (u + 1)))) := by
  refine z_M.of (by decide) (Nat.le_of_ble_eq_true rfl) (fun p e s m below meth c C => ?_)
  refine z_sub [0] (lv1 := [(0, .ref (z_ad G 0))]) rfl ?_
  have hI0 := hI
  obtain ⟨⟨hP, hn, ho, hu, hv, hw, hrc, htl⟩, hPs, hnP, ho21, huv, hw6, hrc8, htl2⟩ := hI0
  have h0 : 0 < P := by omega
  have h12 : P ≤ 12 := by omega
  have h288 : n ≤ 288 := by omega
  refine z_aload_n 0 C dX7_redo_0 0 rfl ?_
  refine z_getf 1 C 0 z_dX7 (⟨rfl, rfl⟩) 2 (by decide) q341 (.ref (z_ad G 8)) rfl dX7_redo_1 ?_
  refine z_callVN 4 C 8 (⟨rfl, rfl⟩) rfl (As := []) (rest := []) (m_X1_stepForward_r u v hu hv (by omega) (by omega)) k_X1_stepForward (List.mem_of_getElem? (i := 30) rfl) ⟨rfl, rfl⟩ ⟨Nat.le_of_ble_eq_true rfl, Nat.le_of_ble_eq_true rfl⟩ rfl (Nat.le_of_ble_eq_true rfl) ⟨Nat.le_of_ble_eq_true rfl, Nat.le_of_ble_eq_true rfl⟩ rfl dX7_redo_4 (fun v4 σ4 hv4 => ?_)
  rcases hv4 with ⟨hz, rfl, rfl⟩ | ⟨hz, rfl, rfl⟩
  · skip
    refine z_cv (st1 := [.int (nI 0)]) rfl rfl rfl ?_
    refine z_if_eq 7 C 20 dX7_redo_7 (by decide) (fun c7 => ?_) (fun c7 => ?_)
    · skip
      refine z_ldc 20 C dX7_redo_20 q440 ?_
      refine z_iret 22 C dX7_redo_22 ?_
      refine ⟨?_, ?_⟩
      · (rw [if_pos (hz)]) <;> (try rfl)
      · first | rfl | ((rw [if_pos (hz)]) <;> (try rfl))
    · skip
      exact absurd rfl c7
  · skip
    refine z_cv (st1 := [.int (nI 1)]) rfl rfl rfl ?_
    refine z_if_eq 7 C 20 dX7_redo_7 (by decide) (fun c7 => ?_) (fun c7 => ?_)
    · skip
      exact absurd c7 (by decide)
    · skip
      refine z_aload_n 10 C dX7_redo_10 0 rfl ?_
      refine z_getf 11 C 0 z_dX7 (⟨rfl, rfl⟩) 2 (by decide) q341 (.ref (z_ad G 8)) rfl dX7_redo_11 ?_
      refine z_getfN 14 C 8 z_dX1 (⟨rfl, rfl⟩) 3 (by decide) (List.mem_of_getElem? (i := 3) rfl) (.int (nI (v - 1))) rfl dX7_redo_14 ?_
      refine z_goto 17 C 22 dX7_redo_17 (by decide) ?_
      refine z_iret 22 C dX7_redo_22 ?_
      refine ⟨?_, ?_⟩
      · (rw [if_neg (hz)]) <;> (try rfl)
      · first | rfl | ((rw [if_neg (hz)]) <;> (try rfl))
theorem dX7_harmonic_0 : decode cX7_harmonic 0 = .ok (.iload_n 1, 1) := by decide +kernel
theorem dX7_harmonic_1 : decode cX7_harmonic 1 = .ok (.iconst 0, 1) := by decide +kernel
theorem dX7_harmonic_2 : decode cX7_harmonic 2 = .ok (.bipush 12, 2) := by decide +kernel
theorem dX7_harmonic_4 : decode cX7_harmonic 4 = .ok (.invokestatic 77, 3) := by decide +kernel
theorem dX7_harmonic_7 : decode cX7_harmonic 7 = .ok (.ifCond .eq 9, 3) := by decide +kernel
theorem dX7_harmonic_10 : decode cX7_harmonic 10 = .ok (.ldc2_w 117, 3) := by decide +kernel
theorem dX7_harmonic_13 : decode cX7_harmonic 13 = .ok (.goto 15, 3) := by decide +kernel
theorem dX7_harmonic_16 : decode cX7_harmonic 16 = .ok (.aload_n 0, 1) := by decide +kernel
theorem dX7_harmonic_17 : decode cX7_harmonic 17 = .ok (.getfield 28, 3) := by decide +kernel
theorem dX7_harmonic_20 : decode cX7_harmonic 20 = .ok (.invokevirtual 140, 3) := by decide +kernel
theorem dX7_harmonic_23 : decode cX7_harmonic 23 = .ok (.iload_n 1, 1) := by decide +kernel
theorem dX7_harmonic_24 : decode cX7_harmonic 24 = .ok (.iload_n 2, 1) := by decide +kernel
theorem dX7_harmonic_25 : decode cX7_harmonic 25 = .ok (.invokestatic 147, 3) := by decide +kernel
theorem dX7_harmonic_28 : decode cX7_harmonic 28 = .ok (.lreturn, 1) := by decide +kernel
set_option maxRecDepth 100000 in
set_option maxHeartbeats 4000000 in
theorem m_X7_harmonic {l : Launch} {G : z_Gl} {σ : z_St} (P n o u v w rc tl : Nat) (hI : z_inv σ P n o u v w rc tl) (x : Int32) (t : Nat) (ht : t < 2) : z_M l G yX7_harmonic cX7_harmonic 3 (some .long) (z_rm 3 68) [.ref (z_ad G 0), .int x, .int (nI t)] σ (z_p1 (.long (if x < nI 0 ∨ nI 12 < x then (-9223372036854775808) else z_cf (σ.2 (10 + (o + u) % 21)) t (z_n x))) σ) := by
  refine z_M.of (by decide) (Nat.le_of_ble_eq_true rfl) (fun p e s m below meth c C => ?_)
  refine z_sub [0, 1, 2] (lv1 := [(0, .ref (z_ad G 0)), (1, .int x), (2, .int (nI t))]) rfl ?_
  have hI0 := hI
  obtain ⟨⟨hP, hn, ho, hu, hv, hw, hrc, htl⟩, hPs, hnP, ho21, huv, hw6, hrc8, htl2⟩ := hI0
  have h0 : 0 < P := by omega
  have h12 : P ≤ 12 := by omega
  have h288 : n ≤ 288 := by omega
  refine z_iload_n 0 C dX7_harmonic_0 1 rfl ?_
  refine z_iconst 1 C dX7_harmonic_1 (nI 0) rfl ?_
  refine z_bipush 2 C dX7_harmonic_2 (nI 12) rfl ?_
  refine z_callS 4 C (As := [.int x, .int (nI 0), .int (nI 12)]) (rest := []) (m_X7_isOutside x (nI 0) (nI 12)) k_X7_isOutside q380 ⟨rfl, rfl⟩ ⟨Nat.le_of_ble_eq_true rfl, Nat.le_of_ble_eq_true rfl⟩ rfl (Nat.le_of_ble_eq_true rfl) ⟨Nat.le_of_ble_eq_true rfl, Nat.le_of_ble_eq_true rfl⟩ rfl dX7_harmonic_4 (z_k1 ?_)
  refine z_if_eqb 7 C 16 dX7_harmonic_7 (by decide) (fun c7 => ?_) (fun c7 => ?_)
  · skip
    obtain ⟨a, ha, rfl⟩ := z_in0 (by decide) c7
    refine z_aload_n 16 C dX7_harmonic_16 0 rfl ?_
    refine z_getf 17 C 0 z_dX7 (⟨rfl, rfl⟩) 2 (by decide) q341 (.ref (z_ad G 8)) rfl dX7_harmonic_17 ?_
    refine z_callVN 20 C 8 (⟨rfl, rfl⟩) rfl (As := []) (rest := []) (m_X1_present o u ho hu (by omega) (by omega)) k_X1_present (List.mem_of_getElem? (i := 28) rfl) ⟨rfl, rfl⟩ ⟨Nat.le_of_ble_eq_true rfl, Nat.le_of_ble_eq_true rfl⟩ rfl (Nat.le_of_ble_eq_true rfl) ⟨Nat.le_of_ble_eq_true rfl, Nat.le_of_ble_eq_true rfl⟩ rfl dX7_harmonic_20 (z_k1 ?_)
    refine z_iload_n 23 C dX7_harmonic_23 1 rfl ?_
    refine z_iload_n 24 C dX7_harmonic_24 2 rfl ?_
    refine z_callS 25 C (As := [.ref (z_ad G (10 + (o + u) % 21)), .int (nI a), .int (nI t)]) (rest := []) (m_X7_coefficient (10 + (o + u) % 21) a t (z_rgK _ (by omega)) (by omega) (by omega)) k_X7_coefficient q568 ⟨rfl, rfl⟩ ⟨Nat.le_of_ble_eq_true rfl, Nat.le_of_ble_eq_true rfl⟩ rfl (Nat.le_of_ble_eq_true rfl) ⟨Nat.le_of_ble_eq_true rfl, Nat.le_of_ble_eq_true rfl⟩ rfl dX7_harmonic_25 (z_k1 ?_)
    refine z_lret 28 C dX7_harmonic_28 ?_
    refine ⟨?_, ?_⟩
    · (rw [if_neg (c7), z_nk (k := a) (by omega)]) <;> (try rfl)
    · first | rfl | ((rw [if_neg (c7), z_nk (k := a) (by omega)]) <;> (try rfl))
  · skip
    refine z_ldc2 10 C dX7_harmonic_10 q475 ?_
    refine z_goto 13 C 28 dX7_harmonic_13 (by decide) ?_
    refine z_lret 28 C dX7_harmonic_28 ?_
    refine ⟨?_, ?_⟩
    · (rw [if_pos (c7)]) <;> (try rfl)
    · first | rfl | ((rw [if_pos (c7)]) <;> (try rfl))
theorem dX7_strength_0 : decode cX7_strength 0 = .ok (.iload_n 1, 1) := by decide +kernel
theorem dX7_strength_1 : decode cX7_strength 1 = .ok (.iconst 0, 1) := by decide +kernel
theorem dX7_strength_2 : decode cX7_strength 2 = .ok (.bipush 12, 2) := by decide +kernel
theorem dX7_strength_4 : decode cX7_strength 4 = .ok (.invokestatic 77, 3) := by decide +kernel
theorem dX7_strength_7 : decode cX7_strength 7 = .ok (.ifCond .eq 9, 3) := by decide +kernel
theorem dX7_strength_10 : decode cX7_strength 10 = .ok (.ldc2_w 117, 3) := by decide +kernel
theorem dX7_strength_13 : decode cX7_strength 13 = .ok (.goto 14, 3) := by decide +kernel
theorem dX7_strength_16 : decode cX7_strength 16 = .ok (.aload_n 0, 1) := by decide +kernel
theorem dX7_strength_17 : decode cX7_strength 17 = .ok (.getfield 28, 3) := by decide +kernel
theorem dX7_strength_20 : decode cX7_strength 20 = .ok (.invokevirtual 140, 3) := by decide +kernel
theorem dX7_strength_23 : decode cX7_strength 23 = .ok (.iload_n 1, 1) := by decide +kernel
theorem dX7_strength_24 : decode cX7_strength 24 = .ok (.invokestatic 187, 3) := by decide +kernel
theorem dX7_strength_27 : decode cX7_strength 27 = .ok (.lreturn, 1) := by decide +kernel
set_option maxRecDepth 100000 in
set_option maxHeartbeats 4000000 in
theorem m_X7_strength {l : Launch} {G : z_Gl} {σ : z_St} (P n o u v w rc tl : Nat) (hI : z_inv σ P n o u v w rc tl) (x : Int32) : z_M l G yX7_strength cX7_strength 2 (some .long) (z_rm 4 89) [.ref (z_ad G 0), .int x] σ (z_p1 (.long (if x < nI 0 ∨ nI 12 < x then (-9223372036854775808) else z_sg (σ.2 (10 + (o + u) % 21)) (z_n x))) σ) := by
  refine z_M.of (by decide) (Nat.le_of_ble_eq_true rfl) (fun p e s m below meth c C => ?_)
  refine z_sub [0, 1] (lv1 := [(0, .ref (z_ad G 0)), (1, .int x)]) rfl ?_
  have hI0 := hI
  obtain ⟨⟨hP, hn, ho, hu, hv, hw, hrc, htl⟩, hPs, hnP, ho21, huv, hw6, hrc8, htl2⟩ := hI0
  have h0 : 0 < P := by omega
  have h12 : P ≤ 12 := by omega
  have h288 : n ≤ 288 := by omega
  refine z_iload_n 0 C dX7_strength_0 1 rfl ?_
  refine z_iconst 1 C dX7_strength_1 (nI 0) rfl ?_
  refine z_bipush 2 C dX7_strength_2 (nI 12) rfl ?_
  refine z_callS 4 C (As := [.int x, .int (nI 0), .int (nI 12)]) (rest := []) (m_X7_isOutside x (nI 0) (nI 12)) k_X7_isOutside q380 ⟨rfl, rfl⟩ ⟨Nat.le_of_ble_eq_true rfl, Nat.le_of_ble_eq_true rfl⟩ rfl (Nat.le_of_ble_eq_true rfl) ⟨Nat.le_of_ble_eq_true rfl, Nat.le_of_ble_eq_true rfl⟩ rfl dX7_strength_4 (z_k1 ?_)
  refine z_if_eqb 7 C 16 dX7_strength_7 (by decide) (fun c7 => ?_) (fun c7 => ?_)
  · skip
    obtain ⟨a, ha, rfl⟩ := z_in0 (by decide) c7
    refine z_aload_n 16 C dX7_strength_16 0 rfl ?_
    refine z_getf 17 C 0 z_dX7 (⟨rfl, rfl⟩) 2 (by decide) q341 (.ref (z_ad G 8)) rfl dX7_strength_17 ?_
    refine z_callVN 20 C 8 (⟨rfl, rfl⟩) rfl (As := []) (rest := []) (m_X1_present o u ho hu (by omega) (by omega)) k_X1_present (List.mem_of_getElem? (i := 28) rfl) ⟨rfl, rfl⟩ ⟨Nat.le_of_ble_eq_true rfl, Nat.le_of_ble_eq_true rfl⟩ rfl (Nat.le_of_ble_eq_true rfl) ⟨Nat.le_of_ble_eq_true rfl, Nat.le_of_ble_eq_true rfl⟩ rfl dX7_strength_20 (z_k1 ?_)
    refine z_iload_n 23 C dX7_strength_23 1 rfl ?_
    refine z_callS 24 C (As := [.ref (z_ad G (10 + (o + u) % 21)), .int (nI a)]) (rest := []) (m_X7_strengthOf (10 + (o + u) % 21) a (z_rgK _ (by omega)) (by omega)) k_X7_strengthOf q631 ⟨rfl, rfl⟩ ⟨Nat.le_of_ble_eq_true rfl, Nat.le_of_ble_eq_true rfl⟩ rfl (Nat.le_of_ble_eq_true rfl) ⟨Nat.le_of_ble_eq_true rfl, Nat.le_of_ble_eq_true rfl⟩ rfl dX7_strength_24 (z_k1 ?_)
    refine z_lret 27 C dX7_strength_27 ?_
    refine ⟨?_, ?_⟩
    · (rw [if_neg (c7), z_nk (k := a) (by omega)]) <;> (try rfl)
    · first | rfl | ((rw [if_neg (c7), z_nk (k := a) (by omega)]) <;> (try rfl))
  · skip
    refine z_ldc2 10 C dX7_strength_10 q475 ?_
    refine z_goto 13 C 27 dX7_strength_13 (by decide) ?_
    refine z_lret 27 C dX7_strength_27 ?_
    refine ⟨?_, ?_⟩
    · (rw [if_pos (c7)]) <;> (try rfl)
    · first | rfl | ((rw [if_pos (c7)]) <;> (try rfl))
theorem dX7_dominant_0 : decode cX7_dominant 0 = .ok (.iload_n 1, 1) := by decide +kernel
theorem dX7_dominant_1 : decode cX7_dominant 1 = .ok (.iconst 0, 1) := by decide +kernel
theorem dX7_dominant_2 : decode cX7_dominant 2 = .ok (.bipush 12, 2) := by decide +kernel
theorem dX7_dominant_4 : decode cX7_dominant 4 = .ok (.invokestatic 77, 3) := by decide +kernel
theorem dX7_dominant_7 : decode cX7_dominant 7 = .ok (.ifCond .eq 6, 3) := by decide +kernel
theorem dX7_dominant_10 : decode cX7_dominant 10 = .ok (.ldc 68, 2) := by decide +kernel
theorem dX7_dominant_12 : decode cX7_dominant 12 = .ok (.ireturn, 1) := by decide +kernel
theorem dX7_dominant_13 : decode cX7_dominant 13 = .ok (.aload_n 0, 1) := by decide +kernel
theorem dX7_dominant_14 : decode cX7_dominant 14 = .ok (.getfield 28, 3) := by decide +kernel
theorem dX7_dominant_17 : decode cX7_dominant 17 = .ok (.invokevirtual 140, 3) := by decide +kernel
theorem dX7_dominant_20 : decode cX7_dominant 20 = .ok (.astore_n 2, 1) := by decide +kernel
theorem dX7_dominant_21 : decode cX7_dominant 21 = .ok (.iload_n 1, 1) := by decide +kernel
theorem dX7_dominant_22 : decode cX7_dominant 22 = .ok (.istore_n 3, 1) := by decide +kernel
theorem dX7_dominant_23 : decode cX7_dominant 23 = .ok (.aload_n 2, 1) := by decide +kernel
theorem dX7_dominant_24 : decode cX7_dominant 24 = .ok (.iload_n 1, 1) := by decide +kernel
theorem dX7_dominant_25 : decode cX7_dominant 25 = .ok (.invokestatic 187, 3) := by decide +kernel
theorem dX7_dominant_28 : decode cX7_dominant 28 = .ok (.lstore 4, 2) := by decide +kernel
theorem dX7_dominant_30 : decode cX7_dominant 30 = .ok (.iload_n 1, 1) := by decide +kernel
theorem dX7_dominant_31 : decode cX7_dominant 31 = .ok (.iconst 1, 1) := by decide +kernel
theorem dX7_dominant_32 : decode cX7_dominant 32 = .ok (.iadd, 1) := by decide +kernel
theorem dX7_dominant_33 : decode cX7_dominant 33 = .ok (.istore 6, 2) := by decide +kernel
theorem dX7_dominant_35 : decode cX7_dominant 35 = .ok (.iload 6, 2) := by decide +kernel
theorem dX7_dominant_37 : decode cX7_dominant 37 = .ok (.bipush 12, 2) := by decide +kernel
theorem dX7_dominant_39 : decode cX7_dominant 39 = .ok (.if_icmp .gt 32, 3) := by decide +kernel
theorem dX7_dominant_42 : decode cX7_dominant 42 = .ok (.aload_n 2, 1) := by decide +kernel
theorem dX7_dominant_43 : decode cX7_dominant 43 = .ok (.iload 6, 2) := by decide +kernel
theorem dX7_dominant_45 : decode cX7_dominant 45 = .ok (.invokestatic 187, 3) := by decide +kernel
theorem dX7_dominant_48 : decode cX7_dominant 48 = .ok (.lstore 7, 2) := by decide +kernel
theorem dX7_dominant_50 : decode cX7_dominant 50 = .ok (.lload 7, 2) := by decide +kernel
theorem dX7_dominant_52 : decode cX7_dominant 52 = .ok (.lload 4, 2) := by decide +kernel
theorem dX7_dominant_54 : decode cX7_dominant 54 = .ok (.lcmp, 1) := by decide +kernel
theorem dX7_dominant_55 : decode cX7_dominant 55 = .ok (.ifCond .le 10, 3) := by decide +kernel
theorem dX7_dominant_58 : decode cX7_dominant 58 = .ok (.lload 7, 2) := by decide +kernel
theorem dX7_dominant_60 : decode cX7_dominant 60 = .ok (.lstore 4, 2) := by decide +kernel
theorem dX7_dominant_62 : decode cX7_dominant 62 = .ok (.iload 6, 2) := by decide +kernel
theorem dX7_dominant_64 : decode cX7_dominant 64 = .ok (.istore_n 3, 1) := by decide +kernel
theorem dX7_dominant_65 : decode cX7_dominant 65 = .ok (.iinc 6 1, 3) := by decide +kernel
theorem dX7_dominant_68 : decode cX7_dominant 68 = .ok (.goto (-33), 3) := by decide +kernel
theorem dX7_dominant_71 : decode cX7_dominant 71 = .ok (.iload_n 3, 1) := by decide +kernel
theorem dX7_dominant_72 : decode cX7_dominant 72 = .ok (.ireturn, 1) := by decide +kernel
set_option maxRecDepth 100000 in
set_option maxHeartbeats 4000000 in
theorem m_X7_dominant {l : Launch} {G : z_Gl} {σ : z_St} (P n o u v w rc tl : Nat) (hI : z_inv σ P n o u v w rc tl) (x : Int32) : z_M l G yX7_dominant cX7_dominant 9 (some .int) (z_rm 4 89) [.ref (z_ad G 0), .int x] σ (z_p1 (.int (if x < nI 0 ∨ nI 12 < x then (-1000001) else nI (z_dm (σ.2 (10 + (o + u) % 21)) (z_n x) (12 - z_n x)))) σ) := by
  refine z_M.of (by decide) (Nat.le_of_ble_eq_true rfl) (fun p e s m below meth c C => ?_)
  refine z_sub [0, 1] (lv1 := [(0, .ref (z_ad G 0)), (1, .int x)]) rfl ?_
  have hI0 := hI
  obtain ⟨⟨hP, hn, ho, hu, hv, hw, hrc, htl⟩, hPs, hnP, ho21, huv, hw6, hrc8, htl2⟩ := hI0
  have h0 : 0 < P := by omega
  have h12 : P ≤ 12 := by omega
  have h288 : n ≤ 288 := by omega
  refine z_iload_n 0 C dX7_dominant_0 1 rfl ?_
  refine z_iconst 1 C dX7_dominant_1 (nI 0) rfl ?_
  refine z_bipush 2 C dX7_dominant_2 (nI 12) rfl ?_
  refine z_callS 4 C (As := [.int x, .int (nI 0), .int (nI 12)]) (rest := []) (m_X7_isOutside x (nI 0) (nI 12)) k_X7_isOutside q380 ⟨rfl, rfl⟩ ⟨Nat.le_of_ble_eq_true rfl, Nat.le_of_ble_eq_true rfl⟩ rfl (Nat.le_of_ble_eq_true rfl) ⟨Nat.le_of_ble_eq_true rfl, Nat.le_of_ble_eq_true rfl⟩ rfl dX7_dominant_4 (z_k1 ?_)
  refine z_if_eqb 7 C 13 dX7_dominant_7 (by decide) (fun c7 => ?_) (fun c7 => ?_)
  · skip
    obtain ⟨a, ha, rfl⟩ := z_in0 (by decide) c7
    refine z_aload_n 13 C dX7_dominant_13 0 rfl ?_
    refine z_getf 14 C 0 z_dX7 (⟨rfl, rfl⟩) 2 (by decide) q341 (.ref (z_ad G 8)) rfl dX7_dominant_14 ?_
    refine z_callVN 17 C 8 (⟨rfl, rfl⟩) rfl (As := []) (rest := []) (m_X1_present o u ho hu (by omega) (by omega)) k_X1_present (List.mem_of_getElem? (i := 28) rfl) ⟨rfl, rfl⟩ ⟨Nat.le_of_ble_eq_true rfl, Nat.le_of_ble_eq_true rfl⟩ rfl (Nat.le_of_ble_eq_true rfl) ⟨Nat.le_of_ble_eq_true rfl, Nat.le_of_ble_eq_true rfl⟩ rfl dX7_dominant_17 (z_k1 ?_)
    refine z_astore_n 20 C dX7_dominant_20 [(2, .ref (z_ad G (10 + (o + u) % 21))), (0, .ref (z_ad G 0)), (1, .int (nI a))] (by decide) rfl ?_
    refine z_iload_n 21 C dX7_dominant_21 2 rfl ?_
    refine z_istore_n 22 C dX7_dominant_22 [(3, .int (nI a)), (2, .ref (z_ad G (10 + (o + u) % 21))), (0, .ref (z_ad G 0)), (1, .int (nI a))] (by decide) rfl ?_
    refine z_aload_n 23 C dX7_dominant_23 1 rfl ?_
    refine z_iload_n 24 C dX7_dominant_24 3 rfl ?_
    refine z_callS 25 C (As := [.ref (z_ad G (10 + (o + u) % 21)), .int (nI a)]) (rest := []) (m_X7_strengthOf (10 + (o + u) % 21) a (z_rgK _ (by omega)) (by omega)) k_X7_strengthOf q631 ⟨rfl, rfl⟩ ⟨Nat.le_of_ble_eq_true rfl, Nat.le_of_ble_eq_true rfl⟩ rfl (Nat.le_of_ble_eq_true rfl) ⟨Nat.le_of_ble_eq_true rfl, Nat.le_of_ble_eq_true rfl⟩ rfl dX7_dominant_25 (z_k1 ?_)
    refine z_lstore 28 C dX7_dominant_28 [(4, .long (z_sg (σ.2 (10 + (o + u) % 21)) a)), (3, .int (nI a)), (2, .ref (z_ad G (10 + (o + u) % 21))), (0, .ref (z_ad G 0)), (1, .int (nI a))] (by decide) rfl ?_
    refine z_iload_n 30 C dX7_dominant_30 4 rfl ?_
    refine z_iconst 31 C dX7_dominant_31 (nI 1) rfl ?_
    refine z_iaddN 32 C a 1 rfl rfl dX7_dominant_32 ?_
    refine z_istore 33 C dX7_dominant_33 [(6, .int (nI (a + 1))), (4, .long (z_sg (σ.2 (10 + (o + u) % 21)) a)), (3, .int (nI a)), (2, .ref (z_ad G (10 + (o + u) % 21))), (0, .ref (z_ad G 0)), (1, .int (nI a))] (by decide) rfl ?_
    refine z_sub [4, 5, 3, 2, 1, 0] (lv1 := [(0, .ref (z_ad G 0)), (1, .int (nI a)), (2, .ref (z_ad G (10 + (o + u) % 21))), (3, .int (nI a)), (4, .long (z_sg (σ.2 (10 + (o + u) % 21)) a)), (6, .int (nI (a + 1)))]) rfl ?_
    refine z_cv (lv1 := [(0, .ref (z_ad G 0)), (1, .int (nI a)), (2, .ref (z_ad G (10 + (o + u) % 21))), (3, .int (nI (z_dm (σ.2 (10 + (o + u) % 21)) a 0))), (4, .long (z_sg (σ.2 (10 + (o + u) % 21)) (z_dm (σ.2 (10 + (o + u) % 21)) a 0))), (6, .int (nI (a + 1 + 0)))]) (st1 := []) (σ1 := σ) rfl rfl rfl ?_
    refine z_lp1 (fun (d : Nat) => a + d ≤ 12) (fun (d : Nat) => 12 - (a + d)) (fun (d : Nat) => [(0, .ref (z_ad G 0)), (1, .int (nI a)), (2, .ref (z_ad G (10 + (o + u) % 21))), (3, .int (nI (z_dm (σ.2 (10 + (o + u) % 21)) a d))), (4, .long (z_sg (σ.2 (10 + (o + u) % 21)) (z_dm (σ.2 (10 + (o + u) % 21)) a d))), (6, .int (nI (a + 1 + d)))]) (fun (d : Nat) => σ) (fun d hi_35 ih_35 => ?_) 0 (by omega)
    try dsimp only
    refine z_iload 35 C dX7_dominant_35 5 rfl ?_
    refine z_bipush 37 C dX7_dominant_37 (nI 12) rfl ?_
    refine z_icmp_gtN 39 C (a + 1 + d) 12 rfl rfl (by omega) (by omega) 71 dX7_dominant_39 (by decide) (fun c39 => ?_) (fun c39 => ?_)
    · skip
      have ed : d = 12 - a := by omega
      subst ed
      refine z_iload_n 71 C dX7_dominant_71 3 rfl ?_
      refine z_iret 72 C dX7_dominant_72 ?_
      exact ⟨z_ci (by rw [if_neg c7, z_nk (k := a) (by omega)]), rfl⟩
    · skip
      refine z_aload_n 42 C dX7_dominant_42 2 rfl ?_
      refine z_iload 43 C dX7_dominant_43 5 rfl ?_
      refine z_callS 45 C (As := [.ref (z_ad G (10 + (o + u) % 21)), .int (nI (a + 1 + d))]) (rest := []) (m_X7_strengthOf (10 + (o + u) % 21) (a + 1 + d) (z_rgK _ (by omega)) (by omega)) k_X7_strengthOf q631 ⟨rfl, rfl⟩ ⟨Nat.le_of_ble_eq_true rfl, Nat.le_of_ble_eq_true rfl⟩ rfl (Nat.le_of_ble_eq_true rfl) ⟨Nat.le_of_ble_eq_true rfl, Nat.le_of_ble_eq_true rfl⟩ rfl dX7_dominant_45 (z_k1 ?_)
      refine z_lstore 48 C dX7_dominant_48 [(7, .long (z_sg (σ.2 (10 + (o + u) % 21)) (a + 1 + d))), (0, .ref (z_ad G 0)), (1, .int (nI a)), (2, .ref (z_ad G (10 + (o + u) % 21))), (3, .int (nI (z_dm (σ.2 (10 + (o + u) % 21)) a d))), (4, .long (z_sg (σ.2 (10 + (o + u) % 21)) (z_dm (σ.2 (10 + (o + u) % 21)) a d))), (6, .int (nI (a + 1 + d)))] (by decide) rfl ?_
      refine z_lload 50 C dX7_dominant_50 0 rfl ?_
      refine z_lload 52 C dX7_dominant_52 5 rfl ?_
      refine z_lcmp_le 54 C 65 dX7_dominant_54 dX7_dominant_55 (by decide) (fun c54 => ?_) (fun c54 => ?_)
      · skip
        refine z_iincN 65 C 6 (a + 1 + d) [(6, .int (nI (a + 1 + d + 1))), (7, .long (z_sg (σ.2 (10 + (o + u) % 21)) (a + 1 + d))), (0, .ref (z_ad G 0)), (1, .int (nI a)), (2, .ref (z_ad G (10 + (o + u) % 21))), (3, .int (nI (z_dm (σ.2 (10 + (o + u) % 21)) a d))), (4, .long (z_sg (σ.2 (10 + (o + u) % 21)) (z_dm (σ.2 (10 + (o + u) % 21)) a d)))] rfl rfl (by decide) rfl dX7_dominant_65 ?_
        refine z_goto 68 C 35 dX7_dominant_68 (by decide) ?_
        refine z_sub [2, 3, 4, 5, 6, 0] (lv1 := [(0, .ref (z_ad G 0)), (1, .int (nI a)), (2, .ref (z_ad G (10 + (o + u) % 21))), (3, .int (nI (z_dm (σ.2 (10 + (o + u) % 21)) a d))), (4, .long (z_sg (σ.2 (10 + (o + u) % 21)) (z_dm (σ.2 (10 + (o + u) % 21)) a d))), (6, .int (nI (a + 1 + d + 1)))]) rfl ?_
        refine z_cv (lv1 := [(0, .ref (z_ad G 0)), (1, .int (nI a)), (2, .ref (z_ad G (10 + (o + u) % 21))), (3, .int (nI (z_dm (σ.2 (10 + (o + u) % 21)) a (d + 1)))), (4, .long (z_sg (σ.2 (10 + (o + u) % 21)) (z_dm (σ.2 (10 + (o + u) % 21)) a (d + 1)))), (6, .int (nI (a + 1 + (d + 1))))]) (st1 := []) (σ1 := σ) (by first | rw [z_dm_n (Int64.not_lt.mpr c54)] <;> rfl | rw [z_dm_s (Int64.not_le.mp c54)] <;> rfl) rfl rfl ?_
        exact ih_35 (d + 1) (by omega) (by omega)
      · skip
        refine z_lload 58 C dX7_dominant_58 0 rfl ?_
        refine z_lstore 60 C dX7_dominant_60 [(4, .long (z_sg (σ.2 (10 + (o + u) % 21)) (a + 1 + d))), (7, .long (z_sg (σ.2 (10 + (o + u) % 21)) (a + 1 + d))), (0, .ref (z_ad G 0)), (1, .int (nI a)), (2, .ref (z_ad G (10 + (o + u) % 21))), (3, .int (nI (z_dm (σ.2 (10 + (o + u) % 21)) a d))), (6, .int (nI (a + 1 + d)))] (by decide) rfl ?_
        refine z_iload 62 C dX7_dominant_62 6 rfl ?_
        refine z_istore_n 64 C dX7_dominant_64 [(3, .int (nI (a + 1 + d))), (4, .long (z_sg (σ.2 (10 + (o + u) % 21)) (a + 1 + d))), (7, .long (z_sg (σ.2 (10 + (o + u) % 21)) (a + 1 + d))), (0, .ref (z_ad G 0)), (1, .int (nI a)), (2, .ref (z_ad G (10 + (o + u) % 21))), (6, .int (nI (a + 1 + d)))] (by decide) rfl ?_
        refine z_iincN 65 C 6 (a + 1 + d) [(6, .int (nI (a + 1 + d + 1))), (3, .int (nI (a + 1 + d))), (4, .long (z_sg (σ.2 (10 + (o + u) % 21)) (a + 1 + d))), (7, .long (z_sg (σ.2 (10 + (o + u) % 21)) (a + 1 + d))), (0, .ref (z_ad G 0)), (1, .int (nI a)), (2, .ref (z_ad G (10 + (o + u) % 21)))] rfl rfl (by decide) rfl dX7_dominant_65 ?_
        refine z_goto 68 C 35 dX7_dominant_68 (by decide) ?_
        refine z_sub [4, 5, 6, 1, 2, 0] (lv1 := [(0, .ref (z_ad G 0)), (1, .int (nI a)), (2, .ref (z_ad G (10 + (o + u) % 21))), (3, .int (nI (a + 1 + d))), (4, .long (z_sg (σ.2 (10 + (o + u) % 21)) (a + 1 + d))), (6, .int (nI (a + 1 + d + 1)))]) rfl ?_
        refine z_cv (lv1 := [(0, .ref (z_ad G 0)), (1, .int (nI a)), (2, .ref (z_ad G (10 + (o + u) % 21))), (3, .int (nI (z_dm (σ.2 (10 + (o + u) % 21)) a (d + 1)))), (4, .long (z_sg (σ.2 (10 + (o + u) % 21)) (z_dm (σ.2 (10 + (o + u) % 21)) a (d + 1)))), (6, .int (nI (a + 1 + (d + 1))))]) (st1 := []) (σ1 := σ) (by first | rw [z_dm_n (Int64.not_lt.mpr c54)] <;> rfl | rw [z_dm_s (Int64.not_le.mp c54)] <;> rfl) rfl rfl ?_
        exact ih_35 (d + 1) (by omega) (by omega)
  · skip
    refine z_ldc 10 C dX7_dominant_10 q371 ?_
    refine z_iret 12 C dX7_dominant_12 ?_
    exact ⟨z_ci (by rw [if_pos c7]), rfl⟩
theorem dX7_storeTrace_0 : decode cX7_storeTrace 0 = .ok (.iload_n 1, 1) := by decide +kernel
theorem dX7_storeTrace_1 : decode cX7_storeTrace 1 = .ok (.iconst 0, 1) := by decide +kernel
theorem dX7_storeTrace_2 : decode cX7_storeTrace 2 = .ok (.bipush 100, 2) := by decide +kernel
theorem dX7_storeTrace_4 : decode cX7_storeTrace 4 = .ok (.invokestatic 77, 3) := by decide +kernel
theorem dX7_storeTrace_7 : decode cX7_storeTrace 7 = .ok (.ifCond .ne 14, 3) := by decide +kernel
theorem dX7_storeTrace_10 : decode cX7_storeTrace 10 = .ok (.aload_n 0, 1) := by decide +kernel
theorem dX7_storeTrace_11 : decode cX7_storeTrace 11 = .ok (.getfield 41, 3) := by decide +kernel
theorem dX7_storeTrace_14 : decode cX7_storeTrace 14 = .ok (.iload_n 1, 1) := by decide +kernel
theorem dX7_storeTrace_15 : decode cX7_storeTrace 15 = .ok (.invokevirtual 233, 3) := by decide +kernel
theorem dX7_storeTrace_18 : decode cX7_storeTrace 18 = .ok (.ifCond .eq 6, 3) := by decide +kernel
theorem dX7_storeTrace_21 : decode cX7_storeTrace 21 = .ok (.ldc 68, 2) := by decide +kernel
theorem dX7_storeTrace_23 : decode cX7_storeTrace 23 = .ok (.ireturn, 1) := by decide +kernel
theorem dX7_storeTrace_24 : decode cX7_storeTrace 24 = .ok (.aload_n 0, 1) := by decide +kernel
theorem dX7_storeTrace_25 : decode cX7_storeTrace 25 = .ok (.getfield 41, 3) := by decide +kernel
theorem dX7_storeTrace_28 : decode cX7_storeTrace 28 = .ok (.getfield 236, 3) := by decide +kernel
theorem dX7_storeTrace_31 : decode cX7_storeTrace 31 = .ok (.bipush 6, 2) := by decide +kernel
theorem dX7_storeTrace_33 : decode cX7_storeTrace 33 = .ok (.if_icmp .ne 6, 3) := by decide +kernel
theorem dX7_storeTrace_36 : decode cX7_storeTrace 36 = .ok (.ldc 237, 2) := by decide +kernel
theorem dX7_storeTrace_38 : decode cX7_storeTrace 38 = .ok (.ireturn, 1) := by decide +kernel
theorem dX7_storeTrace_39 : decode cX7_storeTrace 39 = .ok (.aload_n 0, 1) := by decide +kernel
theorem dX7_storeTrace_40 : decode cX7_storeTrace 40 = .ok (.getfield 41, 3) := by decide +kernel
theorem dX7_storeTrace_43 : decode cX7_storeTrace 43 = .ok (.aload_n 0, 1) := by decide +kernel
theorem dX7_storeTrace_44 : decode cX7_storeTrace 44 = .ok (.getfield 28, 3) := by decide +kernel
theorem dX7_storeTrace_47 : decode cX7_storeTrace 47 = .ok (.invokevirtual 140, 3) := by decide +kernel
theorem dX7_storeTrace_50 : decode cX7_storeTrace 50 = .ok (.iload_n 1, 1) := by decide +kernel
theorem dX7_storeTrace_51 : decode cX7_storeTrace 51 = .ok (.invokevirtual 238, 3) := by decide +kernel
theorem dX7_storeTrace_54 : decode cX7_storeTrace 54 = .ok (.aload_n 0, 1) := by decide +kernel
theorem dX7_storeTrace_55 : decode cX7_storeTrace 55 = .ok (.getfield 41, 3) := by decide +kernel
theorem dX7_storeTrace_58 : decode cX7_storeTrace 58 = .ok (.getfield 236, 3) := by decide +kernel
theorem dX7_storeTrace_61 : decode cX7_storeTrace 61 = .ok (.iconst 1, 1) := by decide +kernel
theorem dX7_storeTrace_62 : decode cX7_storeTrace 62 = .ok (.isub, 1) := by decide +kernel
theorem dX7_storeTrace_63 : decode cX7_storeTrace 63 = .ok (.ireturn, 1) := by decide +kernel
set_option maxRecDepth 100000 in
set_option maxHeartbeats 4000000 in
theorem m_X7_storeTrace {l : Launch} {G : z_Gl} {σ : z_St} (P n o u v w rc tl : Nat) (hI : z_inv σ P n o u v w rc tl) (x : Int32) : z_M l G yX7_storeTrace cX7_storeTrace 2 (some .int) (z_rm 4 90) [.ref (z_ad G 0), .int x] σ (z_p1 (.int (if x < nI 0 ∨ nI 100 < x then (-1000001) else if ¬ ∀ j, j < w → ¬ σ.1 40 j = x then (-1000001) else if w = 6 then (-1000004) else nI w)) (if x < nI 0 ∨ nI 100 < x then σ else if ¬ ∀ j, j < w → ¬ σ.1 40 j = x then σ else if w = 6 then σ else z_ui (z_ul (z_ul (z_ul (z_ui (z_uL σ (34 + w) (va_cpy (σ.2 (10 + (o + u) % 21)) (σ.2 (34 + w)) 0 0 24)) 40 w x) 41 w (z_cf (σ.2 (10 + (o + u) % 21)) 0 1)) 42 w (z_cf (σ.2 (10 + (o + u) % 21)) 1 1)) 43 w (z_cf (σ.2 (10 + (o + u) % 21)) 0 0)) 32 5 (nI (w + 1)))) := by
  refine z_M.of (by decide) (Nat.le_of_ble_eq_true rfl) (fun p e s m below meth c C => ?_)
  refine z_sub [0, 1] (lv1 := [(0, .ref (z_ad G 0)), (1, .int x)]) rfl ?_
  have hI0 := hI
  obtain ⟨⟨hP, hn, ho, hu, hv, hw, hrc, htl⟩, hPs, hnP, ho21, huv, hw6, hrc8, htl2⟩ := hI0
  have h0 : 0 < P := by omega
  have h12 : P ≤ 12 := by omega
  have h288 : n ≤ 288 := by omega
  refine z_iload_n 0 C dX7_storeTrace_0 1 rfl ?_
  refine z_iconst 1 C dX7_storeTrace_1 (nI 0) rfl ?_
  refine z_bipush 2 C dX7_storeTrace_2 (nI 100) rfl ?_
  refine z_callS 4 C (As := [.int x, .int (nI 0), .int (nI 100)]) (rest := []) (m_X7_isOutside x (nI 0) (nI 100)) k_X7_isOutside q380 ⟨rfl, rfl⟩ ⟨Nat.le_of_ble_eq_true rfl, Nat.le_of_ble_eq_true rfl⟩ rfl (Nat.le_of_ble_eq_true rfl) ⟨Nat.le_of_ble_eq_true rfl, Nat.le_of_ble_eq_true rfl⟩ rfl dX7_storeTrace_4 (z_k1 ?_)
  refine z_if_neb 7 C 21 dX7_storeTrace_7 (by decide) (fun c7 => ?_) (fun c7 => ?_)
  · skip
    refine z_ldc 21 C dX7_storeTrace_21 q371 ?_
    refine z_iret 23 C dX7_storeTrace_23 ?_
    refine ⟨?_, ?_⟩
    · (rw [if_pos (c7)]) <;> (try rfl)
    · first | rfl | ((rw [if_pos (c7)]) <;> (try rfl))
  · skip
    refine z_aload_n 10 C dX7_storeTrace_10 0 rfl ?_
    refine z_getf 11 C 0 z_dX7 (⟨rfl, rfl⟩) 4 (by decide) q343 (.ref (z_ad G 32)) rfl dX7_storeTrace_11 ?_
    refine z_iload_n 14 C dX7_storeTrace_14 1 rfl ?_
    refine z_callVN 15 C 32 (⟨rfl, rfl⟩) rfl (As := [.int x]) (rest := []) (m_X6_hasHeight w hw (by omega) x) k_X6_hasHeight (List.mem_of_getElem? (i := 39) rfl) ⟨rfl, rfl⟩ ⟨Nat.le_of_ble_eq_true rfl, Nat.le_of_ble_eq_true rfl⟩ rfl (Nat.le_of_ble_eq_true rfl) ⟨Nat.le_of_ble_eq_true rfl, Nat.le_of_ble_eq_true rfl⟩ rfl dX7_storeTrace_15 (z_k1 ?_)
    refine z_if_eqb 18 C 24 dX7_storeTrace_18 (by decide) (fun c18 => ?_) (fun c18 => ?_)
    · skip
      refine z_aload_n 24 C dX7_storeTrace_24 0 rfl ?_
      refine z_getf 25 C 0 z_dX7 (⟨rfl, rfl⟩) 4 (by decide) q343 (.ref (z_ad G 32)) rfl dX7_storeTrace_25 ?_
      refine z_getfN 28 C 32 z_dX6 (⟨rfl, rfl⟩) 5 (by decide) (List.mem_of_getElem? (i := 9) rfl) (.int (nI w)) (z_ci hw) dX7_storeTrace_28 ?_
      refine z_bipush 31 C dX7_storeTrace_31 (nI 6) rfl ?_
      refine z_icmp_neN 33 C w 6 rfl rfl (by omega) (by omega) 39 dX7_storeTrace_33 (by decide) (fun c33 => ?_) (fun c33 => ?_)
      · skip
        refine z_aload_n 39 C dX7_storeTrace_39 0 rfl ?_
        refine z_getf 40 C 0 z_dX7 (⟨rfl, rfl⟩) 4 (by decide) q343 (.ref (z_ad G 32)) rfl dX7_storeTrace_40 ?_
        refine z_aload_n 43 C dX7_storeTrace_43 0 rfl ?_
        refine z_getf 44 C 0 z_dX7 (⟨rfl, rfl⟩) 2 (by decide) q341 (.ref (z_ad G 8)) rfl dX7_storeTrace_44 ?_
        refine z_callVN 47 C 8 (⟨rfl, rfl⟩) rfl (As := []) (rest := [.ref (z_ad G 32)]) (m_X1_present o u ho hu (by omega) (by omega)) k_X1_present (List.mem_of_getElem? (i := 28) rfl) ⟨rfl, rfl⟩ ⟨Nat.le_of_ble_eq_true rfl, Nat.le_of_ble_eq_true rfl⟩ rfl (Nat.le_of_ble_eq_true rfl) ⟨Nat.le_of_ble_eq_true rfl, Nat.le_of_ble_eq_true rfl⟩ rfl dX7_storeTrace_47 (z_k1 ?_)
        refine z_iload_n 50 C dX7_storeTrace_50 1 rfl ?_
        refine z_callVN 51 C 32 (⟨rfl, rfl⟩) rfl (As := [.ref (z_ad G (10 + (o + u) % 21)), .int x]) (rest := []) (m_X6_append w hw (by omega) (10 + (o + u) % 21) (z_rgK _ (by omega)) (by omega) x) k_X6_append (List.mem_of_getElem? (i := 40) rfl) ⟨rfl, rfl⟩ ⟨Nat.le_of_ble_eq_true rfl, Nat.le_of_ble_eq_true rfl⟩ rfl (Nat.le_of_ble_eq_true rfl) ⟨Nat.le_of_ble_eq_true rfl, Nat.le_of_ble_eq_true rfl⟩ rfl dX7_storeTrace_51 (z_k0 ?_)
        refine z_aload_n 54 C dX7_storeTrace_54 0 rfl ?_
        refine z_getf 55 C 0 z_dX7 (⟨rfl, rfl⟩) 4 (by decide) q343 (.ref (z_ad G 32)) rfl dX7_storeTrace_55 ?_
        refine z_getfN 58 C 32 z_dX6 (⟨rfl, rfl⟩) 5 (by decide) (List.mem_of_getElem? (i := 9) rfl) (.int (nI (w + 1))) rfl dX7_storeTrace_58 ?_
        refine z_iconst 61 C dX7_storeTrace_61 (nI 1) rfl ?_
        refine z_isubN 62 C (w + 1) 1 rfl rfl (by omega) dX7_storeTrace_62 ?_
        refine z_iret 63 C dX7_storeTrace_63 ?_
        refine ⟨?_, ?_⟩
        · (rw [if_neg (c7), if_neg (c18), if_neg (c33)]) <;> (try rfl)
        · first | rfl | ((rw [if_neg (c7), if_neg (c18), if_neg (c33)]) <;> (try rfl))
      · skip
        refine z_ldc 36 C dX7_storeTrace_36 q748 ?_
        refine z_iret 38 C dX7_storeTrace_38 ?_
        refine ⟨?_, ?_⟩
        · (rw [if_neg (c7), if_neg (c18), if_pos (c33)]) <;> (try rfl)
        · first | rfl | ((rw [if_neg (c7), if_neg (c18), if_pos (c33)]) <;> (try rfl))
    · skip
      refine z_ldc 21 C dX7_storeTrace_21 q371 ?_
      refine z_iret 23 C dX7_storeTrace_23 ?_
      refine ⟨?_, ?_⟩
      · (rw [if_neg (c7), if_pos (c18)]) <;> (try rfl)
      · first | rfl | ((rw [if_neg (c7), if_pos (c18)]) <;> (try rfl))
theorem dX7_removeTraces_0 : decode cX7_removeTraces 0 = .ok (.iload_n 1, 1) := by decide +kernel
theorem dX7_removeTraces_1 : decode cX7_removeTraces 1 = .ok (.iconst 0, 1) := by decide +kernel
theorem dX7_removeTraces_2 : decode cX7_removeTraces 2 = .ok (.aload_n 0, 1) := by decide +kernel
theorem dX7_removeTraces_3 : decode cX7_removeTraces 3 = .ok (.getfield 41, 3) := by decide +kernel
theorem dX7_removeTraces_6 : decode cX7_removeTraces 6 = .ok (.getfield 236, 3) := by decide +kernel
theorem dX7_removeTraces_9 : decode cX7_removeTraces 9 = .ok (.invokestatic 77, 3) := by decide +kernel
theorem dX7_removeTraces_12 : decode cX7_removeTraces 12 = .ok (.ifCond .eq 6, 3) := by decide +kernel
theorem dX7_removeTraces_15 : decode cX7_removeTraces 15 = .ok (.ldc 68, 2) := by decide +kernel
theorem dX7_removeTraces_17 : decode cX7_removeTraces 17 = .ok (.ireturn, 1) := by decide +kernel
theorem dX7_removeTraces_18 : decode cX7_removeTraces 18 = .ok (.aload_n 0, 1) := by decide +kernel
theorem dX7_removeTraces_19 : decode cX7_removeTraces 19 = .ok (.getfield 41, 3) := by decide +kernel
theorem dX7_removeTraces_22 : decode cX7_removeTraces 22 = .ok (.dup, 1) := by decide +kernel
theorem dX7_removeTraces_23 : decode cX7_removeTraces 23 = .ok (.getfield 236, 3) := by decide +kernel
theorem dX7_removeTraces_26 : decode cX7_removeTraces 26 = .ok (.iload_n 1, 1) := by decide +kernel
theorem dX7_removeTraces_27 : decode cX7_removeTraces 27 = .ok (.isub, 1) := by decide +kernel
theorem dX7_removeTraces_28 : decode cX7_removeTraces 28 = .ok (.putfield 236, 3) := by decide +kernel
theorem dX7_removeTraces_31 : decode cX7_removeTraces 31 = .ok (.aload_n 0, 1) := by decide +kernel
theorem dX7_removeTraces_32 : decode cX7_removeTraces 32 = .ok (.getfield 41, 3) := by decide +kernel
theorem dX7_removeTraces_35 : decode cX7_removeTraces 35 = .ok (.getfield 236, 3) := by decide +kernel
theorem dX7_removeTraces_38 : decode cX7_removeTraces 38 = .ok (.ireturn, 1) := by decide +kernel
set_option maxRecDepth 100000 in
set_option maxHeartbeats 4000000 in
theorem m_X7_removeTraces {l : Launch} {G : z_Gl} {σ : z_St} (P n o u v w rc tl : Nat) (hI : z_inv σ P n o u v w rc tl) (x : Int32) : z_M l G yX7_removeTraces cX7_removeTraces 2 (some .int) (z_rm 1 22) [.ref (z_ad G 0), .int x] σ (z_p1 (.int (if x < nI 0 ∨ nI w < x then (-1000001) else nI (w - z_n x))) (if x < nI 0 ∨ nI w < x then σ else z_ui σ 32 5 (nI (w - z_n x)))) := by
  refine z_M.of (by decide) (Nat.le_of_ble_eq_true rfl) (fun p e s m below meth c C => ?_)
  refine z_sub [0, 1] (lv1 := [(0, .ref (z_ad G 0)), (1, .int x)]) rfl ?_
  have hI0 := hI
  obtain ⟨⟨hP, hn, ho, hu, hv, hw, hrc, htl⟩, hPs, hnP, ho21, huv, hw6, hrc8, htl2⟩ := hI0
  have h0 : 0 < P := by omega
  have h12 : P ≤ 12 := by omega
  have h288 : n ≤ 288 := by omega
  refine z_iload_n 0 C dX7_removeTraces_0 1 rfl ?_
  refine z_iconst 1 C dX7_removeTraces_1 (nI 0) rfl ?_
  refine z_aload_n 2 C dX7_removeTraces_2 0 rfl ?_
  refine z_getf 3 C 0 z_dX7 (⟨rfl, rfl⟩) 4 (by decide) q343 (.ref (z_ad G 32)) rfl dX7_removeTraces_3 ?_
  refine z_getfN 6 C 32 z_dX6 (⟨rfl, rfl⟩) 5 (by decide) (List.mem_of_getElem? (i := 9) rfl) (.int (nI w)) (z_ci hw) dX7_removeTraces_6 ?_
  refine z_callS 9 C (As := [.int x, .int (nI 0), .int (nI w)]) (rest := []) (m_X7_isOutside x (nI 0) (nI w)) k_X7_isOutside q380 ⟨rfl, rfl⟩ ⟨Nat.le_of_ble_eq_true rfl, Nat.le_of_ble_eq_true rfl⟩ rfl (Nat.le_of_ble_eq_true rfl) ⟨Nat.le_of_ble_eq_true rfl, Nat.le_of_ble_eq_true rfl⟩ rfl dX7_removeTraces_9 (z_k1 ?_)
  refine z_if_eqb 12 C 18 dX7_removeTraces_12 (by decide) (fun c12 => ?_) (fun c12 => ?_)
  · skip
    obtain ⟨a, ha, rfl⟩ := z_in0 (by omega) c12
    refine z_aload_n 18 C dX7_removeTraces_18 0 rfl ?_
    refine z_getf 19 C 0 z_dX7 (⟨rfl, rfl⟩) 4 (by decide) q343 (.ref (z_ad G 32)) rfl dX7_removeTraces_19 ?_
    refine z_dup 22 C dX7_removeTraces_22 rfl ?_
    refine z_getfN 23 C 32 z_dX6 (⟨rfl, rfl⟩) 5 (by decide) (List.mem_of_getElem? (i := 9) rfl) (.int (nI w)) (z_ci hw) dX7_removeTraces_23 ?_
    refine z_iload_n 26 C dX7_removeTraces_26 1 rfl ?_
    refine z_isubN 27 C w a rfl rfl (ha) dX7_removeTraces_27 ?_
    refine z_putiN 28 C 32 z_dX6 (⟨rfl, rfl⟩) 5 (by decide) (List.mem_of_getElem? (i := 9) rfl) rfl (rfl) rfl ⟨Nat.le_of_ble_eq_true rfl, rfl⟩ dX7_removeTraces_28 ?_
    refine z_aload_n 31 C dX7_removeTraces_31 0 rfl ?_
    refine z_getf 32 C 0 z_dX7 (⟨rfl, rfl⟩) 4 (by decide) q343 (.ref (z_ad G 32)) rfl dX7_removeTraces_32 ?_
    refine z_getfN 35 C 32 z_dX6 (⟨rfl, rfl⟩) 5 (by decide) (List.mem_of_getElem? (i := 9) rfl) (.int (nI (w - a))) rfl dX7_removeTraces_35 ?_
    refine z_iret 38 C dX7_removeTraces_38 ?_
    refine ⟨?_, ?_⟩
    · (rw [if_neg (c12), z_nk (k := a) (by omega)]) <;> (try rfl)
    · first | rfl | ((rw [if_neg (c12), z_nk (k := a) (by omega)]) <;> (try rfl))
  · skip
    refine z_ldc 15 C dX7_removeTraces_15 q371 ?_
    refine z_iret 17 C dX7_removeTraces_17 ?_
    refine ⟨?_, ?_⟩
    · (rw [if_pos (c12)]) <;> (try rfl)
    · first | rfl | ((rw [if_pos (c12)]) <;> (try rfl))
theorem dX7_recall_0 : decode cX7_recall 0 = .ok (.aload_n 0, 1) := by decide +kernel
theorem dX7_recall_1 : decode cX7_recall 1 = .ok (.getfield 41, 3) := by decide +kernel
theorem dX7_recall_4 : decode cX7_recall 4 = .ok (.iload_n 1, 1) := by decide +kernel
theorem dX7_recall_5 : decode cX7_recall 5 = .ok (.invokevirtual 241, 3) := by decide +kernel
theorem dX7_recall_8 : decode cX7_recall 8 = .ok (.ifCond .eq 6, 3) := by decide +kernel
theorem dX7_recall_11 : decode cX7_recall 11 = .ok (.ldc 68, 2) := by decide +kernel
theorem dX7_recall_13 : decode cX7_recall 13 = .ok (.ireturn, 1) := by decide +kernel
theorem dX7_recall_14 : decode cX7_recall 14 = .ok (.aload_n 0, 1) := by decide +kernel
theorem dX7_recall_15 : decode cX7_recall 15 = .ok (.getfield 41, 3) := by decide +kernel
theorem dX7_recall_18 : decode cX7_recall 18 = .ok (.getfield 244, 3) := by decide +kernel
theorem dX7_recall_21 : decode cX7_recall 21 = .ok (.iload_n 1, 1) := by decide +kernel
theorem dX7_recall_22 : decode cX7_recall 22 = .ok (.aaload, 1) := by decide +kernel
theorem dX7_recall_23 : decode cX7_recall 23 = .ok (.iconst 0, 1) := by decide +kernel
theorem dX7_recall_24 : decode cX7_recall 24 = .ok (.aload_n 0, 1) := by decide +kernel
theorem dX7_recall_25 : decode cX7_recall 25 = .ok (.getfield 59, 3) := by decide +kernel
theorem dX7_recall_28 : decode cX7_recall 28 = .ok (.iconst 0, 1) := by decide +kernel
theorem dX7_recall_29 : decode cX7_recall 29 = .ok (.bipush 24, 2) := by decide +kernel
theorem dX7_recall_31 : decode cX7_recall 31 = .ok (.invokestatic 248, 3) := by decide +kernel
theorem dX7_recall_34 : decode cX7_recall 34 = .ok (.aload_n 0, 1) := by decide +kernel
theorem dX7_recall_35 : decode cX7_recall 35 = .ok (.invokevirtual 137, 3) := by decide +kernel
theorem dX7_recall_38 : decode cX7_recall 38 = .ok (.ireturn, 1) := by decide +kernel
set_option maxRecDepth 100000 in
set_option maxHeartbeats 4000000 in
theorem m_X7_recall {l : Launch} {G : z_Gl} {σ : z_St} (P n o u v w rc tl : Nat) (hI : z_inv σ P n o u v w rc tl) (x : Int32) : z_M l G yX7_recall cX7_recall 2 (some .int) (z_rm 3 82) [.ref (z_ad G 0), .int x] σ (z_p1 (.int (if x < nI 0 ∨ nI w - nI 1 < x then (-1000001) else z_bo (¬ z_eq24 (σ.2 (10 + (o + u) % 21)) (z_fil (σ.2 (34 + z_n x)) (σ.2 88) 24)))) (if x < nI 0 ∨ nI w - nI 1 < x then σ else z_nx σ o u (z_fil (σ.2 (34 + z_n x)) (σ.2 88) 24))) := by
  refine z_M.of (by decide) (Nat.le_of_ble_eq_true rfl) (fun p e s m below meth c C => ?_)
  refine z_sub [0, 1] (lv1 := [(0, .ref (z_ad G 0)), (1, .int x)]) rfl ?_
  have hI0 := hI
  obtain ⟨⟨hP, hn, ho, hu, hv, hw, hrc, htl⟩, hPs, hnP, ho21, huv, hw6, hrc8, htl2⟩ := hI0
  have h0 : 0 < P := by omega
  have h12 : P ≤ 12 := by omega
  have h288 : n ≤ 288 := by omega
  refine z_aload_n 0 C dX7_recall_0 0 rfl ?_
  refine z_getf 1 C 0 z_dX7 (⟨rfl, rfl⟩) 4 (by decide) q343 (.ref (z_ad G 32)) rfl dX7_recall_1 ?_
  refine z_iload_n 4 C dX7_recall_4 1 rfl ?_
  refine z_callVN 5 C 32 (⟨rfl, rfl⟩) rfl (As := [.int x]) (rest := []) (m_X6_lacks w hw x) k_X6_lacks (List.mem_of_getElem? (i := 42) rfl) ⟨rfl, rfl⟩ ⟨Nat.le_of_ble_eq_true rfl, Nat.le_of_ble_eq_true rfl⟩ rfl (Nat.le_of_ble_eq_true rfl) ⟨Nat.le_of_ble_eq_true rfl, Nat.le_of_ble_eq_true rfl⟩ rfl dX7_recall_5 (z_k1 ?_)
  refine z_if_eqb 8 C 14 dX7_recall_8 (by decide) (fun c8 => ?_) (fun c8 => ?_)
  · skip
    obtain ⟨a, ha, rfl⟩ := z_inw (by omega) c8
    refine z_aload_n 14 C dX7_recall_14 0 rfl ?_
    refine z_getf 15 C 0 z_dX7 (⟨rfl, rfl⟩) 4 (by decide) q343 (.ref (z_ad G 32)) rfl dX7_recall_15 ?_
    refine z_getfN 18 C 32 z_dX6 (⟨rfl, rfl⟩) 0 (by decide) (List.mem_of_getElem? (i := 4) rfl) (.ref (z_ad G 33)) rfl dX7_recall_18 ?_
    refine z_iload_n 21 C dX7_recall_21 1 rfl ?_
    refine z_aaldN 22 C 33 (n := 6) ⟨Or.inr rfl, rfl⟩ a (34 + a) rfl (by omega) (by decide) rfl dX7_recall_22 ?_
    refine z_iconst 23 C dX7_recall_23 (nI 0) rfl ?_
    refine z_aload_n 24 C dX7_recall_24 0 rfl ?_
    refine z_getf 25 C 0 z_dX7 (⟨rfl, rfl⟩) 7 (by decide) q346 (.ref (z_ad G 88)) rfl dX7_recall_25 ?_
    refine z_iconst 28 C dX7_recall_28 (nI 0) rfl ?_
    refine z_bipush 29 C dX7_recall_29 (nI 24) rfl ?_
    refine z_cpyl 31 C (34 + a) 88 (n0 := 24) (n1 := 24) (z_trK _ (by omega)) (⟨rfl, rfl⟩) q768 0 0 24 rfl rfl rfl (by omega) (by omega) (by decide) (by decide) (Nat.le_of_ble_eq_true rfl) (Nat.le_of_ble_eq_true rfl) dX7_recall_31 ?_
    refine z_cv (lv1 := [(0, .ref (z_ad G 0)), (1, .int (nI a))]) (st1 := []) (σ1 := z_uL σ 88 (z_fil (σ.2 (34 + a)) (σ.2 88) 24)) rfl rfl (by rw [z_cpy24]) ?_
    refine z_aload_n 34 C dX7_recall_34 0 rfl ?_
    refine z_callV 35 C 0 (⟨rfl, rfl⟩) rfl (As := []) (rest := []) (@m_X7_makeNextPresent_F _ _ σ P n o u v w rc tl hI (z_fil (σ.2 (34 + a)) (σ.2 88) 24)) k_X7_makeNextPresent q538 ⟨rfl, rfl⟩ ⟨Nat.le_of_ble_eq_true rfl, Nat.le_of_ble_eq_true rfl⟩ rfl (Nat.le_of_ble_eq_true rfl) ⟨Nat.le_of_ble_eq_true rfl, Nat.le_of_ble_eq_true rfl⟩ rfl dX7_recall_35 (z_k1 ?_)
    refine z_iret 38 C dX7_recall_38 ?_
    refine ⟨?_, ?_⟩
    · (rw [if_neg (c8), z_nk (k := a) (by omega)]) <;> (try rfl)
    · first | rfl | ((rw [if_neg (c8), z_nk (k := a) (by omega)]) <;> (try rfl))
  · skip
    refine z_ldc 11 C dX7_recall_11 q371 ?_
    refine z_iret 13 C dX7_recall_13 ?_
    refine ⟨?_, ?_⟩
    · (rw [if_pos (c8)]) <;> (try rfl)
    · first | rfl | ((rw [if_pos (c8)]) <;> (try rfl))
theorem dX7_traceValue_0 : decode cX7_traceValue 0 = .ok (.aload_n 0, 1) := by decide +kernel
theorem dX7_traceValue_1 : decode cX7_traceValue 1 = .ok (.getfield 41, 3) := by decide +kernel
theorem dX7_traceValue_4 : decode cX7_traceValue 4 = .ok (.iload_n 1, 1) := by decide +kernel
theorem dX7_traceValue_5 : decode cX7_traceValue 5 = .ok (.invokevirtual 241, 3) := by decide +kernel
theorem dX7_traceValue_8 : decode cX7_traceValue 8 = .ok (.ifCond .eq 7, 3) := by decide +kernel
theorem dX7_traceValue_11 : decode cX7_traceValue 11 = .ok (.ldc2_w 117, 3) := by decide +kernel
theorem dX7_traceValue_14 : decode cX7_traceValue 14 = .ok (.lreturn, 1) := by decide +kernel
theorem dX7_traceValue_15 : decode cX7_traceValue 15 = .ok (.iload_n 2, 1) := by decide +kernel
theorem dX7_traceValue_16 : decode cX7_traceValue 16 = .ok (.tableswitch 73 0 3 #[32, 43, 53, 63], 32) := by decide +kernel
theorem dX7_traceValue_48 : decode cX7_traceValue 48 = .ok (.aload_n 0, 1) := by decide +kernel
theorem dX7_traceValue_49 : decode cX7_traceValue 49 = .ok (.getfield 41, 3) := by decide +kernel
theorem dX7_traceValue_52 : decode cX7_traceValue 52 = .ok (.getfield 254, 3) := by decide +kernel
theorem dX7_traceValue_55 : decode cX7_traceValue 55 = .ok (.iload_n 1, 1) := by decide +kernel
theorem dX7_traceValue_56 : decode cX7_traceValue 56 = .ok (.iaload, 1) := by decide +kernel
theorem dX7_traceValue_57 : decode cX7_traceValue 57 = .ok (.i2l, 1) := by decide +kernel
theorem dX7_traceValue_58 : decode cX7_traceValue 58 = .ok (.lreturn, 1) := by decide +kernel
theorem dX7_traceValue_59 : decode cX7_traceValue 59 = .ok (.aload_n 0, 1) := by decide +kernel
theorem dX7_traceValue_60 : decode cX7_traceValue 60 = .ok (.getfield 41, 3) := by decide +kernel
theorem dX7_traceValue_63 : decode cX7_traceValue 63 = .ok (.getfield 258, 3) := by decide +kernel
theorem dX7_traceValue_66 : decode cX7_traceValue 66 = .ok (.iload_n 1, 1) := by decide +kernel
theorem dX7_traceValue_67 : decode cX7_traceValue 67 = .ok (.laload, 1) := by decide +kernel
theorem dX7_traceValue_68 : decode cX7_traceValue 68 = .ok (.lreturn, 1) := by decide +kernel
theorem dX7_traceValue_69 : decode cX7_traceValue 69 = .ok (.aload_n 0, 1) := by decide +kernel
theorem dX7_traceValue_70 : decode cX7_traceValue 70 = .ok (.getfield 41, 3) := by decide +kernel
theorem dX7_traceValue_73 : decode cX7_traceValue 73 = .ok (.getfield 261, 3) := by decide +kernel
theorem dX7_traceValue_76 : decode cX7_traceValue 76 = .ok (.iload_n 1, 1) := by decide +kernel
theorem dX7_traceValue_77 : decode cX7_traceValue 77 = .ok (.laload, 1) := by decide +kernel
theorem dX7_traceValue_78 : decode cX7_traceValue 78 = .ok (.lreturn, 1) := by decide +kernel
theorem dX7_traceValue_79 : decode cX7_traceValue 79 = .ok (.aload_n 0, 1) := by decide +kernel
theorem dX7_traceValue_80 : decode cX7_traceValue 80 = .ok (.getfield 41, 3) := by decide +kernel
theorem dX7_traceValue_83 : decode cX7_traceValue 83 = .ok (.getfield 264, 3) := by decide +kernel
theorem dX7_traceValue_86 : decode cX7_traceValue 86 = .ok (.iload_n 1, 1) := by decide +kernel
theorem dX7_traceValue_87 : decode cX7_traceValue 87 = .ok (.laload, 1) := by decide +kernel
theorem dX7_traceValue_88 : decode cX7_traceValue 88 = .ok (.lreturn, 1) := by decide +kernel
theorem dX7_traceValue_89 : decode cX7_traceValue 89 = .ok (.ldc2_w 117, 3) := by decide +kernel
theorem dX7_traceValue_92 : decode cX7_traceValue 92 = .ok (.lreturn, 1) := by decide +kernel
set_option maxRecDepth 100000 in
set_option maxHeartbeats 4000000 in
theorem m_X7_traceValue {l : Launch} {G : z_Gl} {σ : z_St} (P n o u v w rc tl : Nat) (hI : z_inv σ P n o u v w rc tl) (x : Int32) (y : Int32) : z_M l G yX7_traceValue cX7_traceValue 3 (some .long) (z_rm 2 43) [.ref (z_ad G 0), .int x, .int y] σ (z_p1 (.long (if x < nI 0 ∨ nI w - nI 1 < x then (-9223372036854775808) else if y = 0 then (σ.1 40 (z_n x)).toInt64 else if y = 1 then σ.2 41 (z_n x) else if y = 2 then σ.2 42 (z_n x) else if y = 3 then σ.2 43 (z_n x) else (-9223372036854775808))) σ) := by
  refine z_M.of (by decide) (Nat.le_of_ble_eq_true rfl) (fun p e s m below meth c C => ?_)
  refine z_sub [0, 1, 2] (lv1 := [(0, .ref (z_ad G 0)), (1, .int x), (2, .int y)]) rfl ?_
  have hI0 := hI
  obtain ⟨⟨hP, hn, ho, hu, hv, hw, hrc, htl⟩, hPs, hnP, ho21, huv, hw6, hrc8, htl2⟩ := hI0
  have h0 : 0 < P := by omega
  have h12 : P ≤ 12 := by omega
  have h288 : n ≤ 288 := by omega
  refine z_aload_n 0 C dX7_traceValue_0 0 rfl ?_
  refine z_getf 1 C 0 z_dX7 (⟨rfl, rfl⟩) 4 (by decide) q343 (.ref (z_ad G 32)) rfl dX7_traceValue_1 ?_
  refine z_iload_n 4 C dX7_traceValue_4 1 rfl ?_
  refine z_callVN 5 C 32 (⟨rfl, rfl⟩) rfl (As := [.int x]) (rest := []) (m_X6_lacks w hw x) k_X6_lacks (List.mem_of_getElem? (i := 42) rfl) ⟨rfl, rfl⟩ ⟨Nat.le_of_ble_eq_true rfl, Nat.le_of_ble_eq_true rfl⟩ rfl (Nat.le_of_ble_eq_true rfl) ⟨Nat.le_of_ble_eq_true rfl, Nat.le_of_ble_eq_true rfl⟩ rfl dX7_traceValue_5 (z_k1 ?_)
  refine z_if_eqb 8 C 15 dX7_traceValue_8 (by decide) (fun c8 => ?_) (fun c8 => ?_)
  · skip
    obtain ⟨a, ha, rfl⟩ := z_inw (by omega) c8
    refine z_iload_n 15 C dX7_traceValue_15 2 rfl ?_
    by_cases e16_0 : y = (0 : Int32)
    · skip
      refine z_tabIn 16 C 48 dX7_traceValue_16 (by rw [e16_0]; decide) (by rw [e16_0]; decide) (by rw [e16_0]; rfl) (by decide) ?_
      refine z_aload_n 48 C dX7_traceValue_48 0 rfl ?_
      refine z_getf 49 C 0 z_dX7 (⟨rfl, rfl⟩) 4 (by decide) q343 (.ref (z_ad G 32)) rfl dX7_traceValue_49 ?_
      refine z_getfN 52 C 32 z_dX6 (⟨rfl, rfl⟩) 1 (by decide) (List.mem_of_getElem? (i := 5) rfl) (.ref (z_ad G 40)) rfl dX7_traceValue_52 ?_
      refine z_iload_n 55 C dX7_traceValue_55 1 rfl ?_
      refine z_ialdN 56 C 40 (n := 6) (⟨rfl, rfl⟩) a rfl (by omega) (by decide) dX7_traceValue_56 ?_
      refine z_i2l 57 C dX7_traceValue_57 ?_
      refine z_lret 58 C dX7_traceValue_58 ?_
      exact ⟨z_cl (by rw [if_neg c8, if_pos e16_0, z_nk (k := a) (by omega)]), rfl⟩
    by_cases e16_1 : y = (1 : Int32)
    · skip
      refine z_tabIn 16 C 59 dX7_traceValue_16 (by rw [e16_1]; decide) (by rw [e16_1]; decide) (by rw [e16_1]; rfl) (by decide) ?_
      refine z_aload_n 59 C dX7_traceValue_59 0 rfl ?_
      refine z_getf 60 C 0 z_dX7 (⟨rfl, rfl⟩) 4 (by decide) q343 (.ref (z_ad G 32)) rfl dX7_traceValue_60 ?_
      refine z_getfN 63 C 32 z_dX6 (⟨rfl, rfl⟩) 2 (by decide) (List.mem_of_getElem? (i := 6) rfl) (.ref (z_ad G 41)) rfl dX7_traceValue_63 ?_
      refine z_iload_n 66 C dX7_traceValue_66 1 rfl ?_
      refine z_laldN 67 C 41 (n := 6) (⟨rfl, rfl⟩) a rfl (by omega) (by decide) dX7_traceValue_67 ?_
      refine z_lret 68 C dX7_traceValue_68 ?_
      exact ⟨z_cl (by rw [if_neg c8, if_neg e16_0, if_pos e16_1, z_nk (k := a) (by omega)]), rfl⟩
    by_cases e16_2 : y = (2 : Int32)
    · skip
      refine z_tabIn 16 C 69 dX7_traceValue_16 (by rw [e16_2]; decide) (by rw [e16_2]; decide) (by rw [e16_2]; rfl) (by decide) ?_
      refine z_aload_n 69 C dX7_traceValue_69 0 rfl ?_
      refine z_getf 70 C 0 z_dX7 (⟨rfl, rfl⟩) 4 (by decide) q343 (.ref (z_ad G 32)) rfl dX7_traceValue_70 ?_
      refine z_getfN 73 C 32 z_dX6 (⟨rfl, rfl⟩) 3 (by decide) (List.mem_of_getElem? (i := 7) rfl) (.ref (z_ad G 42)) rfl dX7_traceValue_73 ?_
      refine z_iload_n 76 C dX7_traceValue_76 1 rfl ?_
      refine z_laldN 77 C 42 (n := 6) (⟨rfl, rfl⟩) a rfl (by omega) (by decide) dX7_traceValue_77 ?_
      refine z_lret 78 C dX7_traceValue_78 ?_
      exact ⟨z_cl (by rw [if_neg c8, if_neg e16_0, if_neg e16_1, if_pos e16_2, z_nk (k := a) (by omega)]), rfl⟩
    by_cases e16_3 : y = (3 : Int32)
    · skip
      refine z_tabIn 16 C 79 dX7_traceValue_16 (by rw [e16_3]; decide) (by rw [e16_3]; decide) (by rw [e16_3]; rfl) (by decide) ?_
      refine z_aload_n 79 C dX7_traceValue_79 0 rfl ?_
      refine z_getf 80 C 0 z_dX7 (⟨rfl, rfl⟩) 4 (by decide) q343 (.ref (z_ad G 32)) rfl dX7_traceValue_80 ?_
      refine z_getfN 83 C 32 z_dX6 (⟨rfl, rfl⟩) 4 (by decide) (List.mem_of_getElem? (i := 8) rfl) (.ref (z_ad G 43)) rfl dX7_traceValue_83 ?_
      refine z_iload_n 86 C dX7_traceValue_86 1 rfl ?_
      refine z_laldN 87 C 43 (n := 6) (⟨rfl, rfl⟩) a rfl (by omega) (by decide) dX7_traceValue_87 ?_
      refine z_lret 88 C dX7_traceValue_88 ?_
      exact ⟨z_cl (by rw [if_neg c8, if_neg e16_0, if_neg e16_1, if_neg e16_2, if_pos e16_3, z_nk (k := a) (by omega)]), rfl⟩
    refine z_tabOut 16 C 89 dX7_traceValue_16 (z_tb4x e16_0 e16_1 e16_2 e16_3) (by decide) ?_
    refine z_ldc2 89 C dX7_traceValue_89 q475 ?_
    refine z_lret 92 C dX7_traceValue_92 ?_
    exact ⟨z_cl (by rw [if_neg c8, if_neg e16_0, if_neg e16_1, if_neg e16_2, if_neg e16_3]), rfl⟩
  · skip
    refine z_ldc2 11 C dX7_traceValue_11 q475 ?_
    refine z_lret 14 C dX7_traceValue_14 ?_
    exact ⟨z_cl (if_pos c8).symm, rfl⟩
theorem dX7_axis_0 : decode cX7_axis 0 = .ok (.iload_n 1, 1) := by decide +kernel
theorem dX7_axis_1 : decode cX7_axis 1 = .ok (.iconst 0, 1) := by decide +kernel
theorem dX7_axis_2 : decode cX7_axis 2 = .ok (.bipush 100, 2) := by decide +kernel
theorem dX7_axis_4 : decode cX7_axis 4 = .ok (.invokestatic 77, 3) := by decide +kernel
theorem dX7_axis_7 : decode cX7_axis 7 = .ok (.ifCond .ne 14, 3) := by decide +kernel
theorem dX7_axis_10 : decode cX7_axis 10 = .ok (.aload_n 0, 1) := by decide +kernel
theorem dX7_axis_11 : decode cX7_axis 11 = .ok (.getfield 41, 3) := by decide +kernel
theorem dX7_axis_14 : decode cX7_axis 14 = .ok (.getfield 236, 3) := by decide +kernel
theorem dX7_axis_17 : decode cX7_axis 17 = .ok (.iconst 2, 1) := by decide +kernel
theorem dX7_axis_18 : decode cX7_axis 18 = .ok (.if_icmp .ge 7, 3) := by decide +kernel
theorem dX7_axis_21 : decode cX7_axis 21 = .ok (.ldc2_w 117, 3) := by decide +kernel
theorem dX7_axis_24 : decode cX7_axis 24 = .ok (.lreturn, 1) := by decide +kernel
theorem dX7_axis_25 : decode cX7_axis 25 = .ok (.aload_n 0, 1) := by decide +kernel
theorem dX7_axis_26 : decode cX7_axis 26 = .ok (.getfield 41, 3) := by decide +kernel
theorem dX7_axis_29 : decode cX7_axis 29 = .ok (.iload_n 1, 1) := by decide +kernel
theorem dX7_axis_30 : decode cX7_axis 30 = .ok (.iload_n 2, 1) := by decide +kernel
theorem dX7_axis_31 : decode cX7_axis 31 = .ok (.invokevirtual 267, 3) := by decide +kernel
theorem dX7_axis_34 : decode cX7_axis 34 = .ok (.lreturn, 1) := by decide +kernel
set_option maxRecDepth 100000 in
set_option maxHeartbeats 4000000 in
theorem m_X7_axis {l : Launch} {G : z_Gl} {σ : z_St} (P n o u v w rc tl : Nat) (hI : z_inv σ P n o u v w rc tl) (x : Int32) (t : Nat) (ht : t < 2) (hpos : 2 ≤ w → 0 < z_den (σ.1 40) w) : z_M l G yX7_axis cX7_axis 3 (some .long) (z_rm 3 82) [.ref (z_ad G 0), .int x, .int (nI t)] σ (z_p1 (.long (if x < nI 0 ∨ nI 100 < x then (-9223372036854775808) else if ¬ 2 ≤ w then (-9223372036854775808) else z_ax (σ.1 40) (σ.2 (41 + t)) w x)) σ) := by
  refine z_M.of (by decide) (Nat.le_of_ble_eq_true rfl) (fun p e s m below meth c C => ?_)
  refine z_sub [0, 1, 2] (lv1 := [(0, .ref (z_ad G 0)), (1, .int x), (2, .int (nI t))]) rfl ?_
  have hI0 := hI
  obtain ⟨⟨hP, hn, ho, hu, hv, hw, hrc, htl⟩, hPs, hnP, ho21, huv, hw6, hrc8, htl2⟩ := hI0
  have h0 : 0 < P := by omega
  have h12 : P ≤ 12 := by omega
  have h288 : n ≤ 288 := by omega
  refine z_iload_n 0 C dX7_axis_0 1 rfl ?_
  refine z_iconst 1 C dX7_axis_1 (nI 0) rfl ?_
  refine z_bipush 2 C dX7_axis_2 (nI 100) rfl ?_
  refine z_callS 4 C (As := [.int x, .int (nI 0), .int (nI 100)]) (rest := []) (m_X7_isOutside x (nI 0) (nI 100)) k_X7_isOutside q380 ⟨rfl, rfl⟩ ⟨Nat.le_of_ble_eq_true rfl, Nat.le_of_ble_eq_true rfl⟩ rfl (Nat.le_of_ble_eq_true rfl) ⟨Nat.le_of_ble_eq_true rfl, Nat.le_of_ble_eq_true rfl⟩ rfl dX7_axis_4 (z_k1 ?_)
  refine z_if_neb 7 C 21 dX7_axis_7 (by decide) (fun c7 => ?_) (fun c7 => ?_)
  · skip
    refine z_ldc2 21 C dX7_axis_21 q475 ?_
    refine z_lret 24 C dX7_axis_24 ?_
    first | exact ⟨z_cl (by rw [if_pos c7]), rfl⟩ | exact ⟨z_cl (by rw [if_neg c7, if_pos (Nat.not_le.mpr c18)]), rfl⟩
  · skip
    refine z_aload_n 10 C dX7_axis_10 0 rfl ?_
    refine z_getf 11 C 0 z_dX7 (⟨rfl, rfl⟩) 4 (by decide) q343 (.ref (z_ad G 32)) rfl dX7_axis_11 ?_
    refine z_getfN 14 C 32 z_dX6 (⟨rfl, rfl⟩) 5 (by decide) (List.mem_of_getElem? (i := 9) rfl) (.int (nI w)) (z_ci hw) dX7_axis_14 ?_
    refine z_iconst 17 C dX7_axis_17 (nI 2) rfl ?_
    refine z_icmp_geN 18 C w 2 rfl rfl (by omega) (by omega) 25 dX7_axis_18 (by decide) (fun c18 => ?_) (fun c18 => ?_)
    · skip
      refine z_aload_n 25 C dX7_axis_25 0 rfl ?_
      refine z_getf 26 C 0 z_dX7 (⟨rfl, rfl⟩) 4 (by decide) q343 (.ref (z_ad G 32)) rfl dX7_axis_26 ?_
      refine z_iload_n 29 C dX7_axis_29 1 rfl ?_
      refine z_iload_n 30 C dX7_axis_30 2 rfl ?_
      refine z_callVN 31 C 32 (⟨rfl, rfl⟩) rfl (As := [.int x, .int (nI t)]) (rest := []) (m_X6_axisAt w hw (by omega) x t (by omega) (hpos c18)) k_X6_axisAt (List.mem_of_getElem? (i := 44) rfl) ⟨rfl, rfl⟩ ⟨Nat.le_of_ble_eq_true rfl, Nat.le_of_ble_eq_true rfl⟩ rfl (Nat.le_of_ble_eq_true rfl) ⟨Nat.le_of_ble_eq_true rfl, Nat.le_of_ble_eq_true rfl⟩ rfl dX7_axis_31 (z_k1 ?_)
      refine z_lret 34 C dX7_axis_34 ?_
      exact ⟨z_cl (by rw [if_neg c7, if_neg (fun z => z c18)]), rfl⟩
    · skip
      refine z_ldc2 21 C dX7_axis_21 q475 ?_
      refine z_lret 24 C dX7_axis_24 ?_
      first | exact ⟨z_cl (by rw [if_pos c7]), rfl⟩ | exact ⟨z_cl (by rw [if_neg c7, if_pos (Nat.not_le.mpr c18)]), rfl⟩
theorem dX7_farthestTrace_0 : decode cX7_farthestTrace 0 = .ok (.aload_n 0, 1) := by decide +kernel
theorem dX7_farthestTrace_1 : decode cX7_farthestTrace 1 = .ok (.getfield 41, 3) := by decide +kernel
theorem dX7_farthestTrace_4 : decode cX7_farthestTrace 4 = .ok (.getfield 236, 3) := by decide +kernel
theorem dX7_farthestTrace_7 : decode cX7_farthestTrace 7 = .ok (.iconst 2, 1) := by decide +kernel
theorem dX7_farthestTrace_8 : decode cX7_farthestTrace 8 = .ok (.if_icmp .ge 8, 3) := by decide +kernel
theorem dX7_farthestTrace_11 : decode cX7_farthestTrace 11 = .ok (.ldc 85, 2) := by decide +kernel
theorem dX7_farthestTrace_13 : decode cX7_farthestTrace 13 = .ok (.goto 10, 3) := by decide +kernel
theorem dX7_farthestTrace_16 : decode cX7_farthestTrace 16 = .ok (.aload_n 0, 1) := by decide +kernel
theorem dX7_farthestTrace_17 : decode cX7_farthestTrace 17 = .ok (.getfield 41, 3) := by decide +kernel
theorem dX7_farthestTrace_20 : decode cX7_farthestTrace 20 = .ok (.invokevirtual 274, 3) := by decide +kernel
theorem dX7_farthestTrace_23 : decode cX7_farthestTrace 23 = .ok (.ireturn, 1) := by decide +kernel
set_option maxRecDepth 100000 in
set_option maxHeartbeats 4000000 in
theorem m_X7_farthestTrace {l : Launch} {G : z_Gl} {σ : z_St} (P n o u v w rc tl : Nat) (hI : z_inv σ P n o u v w rc tl) (hpos : 2 ≤ w → 0 < z_den (σ.1 40) w) : z_M l G yX7_farthestTrace cX7_farthestTrace 1 (some .int) (z_rm 5 130) [.ref (z_ad G 0)] σ (z_p1 (.int (if 2 ≤ w then nI (z_bm (z_dfa (σ.1 40) (σ.2 41) (σ.2 42) w) w) else (-1000002))) σ) := by
  refine z_M.of (by decide) (Nat.le_of_ble_eq_true rfl) (fun p e s m below meth c C => ?_)
  refine z_sub [0] (lv1 := [(0, .ref (z_ad G 0))]) rfl ?_
  have hI0 := hI
  obtain ⟨⟨hP, hn, ho, hu, hv, hw, hrc, htl⟩, hPs, hnP, ho21, huv, hw6, hrc8, htl2⟩ := hI0
  have h0 : 0 < P := by omega
  have h12 : P ≤ 12 := by omega
  have h288 : n ≤ 288 := by omega
  refine z_aload_n 0 C dX7_farthestTrace_0 0 rfl ?_
  refine z_getf 1 C 0 z_dX7 (⟨rfl, rfl⟩) 4 (by decide) q343 (.ref (z_ad G 32)) rfl dX7_farthestTrace_1 ?_
  refine z_getfN 4 C 32 z_dX6 (⟨rfl, rfl⟩) 5 (by decide) (List.mem_of_getElem? (i := 9) rfl) (.int (nI w)) (z_ci hw) dX7_farthestTrace_4 ?_
  refine z_iconst 7 C dX7_farthestTrace_7 (nI 2) rfl ?_
  refine z_icmp_geN 8 C w 2 rfl rfl (by omega) (by omega) 16 dX7_farthestTrace_8 (by decide) (fun c8 => ?_) (fun c8 => ?_)
  · skip
    refine z_aload_n 16 C dX7_farthestTrace_16 0 rfl ?_
    refine z_getf 17 C 0 z_dX7 (⟨rfl, rfl⟩) 4 (by decide) q343 (.ref (z_ad G 32)) rfl dX7_farthestTrace_17 ?_
    refine z_callVN 20 C 32 (⟨rfl, rfl⟩) rfl (As := []) (rest := []) (m_X6_farthest w hw (by omega) (hpos c8) (by omega)) k_X6_farthest (List.mem_of_getElem? (i := 48) rfl) ⟨rfl, rfl⟩ ⟨Nat.le_of_ble_eq_true rfl, Nat.le_of_ble_eq_true rfl⟩ rfl (Nat.le_of_ble_eq_true rfl) ⟨Nat.le_of_ble_eq_true rfl, Nat.le_of_ble_eq_true rfl⟩ rfl dX7_farthestTrace_20 (z_k1 ?_)
    refine z_iret 23 C dX7_farthestTrace_23 ?_
    refine ⟨?_, ?_⟩
    · (rw [if_pos (c8)]) <;> (try rfl)
    · first | rfl | ((rw [if_pos (c8)]) <;> (try rfl))
  · skip
    refine z_ldc 11 C dX7_farthestTrace_11 q387 ?_
    refine z_goto 13 C 23 dX7_farthestTrace_13 (by decide) ?_
    refine z_iret 23 C dX7_farthestTrace_23 ?_
    refine ⟨?_, ?_⟩
    · (rw [if_neg (Nat.not_le.mpr c8)]) <;> (try rfl)
    · first | rfl | ((rw [if_neg (Nat.not_le.mpr c8)]) <;> (try rfl))
theorem dX7_taper_0 : decode cX7_taper 0 = .ok (.aload_n 0, 1) := by decide +kernel
theorem dX7_taper_1 : decode cX7_taper 1 = .ok (.getfield 41, 3) := by decide +kernel
theorem dX7_taper_4 : decode cX7_taper 4 = .ok (.getfield 236, 3) := by decide +kernel
theorem dX7_taper_7 : decode cX7_taper 7 = .ok (.iconst 1, 1) := by decide +kernel
theorem dX7_taper_8 : decode cX7_taper 8 = .ok (.if_icmp .ge 9, 3) := by decide +kernel
theorem dX7_taper_11 : decode cX7_taper 11 = .ok (.ldc2_w 117, 3) := by decide +kernel
theorem dX7_taper_14 : decode cX7_taper 14 = .ok (.goto 10, 3) := by decide +kernel
theorem dX7_taper_17 : decode cX7_taper 17 = .ok (.aload_n 0, 1) := by decide +kernel
theorem dX7_taper_18 : decode cX7_taper 18 = .ok (.getfield 41, 3) := by decide +kernel
theorem dX7_taper_21 : decode cX7_taper 21 = .ok (.invokevirtual 277, 3) := by decide +kernel
theorem dX7_taper_24 : decode cX7_taper 24 = .ok (.lreturn, 1) := by decide +kernel
set_option maxRecDepth 100000 in
set_option maxHeartbeats 4000000 in
theorem m_X7_taper {l : Launch} {G : z_Gl} {σ : z_St} (P n o u v w rc tl : Nat) (hI : z_inv σ P n o u v w rc tl) : z_M l G yX7_taper cX7_taper 1 (some .long) (z_rm 2 48) [.ref (z_ad G 0)] σ (z_p1 (.long (if 1 ≤ w then z_fmx (σ.2 43) (σ.2 43 0) w - z_fmn (σ.2 43) (σ.2 43 0) w else (-9223372036854775808))) σ) := by
  refine z_M.of (by decide) (Nat.le_of_ble_eq_true rfl) (fun p e s m below meth c C => ?_)
  refine z_sub [0] (lv1 := [(0, .ref (z_ad G 0))]) rfl ?_
  have hI0 := hI
  obtain ⟨⟨hP, hn, ho, hu, hv, hw, hrc, htl⟩, hPs, hnP, ho21, huv, hw6, hrc8, htl2⟩ := hI0
  have h0 : 0 < P := by omega
  have h12 : P ≤ 12 := by omega
  have h288 : n ≤ 288 := by omega
  refine z_aload_n 0 C dX7_taper_0 0 rfl ?_
  refine z_getf 1 C 0 z_dX7 (⟨rfl, rfl⟩) 4 (by decide) q343 (.ref (z_ad G 32)) rfl dX7_taper_1 ?_
  refine z_getfN 4 C 32 z_dX6 (⟨rfl, rfl⟩) 5 (by decide) (List.mem_of_getElem? (i := 9) rfl) (.int (nI w)) (z_ci hw) dX7_taper_4 ?_
  refine z_iconst 7 C dX7_taper_7 (nI 1) rfl ?_
  refine z_icmp_geN 8 C w 1 rfl rfl (by omega) (by omega) 17 dX7_taper_8 (by decide) (fun c8 => ?_) (fun c8 => ?_)
  · skip
    refine z_aload_n 17 C dX7_taper_17 0 rfl ?_
    refine z_getf 18 C 0 z_dX7 (⟨rfl, rfl⟩) 4 (by decide) q343 (.ref (z_ad G 32)) rfl dX7_taper_18 ?_
    refine z_callVN 21 C 32 (⟨rfl, rfl⟩) rfl (As := []) (rest := []) (m_X6_spreadOfMeans w hw (by omega) (by omega)) k_X6_spreadOfMeans (List.mem_of_getElem? (i := 49) rfl) ⟨rfl, rfl⟩ ⟨Nat.le_of_ble_eq_true rfl, Nat.le_of_ble_eq_true rfl⟩ rfl (Nat.le_of_ble_eq_true rfl) ⟨Nat.le_of_ble_eq_true rfl, Nat.le_of_ble_eq_true rfl⟩ rfl dX7_taper_21 (z_k1 ?_)
    refine z_lret 24 C dX7_taper_24 ?_
    refine ⟨?_, ?_⟩
    · (rw [if_pos (c8)]) <;> (try rfl)
    · first | rfl | ((rw [if_pos (c8)]) <;> (try rfl))
  · skip
    refine z_ldc2 11 C dX7_taper_11 q475 ?_
    refine z_goto 14 C 24 dX7_taper_14 (by decide) ?_
    refine z_lret 24 C dX7_taper_24 ?_
    refine ⟨?_, ?_⟩
    · (rw [if_neg (Nat.not_le.mpr c8)]) <;> (try rfl)
    · first | rfl | ((rw [if_neg (Nat.not_le.mpr c8)]) <;> (try rfl))
theorem dX7_difference_0 : decode cX7_difference 0 = .ok (.aload_n 0, 1) := by decide +kernel
theorem dX7_difference_1 : decode cX7_difference 1 = .ok (.getfield 41, 3) := by decide +kernel
theorem dX7_difference_4 : decode cX7_difference 4 = .ok (.iload_n 1, 1) := by decide +kernel
theorem dX7_difference_5 : decode cX7_difference 5 = .ok (.invokevirtual 241, 3) := by decide +kernel
theorem dX7_difference_8 : decode cX7_difference 8 = .ok (.ifCond .ne 21, 3) := by decide +kernel
theorem dX7_difference_11 : decode cX7_difference 11 = .ok (.aload_n 0, 1) := by decide +kernel
theorem dX7_difference_12 : decode cX7_difference 12 = .ok (.getfield 41, 3) := by decide +kernel
theorem dX7_difference_15 : decode cX7_difference 15 = .ok (.iload_n 2, 1) := by decide +kernel
theorem dX7_difference_16 : decode cX7_difference 16 = .ok (.invokevirtual 241, 3) := by decide +kernel
theorem dX7_difference_19 : decode cX7_difference 19 = .ok (.ifCond .ne 10, 3) := by decide +kernel
theorem dX7_difference_22 : decode cX7_difference 22 = .ok (.iload_n 3, 1) := by decide +kernel
theorem dX7_difference_23 : decode cX7_difference 23 = .ok (.invokestatic 108, 3) := by decide +kernel
theorem dX7_difference_26 : decode cX7_difference 26 = .ok (.ifCond .eq 7, 3) := by decide +kernel
theorem dX7_difference_29 : decode cX7_difference 29 = .ok (.ldc2_w 117, 3) := by decide +kernel
theorem dX7_difference_32 : decode cX7_difference 32 = .ok (.lreturn, 1) := by decide +kernel
theorem dX7_difference_33 : decode cX7_difference 33 = .ok (.aload_n 0, 1) := by decide +kernel
theorem dX7_difference_34 : decode cX7_difference 34 = .ok (.getfield 41, 3) := by decide +kernel
theorem dX7_difference_37 : decode cX7_difference 37 = .ok (.iload_n 1, 1) := by decide +kernel
theorem dX7_difference_38 : decode cX7_difference 38 = .ok (.iload_n 2, 1) := by decide +kernel
theorem dX7_difference_39 : decode cX7_difference 39 = .ok (.iload_n 3, 1) := by decide +kernel
theorem dX7_difference_40 : decode cX7_difference 40 = .ok (.invokevirtual 280, 3) := by decide +kernel
theorem dX7_difference_43 : decode cX7_difference 43 = .ok (.lreturn, 1) := by decide +kernel
set_option maxRecDepth 100000 in
set_option maxHeartbeats 4000000 in
theorem m_X7_difference {l : Launch} {G : z_Gl} {σ : z_St} (P n o u v w rc tl : Nat) (hI : z_inv σ P n o u v w rc tl) (x : Int32) (y : Int32) (z : Int32) : z_M l G yX7_difference cX7_difference 4 (some .long) (z_rm 3 68) [.ref (z_ad G 0), .int x, .int y, .int z] σ (z_p1 (.long (if x < nI 0 ∨ nI w - nI 1 < x then (-9223372036854775808) else if y < nI 0 ∨ nI w - nI 1 < y then (-9223372036854775808) else if z < nI 0 ∨ nI 23 < z then (-9223372036854775808) else z_mm (σ.2 (34 + z_n x)) (σ.2 (34 + z_n y)) (z_n z) 24)) σ) := by
  refine z_M.of (by decide) (Nat.le_of_ble_eq_true rfl) (fun p e s m below meth c C => ?_)
  refine z_sub [0, 1, 2, 3] (lv1 := [(0, .ref (z_ad G 0)), (1, .int x), (2, .int y), (3, .int z)]) rfl ?_
  have hI0 := hI
  obtain ⟨⟨hP, hn, ho, hu, hv, hw, hrc, htl⟩, hPs, hnP, ho21, huv, hw6, hrc8, htl2⟩ := hI0
  have h0 : 0 < P := by omega
  have h12 : P ≤ 12 := by omega
  have h288 : n ≤ 288 := by omega
  refine z_aload_n 0 C dX7_difference_0 0 rfl ?_
  refine z_getf 1 C 0 z_dX7 (⟨rfl, rfl⟩) 4 (by decide) q343 (.ref (z_ad G 32)) rfl dX7_difference_1 ?_
  refine z_iload_n 4 C dX7_difference_4 1 rfl ?_
  refine z_callVN 5 C 32 (⟨rfl, rfl⟩) rfl (As := [.int x]) (rest := []) (m_X6_lacks w hw x) k_X6_lacks (List.mem_of_getElem? (i := 42) rfl) ⟨rfl, rfl⟩ ⟨Nat.le_of_ble_eq_true rfl, Nat.le_of_ble_eq_true rfl⟩ rfl (Nat.le_of_ble_eq_true rfl) ⟨Nat.le_of_ble_eq_true rfl, Nat.le_of_ble_eq_true rfl⟩ rfl dX7_difference_5 (z_k1 ?_)
  refine z_if_neb 8 C 29 dX7_difference_8 (by decide) (fun c8 => ?_) (fun c8 => ?_)
  · skip
    refine z_ldc2 29 C dX7_difference_29 q475 ?_
    refine z_lret 32 C dX7_difference_32 ?_
    refine ⟨?_, ?_⟩
    · (rw [if_pos (c8)]) <;> (try rfl)
    · first | rfl | ((rw [if_pos (c8)]) <;> (try rfl))
  · skip
    obtain ⟨a, ha, rfl⟩ := z_inw (by omega) c8
    refine z_aload_n 11 C dX7_difference_11 0 rfl ?_
    refine z_getf 12 C 0 z_dX7 (⟨rfl, rfl⟩) 4 (by decide) q343 (.ref (z_ad G 32)) rfl dX7_difference_12 ?_
    refine z_iload_n 15 C dX7_difference_15 2 rfl ?_
    refine z_callVN 16 C 32 (⟨rfl, rfl⟩) rfl (As := [.int y]) (rest := []) (m_X6_lacks w hw y) k_X6_lacks (List.mem_of_getElem? (i := 42) rfl) ⟨rfl, rfl⟩ ⟨Nat.le_of_ble_eq_true rfl, Nat.le_of_ble_eq_true rfl⟩ rfl (Nat.le_of_ble_eq_true rfl) ⟨Nat.le_of_ble_eq_true rfl, Nat.le_of_ble_eq_true rfl⟩ rfl dX7_difference_16 (z_k1 ?_)
    refine z_if_neb 19 C 29 dX7_difference_19 (by decide) (fun c19 => ?_) (fun c19 => ?_)
    · skip
      refine z_ldc2 29 C dX7_difference_29 q475 ?_
      refine z_lret 32 C dX7_difference_32 ?_
      refine ⟨?_, ?_⟩
      · (rw [if_neg (c8), if_pos (c19)]) <;> (try rfl)
      · first | rfl | ((rw [if_neg (c8), if_pos (c19)]) <;> (try rfl))
    · skip
      obtain ⟨b, hb, rfl⟩ := z_inw (by omega) c19
      refine z_iload_n 22 C dX7_difference_22 3 rfl ?_
      refine z_callS 23 C (As := [.int z]) (rest := []) (m_X7_isNoPosition z) k_X7_isNoPosition q445 ⟨rfl, rfl⟩ ⟨Nat.le_of_ble_eq_true rfl, Nat.le_of_ble_eq_true rfl⟩ rfl (Nat.le_of_ble_eq_true rfl) ⟨Nat.le_of_ble_eq_true rfl, Nat.le_of_ble_eq_true rfl⟩ rfl dX7_difference_23 (z_k1 ?_)
      refine z_if_eqb 26 C 33 dX7_difference_26 (by decide) (fun c26 => ?_) (fun c26 => ?_)
      · skip
        obtain ⟨d, hd, rfl⟩ := z_in0 (by decide) c26
        refine z_aload_n 33 C dX7_difference_33 0 rfl ?_
        refine z_getf 34 C 0 z_dX7 (⟨rfl, rfl⟩) 4 (by decide) q343 (.ref (z_ad G 32)) rfl dX7_difference_34 ?_
        refine z_iload_n 37 C dX7_difference_37 1 rfl ?_
        refine z_iload_n 38 C dX7_difference_38 2 rfl ?_
        refine z_iload_n 39 C dX7_difference_39 3 rfl ?_
        refine z_callVN 40 C 32 (⟨rfl, rfl⟩) rfl (As := [.int (nI a), .int (nI b), .int (nI d)]) (rest := []) (m_X6_mismatch a b d (by omega) (by omega) (by omega)) k_X6_mismatch (List.mem_of_getElem? (i := 50) rfl) ⟨rfl, rfl⟩ ⟨Nat.le_of_ble_eq_true rfl, Nat.le_of_ble_eq_true rfl⟩ rfl (Nat.le_of_ble_eq_true rfl) ⟨Nat.le_of_ble_eq_true rfl, Nat.le_of_ble_eq_true rfl⟩ rfl dX7_difference_40 (z_k1 ?_)
        refine z_lret 43 C dX7_difference_43 ?_
        refine ⟨?_, ?_⟩
        · (rw [if_neg (c8), if_neg (c19), if_neg (c26), z_nk (k := a) (by omega), z_nk (k := b) (by omega), z_nk (k := d) (by omega)]) <;> (try rfl)
        · first | rfl | ((rw [if_neg (c8), if_neg (c19), if_neg (c26), z_nk (k := a) (by omega), z_nk (k := b) (by omega), z_nk (k := d) (by omega)]) <;> (try rfl))
      · skip
        refine z_ldc2 29 C dX7_difference_29 q475 ?_
        refine z_lret 32 C dX7_difference_32 ?_
        refine ⟨?_, ?_⟩
        · (rw [if_neg (c8), if_neg (c19), if_pos (c26)]) <;> (try rfl)
        · first | rfl | ((rw [if_neg (c8), if_neg (c19), if_pos (c26)]) <;> (try rfl))
theorem dX7_bestRotation_0 : decode cX7_bestRotation 0 = .ok (.aload_n 0, 1) := by decide +kernel
theorem dX7_bestRotation_1 : decode cX7_bestRotation 1 = .ok (.getfield 41, 3) := by decide +kernel
theorem dX7_bestRotation_4 : decode cX7_bestRotation 4 = .ok (.iload_n 1, 1) := by decide +kernel
theorem dX7_bestRotation_5 : decode cX7_bestRotation 5 = .ok (.invokevirtual 241, 3) := by decide +kernel
theorem dX7_bestRotation_8 : decode cX7_bestRotation 8 = .ok (.ifCond .ne 14, 3) := by decide +kernel
theorem dX7_bestRotation_11 : decode cX7_bestRotation 11 = .ok (.aload_n 0, 1) := by decide +kernel
theorem dX7_bestRotation_12 : decode cX7_bestRotation 12 = .ok (.getfield 41, 3) := by decide +kernel
theorem dX7_bestRotation_15 : decode cX7_bestRotation 15 = .ok (.iload_n 2, 1) := by decide +kernel
theorem dX7_bestRotation_16 : decode cX7_bestRotation 16 = .ok (.invokevirtual 241, 3) := by decide +kernel
theorem dX7_bestRotation_19 : decode cX7_bestRotation 19 = .ok (.ifCond .eq 6, 3) := by decide +kernel
theorem dX7_bestRotation_22 : decode cX7_bestRotation 22 = .ok (.ldc 68, 2) := by decide +kernel
theorem dX7_bestRotation_24 : decode cX7_bestRotation 24 = .ok (.ireturn, 1) := by decide +kernel
theorem dX7_bestRotation_25 : decode cX7_bestRotation 25 = .ok (.aload_n 0, 1) := by decide +kernel
theorem dX7_bestRotation_26 : decode cX7_bestRotation 26 = .ok (.getfield 41, 3) := by decide +kernel
theorem dX7_bestRotation_29 : decode cX7_bestRotation 29 = .ok (.iload_n 1, 1) := by decide +kernel
theorem dX7_bestRotation_30 : decode cX7_bestRotation 30 = .ok (.iload_n 2, 1) := by decide +kernel
theorem dX7_bestRotation_31 : decode cX7_bestRotation 31 = .ok (.invokevirtual 284, 3) := by decide +kernel
theorem dX7_bestRotation_34 : decode cX7_bestRotation 34 = .ok (.ireturn, 1) := by decide +kernel
set_option maxRecDepth 100000 in
set_option maxHeartbeats 4000000 in
theorem m_X7_bestRotation {l : Launch} {G : z_Gl} {σ : z_St} (P n o u v w rc tl : Nat) (hI : z_inv σ P n o u v w rc tl) (x : Int32) (y : Int32) : z_M l G yX7_bestRotation cX7_bestRotation 3 (some .int) (z_rm 4 96) [.ref (z_ad G 0), .int x, .int y] σ (z_p1 (.int (if x < nI 0 ∨ nI w - nI 1 < x then (-1000001) else if y < nI 0 ∨ nI w - nI 1 < y then (-1000001) else nI (z_bl (fun u => z_mm (σ.2 (34 + z_n x)) (σ.2 (34 + z_n y)) u 24) 24))) σ) := by
  refine z_M.of (by decide) (Nat.le_of_ble_eq_true rfl) (fun p e s m below meth c C => ?_)
  refine z_sub [0, 1, 2] (lv1 := [(0, .ref (z_ad G 0)), (1, .int x), (2, .int y)]) rfl ?_
  have hI0 := hI
  obtain ⟨⟨hP, hn, ho, hu, hv, hw, hrc, htl⟩, hPs, hnP, ho21, huv, hw6, hrc8, htl2⟩ := hI0
  have h0 : 0 < P := by omega
  have h12 : P ≤ 12 := by omega
  have h288 : n ≤ 288 := by omega
  refine z_aload_n 0 C dX7_bestRotation_0 0 rfl ?_
  refine z_getf 1 C 0 z_dX7 (⟨rfl, rfl⟩) 4 (by decide) q343 (.ref (z_ad G 32)) rfl dX7_bestRotation_1 ?_
  refine z_iload_n 4 C dX7_bestRotation_4 1 rfl ?_
  refine z_callVN 5 C 32 (⟨rfl, rfl⟩) rfl (As := [.int x]) (rest := []) (m_X6_lacks w hw x) k_X6_lacks (List.mem_of_getElem? (i := 42) rfl) ⟨rfl, rfl⟩ ⟨Nat.le_of_ble_eq_true rfl, Nat.le_of_ble_eq_true rfl⟩ rfl (Nat.le_of_ble_eq_true rfl) ⟨Nat.le_of_ble_eq_true rfl, Nat.le_of_ble_eq_true rfl⟩ rfl dX7_bestRotation_5 (z_k1 ?_)
  refine z_if_neb 8 C 22 dX7_bestRotation_8 (by decide) (fun c8 => ?_) (fun c8 => ?_)
  · skip
    refine z_ldc 22 C dX7_bestRotation_22 q371 ?_
    refine z_iret 24 C dX7_bestRotation_24 ?_
    refine ⟨?_, ?_⟩
    · (rw [if_pos (c8)]) <;> (try rfl)
    · first | rfl | ((rw [if_pos (c8)]) <;> (try rfl))
  · skip
    obtain ⟨a, ha, rfl⟩ := z_inw (by omega) c8
    refine z_aload_n 11 C dX7_bestRotation_11 0 rfl ?_
    refine z_getf 12 C 0 z_dX7 (⟨rfl, rfl⟩) 4 (by decide) q343 (.ref (z_ad G 32)) rfl dX7_bestRotation_12 ?_
    refine z_iload_n 15 C dX7_bestRotation_15 2 rfl ?_
    refine z_callVN 16 C 32 (⟨rfl, rfl⟩) rfl (As := [.int y]) (rest := []) (m_X6_lacks w hw y) k_X6_lacks (List.mem_of_getElem? (i := 42) rfl) ⟨rfl, rfl⟩ ⟨Nat.le_of_ble_eq_true rfl, Nat.le_of_ble_eq_true rfl⟩ rfl (Nat.le_of_ble_eq_true rfl) ⟨Nat.le_of_ble_eq_true rfl, Nat.le_of_ble_eq_true rfl⟩ rfl dX7_bestRotation_16 (z_k1 ?_)
    refine z_if_eqb 19 C 25 dX7_bestRotation_19 (by decide) (fun c19 => ?_) (fun c19 => ?_)
    · skip
      obtain ⟨b, hb, rfl⟩ := z_inw (by omega) c19
      refine z_aload_n 25 C dX7_bestRotation_25 0 rfl ?_
      refine z_getf 26 C 0 z_dX7 (⟨rfl, rfl⟩) 4 (by decide) q343 (.ref (z_ad G 32)) rfl dX7_bestRotation_26 ?_
      refine z_iload_n 29 C dX7_bestRotation_29 1 rfl ?_
      refine z_iload_n 30 C dX7_bestRotation_30 2 rfl ?_
      refine z_callVN 31 C 32 (⟨rfl, rfl⟩) rfl (As := [.int (nI a), .int (nI b)]) (rest := []) (m_X6_bestMatch a b (by omega) (by omega)) k_X6_bestMatch (List.mem_of_getElem? (i := 52) rfl) ⟨rfl, rfl⟩ ⟨Nat.le_of_ble_eq_true rfl, Nat.le_of_ble_eq_true rfl⟩ rfl (Nat.le_of_ble_eq_true rfl) ⟨Nat.le_of_ble_eq_true rfl, Nat.le_of_ble_eq_true rfl⟩ rfl dX7_bestRotation_31 (z_k1 ?_)
      refine z_iret 34 C dX7_bestRotation_34 ?_
      refine ⟨?_, ?_⟩
      · (rw [if_neg (c8), if_neg (c19), z_nk (k := a) (by omega), z_nk (k := b) (by omega)]) <;> (try rfl)
      · first | rfl | ((rw [if_neg (c8), if_neg (c19), z_nk (k := a) (by omega), z_nk (k := b) (by omega)]) <;> (try rfl))
    · skip
      refine z_ldc 22 C dX7_bestRotation_22 q371 ?_
      refine z_iret 24 C dX7_bestRotation_24 ?_
      refine ⟨?_, ?_⟩
      · (rw [if_neg (c8), if_pos (c19)]) <;> (try rfl)
      · first | rfl | ((rw [if_neg (c8), if_pos (c19)]) <;> (try rfl))
theorem dX7_addRule_0 : decode cX7_addRule 0 = .ok (.iload_n 1, 1) := by decide +kernel
theorem dX7_addRule_1 : decode cX7_addRule 1 = .ok (.iload_n 2, 1) := by decide +kernel
theorem dX7_addRule_2 : decode cX7_addRule 2 = .ok (.invokestatic 155, 3) := by decide +kernel
theorem dX7_addRule_5 : decode cX7_addRule 5 = .ok (.ifCond .ne 22, 3) := by decide +kernel
theorem dX7_addRule_8 : decode cX7_addRule 8 = .ok (.iload_n 3, 1) := by decide +kernel
theorem dX7_addRule_9 : decode cX7_addRule 9 = .ok (.invokestatic 191, 3) := by decide +kernel
theorem dX7_addRule_12 : decode cX7_addRule 12 = .ok (.ifCond .ne 15, 3) := by decide +kernel
theorem dX7_addRule_15 : decode cX7_addRule 15 = .ok (.iload 4, 2) := by decide +kernel
theorem dX7_addRule_17 : decode cX7_addRule 17 = .ok (.iconst 0, 1) := by decide +kernel
theorem dX7_addRule_18 : decode cX7_addRule 18 = .ok (.sipush 20000, 3) := by decide +kernel
theorem dX7_addRule_21 : decode cX7_addRule 21 = .ok (.invokestatic 77, 3) := by decide +kernel
theorem dX7_addRule_24 : decode cX7_addRule 24 = .ok (.ifCond .eq 6, 3) := by decide +kernel
theorem dX7_addRule_27 : decode cX7_addRule 27 = .ok (.ldc 68, 2) := by decide +kernel
theorem dX7_addRule_29 : decode cX7_addRule 29 = .ok (.ireturn, 1) := by decide +kernel
theorem dX7_addRule_30 : decode cX7_addRule 30 = .ok (.aload_n 0, 1) := by decide +kernel
theorem dX7_addRule_31 : decode cX7_addRule 31 = .ok (.getfield 48, 3) := by decide +kernel
theorem dX7_addRule_34 : decode cX7_addRule 34 = .ok (.getfield 287, 3) := by decide +kernel
theorem dX7_addRule_37 : decode cX7_addRule 37 = .ok (.bipush 8, 2) := by decide +kernel
theorem dX7_addRule_39 : decode cX7_addRule 39 = .ok (.if_icmp .ne 6, 3) := by decide +kernel
theorem dX7_addRule_42 : decode cX7_addRule 42 = .ok (.ldc 237, 2) := by decide +kernel
theorem dX7_addRule_44 : decode cX7_addRule 44 = .ok (.ireturn, 1) := by decide +kernel
theorem dX7_addRule_45 : decode cX7_addRule 45 = .ok (.aload_n 0, 1) := by decide +kernel
theorem dX7_addRule_46 : decode cX7_addRule 46 = .ok (.getfield 48, 3) := by decide +kernel
theorem dX7_addRule_49 : decode cX7_addRule 49 = .ok (.iload_n 1, 1) := by decide +kernel
theorem dX7_addRule_50 : decode cX7_addRule 50 = .ok (.iload_n 2, 1) := by decide +kernel
theorem dX7_addRule_51 : decode cX7_addRule 51 = .ok (.iload_n 3, 1) := by decide +kernel
theorem dX7_addRule_52 : decode cX7_addRule 52 = .ok (.iload 4, 2) := by decide +kernel
theorem dX7_addRule_54 : decode cX7_addRule 54 = .ok (.invokevirtual 288, 3) := by decide +kernel
theorem dX7_addRule_57 : decode cX7_addRule 57 = .ok (.aload_n 0, 1) := by decide +kernel
theorem dX7_addRule_58 : decode cX7_addRule 58 = .ok (.getfield 48, 3) := by decide +kernel
theorem dX7_addRule_61 : decode cX7_addRule 61 = .ok (.getfield 287, 3) := by decide +kernel
theorem dX7_addRule_64 : decode cX7_addRule 64 = .ok (.iconst 1, 1) := by decide +kernel
theorem dX7_addRule_65 : decode cX7_addRule 65 = .ok (.isub, 1) := by decide +kernel
theorem dX7_addRule_66 : decode cX7_addRule 66 = .ok (.ireturn, 1) := by decide +kernel
set_option maxRecDepth 100000 in
set_option maxHeartbeats 4000000 in
theorem m_X7_addRule {l : Launch} {G : z_Gl} {σ : z_St} (P n o u v w rc tl : Nat) (hI : z_inv σ P n o u v w rc tl) (x : Int32) (y : Int32) (z : Int32) (f : Int32) : z_M l G yX7_addRule cX7_addRule 5 (some .int) (z_rm 2 42) [.ref (z_ad G 0), .int x, .int y, .int z, .int f] σ (z_p1 (.int (if x < 0 ∨ y < x ∨ nI 12 < y then (-1000001) else if z < nI 0 ∨ nI 3 < z then (-1000001) else if f < nI 0 ∨ nI 20000 < f then (-1000001) else if rc = 8 then (-1000004) else nI rc)) (if x < 0 ∨ y < x ∨ nI 12 < y then σ else if z < nI 0 ∨ nI 3 < z then σ else if f < nI 0 ∨ nI 20000 < f then σ else if rc = 8 then σ else z_ui (z_ui (z_ui (z_ui (z_ui σ 45 rc x) 46 rc y) 47 rc z) 48 rc f) 44 5 (nI (rc + 1)))) := by
  refine z_M.of (by decide) (Nat.le_of_ble_eq_true rfl) (fun p e s m below meth c C => ?_)
  refine z_sub [0, 1, 2, 3, 4] (lv1 := [(0, .ref (z_ad G 0)), (1, .int x), (2, .int y), (3, .int z), (4, .int f)]) rfl ?_
  have hI0 := hI
  obtain ⟨⟨hP, hn, ho, hu, hv, hw, hrc, htl⟩, hPs, hnP, ho21, huv, hw6, hrc8, htl2⟩ := hI0
  have h0 : 0 < P := by omega
  have h12 : P ≤ 12 := by omega
  have h288 : n ≤ 288 := by omega
  refine z_iload_n 0 C dX7_addRule_0 1 rfl ?_
  refine z_iload_n 1 C dX7_addRule_1 2 rfl ?_
  refine z_callS 2 C (As := [.int x, .int y]) (rest := []) (m_X7_isNoRange x y) k_X7_isNoRange q578 ⟨rfl, rfl⟩ ⟨Nat.le_of_ble_eq_true rfl, Nat.le_of_ble_eq_true rfl⟩ rfl (Nat.le_of_ble_eq_true rfl) ⟨Nat.le_of_ble_eq_true rfl, Nat.le_of_ble_eq_true rfl⟩ rfl dX7_addRule_2 (z_k1 ?_)
  refine z_if_neb 5 C 27 dX7_addRule_5 (by decide) (fun c5 => ?_) (fun c5 => ?_)
  · skip
    refine z_ldc 27 C dX7_addRule_27 q371 ?_
    refine z_iret 29 C dX7_addRule_29 ?_
    refine ⟨?_, ?_⟩
    · (rw [if_pos (c5)]) <;> (try rfl)
    · first | rfl | ((rw [if_pos (c5)]) <;> (try rfl))
  · skip
    refine z_iload_n 8 C dX7_addRule_8 3 rfl ?_
    refine z_callS 9 C (As := [.int z]) (rest := []) (m_X7_isNoMethod z) k_X7_isNoMethod q642 ⟨rfl, rfl⟩ ⟨Nat.le_of_ble_eq_true rfl, Nat.le_of_ble_eq_true rfl⟩ rfl (Nat.le_of_ble_eq_true rfl) ⟨Nat.le_of_ble_eq_true rfl, Nat.le_of_ble_eq_true rfl⟩ rfl dX7_addRule_9 (z_k1 ?_)
    refine z_if_neb 12 C 27 dX7_addRule_12 (by decide) (fun c12 => ?_) (fun c12 => ?_)
    · skip
      refine z_ldc 27 C dX7_addRule_27 q371 ?_
      refine z_iret 29 C dX7_addRule_29 ?_
      refine ⟨?_, ?_⟩
      · (rw [if_neg (c5), if_pos (c12)]) <;> (try rfl)
      · first | rfl | ((rw [if_neg (c5), if_pos (c12)]) <;> (try rfl))
    · skip
      refine z_iload 15 C dX7_addRule_15 4 rfl ?_
      refine z_iconst 17 C dX7_addRule_17 (nI 0) rfl ?_
      refine z_sipush 18 C dX7_addRule_18 (nI 20000) rfl ?_
      refine z_callS 21 C (As := [.int f, .int (nI 0), .int (nI 20000)]) (rest := []) (m_X7_isOutside f (nI 0) (nI 20000)) k_X7_isOutside q380 ⟨rfl, rfl⟩ ⟨Nat.le_of_ble_eq_true rfl, Nat.le_of_ble_eq_true rfl⟩ rfl (Nat.le_of_ble_eq_true rfl) ⟨Nat.le_of_ble_eq_true rfl, Nat.le_of_ble_eq_true rfl⟩ rfl dX7_addRule_21 (z_k1 ?_)
      refine z_if_eqb 24 C 30 dX7_addRule_24 (by decide) (fun c24 => ?_) (fun c24 => ?_)
      · skip
        refine z_aload_n 30 C dX7_addRule_30 0 rfl ?_
        refine z_getf 31 C 0 z_dX7 (⟨rfl, rfl⟩) 5 (by decide) q344 (.ref (z_ad G 44)) rfl dX7_addRule_31 ?_
        refine z_getfN 34 C 44 z_dX3 (⟨rfl, rfl⟩) 5 (by decide) (List.mem_of_getElem? (i := 20) rfl) (.int (nI rc)) (z_ci hrc) dX7_addRule_34 ?_
        refine z_bipush 37 C dX7_addRule_37 (nI 8) rfl ?_
        refine z_icmp_neN 39 C rc 8 rfl rfl (by omega) (by omega) 45 dX7_addRule_39 (by decide) (fun c39 => ?_) (fun c39 => ?_)
        · skip
          refine z_aload_n 45 C dX7_addRule_45 0 rfl ?_
          refine z_getf 46 C 0 z_dX7 (⟨rfl, rfl⟩) 5 (by decide) q344 (.ref (z_ad G 44)) rfl dX7_addRule_46 ?_
          refine z_iload_n 49 C dX7_addRule_49 1 rfl ?_
          refine z_iload_n 50 C dX7_addRule_50 2 rfl ?_
          refine z_iload_n 51 C dX7_addRule_51 3 rfl ?_
          refine z_iload 52 C dX7_addRule_52 4 rfl ?_
          refine z_callVN 54 C 44 (⟨rfl, rfl⟩) rfl (As := [.int x, .int y, .int z, .int f]) (rest := []) (m_X3_append rc hrc (by omega) x y z f) k_X3_append (List.mem_of_getElem? (i := 53) rfl) ⟨rfl, rfl⟩ ⟨Nat.le_of_ble_eq_true rfl, Nat.le_of_ble_eq_true rfl⟩ rfl (Nat.le_of_ble_eq_true rfl) ⟨Nat.le_of_ble_eq_true rfl, Nat.le_of_ble_eq_true rfl⟩ rfl dX7_addRule_54 (z_k0 ?_)
          refine z_aload_n 57 C dX7_addRule_57 0 rfl ?_
          refine z_getf 58 C 0 z_dX7 (⟨rfl, rfl⟩) 5 (by decide) q344 (.ref (z_ad G 44)) rfl dX7_addRule_58 ?_
          refine z_getfN 61 C 44 z_dX3 (⟨rfl, rfl⟩) 5 (by decide) (List.mem_of_getElem? (i := 20) rfl) (.int (nI (rc + 1))) rfl dX7_addRule_61 ?_
          refine z_iconst 64 C dX7_addRule_64 (nI 1) rfl ?_
          refine z_isubN 65 C (rc + 1) 1 rfl rfl (by omega) dX7_addRule_65 ?_
          refine z_iret 66 C dX7_addRule_66 ?_
          refine ⟨?_, ?_⟩
          · (rw [if_neg (c5), if_neg (c12), if_neg (c24), if_neg (c39)]) <;> (try rfl)
          · first | rfl | ((rw [if_neg (c5), if_neg (c12), if_neg (c24), if_neg (c39)]) <;> (try rfl))
        · skip
          refine z_ldc 42 C dX7_addRule_42 q748 ?_
          refine z_iret 44 C dX7_addRule_44 ?_
          refine ⟨?_, ?_⟩
          · (rw [if_neg (c5), if_neg (c12), if_neg (c24), if_pos (c39)]) <;> (try rfl)
          · first | rfl | ((rw [if_neg (c5), if_neg (c12), if_neg (c24), if_pos (c39)]) <;> (try rfl))
      · skip
        refine z_ldc 27 C dX7_addRule_27 q371 ?_
        refine z_iret 29 C dX7_addRule_29 ?_
        refine ⟨?_, ?_⟩
        · (rw [if_neg (c5), if_neg (c12), if_pos (c24)]) <;> (try rfl)
        · first | rfl | ((rw [if_neg (c5), if_neg (c12), if_pos (c24)]) <;> (try rfl))
theorem dX7_clearRules_0 : decode cX7_clearRules 0 = .ok (.aload_n 0, 1) := by decide +kernel
theorem dX7_clearRules_1 : decode cX7_clearRules 1 = .ok (.getfield 48, 3) := by decide +kernel
theorem dX7_clearRules_4 : decode cX7_clearRules 4 = .ok (.getfield 287, 3) := by decide +kernel
theorem dX7_clearRules_7 : decode cX7_clearRules 7 = .ok (.istore_n 1, 1) := by decide +kernel
theorem dX7_clearRules_8 : decode cX7_clearRules 8 = .ok (.aload_n 0, 1) := by decide +kernel
theorem dX7_clearRules_9 : decode cX7_clearRules 9 = .ok (.getfield 48, 3) := by decide +kernel
theorem dX7_clearRules_12 : decode cX7_clearRules 12 = .ok (.iconst 0, 1) := by decide +kernel
theorem dX7_clearRules_13 : decode cX7_clearRules 13 = .ok (.putfield 287, 3) := by decide +kernel
theorem dX7_clearRules_16 : decode cX7_clearRules 16 = .ok (.iload_n 1, 1) := by decide +kernel
theorem dX7_clearRules_17 : decode cX7_clearRules 17 = .ok (.ireturn, 1) := by decide +kernel
set_option maxRecDepth 100000 in
set_option maxHeartbeats 4000000 in
theorem m_X7_clearRules {l : Launch} {G : z_Gl} {σ : z_St} (P n o u v w rc tl : Nat) (hI : z_inv σ P n o u v w rc tl) : z_M l G yX7_clearRules cX7_clearRules 2 (some .int) (z_rm 0 0) [.ref (z_ad G 0)] σ (z_p1 (.int (nI rc)) (z_ui σ 44 5 (nI 0))) := by
  refine z_M.of (by decide) (Nat.le_of_ble_eq_true rfl) (fun p e s m below meth c C => ?_)
  refine z_sub [0] (lv1 := [(0, .ref (z_ad G 0))]) rfl ?_
  have hI0 := hI
  obtain ⟨⟨hP, hn, ho, hu, hv, hw, hrc, htl⟩, hPs, hnP, ho21, huv, hw6, hrc8, htl2⟩ := hI0
  have h0 : 0 < P := by omega
  have h12 : P ≤ 12 := by omega
  have h288 : n ≤ 288 := by omega
  refine z_aload_n 0 C dX7_clearRules_0 0 rfl ?_
  refine z_getf 1 C 0 z_dX7 (⟨rfl, rfl⟩) 5 (by decide) q344 (.ref (z_ad G 44)) rfl dX7_clearRules_1 ?_
  refine z_getfN 4 C 44 z_dX3 (⟨rfl, rfl⟩) 5 (by decide) (List.mem_of_getElem? (i := 20) rfl) (.int (nI rc)) (z_ci hrc) dX7_clearRules_4 ?_
  refine z_istore_n 7 C dX7_clearRules_7 [(1, .int (nI rc)), (0, .ref (z_ad G 0))] (by decide) rfl ?_
  refine z_aload_n 8 C dX7_clearRules_8 1 rfl ?_
  refine z_getf 9 C 0 z_dX7 (⟨rfl, rfl⟩) 5 (by decide) q344 (.ref (z_ad G 44)) rfl dX7_clearRules_9 ?_
  refine z_iconst 12 C dX7_clearRules_12 (nI 0) rfl ?_
  refine z_putiN 13 C 44 z_dX3 (⟨rfl, rfl⟩) 5 (by decide) (List.mem_of_getElem? (i := 20) rfl) rfl (rfl) rfl ⟨Nat.le_of_ble_eq_true rfl, rfl⟩ dX7_clearRules_13 ?_
  refine z_iload_n 16 C dX7_clearRules_16 0 rfl ?_
  refine z_iret 17 C dX7_clearRules_17 ?_
  refine ⟨?_, ?_⟩
  · (skip) <;> (try rfl)
  · first | rfl | ((skip) <;> (try rfl))
theorem dX4_append_0 : decode cX4_append 0 = .ok (.aload_n 0, 1) := by decide +kernel
theorem dX4_append_1 : decode cX4_append 1 = .ok (.getfield 28, 3) := by decide +kernel
theorem dX4_append_4 : decode cX4_append 4 = .ok (.sipush 200, 3) := by decide +kernel
theorem dX4_append_7 : decode cX4_append 7 = .ok (.if_icmp .ge 23, 3) := by decide +kernel
theorem dX4_append_10 : decode cX4_append 10 = .ok (.aload_n 0, 1) := by decide +kernel
theorem dX4_append_11 : decode cX4_append 11 = .ok (.getfield 11, 3) := by decide +kernel
theorem dX4_append_14 : decode cX4_append 14 = .ok (.aload_n 0, 1) := by decide +kernel
theorem dX4_append_15 : decode cX4_append 15 = .ok (.getfield 28, 3) := by decide +kernel
theorem dX4_append_18 : decode cX4_append 18 = .ok (.iload_n 1, 1) := by decide +kernel
theorem dX4_append_19 : decode cX4_append 19 = .ok (.castore, 1) := by decide +kernel
theorem dX4_append_20 : decode cX4_append 20 = .ok (.aload_n 0, 1) := by decide +kernel
theorem dX4_append_21 : decode cX4_append 21 = .ok (.dup, 1) := by decide +kernel
theorem dX4_append_22 : decode cX4_append 22 = .ok (.getfield 28, 3) := by decide +kernel
theorem dX4_append_25 : decode cX4_append 25 = .ok (.iconst 1, 1) := by decide +kernel
theorem dX4_append_26 : decode cX4_append 26 = .ok (.iadd, 1) := by decide +kernel
theorem dX4_append_27 : decode cX4_append 27 = .ok (.putfield 28, 3) := by decide +kernel
theorem dX4_append_30 : decode cX4_append 30 = .ok (.return_, 1) := by decide +kernel
set_option maxRecDepth 100000 in
set_option maxHeartbeats 4000000 in
theorem m_X4_append {l : Launch} {G : z_Gl} {σ : z_St} (tl : Nat) (htl : σ.1 82 5 = nI tl) (h200 : tl < 200) (x : Int32) : z_M l G yX4_append cX4_append 2 none (z_rm 0 0) [.ref (z_ad G 82), .int x] σ (z_p0 (z_ui (z_ui σ 83 tl (vp_nar .char x)) 82 5 (nI (tl + 1)))) := by
  refine z_M.of (by decide) (Nat.le_of_ble_eq_true rfl) (fun p e s m below meth c C => ?_)
  refine z_sub [0, 1] (lv1 := [(0, .ref (z_ad G 82)), (1, .int x)]) rfl ?_
  refine z_aload_n 0 C dX4_append_0 0 rfl ?_
  refine z_getf 1 C 82 z_dX4 (⟨rfl, rfl⟩) 5 (by decide) q308 (.int (nI tl)) (z_ci htl) dX4_append_1 ?_
  refine z_sipush 4 C dX4_append_4 (nI 200) rfl ?_
  refine z_icmp_geN 7 C tl 200 rfl rfl (by omega) (by omega) 30 dX4_append_7 (by decide) (fun c7 => ?_) (fun c7 => ?_)
  · skip
    exact absurd c7 (by omega)
  · skip
    refine z_aload_n 10 C dX4_append_10 0 rfl ?_
    refine z_getf 11 C 82 z_dX4 (⟨rfl, rfl⟩) 0 (by decide) q299 (.ref (z_ad G 83)) rfl dX4_append_11 ?_
    refine z_aload_n 14 C dX4_append_14 0 rfl ?_
    refine z_getf 15 C 82 z_dX4 (⟨rfl, rfl⟩) 5 (by decide) q308 (.int (nI tl)) (z_ci htl) dX4_append_15 ?_
    refine z_iload_n 18 C dX4_append_18 1 rfl ?_
    refine z_castN 19 C 83 (n := 200) (⟨rfl, rfl⟩) tl rfl (by omega) (by decide) dX4_append_19 ?_
    refine z_aload_n 20 C dX4_append_20 0 rfl ?_
    refine z_dup 21 C dX4_append_21 rfl ?_
    refine z_getf 22 C 82 z_dX4 (⟨rfl, rfl⟩) 5 (by decide) q308 (.int (nI tl)) (z_ci htl) dX4_append_22 ?_
    refine z_iconst 25 C dX4_append_25 (nI 1) rfl ?_
    refine z_iaddN 26 C tl 1 rfl rfl dX4_append_26 ?_
    refine z_puti 27 C 82 z_dX4 (⟨rfl, rfl⟩) 5 (by decide) q308 rfl (rfl) rfl ⟨Nat.le_of_ble_eq_true rfl, rfl⟩ dX4_append_27 ?_
    refine z_vret 30 C dX4_append_30 ?_
    exact ⟨rfl, rfl⟩
theorem dX7_type_0 : decode cX7_type 0 = .ok (.aload_n 0, 1) := by decide +kernel
theorem dX7_type_1 : decode cX7_type 1 = .ok (.getfield 55, 3) := by decide +kernel
theorem dX7_type_4 : decode cX7_type 4 = .ok (.getfield 299, 3) := by decide +kernel
theorem dX7_type_7 : decode cX7_type 7 = .ok (.sipush 200, 3) := by decide +kernel
theorem dX7_type_10 : decode cX7_type 10 = .ok (.if_icmp .ne 6, 3) := by decide +kernel
theorem dX7_type_13 : decode cX7_type 13 = .ok (.ldc 237, 2) := by decide +kernel
theorem dX7_type_15 : decode cX7_type 15 = .ok (.ireturn, 1) := by decide +kernel
theorem dX7_type_16 : decode cX7_type 16 = .ok (.aload_n 0, 1) := by decide +kernel
theorem dX7_type_17 : decode cX7_type 17 = .ok (.getfield 55, 3) := by decide +kernel
theorem dX7_type_20 : decode cX7_type 20 = .ok (.iload_n 1, 1) := by decide +kernel
theorem dX7_type_21 : decode cX7_type 21 = .ok (.invokevirtual 302, 3) := by decide +kernel
theorem dX7_type_24 : decode cX7_type 24 = .ok (.aload_n 0, 1) := by decide +kernel
theorem dX7_type_25 : decode cX7_type 25 = .ok (.getfield 55, 3) := by decide +kernel
theorem dX7_type_28 : decode cX7_type 28 = .ok (.getfield 299, 3) := by decide +kernel
theorem dX7_type_31 : decode cX7_type 31 = .ok (.ireturn, 1) := by decide +kernel
set_option maxRecDepth 100000 in
set_option maxHeartbeats 4000000 in
theorem m_X7_type {l : Launch} {G : z_Gl} {σ : z_St} (P n o u v w rc tl : Nat) (hI : z_inv σ P n o u v w rc tl) (x : Int32) : z_M l G yX7_type cX7_type 2 (some .int) (z_rm 1 21) [.ref (z_ad G 0), .int x] σ (z_p1 (.int (if tl = 200 then (-1000004) else nI (tl + 1))) (if tl = 200 then σ else z_ui (z_ui σ 83 tl (vp_nar .char x)) 82 5 (nI (tl + 1)))) := by
  refine z_M.of (by decide) (Nat.le_of_ble_eq_true rfl) (fun p e s m below meth c C => ?_)
  refine z_sub [0, 1] (lv1 := [(0, .ref (z_ad G 0)), (1, .int x)]) rfl ?_
  have hI0 := hI
  obtain ⟨⟨hP, hn, ho, hu, hv, hw, hrc, htl⟩, hPs, hnP, ho21, huv, hw6, hrc8, htl2⟩ := hI0
  have h0 : 0 < P := by omega
  have h12 : P ≤ 12 := by omega
  have h288 : n ≤ 288 := by omega
  refine z_aload_n 0 C dX7_type_0 0 rfl ?_
  refine z_getf 1 C 0 z_dX7 (⟨rfl, rfl⟩) 6 (by decide) q345 (.ref (z_ad G 82)) rfl dX7_type_1 ?_
  refine z_getfN 4 C 82 z_dX4 (⟨rfl, rfl⟩) 5 (by decide) (List.mem_of_getElem? (i := 25) rfl) (.int (nI tl)) (z_ci htl) dX7_type_4 ?_
  refine z_sipush 7 C dX7_type_7 (nI 200) rfl ?_
  refine z_icmp_neN 10 C tl 200 rfl rfl (by omega) (by omega) 16 dX7_type_10 (by decide) (fun c10 => ?_) (fun c10 => ?_)
  · skip
    refine z_aload_n 16 C dX7_type_16 0 rfl ?_
    refine z_getf 17 C 0 z_dX7 (⟨rfl, rfl⟩) 6 (by decide) q345 (.ref (z_ad G 82)) rfl dX7_type_17 ?_
    refine z_iload_n 20 C dX7_type_20 1 rfl ?_
    refine z_callVN 21 C 82 (⟨rfl, rfl⟩) rfl (As := [.int x]) (rest := []) (m_X4_append tl htl (by omega) x) k_X4_append (List.mem_of_getElem? (i := 54) rfl) ⟨rfl, rfl⟩ ⟨Nat.le_of_ble_eq_true rfl, Nat.le_of_ble_eq_true rfl⟩ rfl (Nat.le_of_ble_eq_true rfl) ⟨Nat.le_of_ble_eq_true rfl, Nat.le_of_ble_eq_true rfl⟩ rfl dX7_type_21 (z_k0 ?_)
    refine z_aload_n 24 C dX7_type_24 0 rfl ?_
    refine z_getf 25 C 0 z_dX7 (⟨rfl, rfl⟩) 6 (by decide) q345 (.ref (z_ad G 82)) rfl dX7_type_25 ?_
    refine z_getfN 28 C 82 z_dX4 (⟨rfl, rfl⟩) 5 (by decide) (List.mem_of_getElem? (i := 25) rfl) (.int (nI (tl + 1))) rfl dX7_type_28 ?_
    refine z_iret 31 C dX7_type_31 ?_
    refine ⟨?_, ?_⟩
    · (rw [if_neg (c10)]) <;> (try rfl)
    · first | rfl | ((rw [if_neg (c10)]) <;> (try rfl))
  · skip
    refine z_ldc 13 C dX7_type_13 q748 ?_
    refine z_iret 15 C dX7_type_15 ?_
    refine ⟨?_, ?_⟩
    · (rw [if_pos (c10)]) <;> (try rfl)
    · first | rfl | ((rw [if_pos (c10)]) <;> (try rfl))
theorem dX7_clearText_0 : decode cX7_clearText 0 = .ok (.aload_n 0, 1) := by decide +kernel
theorem dX7_clearText_1 : decode cX7_clearText 1 = .ok (.getfield 55, 3) := by decide +kernel
theorem dX7_clearText_4 : decode cX7_clearText 4 = .ok (.getfield 299, 3) := by decide +kernel
theorem dX7_clearText_7 : decode cX7_clearText 7 = .ok (.istore_n 1, 1) := by decide +kernel
theorem dX7_clearText_8 : decode cX7_clearText 8 = .ok (.aload_n 0, 1) := by decide +kernel
theorem dX7_clearText_9 : decode cX7_clearText 9 = .ok (.getfield 55, 3) := by decide +kernel
theorem dX7_clearText_12 : decode cX7_clearText 12 = .ok (.iconst 0, 1) := by decide +kernel
theorem dX7_clearText_13 : decode cX7_clearText 13 = .ok (.putfield 299, 3) := by decide +kernel
theorem dX7_clearText_16 : decode cX7_clearText 16 = .ok (.iload_n 1, 1) := by decide +kernel
theorem dX7_clearText_17 : decode cX7_clearText 17 = .ok (.ireturn, 1) := by decide +kernel
set_option maxRecDepth 100000 in
set_option maxHeartbeats 4000000 in
theorem m_X7_clearText {l : Launch} {G : z_Gl} {σ : z_St} (P n o u v w rc tl : Nat) (hI : z_inv σ P n o u v w rc tl) : z_M l G yX7_clearText cX7_clearText 2 (some .int) (z_rm 0 0) [.ref (z_ad G 0)] σ (z_p1 (.int (nI tl)) (z_ui σ 82 5 (nI 0))) := by
  refine z_M.of (by decide) (Nat.le_of_ble_eq_true rfl) (fun p e s m below meth c C => ?_)
  refine z_sub [0] (lv1 := [(0, .ref (z_ad G 0))]) rfl ?_
  have hI0 := hI
  obtain ⟨⟨hP, hn, ho, hu, hv, hw, hrc, htl⟩, hPs, hnP, ho21, huv, hw6, hrc8, htl2⟩ := hI0
  have h0 : 0 < P := by omega
  have h12 : P ≤ 12 := by omega
  have h288 : n ≤ 288 := by omega
  refine z_aload_n 0 C dX7_clearText_0 0 rfl ?_
  refine z_getf 1 C 0 z_dX7 (⟨rfl, rfl⟩) 6 (by decide) q345 (.ref (z_ad G 82)) rfl dX7_clearText_1 ?_
  refine z_getfN 4 C 82 z_dX4 (⟨rfl, rfl⟩) 5 (by decide) (List.mem_of_getElem? (i := 25) rfl) (.int (nI tl)) (z_ci htl) dX7_clearText_4 ?_
  refine z_istore_n 7 C dX7_clearText_7 [(1, .int (nI tl)), (0, .ref (z_ad G 0))] (by decide) rfl ?_
  refine z_aload_n 8 C dX7_clearText_8 1 rfl ?_
  refine z_getf 9 C 0 z_dX7 (⟨rfl, rfl⟩) 6 (by decide) q345 (.ref (z_ad G 82)) rfl dX7_clearText_9 ?_
  refine z_iconst 12 C dX7_clearText_12 (nI 0) rfl ?_
  refine z_putiN 13 C 82 z_dX4 (⟨rfl, rfl⟩) 5 (by decide) (List.mem_of_getElem? (i := 25) rfl) rfl (rfl) rfl ⟨Nat.le_of_ble_eq_true rfl, rfl⟩ dX7_clearText_13 ?_
  refine z_iload_n 16 C dX7_clearText_16 0 rfl ?_
  refine z_iret 17 C dX7_clearText_17 ?_
  refine ⟨?_, ?_⟩
  · (skip) <;> (try rfl)
  · first | rfl | ((skip) <;> (try rfl))
theorem dX7_setTrue_0 : decode cX7_setTrue 0 = .ok (.iload_n 2, 1) := by decide +kernel
theorem dX7_setTrue_1 : decode cX7_setTrue 1 = .ok (.invokestatic 108, 3) := by decide +kernel
theorem dX7_setTrue_4 : decode cX7_setTrue 4 = .ok (.ifCond .ne 16, 3) := by decide +kernel
theorem dX7_setTrue_7 : decode cX7_setTrue 7 = .ok (.iload_n 3, 1) := by decide +kernel
theorem dX7_setTrue_8 : decode cX7_setTrue 8 = .ok (.sipush (-5000), 3) := by decide +kernel
theorem dX7_setTrue_11 : decode cX7_setTrue 11 = .ok (.sipush 5000, 3) := by decide +kernel
theorem dX7_setTrue_14 : decode cX7_setTrue 14 = .ok (.invokestatic 77, 3) := by decide +kernel
theorem dX7_setTrue_17 : decode cX7_setTrue 17 = .ok (.ifCond .eq 6, 3) := by decide +kernel
theorem dX7_setTrue_20 : decode cX7_setTrue 20 = .ok (.ldc 68, 2) := by decide +kernel
theorem dX7_setTrue_22 : decode cX7_setTrue 22 = .ok (.ireturn, 1) := by decide +kernel
theorem dX7_setTrue_23 : decode cX7_setTrue 23 = .ok (.aload_n 0, 1) := by decide +kernel
theorem dX7_setTrue_24 : decode cX7_setTrue 24 = .ok (.getfield 21, 3) := by decide +kernel
theorem dX7_setTrue_27 : decode cX7_setTrue 27 = .ok (.iload_n 1, 1) := by decide +kernel
theorem dX7_setTrue_28 : decode cX7_setTrue 28 = .ok (.invokevirtual 320, 3) := by decide +kernel
theorem dX7_setTrue_31 : decode cX7_setTrue 31 = .ok (.astore 4, 2) := by decide +kernel
theorem dX7_setTrue_33 : decode cX7_setTrue 33 = .ok (.aload 4, 2) := by decide +kernel
theorem dX7_setTrue_35 : decode cX7_setTrue 35 = .ok (.iload_n 2, 1) := by decide +kernel
theorem dX7_setTrue_36 : decode cX7_setTrue 36 = .ok (.iaload, 1) := by decide +kernel
theorem dX7_setTrue_37 : decode cX7_setTrue 37 = .ok (.istore 5, 2) := by decide +kernel
theorem dX7_setTrue_39 : decode cX7_setTrue 39 = .ok (.aload 4, 2) := by decide +kernel
theorem dX7_setTrue_41 : decode cX7_setTrue 41 = .ok (.iload_n 2, 1) := by decide +kernel
theorem dX7_setTrue_42 : decode cX7_setTrue 42 = .ok (.iload_n 3, 1) := by decide +kernel
theorem dX7_setTrue_43 : decode cX7_setTrue 43 = .ok (.iastore, 1) := by decide +kernel
theorem dX7_setTrue_44 : decode cX7_setTrue 44 = .ok (.iload 5, 2) := by decide +kernel
theorem dX7_setTrue_46 : decode cX7_setTrue 46 = .ok (.ireturn, 1) := by decide +kernel
set_option maxRecDepth 100000 in
set_option maxHeartbeats 4000000 in
theorem m_X7_setTrue {l : Launch} {G : z_Gl} {σ : z_St} (P n o u v w rc tl : Nat) (hI : z_inv σ P n o u v w rc tl) (t : Nat) (x y : Int32) (ht : t < 2) : z_M l G yX7_setTrue cX7_setTrue 6 (some .int) (z_rm 2 42) [.ref (z_ad G 0), .int (nI t), .int x, .int y] σ (z_p1 (.int (if x < nI 0 ∨ nI 23 < x then (-1000001) else if y < (-5000) ∨ nI 5000 < y then (-1000001) else σ.1 (6 + t) (z_n x))) (if x < nI 0 ∨ nI 23 < x then σ else if y < (-5000) ∨ nI 5000 < y then σ else z_ui σ (6 + t) (z_n x) y)) := by
  refine z_M.of (by decide) (Nat.le_of_ble_eq_true rfl) (fun p e s m below meth c C => ?_)
  refine z_sub [0, 1, 2, 3] (lv1 := [(0, .ref (z_ad G 0)), (1, .int (nI t)), (2, .int x), (3, .int y)]) rfl ?_
  have hI0 := hI
  obtain ⟨⟨hP, hn, ho, hu, hv, hw, hrc, htl⟩, hPs, hnP, ho21, huv, hw6, hrc8, htl2⟩ := hI0
  have h0 : 0 < P := by omega
  have h12 : P ≤ 12 := by omega
  have h288 : n ≤ 288 := by omega
  refine z_iload_n 0 C dX7_setTrue_0 2 rfl ?_
  refine z_callS 1 C (As := [.int x]) (rest := []) (m_X7_isNoPosition x) k_X7_isNoPosition q445 ⟨rfl, rfl⟩ ⟨Nat.le_of_ble_eq_true rfl, Nat.le_of_ble_eq_true rfl⟩ rfl (Nat.le_of_ble_eq_true rfl) ⟨Nat.le_of_ble_eq_true rfl, Nat.le_of_ble_eq_true rfl⟩ rfl dX7_setTrue_1 (z_k1 ?_)
  refine z_if_neb 4 C 20 dX7_setTrue_4 (by decide) (fun c4 => ?_) (fun c4 => ?_)
  · skip
    refine z_ldc 20 C dX7_setTrue_20 q371 ?_
    refine z_iret 22 C dX7_setTrue_22 ?_
    refine ⟨?_, ?_⟩
    · (rw [if_pos (c4)]) <;> (try rfl)
    · first | rfl | ((rw [if_pos (c4)]) <;> (try rfl))
  · skip
    obtain ⟨a, ha, rfl⟩ := z_in0 (by decide) c4
    refine z_iload_n 7 C dX7_setTrue_7 3 rfl ?_
    refine z_sipush 8 C dX7_setTrue_8 (-5000) rfl ?_
    refine z_sipush 11 C dX7_setTrue_11 (nI 5000) rfl ?_
    refine z_callS 14 C (As := [.int y, .int (-5000), .int (nI 5000)]) (rest := []) (m_X7_isOutside y (-5000) (nI 5000)) k_X7_isOutside q380 ⟨rfl, rfl⟩ ⟨Nat.le_of_ble_eq_true rfl, Nat.le_of_ble_eq_true rfl⟩ rfl (Nat.le_of_ble_eq_true rfl) ⟨Nat.le_of_ble_eq_true rfl, Nat.le_of_ble_eq_true rfl⟩ rfl dX7_setTrue_14 (z_k1 ?_)
    refine z_if_eqb 17 C 23 dX7_setTrue_17 (by decide) (fun c17 => ?_) (fun c17 => ?_)
    · skip
      refine z_aload_n 23 C dX7_setTrue_23 0 rfl ?_
      refine z_getf 24 C 0 z_dX7 (⟨rfl, rfl⟩) 1 (by decide) q340 (.ref (z_ad G 5)) rfl dX7_setTrue_24 ?_
      refine z_iload_n 27 C dX7_setTrue_27 1 rfl ?_
      refine z_callVN 28 C 5 (⟨rfl, rfl⟩) rfl (As := [.int (nI t)]) (rest := []) (m_X5_profileOf t (by omega)) k_X5_profileOf (List.mem_of_getElem? (i := 25) rfl) ⟨rfl, rfl⟩ ⟨Nat.le_of_ble_eq_true rfl, Nat.le_of_ble_eq_true rfl⟩ rfl (Nat.le_of_ble_eq_true rfl) ⟨Nat.le_of_ble_eq_true rfl, Nat.le_of_ble_eq_true rfl⟩ rfl dX7_setTrue_28 (z_k1 ?_)
      refine z_astore 31 C dX7_setTrue_31 [(4, .ref (z_ad G (6 + t))), (0, .ref (z_ad G 0)), (1, .int (nI t)), (2, .int (nI a)), (3, .int y)] (by decide) rfl ?_
      refine z_aload 33 C dX7_setTrue_33 0 rfl ?_
      refine z_iload_n 35 C dX7_setTrue_35 3 rfl ?_
      refine z_ialdN 36 C (6 + t) (n := 24) (z_tpK _ (by omega)) a rfl (by omega) (by decide) dX7_setTrue_36 ?_
      refine z_istore 37 C dX7_setTrue_37 [(5, .int (σ.1 (6 + t) a)), (4, .ref (z_ad G (6 + t))), (0, .ref (z_ad G 0)), (1, .int (nI t)), (2, .int (nI a)), (3, .int y)] (by decide) rfl ?_
      refine z_aload 39 C dX7_setTrue_39 1 rfl ?_
      refine z_iload_n 41 C dX7_setTrue_41 4 rfl ?_
      refine z_iload_n 42 C dX7_setTrue_42 5 rfl ?_
      refine z_iastN 43 C (6 + t) (n := 24) (z_tpK _ (by omega)) a rfl (by omega) (by decide) dX7_setTrue_43 ?_
      refine z_iload 44 C dX7_setTrue_44 0 rfl ?_
      refine z_iret 46 C dX7_setTrue_46 ?_
      refine ⟨?_, ?_⟩
      · (rw [if_neg (c4), if_neg (c17), z_nk (k := a) (by omega)]) <;> (try rfl)
      · first | rfl | ((rw [if_neg (c4), if_neg (c17), z_nk (k := a) (by omega)]) <;> (try rfl))
    · skip
      refine z_ldc 20 C dX7_setTrue_20 q371 ?_
      refine z_iret 22 C dX7_setTrue_22 ?_
      refine ⟨?_, ?_⟩
      · (rw [if_neg (c4), if_pos (c17)]) <;> (try rfl)
      · first | rfl | ((rw [if_neg (c4), if_pos (c17)]) <;> (try rfl))
theorem dX7_addLobes_0 : decode cX7_addLobes 0 = .ok (.iload_n 2, 1) := by decide +kernel
theorem dX7_addLobes_1 : decode cX7_addLobes 1 = .ok (.iconst 0, 1) := by decide +kernel
theorem dX7_addLobes_2 : decode cX7_addLobes 2 = .ok (.bipush 12, 2) := by decide +kernel
theorem dX7_addLobes_4 : decode cX7_addLobes 4 = .ok (.invokestatic 77, 3) := by decide +kernel
theorem dX7_addLobes_7 : decode cX7_addLobes 7 = .ok (.ifCond .ne 24, 3) := by decide +kernel
theorem dX7_addLobes_10 : decode cX7_addLobes 10 = .ok (.iload_n 3, 1) := by decide +kernel
theorem dX7_addLobes_11 : decode cX7_addLobes 11 = .ok (.sipush (-1000), 3) := by decide +kernel
theorem dX7_addLobes_14 : decode cX7_addLobes 14 = .ok (.sipush 1000, 3) := by decide +kernel
theorem dX7_addLobes_17 : decode cX7_addLobes 17 = .ok (.invokestatic 77, 3) := by decide +kernel
theorem dX7_addLobes_20 : decode cX7_addLobes 20 = .ok (.ifCond .ne 11, 3) := by decide +kernel
theorem dX7_addLobes_23 : decode cX7_addLobes 23 = .ok (.iload 4, 2) := by decide +kernel
theorem dX7_addLobes_25 : decode cX7_addLobes 25 = .ok (.invokestatic 108, 3) := by decide +kernel
theorem dX7_addLobes_28 : decode cX7_addLobes 28 = .ok (.ifCond .eq 6, 3) := by decide +kernel
theorem dX7_addLobes_31 : decode cX7_addLobes 31 = .ok (.ldc 68, 2) := by decide +kernel
theorem dX7_addLobes_33 : decode cX7_addLobes 33 = .ok (.ireturn, 1) := by decide +kernel
theorem dX7_addLobes_34 : decode cX7_addLobes 34 = .ok (.aload_n 0, 1) := by decide +kernel
theorem dX7_addLobes_35 : decode cX7_addLobes 35 = .ok (.getfield 21, 3) := by decide +kernel
theorem dX7_addLobes_38 : decode cX7_addLobes 38 = .ok (.iload_n 1, 1) := by decide +kernel
theorem dX7_addLobes_39 : decode cX7_addLobes 39 = .ok (.iload_n 2, 1) := by decide +kernel
theorem dX7_addLobes_40 : decode cX7_addLobes 40 = .ok (.iload_n 3, 1) := by decide +kernel
theorem dX7_addLobes_41 : decode cX7_addLobes 41 = .ok (.iload 4, 2) := by decide +kernel
theorem dX7_addLobes_43 : decode cX7_addLobes 43 = .ok (.invokevirtual 324, 3) := by decide +kernel
theorem dX7_addLobes_46 : decode cX7_addLobes 46 = .ok (.ifCond .eq 7, 3) := by decide +kernel
theorem dX7_addLobes_49 : decode cX7_addLobes 49 = .ok (.iconst 1, 1) := by decide +kernel
theorem dX7_addLobes_50 : decode cX7_addLobes 50 = .ok (.goto 4, 3) := by decide +kernel
theorem dX7_addLobes_53 : decode cX7_addLobes 53 = .ok (.iconst 0, 1) := by decide +kernel
theorem dX7_addLobes_54 : decode cX7_addLobes 54 = .ok (.ireturn, 1) := by decide +kernel
set_option maxRecDepth 100000 in
set_option maxHeartbeats 4000000 in
theorem m_X7_addLobes {l : Launch} {G : z_Gl} {σ : z_St} (P n o u v w rc tl : Nat) (hI : z_inv σ P n o u v w rc tl) (t : Nat) (x y z : Int32) (ht : t < 2) : z_M l G yX7_addLobes cX7_addLobes 5 (some .int) (z_rm 4 92) [.ref (z_ad G 0), .int (nI t), .int x, .int y, .int z] σ (z_p1 (.int (if x < nI 0 ∨ nI 12 < x then (-1000001) else if y < (-1000) ∨ nI 1000 < y then (-1000001) else if z < nI 0 ∨ nI 23 < z then (-1000001) else z_bo (z_chg (z_so (σ.1 (6 + t)) y (z_n x) (z_n z)) (σ.1 (6 + t)) 24))) (if x < nI 0 ∨ nI 12 < x then σ else if y < (-1000) ∨ nI 1000 < y then σ else if z < nI 0 ∨ nI 23 < z then σ else z_uI σ (6 + t) (z_fil (z_so (σ.1 (6 + t)) y (z_n x) (z_n z)) (σ.1 (6 + t)) 24))) := by
  refine z_M.of (by decide) (Nat.le_of_ble_eq_true rfl) (fun p e s m below meth c C => ?_)
  refine z_sub [0, 1, 2, 3, 4] (lv1 := [(0, .ref (z_ad G 0)), (1, .int (nI t)), (2, .int x), (3, .int y), (4, .int z)]) rfl ?_
  have hI0 := hI
  obtain ⟨⟨hP, hn, ho, hu, hv, hw, hrc, htl⟩, hPs, hnP, ho21, huv, hw6, hrc8, htl2⟩ := hI0
  have h0 : 0 < P := by omega
  have h12 : P ≤ 12 := by omega
  have h288 : n ≤ 288 := by omega
  refine z_iload_n 0 C dX7_addLobes_0 2 rfl ?_
  refine z_iconst 1 C dX7_addLobes_1 (nI 0) rfl ?_
  refine z_bipush 2 C dX7_addLobes_2 (nI 12) rfl ?_
  refine z_callS 4 C (As := [.int x, .int (nI 0), .int (nI 12)]) (rest := []) (m_X7_isOutside x (nI 0) (nI 12)) k_X7_isOutside q380 ⟨rfl, rfl⟩ ⟨Nat.le_of_ble_eq_true rfl, Nat.le_of_ble_eq_true rfl⟩ rfl (Nat.le_of_ble_eq_true rfl) ⟨Nat.le_of_ble_eq_true rfl, Nat.le_of_ble_eq_true rfl⟩ rfl dX7_addLobes_4 (z_k1 ?_)
  refine z_if_neb 7 C 31 dX7_addLobes_7 (by decide) (fun c7 => ?_) (fun c7 => ?_)
  · skip
    refine z_ldc 31 C dX7_addLobes_31 q371 ?_
    refine z_iret 33 C dX7_addLobes_33 ?_
    refine ⟨?_, ?_⟩
    · (rw [if_pos (c7)]) <;> (try rfl)
    · first | rfl | ((rw [if_pos (c7)]) <;> (try rfl))
  · skip
    obtain ⟨a, ha, rfl⟩ := z_in0 (by decide) c7
    refine z_iload_n 10 C dX7_addLobes_10 3 rfl ?_
    refine z_sipush 11 C dX7_addLobes_11 (-1000) rfl ?_
    refine z_sipush 14 C dX7_addLobes_14 (nI 1000) rfl ?_
    refine z_callS 17 C (As := [.int y, .int (-1000), .int (nI 1000)]) (rest := []) (m_X7_isOutside y (-1000) (nI 1000)) k_X7_isOutside q380 ⟨rfl, rfl⟩ ⟨Nat.le_of_ble_eq_true rfl, Nat.le_of_ble_eq_true rfl⟩ rfl (Nat.le_of_ble_eq_true rfl) ⟨Nat.le_of_ble_eq_true rfl, Nat.le_of_ble_eq_true rfl⟩ rfl dX7_addLobes_17 (z_k1 ?_)
    refine z_if_neb 20 C 31 dX7_addLobes_20 (by decide) (fun c20 => ?_) (fun c20 => ?_)
    · skip
      refine z_ldc 31 C dX7_addLobes_31 q371 ?_
      refine z_iret 33 C dX7_addLobes_33 ?_
      refine ⟨?_, ?_⟩
      · (rw [if_neg (c7), if_pos (c20)]) <;> (try rfl)
      · first | rfl | ((rw [if_neg (c7), if_pos (c20)]) <;> (try rfl))
    · skip
      refine z_iload 23 C dX7_addLobes_23 4 rfl ?_
      refine z_callS 25 C (As := [.int z]) (rest := []) (m_X7_isNoPosition z) k_X7_isNoPosition q445 ⟨rfl, rfl⟩ ⟨Nat.le_of_ble_eq_true rfl, Nat.le_of_ble_eq_true rfl⟩ rfl (Nat.le_of_ble_eq_true rfl) ⟨Nat.le_of_ble_eq_true rfl, Nat.le_of_ble_eq_true rfl⟩ rfl dX7_addLobes_25 (z_k1 ?_)
      refine z_if_eqb 28 C 34 dX7_addLobes_28 (by decide) (fun c28 => ?_) (fun c28 => ?_)
      · skip
        obtain ⟨b, hb, rfl⟩ := z_in0 (by decide) c28
        refine z_aload_n 34 C dX7_addLobes_34 0 rfl ?_
        refine z_getf 35 C 0 z_dX7 (⟨rfl, rfl⟩) 1 (by decide) q340 (.ref (z_ad G 5)) rfl dX7_addLobes_35 ?_
        refine z_iload_n 38 C dX7_addLobes_38 1 rfl ?_
        refine z_iload_n 39 C dX7_addLobes_39 2 rfl ?_
        refine z_iload_n 40 C dX7_addLobes_40 3 rfl ?_
        refine z_iload 41 C dX7_addLobes_41 4 rfl ?_
        refine z_callVN 43 C 5 (⟨rfl, rfl⟩) rfl (As := [.int (nI t), .int (nI a), .int y, .int (nI b)]) (rest := []) (m_X5_superpose t a b y (by omega) (by omega) (by omega)) k_X5_superpose (List.mem_of_getElem? (i := 60) rfl) ⟨rfl, rfl⟩ ⟨Nat.le_of_ble_eq_true rfl, Nat.le_of_ble_eq_true rfl⟩ rfl (Nat.le_of_ble_eq_true rfl) ⟨Nat.le_of_ble_eq_true rfl, Nat.le_of_ble_eq_true rfl⟩ rfl dX7_addLobes_43 (z_k1 ?_)
        refine z_if_eqb 46 C 53 dX7_addLobes_46 (by decide) (fun c46 => ?_) (fun c46 => ?_)
        · skip
          refine z_iconst 53 C dX7_addLobes_53 (nI 0) rfl ?_
          refine z_iret 54 C dX7_addLobes_54 ?_
          refine ⟨z_ci ?_, ?_⟩
          · rw [if_neg c7, if_neg c20, if_neg c28, z_nk (k := a) (by omega), z_nk (k := b) (by omega)]; first | exact z_bo_t c46 | exact z_bo_f c46
          · rw [if_neg c7, if_neg c20, if_neg c28, z_nk (k := a) (by omega), z_nk (k := b) (by omega)]
        · skip
          refine z_iconst 49 C dX7_addLobes_49 (nI 1) rfl ?_
          refine z_goto 50 C 54 dX7_addLobes_50 (by decide) ?_
          refine z_iret 54 C dX7_addLobes_54 ?_
          refine ⟨z_ci ?_, ?_⟩
          · rw [if_neg c7, if_neg c20, if_neg c28, z_nk (k := a) (by omega), z_nk (k := b) (by omega)]; first | exact z_bo_t c46 | exact z_bo_f c46
          · rw [if_neg c7, if_neg c20, if_neg c28, z_nk (k := a) (by omega), z_nk (k := b) (by omega)]
      · skip
        refine z_ldc 31 C dX7_addLobes_31 q371 ?_
        refine z_iret 33 C dX7_addLobes_33 ?_
        refine ⟨?_, ?_⟩
        · (rw [if_neg (c7), if_neg (c20), if_pos (c28)]) <;> (try rfl)
        · first | rfl | ((rw [if_neg (c7), if_neg (c20), if_pos (c28)]) <;> (try rfl))
theorem dX7_setEccentricity_0 : decode cX7_setEccentricity 0 = .ok (.iload_n 1, 1) := by decide +kernel
theorem dX7_setEccentricity_1 : decode cX7_setEccentricity 1 = .ok (.sipush (-5000), 3) := by decide +kernel
theorem dX7_setEccentricity_4 : decode cX7_setEccentricity 4 = .ok (.sipush 5000, 3) := by decide +kernel
theorem dX7_setEccentricity_7 : decode cX7_setEccentricity 7 = .ok (.invokestatic 77, 3) := by decide +kernel
theorem dX7_setEccentricity_10 : decode cX7_setEccentricity 10 = .ok (.ifCond .ne 16, 3) := by decide +kernel
theorem dX7_setEccentricity_13 : decode cX7_setEccentricity 13 = .ok (.iload_n 2, 1) := by decide +kernel
theorem dX7_setEccentricity_14 : decode cX7_setEccentricity 14 = .ok (.sipush (-5000), 3) := by decide +kernel
theorem dX7_setEccentricity_17 : decode cX7_setEccentricity 17 = .ok (.sipush 5000, 3) := by decide +kernel
theorem dX7_setEccentricity_20 : decode cX7_setEccentricity 20 = .ok (.invokestatic 77, 3) := by decide +kernel
theorem dX7_setEccentricity_23 : decode cX7_setEccentricity 23 = .ok (.ifCond .eq 6, 3) := by decide +kernel
theorem dX7_setEccentricity_26 : decode cX7_setEccentricity 26 = .ok (.ldc 68, 2) := by decide +kernel
theorem dX7_setEccentricity_28 : decode cX7_setEccentricity 28 = .ok (.ireturn, 1) := by decide +kernel
theorem dX7_setEccentricity_29 : decode cX7_setEccentricity 29 = .ok (.aload_n 0, 1) := by decide +kernel
theorem dX7_setEccentricity_30 : decode cX7_setEccentricity 30 = .ok (.getfield 21, 3) := by decide +kernel
theorem dX7_setEccentricity_33 : decode cX7_setEccentricity 33 = .ok (.iload_n 1, 1) := by decide +kernel
theorem dX7_setEccentricity_34 : decode cX7_setEccentricity 34 = .ok (.iload_n 2, 1) := by decide +kernel
theorem dX7_setEccentricity_35 : decode cX7_setEccentricity 35 = .ok (.invokevirtual 328, 3) := by decide +kernel
theorem dX7_setEccentricity_38 : decode cX7_setEccentricity 38 = .ok (.ifCond .eq 7, 3) := by decide +kernel
theorem dX7_setEccentricity_41 : decode cX7_setEccentricity 41 = .ok (.iconst 1, 1) := by decide +kernel
theorem dX7_setEccentricity_42 : decode cX7_setEccentricity 42 = .ok (.goto 4, 3) := by decide +kernel
theorem dX7_setEccentricity_45 : decode cX7_setEccentricity 45 = .ok (.iconst 0, 1) := by decide +kernel
theorem dX7_setEccentricity_46 : decode cX7_setEccentricity 46 = .ok (.ireturn, 1) := by decide +kernel
set_option maxRecDepth 100000 in
set_option maxHeartbeats 4000000 in
theorem m_X7_setEccentricity {l : Launch} {G : z_Gl} {σ : z_St} (P n o u v w rc tl : Nat) (hI : z_inv σ P n o u v w rc tl) (x : Int32) (y : Int32) : z_M l G yX7_setEccentricity cX7_setEccentricity 3 (some .int) (z_rm 1 23) [.ref (z_ad G 0), .int x, .int y] σ (z_p1 (.int (if x < (-5000) ∨ nI 5000 < x then (-1000001) else if y < (-5000) ∨ nI 5000 < y then (-1000001) else z_bo (¬ x = σ.1 5 2 ∨ ¬ y = σ.1 5 3))) (if x < (-5000) ∨ nI 5000 < x then σ else if y < (-5000) ∨ nI 5000 < y then σ else z_ui (z_ui σ 5 2 x) 5 3 y)) := by
  refine z_M.of (by decide) (Nat.le_of_ble_eq_true rfl) (fun p e s m below meth c C => ?_)
  refine z_sub [0, 1, 2] (lv1 := [(0, .ref (z_ad G 0)), (1, .int x), (2, .int y)]) rfl ?_
  have hI0 := hI
  obtain ⟨⟨hP, hn, ho, hu, hv, hw, hrc, htl⟩, hPs, hnP, ho21, huv, hw6, hrc8, htl2⟩ := hI0
  have h0 : 0 < P := by omega
  have h12 : P ≤ 12 := by omega
  have h288 : n ≤ 288 := by omega
  refine z_iload_n 0 C dX7_setEccentricity_0 1 rfl ?_
  refine z_sipush 1 C dX7_setEccentricity_1 (-5000) rfl ?_
  refine z_sipush 4 C dX7_setEccentricity_4 (nI 5000) rfl ?_
  refine z_callS 7 C (As := [.int x, .int (-5000), .int (nI 5000)]) (rest := []) (m_X7_isOutside x (-5000) (nI 5000)) k_X7_isOutside q380 ⟨rfl, rfl⟩ ⟨Nat.le_of_ble_eq_true rfl, Nat.le_of_ble_eq_true rfl⟩ rfl (Nat.le_of_ble_eq_true rfl) ⟨Nat.le_of_ble_eq_true rfl, Nat.le_of_ble_eq_true rfl⟩ rfl dX7_setEccentricity_7 (z_k1 ?_)
  refine z_if_neb 10 C 26 dX7_setEccentricity_10 (by decide) (fun c10 => ?_) (fun c10 => ?_)
  · skip
    refine z_ldc 26 C dX7_setEccentricity_26 q371 ?_
    refine z_iret 28 C dX7_setEccentricity_28 ?_
    refine ⟨?_, ?_⟩
    · (rw [if_pos (c10)]) <;> (try rfl)
    · first | rfl | ((rw [if_pos (c10)]) <;> (try rfl))
  · skip
    refine z_iload_n 13 C dX7_setEccentricity_13 2 rfl ?_
    refine z_sipush 14 C dX7_setEccentricity_14 (-5000) rfl ?_
    refine z_sipush 17 C dX7_setEccentricity_17 (nI 5000) rfl ?_
    refine z_callS 20 C (As := [.int y, .int (-5000), .int (nI 5000)]) (rest := []) (m_X7_isOutside y (-5000) (nI 5000)) k_X7_isOutside q380 ⟨rfl, rfl⟩ ⟨Nat.le_of_ble_eq_true rfl, Nat.le_of_ble_eq_true rfl⟩ rfl (Nat.le_of_ble_eq_true rfl) ⟨Nat.le_of_ble_eq_true rfl, Nat.le_of_ble_eq_true rfl⟩ rfl dX7_setEccentricity_20 (z_k1 ?_)
    refine z_if_eqb 23 C 29 dX7_setEccentricity_23 (by decide) (fun c23 => ?_) (fun c23 => ?_)
    · skip
      refine z_aload_n 29 C dX7_setEccentricity_29 0 rfl ?_
      refine z_getf 30 C 0 z_dX7 (⟨rfl, rfl⟩) 1 (by decide) q340 (.ref (z_ad G 5)) rfl dX7_setEccentricity_30 ?_
      refine z_iload_n 33 C dX7_setEccentricity_33 1 rfl ?_
      refine z_iload_n 34 C dX7_setEccentricity_34 2 rfl ?_
      refine z_callVN 35 C 5 (⟨rfl, rfl⟩) rfl (As := [.int x, .int y]) (rest := []) (m_X5_shiftTo x y) k_X5_shiftTo (List.mem_of_getElem? (i := 59) rfl) ⟨rfl, rfl⟩ ⟨Nat.le_of_ble_eq_true rfl, Nat.le_of_ble_eq_true rfl⟩ rfl (Nat.le_of_ble_eq_true rfl) ⟨Nat.le_of_ble_eq_true rfl, Nat.le_of_ble_eq_true rfl⟩ rfl dX7_setEccentricity_35 (z_k1 ?_)
      refine z_if_eqb 38 C 45 dX7_setEccentricity_38 (by decide) (fun c38 => ?_) (fun c38 => ?_)
      · skip
        refine z_iconst 45 C dX7_setEccentricity_45 (nI 0) rfl ?_
        refine z_iret 46 C dX7_setEccentricity_46 ?_
        refine ⟨z_ci ?_, ?_⟩
        · rw [if_neg c10, if_neg c23]; first | exact z_bo_t c38 | exact z_bo_f c38
        · rw [if_neg c10, if_neg c23]
      · skip
        refine z_iconst 41 C dX7_setEccentricity_41 (nI 1) rfl ?_
        refine z_goto 42 C 46 dX7_setEccentricity_42 (by decide) ?_
        refine z_iret 46 C dX7_setEccentricity_46 ?_
        refine ⟨z_ci ?_, ?_⟩
        · rw [if_neg c10, if_neg c23]; first | exact z_bo_t c38 | exact z_bo_f c38
        · rw [if_neg c10, if_neg c23]
    · skip
      refine z_ldc 26 C dX7_setEccentricity_26 q371 ?_
      refine z_iret 28 C dX7_setEccentricity_28 ?_
      refine ⟨?_, ?_⟩
      · (rw [if_neg (c10), if_pos (c23)]) <;> (try rfl)
      · first | rfl | ((rw [if_neg (c10), if_pos (c23)]) <;> (try rfl))
