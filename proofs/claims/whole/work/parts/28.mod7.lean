/-! THE REFERENCE: spikes, simulation, rules -/
def zm_sd (o : Nat → Int32) (k : Nat) : Int64 := (o ((k + (24 - 1 % 24)) % 24)).toInt64 + (o ((k + 1) % 24)).toInt64
abbrev zm_sk (o : Nat → Int32) (L : Int32) (k : Nat) : Prop := 2 * L.toInt64 < z_ab (2 * (o k).toInt64 - zm_sd o k)
def zm_sv (o : Nat → Int32) (L : Int32) (k : Nat) : Int32 := if zm_sk o L k then (z_fd (zm_sd o k) 2).toInt32 else o k
def zm_sc (o : Nat → Int32) (L : Int32) : Nat → Nat
  | 0 => 0
  | k + 1 => zm_sc o L k + if zm_sk o L k then 1 else 0
theorem zm_sc_1 {o : Nat → Int32} {L : Int32} {k : Nat} (h : zm_sk o L k) : zm_sc o L (k + 1) = zm_sc o L k + 1 := by rw [zm_sc, if_pos h]
theorem zm_sc_0 {o : Nat → Int32} {L : Int32} {k : Nat} (h : ¬ zm_sk o L k) : zm_sc o L (k + 1) = zm_sc o L k := by rw [zm_sc, if_neg h]; rfl
theorem zm_sc_le (o : Nat → Int32) (L : Int32) : ∀ k, zm_sc o L k ≤ k
  | 0 => Nat.le_refl 0
  | k + 1 => by have := zm_sc_le o L k; unfold zm_sc; split <;> omega
theorem zm_ald {σ : z_St} {F g : Nat → Int64} {X : Nat → Int32} {i : Nat} (h : i < 24) : (z_uI (z_uL σ 109 (z_fil F g 24)) 107 X).2 109 i = F i := z_fil_lt h
theorem zm_putr {σ : z_St} {i a k : Nat} {f g : Nat → Int32} : (z_uI σ i (fb_put f g a k)).1 i (a + k) = f (a + k) := by
  rw [z_uI1, if_pos rfl]
  exact fb_put_out (Or.inr (Nat.le_refl _))
theorem zm_chs {F o : Nat → Int32} {k : Nat} (h : F k = o k) : z_bo (z_chg F o k) = z_bo (z_chg F o (k + 1)) := z_bo_iff (not_congr ⟨fun z => lt_s z h, fun z j hj => z j (Nat.lt_succ_of_lt hj)⟩)
theorem zm_simS (σ : z_St) (n k : Nat) (g : Nat → Int32) : z_ui (z_ui (z_ui (z_uI σ 107 (fb_put (σ.1 107) g n k)) 105 2 (nI (n + k))) 107 (n + k) (g k)) 105 2 (nI (n + k + 1)) = z_ui (z_uI σ 107 (fb_put (σ.1 107) g n (k + 1))) 105 2 (nI (n + (k + 1))) := by
  rw [← z_uIu σ 107 n k (σ.1 107) g rfl]
  unfold z_ui z_uI
  refine Prod.ext ?_ rfl
  funext b
  by_cases h : b = 105
  · subst h
    simp [Nat.add_assoc]
    funext j
    unfold upd
    split <;> rfl
  · by_cases h7 : b = 107
    · subst h7; simp
    · simp [h, h7]
theorem z_mi.rd {σ : z_St} {P n u v w rc tl : Nat} (h : z_mi σ P n u v w rc tl) {m : Nat} {X : Nat → Int32} (hm : m ≤ P * 24) : z_mi (z_ui (z_uI σ 107 X) 105 2 (nI m)) P m u v w rc tl := by
  obtain ⟨⟨h1, h2, h3, h4, h5, h6, h7⟩, h8, h9, h10, h11, h12, h13, h14, h15⟩ := h
  exact ⟨⟨h1, rfl, h3, h4, h5, h6, h7⟩, h8, hm, h10, h11, h12, h13, h14, h15⟩
/-- the rules of the reference: all four numbers in one row -/
def zm_rr (R : Nat → Int32) (d : Nat) : Nat → Int32 := fun i => R (4 * i + d)
def zm_ru (σ : z_St) (rc : Nat) : Prop := ∀ i, i < rc → ∃ a b mm : Nat, a ≤ b ∧ b ≤ 12 ∧ mm < 4 ∧ zm_rr (σ.1 117) 0 i = nI a ∧ zm_rr (σ.1 117) 1 i = nI b ∧ zm_rr (σ.1 117) 2 i = nI mm
theorem z_mU_9 {σ : z_St} {cx cy mo le : Int64} {as_ of_ F : Nat → Int64} : z_uL (z_mU σ cx cy mo le as_ of_) 109 F = z_mU σ cx cy mo le F of_ := by
  unfold z_uL z_mU
  refine Prod.ext rfl ?_
  funext a
  by_cases h : a = 105
  · subst h; simp
  · by_cases h4 : a = 109
    · subst h4; simp
    · simp [h, h4]
theorem zm_or0 (x : Int32) : x ||| nI 0 = x := Int32.or_zero
theorem dX8_despike_0 : decode cX8_despike 0 = .ok (.aload_n 0, 1) := by decide +kernel
theorem dX8_despike_1 : decode cX8_despike 1 = .ok (.iload_n 1, 1) := by decide +kernel
theorem dX8_despike_2 : decode cX8_despike 2 = .ok (.invokevirtual 98, 3) := by decide +kernel
theorem dX8_despike_5 : decode cX8_despike 5 = .ok (.ifCond .ne 23, 3) := by decide +kernel
theorem dX8_despike_8 : decode cX8_despike 8 = .ok (.aload_n 0, 1) := by decide +kernel
theorem dX8_despike_9 : decode cX8_despike 9 = .ok (.iload_n 1, 1) := by decide +kernel
theorem dX8_despike_10 : decode cX8_despike 10 = .ok (.invokevirtual 104, 3) := by decide +kernel
theorem dX8_despike_13 : decode cX8_despike 13 = .ok (.ifCond .eq 15, 3) := by decide +kernel
theorem dX8_despike_16 : decode cX8_despike 16 = .ok (.iload_n 2, 1) := by decide +kernel
theorem dX8_despike_17 : decode cX8_despike 17 = .ok (.i2l, 1) := by decide +kernel
theorem dX8_despike_18 : decode cX8_despike 18 = .ok (.lconst 0, 1) := by decide +kernel
theorem dX8_despike_19 : decode cX8_despike 19 = .ok (.ldc2_w 107, 3) := by decide +kernel
theorem dX8_despike_22 : decode cX8_despike 22 = .ok (.invokestatic 68, 3) := by decide +kernel
theorem dX8_despike_25 : decode cX8_despike 25 = .ok (.ifCond .ne 6, 3) := by decide +kernel
theorem dX8_despike_28 : decode cX8_despike 28 = .ok (.ldc 87, 2) := by decide +kernel
theorem dX8_despike_30 : decode cX8_despike 30 = .ok (.ireturn, 1) := by decide +kernel
theorem dX8_despike_31 : decode cX8_despike 31 = .ok (.iconst 0, 1) := by decide +kernel
theorem dX8_despike_32 : decode cX8_despike 32 = .ok (.istore_n 3, 1) := by decide +kernel
theorem dX8_despike_33 : decode cX8_despike 33 = .ok (.iload_n 3, 1) := by decide +kernel
theorem dX8_despike_34 : decode cX8_despike 34 = .ok (.bipush 24, 2) := by decide +kernel
theorem dX8_despike_36 : decode cX8_despike 36 = .ok (.if_icmp .ge 27, 3) := by decide +kernel
theorem dX8_despike_39 : decode cX8_despike 39 = .ok (.aload_n 0, 1) := by decide +kernel
theorem dX8_despike_40 : decode cX8_despike 40 = .ok (.getfield 26, 3) := by decide +kernel
theorem dX8_despike_43 : decode cX8_despike 43 = .ok (.iload_n 3, 1) := by decide +kernel
theorem dX8_despike_44 : decode cX8_despike 44 = .ok (.aload_n 0, 1) := by decide +kernel
theorem dX8_despike_45 : decode cX8_despike 45 = .ok (.getfield 19, 3) := by decide +kernel
theorem dX8_despike_48 : decode cX8_despike 48 = .ok (.bipush 24, 2) := by decide +kernel
theorem dX8_despike_50 : decode cX8_despike 50 = .ok (.iload_n 1, 1) := by decide +kernel
theorem dX8_despike_51 : decode cX8_despike 51 = .ok (.imul, 1) := by decide +kernel
theorem dX8_despike_52 : decode cX8_despike 52 = .ok (.iload_n 3, 1) := by decide +kernel
theorem dX8_despike_53 : decode cX8_despike 53 = .ok (.iadd, 1) := by decide +kernel
theorem dX8_despike_54 : decode cX8_despike 54 = .ok (.iaload, 1) := by decide +kernel
theorem dX8_despike_55 : decode cX8_despike 55 = .ok (.i2l, 1) := by decide +kernel
theorem dX8_despike_56 : decode cX8_despike 56 = .ok (.lastore, 1) := by decide +kernel
theorem dX8_despike_57 : decode cX8_despike 57 = .ok (.iinc 3 1, 3) := by decide +kernel
theorem dX8_despike_60 : decode cX8_despike 60 = .ok (.goto (-27), 3) := by decide +kernel
theorem dX8_despike_63 : decode cX8_despike 63 = .ok (.iconst 0, 1) := by decide +kernel
theorem dX8_despike_64 : decode cX8_despike 64 = .ok (.istore_n 3, 1) := by decide +kernel
theorem dX8_despike_65 : decode cX8_despike 65 = .ok (.iconst 0, 1) := by decide +kernel
theorem dX8_despike_66 : decode cX8_despike 66 = .ok (.istore 4, 2) := by decide +kernel
theorem dX8_despike_68 : decode cX8_despike 68 = .ok (.iload 4, 2) := by decide +kernel
theorem dX8_despike_70 : decode cX8_despike 70 = .ok (.bipush 24, 2) := by decide +kernel
theorem dX8_despike_72 : decode cX8_despike 72 = .ok (.if_icmp .ge 87, 3) := by decide +kernel
theorem dX8_despike_75 : decode cX8_despike 75 = .ok (.aload_n 0, 1) := by decide +kernel
theorem dX8_despike_76 : decode cX8_despike 76 = .ok (.getfield 26, 3) := by decide +kernel
theorem dX8_despike_79 : decode cX8_despike 79 = .ok (.iload 4, 2) := by decide +kernel
theorem dX8_despike_81 : decode cX8_despike 81 = .ok (.iconst 1, 1) := by decide +kernel
theorem dX8_despike_82 : decode cX8_despike 82 = .ok (.isub, 1) := by decide +kernel
theorem dX8_despike_83 : decode cX8_despike 83 = .ok (.invokestatic 72, 3) := by decide +kernel
theorem dX8_despike_86 : decode cX8_despike 86 = .ok (.laload, 1) := by decide +kernel
theorem dX8_despike_87 : decode cX8_despike 87 = .ok (.aload_n 0, 1) := by decide +kernel
theorem dX8_despike_88 : decode cX8_despike 88 = .ok (.getfield 26, 3) := by decide +kernel
theorem dX8_despike_91 : decode cX8_despike 91 = .ok (.iload 4, 2) := by decide +kernel
theorem dX8_despike_93 : decode cX8_despike 93 = .ok (.iconst 1, 1) := by decide +kernel
theorem dX8_despike_94 : decode cX8_despike 94 = .ok (.iadd, 1) := by decide +kernel
theorem dX8_despike_95 : decode cX8_despike 95 = .ok (.invokestatic 72, 3) := by decide +kernel
theorem dX8_despike_98 : decode cX8_despike 98 = .ok (.laload, 1) := by decide +kernel
theorem dX8_despike_99 : decode cX8_despike 99 = .ok (.ladd, 1) := by decide +kernel
theorem dX8_despike_100 : decode cX8_despike 100 = .ok (.lstore 5, 2) := by decide +kernel
theorem dX8_despike_102 : decode cX8_despike 102 = .ok (.ldc2_w 109, 3) := by decide +kernel
theorem dX8_despike_105 : decode cX8_despike 105 = .ok (.aload_n 0, 1) := by decide +kernel
theorem dX8_despike_106 : decode cX8_despike 106 = .ok (.getfield 26, 3) := by decide +kernel
theorem dX8_despike_109 : decode cX8_despike 109 = .ok (.iload 4, 2) := by decide +kernel
theorem dX8_despike_111 : decode cX8_despike 111 = .ok (.laload, 1) := by decide +kernel
theorem dX8_despike_112 : decode cX8_despike 112 = .ok (.lmul, 1) := by decide +kernel
theorem dX8_despike_113 : decode cX8_despike 113 = .ok (.lload 5, 2) := by decide +kernel
theorem dX8_despike_115 : decode cX8_despike 115 = .ok (.lsub, 1) := by decide +kernel
theorem dX8_despike_116 : decode cX8_despike 116 = .ok (.invokestatic 111, 3) := by decide +kernel
theorem dX8_despike_119 : decode cX8_despike 119 = .ok (.ldc2_w 109, 3) := by decide +kernel
theorem dX8_despike_122 : decode cX8_despike 122 = .ok (.iload_n 2, 1) := by decide +kernel
theorem dX8_despike_123 : decode cX8_despike 123 = .ok (.i2l, 1) := by decide +kernel
theorem dX8_despike_124 : decode cX8_despike 124 = .ok (.lmul, 1) := by decide +kernel
theorem dX8_despike_125 : decode cX8_despike 125 = .ok (.lcmp, 1) := by decide +kernel
theorem dX8_despike_126 : decode cX8_despike 126 = .ok (.ifCond .le 27, 3) := by decide +kernel
theorem dX8_despike_129 : decode cX8_despike 129 = .ok (.aload_n 0, 1) := by decide +kernel
theorem dX8_despike_130 : decode cX8_despike 130 = .ok (.getfield 19, 3) := by decide +kernel
theorem dX8_despike_133 : decode cX8_despike 133 = .ok (.bipush 24, 2) := by decide +kernel
theorem dX8_despike_135 : decode cX8_despike 135 = .ok (.iload_n 1, 1) := by decide +kernel
theorem dX8_despike_136 : decode cX8_despike 136 = .ok (.imul, 1) := by decide +kernel
theorem dX8_despike_137 : decode cX8_despike 137 = .ok (.iload 4, 2) := by decide +kernel
theorem dX8_despike_139 : decode cX8_despike 139 = .ok (.iadd, 1) := by decide +kernel
theorem dX8_despike_140 : decode cX8_despike 140 = .ok (.lload 5, 2) := by decide +kernel
theorem dX8_despike_142 : decode cX8_despike 142 = .ok (.ldc2_w 109, 3) := by decide +kernel
theorem dX8_despike_145 : decode cX8_despike 145 = .ok (.invokestatic 115, 3) := by decide +kernel
theorem dX8_despike_148 : decode cX8_despike 148 = .ok (.l2i, 1) := by decide +kernel
theorem dX8_despike_149 : decode cX8_despike 149 = .ok (.iastore, 1) := by decide +kernel
theorem dX8_despike_150 : decode cX8_despike 150 = .ok (.iinc 3 1, 3) := by decide +kernel
theorem dX8_despike_153 : decode cX8_despike 153 = .ok (.iinc 4 1, 3) := by decide +kernel
theorem dX8_despike_156 : decode cX8_despike 156 = .ok (.goto (-88), 3) := by decide +kernel
theorem dX8_despike_159 : decode cX8_despike 159 = .ok (.iload_n 3, 1) := by decide +kernel
theorem dX8_despike_160 : decode cX8_despike 160 = .ok (.ireturn, 1) := by decide +kernel
set_option maxRecDepth 100000 in
set_option maxHeartbeats 4000000 in
theorem m_X8_despike {l : Launch} {G : z_Gl} {σ : z_St} (P n u v w rc tl : Nat) (hM : z_mi σ P n u v w rc tl) (x : Int32) (y : Int32) : z_M l G yX8_despike cX8_despike 7 (some .int) (z_rm 2 46) [.ref (z_ad G 105), .int x, .int y] σ (z_p1 (.int (if x < nI 0 ∨ nI P - nI 1 < x then (-1000001) else if ¬ 24 * (z_n x + 1) ≤ n then (-1000001) else if y < nI 0 ∨ nI 20000 < y then (-1000001) else nI (zm_sc (z_shI (σ.1 107) (24 * z_n x)) y 24))) (if x < nI 0 ∨ nI P - nI 1 < x then σ else if ¬ 24 * (z_n x + 1) ≤ n then σ else if y < nI 0 ∨ nI 20000 < y then σ else z_uI (z_uL σ 109 (z_fil (fun kk => Int32.toInt64 ((z_shI (σ.1 107) (24 * z_n x)) kk)) (σ.2 109) 24)) 107 (fb_put (σ.1 107) (zm_sv (z_shI (σ.1 107) (24 * z_n x)) y) (24 * z_n x) 24))) := by
  refine z_M.of (by decide) (Nat.le_of_ble_eq_true rfl) (fun p e s m below meth c C => ?_)
  refine z_sub [0, 1, 2] (lv1 := [(0, .ref (z_ad G 105)), (1, .int x), (2, .int y)]) rfl ?_
  have hM0 := hM
  obtain ⟨⟨hP, hn, hu, hv, hw, hrc, htl⟩, hPs, hnP, huv, hw6, hrc8, htl2, hqt, hah⟩ := hM0
  have h0 : 0 < P := by omega
  have h12 : P ≤ 12 := by omega
  have h288 : n ≤ 288 := by omega
  refine z_aload_n 0 C dX8_despike_0 0 rfl ?_
  refine z_iload_n 1 C dX8_despike_1 1 rfl ?_
  refine z_callV 2 C 105 (⟨rfl, rfl⟩) rfl (As := [.int x]) (rest := []) (m_X8_noStep P n u v w rc tl hM x ) k_X8_noStep q1092 ⟨rfl, rfl⟩ ⟨Nat.le_of_ble_eq_true rfl, Nat.le_of_ble_eq_true rfl⟩ rfl (Nat.le_of_ble_eq_true rfl) ⟨Nat.le_of_ble_eq_true rfl, Nat.le_of_ble_eq_true rfl⟩ rfl dX8_despike_2 (z_k1 ?_)
  refine z_if_neb 5 C 28 dX8_despike_5 (by decide) (fun c5 => ?_) (fun c5 => ?_)
  · skip
    refine z_ldc 28 C dX8_despike_28 q1064 ?_
    refine z_iret 30 C dX8_despike_30 ?_
    first | exact ⟨z_ci (by rw [if_pos c5]), by rw [if_pos c5]⟩ | exact ⟨z_ci (by rw [if_neg c5, z_nk (k := j) (by omega), if_pos c13]), by rw [if_neg c5, z_nk (k := j) (by omega), if_pos c13]⟩ | exact ⟨z_ci (by rw [if_neg c5, z_nk (k := j) (by omega), if_neg (fun z => z c13), if_pos c25]), by rw [if_neg c5, z_nk (k := j) (by omega), if_neg (fun z => z c13), if_pos c25]⟩
  · skip
    obtain ⟨j, hj, rfl⟩ := z_inw (by omega) c5
    refine z_aload_n 8 C dX8_despike_8 0 rfl ?_
    refine z_iload_n 9 C dX8_despike_9 1 rfl ?_
    refine z_callV 10 C 105 (⟨rfl, rfl⟩) rfl (As := [.int (nI j)]) (rest := []) (m_X8_isFinished P n u v w rc tl hM j (by omega)) k_X8_isFinished q1104 ⟨rfl, rfl⟩ ⟨Nat.le_of_ble_eq_true rfl, Nat.le_of_ble_eq_true rfl⟩ rfl (Nat.le_of_ble_eq_true rfl) ⟨Nat.le_of_ble_eq_true rfl, Nat.le_of_ble_eq_true rfl⟩ rfl dX8_despike_10 (z_k1 ?_)
    refine z_if_eqb 13 C 28 dX8_despike_13 (by decide) (fun c13 => ?_) (fun c13 => ?_)
    · skip
      refine z_ldc 28 C dX8_despike_28 q1064 ?_
      refine z_iret 30 C dX8_despike_30 ?_
      first | exact ⟨z_ci (by rw [if_pos c5]), by rw [if_pos c5]⟩ | exact ⟨z_ci (by rw [if_neg c5, z_nk (k := j) (by omega), if_pos c13]), by rw [if_neg c5, z_nk (k := j) (by omega), if_pos c13]⟩ | exact ⟨z_ci (by rw [if_neg c5, z_nk (k := j) (by omega), if_neg (fun z => z c13), if_pos c25]), by rw [if_neg c5, z_nk (k := j) (by omega), if_neg (fun z => z c13), if_pos c25]⟩
    · skip
      refine z_iload_n 16 C dX8_despike_16 2 rfl ?_
      refine z_i2l 17 C dX8_despike_17 ?_
      refine z_lconst 18 C dX8_despike_18 0 rfl ?_
      refine z_ldc2 19 C dX8_despike_19 q1108 ?_
      refine z_callS 22 C (As := [.long (Int32.toInt64 y), .long 0, .long 20000]) (rest := []) (m_X8_in_i y (nI 0) (nI 20000) (by decide) (by decide)) k_X8_in q1071 ⟨rfl, rfl⟩ ⟨Nat.le_of_ble_eq_true rfl, Nat.le_of_ble_eq_true rfl⟩ rfl (Nat.le_of_ble_eq_true rfl) ⟨Nat.le_of_ble_eq_true rfl, Nat.le_of_ble_eq_true rfl⟩ rfl dX8_despike_22 (z_k1 ?_)
      refine z_if_neb 25 C 31 dX8_despike_25 (by decide) (fun c25 => ?_) (fun c25 => ?_)
      · skip
        refine z_iconst 31 C dX8_despike_31 (nI 0) rfl ?_
        refine z_istore_n 32 C dX8_despike_32 [(3, .int (nI 0)), (0, .ref (z_ad G 105)), (1, .int (nI j)), (2, .int y)] (by decide) rfl ?_
        refine z_sub [1, 2, 3, 0] (lv1 := [(0, .ref (z_ad G 105)), (1, .int (nI j)), (2, .int y), (3, .int (nI 0))]) rfl ?_
        refine z_cv (lv1 := [(0, .ref (z_ad G 105)), (1, .int (nI j)), (2, .int y), (3, .int (nI 0))]) (st1 := []) (σ1 := z_uL σ 109 (z_fil (fun kk => Int32.toInt64 ((z_shI (σ.1 107) (24 * j)) kk)) (σ.2 109) 0)) rfl rfl (z_fil0L σ 109 _) ?_
        refine z_lp1 (fun (k : Nat) => k ≤ 24) (fun (k : Nat) => 24 - k) (fun (k : Nat) => [(0, .ref (z_ad G 105)), (1, .int (nI j)), (2, .int y), (3, .int (nI k))]) (fun (k : Nat) => z_uL σ 109 (z_fil (fun kk => Int32.toInt64 ((z_shI (σ.1 107) (24 * j)) kk)) (σ.2 109) k)) (fun k hi_33 ih_33 => ?_) 0 (by omega)
        try dsimp only
        refine z_iload_n 33 C dX8_despike_33 3 rfl ?_
        refine z_bipush 34 C dX8_despike_34 (nI 24) rfl ?_
        refine z_icmp_geN 36 C k 24 rfl rfl (by omega) (by omega) 63 dX8_despike_36 (by decide) (fun c36 => ?_) (fun c36 => ?_)
        · skip
          have ek : k = 24 := by omega
          subst ek
          refine z_iconst 63 C dX8_despike_63 (nI 0) rfl ?_
          refine z_istore_n 64 C dX8_despike_64 [(3, .int (nI 0)), (0, .ref (z_ad G 105)), (1, .int (nI j)), (2, .int y)] (by decide) rfl ?_
          refine z_iconst 65 C dX8_despike_65 (nI 0) rfl ?_
          refine z_istore 66 C dX8_despike_66 [(4, .int (nI 0)), (3, .int (nI 0)), (0, .ref (z_ad G 105)), (1, .int (nI j)), (2, .int y)] (by decide) rfl ?_
          refine z_sub [2, 3, 4, 1, 0] (lv1 := [(0, .ref (z_ad G 105)), (1, .int (nI j)), (2, .int y), (3, .int (nI 0)), (4, .int (nI 0))]) rfl ?_
          refine z_cv (lv1 := [(0, .ref (z_ad G 105)), (1, .int (nI j)), (2, .int y), (3, .int (nI (zm_sc (z_shI (σ.1 107) (24 * j)) y 0))), (4, .int (nI 0))]) (st1 := []) (σ1 := z_uI (z_uL σ 109 (z_fil (fun kk => Int32.toInt64 ((z_shI (σ.1 107) (24 * j)) kk)) (σ.2 109) 24)) 107 (fb_put (σ.1 107) (zm_sv (z_shI (σ.1 107) (24 * j)) y) (24 * j) 0)) rfl rfl (by rw [fb_put_0]; exact (z_uI_same (z_uL σ 109 _) 107).symm) ?_
          refine z_lp1 (fun (k : Nat) => k ≤ 24) (fun (k : Nat) => 24 - k) (fun (k : Nat) => [(0, .ref (z_ad G 105)), (1, .int (nI j)), (2, .int y), (3, .int (nI (zm_sc (z_shI (σ.1 107) (24 * j)) y k))), (4, .int (nI k))]) (fun (k : Nat) => z_uI (z_uL σ 109 (z_fil (fun kk => Int32.toInt64 ((z_shI (σ.1 107) (24 * j)) kk)) (σ.2 109) 24)) 107 (fb_put (σ.1 107) (zm_sv (z_shI (σ.1 107) (24 * j)) y) (24 * j) k)) (fun k hi_68 ih_68 => ?_) 0 (by omega)
          try dsimp only
          refine z_iload 68 C dX8_despike_68 4 rfl ?_
          refine z_bipush 70 C dX8_despike_70 (nI 24) rfl ?_
          refine z_icmp_geN 72 C k 24 rfl rfl (by omega) (by omega) 159 dX8_despike_72 (by decide) (fun c72 => ?_) (fun c72 => ?_)
          · skip
            have ek : k = 24 := by omega
            subst ek
            refine z_iload_n 159 C dX8_despike_159 3 rfl ?_
            refine z_iret 160 C dX8_despike_160 ?_
            exact ⟨z_ci (by rw [if_neg c5, z_nk (k := j) (by omega), if_neg (fun z => z c13), if_neg c25]), by rw [if_neg c5, z_nk (k := j) (by omega), if_neg (fun z => z c13), if_neg c25]⟩
          · skip
            have hsc := zm_sc_le (z_shI (σ.1 107) (24 * j)) y k
            refine z_aload_n 75 C dX8_despike_75 0 rfl ?_
            refine z_getf 76 C 105 z_dX8 (⟨rfl, rfl⟩) 5 (by decide) q971 (.ref (z_ad G 109)) rfl dX8_despike_76 ?_
            refine z_iload 79 C dX8_despike_79 4 rfl ?_
            refine z_iconst 81 C dX8_despike_81 (nI 1) rfl ?_
            refine z_isub 82 C dX8_despike_82 ?_
            refine z_callS 83 C (As := [.int ((nI k) - (nI 1))]) (rest := [.ref (z_ad G 109)]) (m_X8_around_d (σ := z_uI (z_uL σ 109 (z_fil (fun kk => Int32.toInt64 ((z_shI (σ.1 107) (24 * j)) kk)) (σ.2 109) 24)) 107 (fb_put (σ.1 107) (zm_sv (z_shI (σ.1 107) (24 * j)) y) (24 * j) k)) k 1 (by omega) (by omega)) k_X8_around q1109 ⟨rfl, rfl⟩ ⟨Nat.le_of_ble_eq_true rfl, Nat.le_of_ble_eq_true rfl⟩ rfl (Nat.le_of_ble_eq_true rfl) ⟨Nat.le_of_ble_eq_true rfl, Nat.le_of_ble_eq_true rfl⟩ rfl dX8_despike_83 (z_k1 ?_)
            refine z_laldN 86 C 109 (n := 24) (⟨rfl, rfl⟩) ((k + (24 - 1 % 24)) % 24) rfl (by omega) (by decide) dX8_despike_86 ?_
            refine z_cv (lv1 := [(0, .ref (z_ad G 105)), (1, .int (nI j)), (2, .int y), (3, .int (nI (zm_sc (z_shI (σ.1 107) (24 * j)) y k))), (4, .int (nI k))]) (st1 := [.long (Int32.toInt64 ((z_shI (σ.1 107) (24 * j)) ((k + (24 - 1 % 24)) % 24)))]) (σ1 := z_uI (z_uL σ 109 (z_fil (fun kk => Int32.toInt64 ((z_shI (σ.1 107) (24 * j)) kk)) (σ.2 109) 24)) 107 (fb_put (σ.1 107) (zm_sv (z_shI (σ.1 107) (24 * j)) y) (24 * j) k)) rfl (by rw [zm_ald (by omega)]) rfl ?_
            refine z_aload_n 87 C dX8_despike_87 0 rfl ?_
            refine z_getf 88 C 105 z_dX8 (⟨rfl, rfl⟩) 5 (by decide) q971 (.ref (z_ad G 109)) rfl dX8_despike_88 ?_
            refine z_iload 91 C dX8_despike_91 4 rfl ?_
            refine z_iconst 93 C dX8_despike_93 (nI 1) rfl ?_
            refine z_iaddN 94 C k 1 rfl rfl dX8_despike_94 ?_
            refine z_callS 95 C (As := [.int (nI (k + 1))]) (rest := [.ref (z_ad G 109), .long (Int32.toInt64 ((z_shI (σ.1 107) (24 * j)) ((k + (24 - 1 % 24)) % 24)))]) (m_X8_around_n (σ := z_uI (z_uL σ 109 (z_fil (fun kk => Int32.toInt64 ((z_shI (σ.1 107) (24 * j)) kk)) (σ.2 109) 24)) 107 (fb_put (σ.1 107) (zm_sv (z_shI (σ.1 107) (24 * j)) y) (24 * j) k)) (k + 1) (by omega)) k_X8_around q1109 ⟨rfl, rfl⟩ ⟨Nat.le_of_ble_eq_true rfl, Nat.le_of_ble_eq_true rfl⟩ rfl (Nat.le_of_ble_eq_true rfl) ⟨Nat.le_of_ble_eq_true rfl, Nat.le_of_ble_eq_true rfl⟩ rfl dX8_despike_95 (z_k1 ?_)
            refine z_laldN 98 C 109 (n := 24) (⟨rfl, rfl⟩) ((k + 1) % 24) rfl (by omega) (by decide) dX8_despike_98 ?_
            refine z_cv (lv1 := [(0, .ref (z_ad G 105)), (1, .int (nI j)), (2, .int y), (3, .int (nI (zm_sc (z_shI (σ.1 107) (24 * j)) y k))), (4, .int (nI k))]) (st1 := [.long (Int32.toInt64 ((z_shI (σ.1 107) (24 * j)) ((k + 1) % 24))), .long (Int32.toInt64 ((z_shI (σ.1 107) (24 * j)) ((k + (24 - 1 % 24)) % 24)))]) (σ1 := z_uI (z_uL σ 109 (z_fil (fun kk => Int32.toInt64 ((z_shI (σ.1 107) (24 * j)) kk)) (σ.2 109) 24)) 107 (fb_put (σ.1 107) (zm_sv (z_shI (σ.1 107) (24 * j)) y) (24 * j) k)) rfl (by rw [zm_ald (by omega)]) rfl ?_
            refine z_ladd 99 C dX8_despike_99 ?_
            refine z_lstore 100 C dX8_despike_100 [(5, .long ((Int32.toInt64 ((z_shI (σ.1 107) (24 * j)) ((k + (24 - 1 % 24)) % 24))) + (Int32.toInt64 ((z_shI (σ.1 107) (24 * j)) ((k + 1) % 24))))), (0, .ref (z_ad G 105)), (1, .int (nI j)), (2, .int y), (3, .int (nI (zm_sc (z_shI (σ.1 107) (24 * j)) y k))), (4, .int (nI k))] (by decide) rfl ?_
            refine z_cv (lv1 := [(5, .long (zm_sd (z_shI (σ.1 107) (24 * j)) k)), (0, .ref (z_ad G 105)), (1, .int (nI j)), (2, .int y), (3, .int (nI (zm_sc (z_shI (σ.1 107) (24 * j)) y k))), (4, .int (nI k))]) (st1 := []) (σ1 := z_uI (z_uL σ 109 (z_fil (fun kk => Int32.toInt64 ((z_shI (σ.1 107) (24 * j)) kk)) (σ.2 109) 24)) 107 (fb_put (σ.1 107) (zm_sv (z_shI (σ.1 107) (24 * j)) y) (24 * j) k)) rfl rfl rfl ?_
            refine z_ldc2 102 C dX8_despike_102 q1112 ?_
            refine z_aload_n 105 C dX8_despike_105 1 rfl ?_
            refine z_getf 106 C 105 z_dX8 (⟨rfl, rfl⟩) 5 (by decide) q971 (.ref (z_ad G 109)) rfl dX8_despike_106 ?_
            refine z_iload 109 C dX8_despike_109 5 rfl ?_
            refine z_laldN 111 C 109 (n := 24) (⟨rfl, rfl⟩) k rfl (by omega) (by decide) dX8_despike_111 ?_
            refine z_cv (lv1 := [(5, .long (zm_sd (z_shI (σ.1 107) (24 * j)) k)), (0, .ref (z_ad G 105)), (1, .int (nI j)), (2, .int y), (3, .int (nI (zm_sc (z_shI (σ.1 107) (24 * j)) y k))), (4, .int (nI k))]) (st1 := [.long (Int32.toInt64 ((z_shI (σ.1 107) (24 * j)) (k))), .long 2]) (σ1 := z_uI (z_uL σ 109 (z_fil (fun kk => Int32.toInt64 ((z_shI (σ.1 107) (24 * j)) kk)) (σ.2 109) 24)) 107 (fb_put (σ.1 107) (zm_sv (z_shI (σ.1 107) (24 * j)) y) (24 * j) k)) rfl (by rw [zm_ald (by omega)]) rfl ?_
            refine z_lmul 112 C dX8_despike_112 ?_
            refine z_lload 113 C dX8_despike_113 0 rfl ?_
            refine z_lsub 115 C dX8_despike_115 ?_
            refine z_callS 116 C (As := [.long ((2 * (Int32.toInt64 ((z_shI (σ.1 107) (24 * j)) (k)))) - (zm_sd (z_shI (σ.1 107) (24 * j)) k))]) (rest := []) (m_X8_size (σ := z_uI (z_uL σ 109 (z_fil (fun kk => Int32.toInt64 ((z_shI (σ.1 107) (24 * j)) kk)) (σ.2 109) 24)) 107 (fb_put (σ.1 107) (zm_sv (z_shI (σ.1 107) (24 * j)) y) (24 * j) k)) ((2 * (Int32.toInt64 ((z_shI (σ.1 107) (24 * j)) (k)))) - (zm_sd (z_shI (σ.1 107) (24 * j)) k))) k_X8_size q1113 ⟨rfl, rfl⟩ ⟨Nat.le_of_ble_eq_true rfl, Nat.le_of_ble_eq_true rfl⟩ rfl (Nat.le_of_ble_eq_true rfl) ⟨Nat.le_of_ble_eq_true rfl, Nat.le_of_ble_eq_true rfl⟩ rfl dX8_despike_116 (z_k1 ?_)
            refine z_ldc2 119 C dX8_despike_119 q1112 ?_
            refine z_iload_n 122 C dX8_despike_122 3 rfl ?_
            refine z_i2l 123 C dX8_despike_123 ?_
            refine z_lmul 124 C dX8_despike_124 ?_
            refine z_lcmp_le 125 C 153 dX8_despike_125 dX8_despike_126 (by decide) (fun c125 => ?_) (fun c125 => ?_)
            · skip
              refine z_iincN 153 C 5 k [(4, .int (nI (k + 1))), (5, .long (zm_sd (z_shI (σ.1 107) (24 * j)) k)), (0, .ref (z_ad G 105)), (1, .int (nI j)), (2, .int y), (3, .int (nI (zm_sc (z_shI (σ.1 107) (24 * j)) y k)))] rfl rfl (by decide) rfl dX8_despike_153 ?_
              refine z_goto 156 C 68 dX8_despike_156 (by decide) ?_
              refine z_sub [2, 3, 4, 5, 0] (lv1 := [(0, .ref (z_ad G 105)), (1, .int (nI j)), (2, .int y), (3, .int (nI (zm_sc (z_shI (σ.1 107) (24 * j)) y k))), (4, .int (nI (k + 1)))]) rfl ?_
              refine z_cv (lv1 := [(0, .ref (z_ad G 105)), (1, .int (nI j)), (2, .int y), (3, .int (nI (zm_sc (z_shI (σ.1 107) (24 * j)) y (k + 1)))), (4, .int (nI (k + 1)))]) (st1 := []) (σ1 := z_uI (z_uL σ 109 (z_fil (fun kk => Int32.toInt64 ((z_shI (σ.1 107) (24 * j)) kk)) (σ.2 109) 24)) 107 (fb_put (σ.1 107) (zm_sv (z_shI (σ.1 107) (24 * j)) y) (24 * j) (k + 1))) (by first | rw [zm_sc_1 (Int64.not_le.mp c125)] | rw [zm_sc_0 (Int64.not_lt.mpr c125)]) rfl (by first | exact z_uIu _ _ _ _ _ _ (if_pos (Int64.not_le.mp c125)).symm | exact congrArg (z_uI _ 107) (z_put_same (if_neg (Int64.not_lt.mpr c125)))) ?_
              exact ih_68 (k + 1) (by omega) (by omega)
            · skip
              refine z_aload_n 129 C dX8_despike_129 1 rfl ?_
              refine z_getf 130 C 105 z_dX8 (⟨rfl, rfl⟩) 3 (by decide) q969 (.ref (z_ad G 107)) rfl dX8_despike_130 ?_
              refine z_bipush 133 C dX8_despike_133 (nI 24) rfl ?_
              refine z_iload_n 135 C dX8_despike_135 2 rfl ?_
              refine z_imulN 136 C 24 j rfl rfl dX8_despike_136 ?_
              refine z_iload 137 C dX8_despike_137 5 rfl ?_
              refine z_iaddN 139 C (24 * j) k rfl rfl dX8_despike_139 ?_
              refine z_lload 140 C dX8_despike_140 0 rfl ?_
              refine z_ldc2 142 C dX8_despike_142 q1112 ?_
              refine z_callS 145 C (As := [.long (zm_sd (z_shI (σ.1 107) (24 * j)) k), .long 2]) (rest := [.int (nI ((24 * j) + k)), .ref (z_ad G 107)]) (m_X8_down (σ := z_uI (z_uL σ 109 (z_fil (fun kk => Int32.toInt64 ((z_shI (σ.1 107) (24 * j)) kk)) (σ.2 109) 24)) 107 (fb_put (σ.1 107) (zm_sv (z_shI (σ.1 107) (24 * j)) y) (24 * j) k)) (zm_sd (z_shI (σ.1 107) (24 * j)) k) 2 (by decide)) k_X8_down q1116 ⟨rfl, rfl⟩ ⟨Nat.le_of_ble_eq_true rfl, Nat.le_of_ble_eq_true rfl⟩ rfl (Nat.le_of_ble_eq_true rfl) ⟨Nat.le_of_ble_eq_true rfl, Nat.le_of_ble_eq_true rfl⟩ rfl dX8_despike_145 (z_k1 ?_)
              refine z_l2i 148 C dX8_despike_148 ?_
              refine z_iastN 149 C 107 (n := 288) (⟨rfl, rfl⟩) ((24 * j) + k) rfl (by omega) (by decide) dX8_despike_149 ?_
              refine z_iincN 150 C 4 (zm_sc (z_shI (σ.1 107) (24 * j)) y k) [(3, .int (nI (zm_sc (z_shI (σ.1 107) (24 * j)) y k + 1))), (5, .long (zm_sd (z_shI (σ.1 107) (24 * j)) k)), (0, .ref (z_ad G 105)), (1, .int (nI j)), (2, .int y), (4, .int (nI k))] rfl rfl (by decide) rfl dX8_despike_150 ?_
              refine z_iincN 153 C 5 k [(4, .int (nI (k + 1))), (3, .int (nI (zm_sc (z_shI (σ.1 107) (24 * j)) y k + 1))), (5, .long (zm_sd (z_shI (σ.1 107) (24 * j)) k)), (0, .ref (z_ad G 105)), (1, .int (nI j)), (2, .int y)] rfl rfl (by decide) rfl dX8_despike_153 ?_
              refine z_goto 156 C 68 dX8_despike_156 (by decide) ?_
              refine z_sub [3, 4, 5, 1, 0] (lv1 := [(0, .ref (z_ad G 105)), (1, .int (nI j)), (2, .int y), (3, .int (nI (zm_sc (z_shI (σ.1 107) (24 * j)) y k + 1))), (4, .int (nI (k + 1)))]) rfl ?_
              refine z_cv (lv1 := [(0, .ref (z_ad G 105)), (1, .int (nI j)), (2, .int y), (3, .int (nI (zm_sc (z_shI (σ.1 107) (24 * j)) y (k + 1)))), (4, .int (nI (k + 1)))]) (st1 := []) (σ1 := z_uI (z_uL σ 109 (z_fil (fun kk => Int32.toInt64 ((z_shI (σ.1 107) (24 * j)) kk)) (σ.2 109) 24)) 107 (fb_put (σ.1 107) (zm_sv (z_shI (σ.1 107) (24 * j)) y) (24 * j) (k + 1))) (by first | rw [zm_sc_1 (Int64.not_le.mp c125)] | rw [zm_sc_0 (Int64.not_lt.mpr c125)]) rfl (by first | exact z_uIu _ _ _ _ _ _ (if_pos (Int64.not_le.mp c125)).symm | exact congrArg (z_uI _ 107) (z_put_same (if_neg (Int64.not_lt.mpr c125)))) ?_
              exact ih_68 (k + 1) (by omega) (by omega)
        · skip
          refine z_aload_n 39 C dX8_despike_39 0 rfl ?_
          refine z_getf 40 C 105 z_dX8 (⟨rfl, rfl⟩) 5 (by decide) q971 (.ref (z_ad G 109)) rfl dX8_despike_40 ?_
          refine z_iload_n 43 C dX8_despike_43 3 rfl ?_
          refine z_aload_n 44 C dX8_despike_44 0 rfl ?_
          refine z_getf 45 C 105 z_dX8 (⟨rfl, rfl⟩) 3 (by decide) q969 (.ref (z_ad G 107)) rfl dX8_despike_45 ?_
          refine z_bipush 48 C dX8_despike_48 (nI 24) rfl ?_
          refine z_iload_n 50 C dX8_despike_50 1 rfl ?_
          refine z_imulN 51 C 24 j rfl rfl dX8_despike_51 ?_
          refine z_iload_n 52 C dX8_despike_52 3 rfl ?_
          refine z_iaddN 53 C (24 * j) k rfl rfl dX8_despike_53 ?_
          refine z_ialdN 54 C 107 (n := 288) (⟨rfl, rfl⟩) ((24 * j) + k) rfl (by omega) (by decide) dX8_despike_54 ?_
          refine z_cv (st1 := [.int (σ.1 107 ((24 * j) + k)), .int (nI k), .ref (z_ad G 109)]) rfl rfl rfl ?_
          refine z_i2l 55 C dX8_despike_55 ?_
          refine z_lastN 56 C 109 (n := 24) (⟨rfl, rfl⟩) k rfl (by omega) (by decide) dX8_despike_56 ?_
          refine z_iincN 57 C 3 k [(3, .int (nI (k + 1))), (0, .ref (z_ad G 105)), (1, .int (nI j)), (2, .int y)] rfl rfl (by decide) rfl dX8_despike_57 ?_
          refine z_goto 60 C 33 dX8_despike_60 (by decide) ?_
          refine z_sub [1, 2, 3, 0] (lv1 := [(0, .ref (z_ad G 105)), (1, .int (nI j)), (2, .int y), (3, .int (nI (k + 1)))]) rfl ?_
          refine z_cv (lv1 := [(0, .ref (z_ad G 105)), (1, .int (nI j)), (2, .int y), (3, .int (nI (k + 1)))]) (st1 := []) (σ1 := z_uL σ 109 (z_fil (fun kk => Int32.toInt64 ((z_shI (σ.1 107) (24 * j)) kk)) (σ.2 109) (k + 1))) rfl rfl (z_filSL σ 109 k _ _ rfl) ?_
          exact ih_33 (k + 1) (by omega) (by omega)
      · skip
        replace c25 := Classical.not_not.mp c25
        refine z_ldc 28 C dX8_despike_28 q1064 ?_
        refine z_iret 30 C dX8_despike_30 ?_
        first | exact ⟨z_ci (by rw [if_pos c5]), by rw [if_pos c5]⟩ | exact ⟨z_ci (by rw [if_neg c5, z_nk (k := j) (by omega), if_pos c13]), by rw [if_neg c5, z_nk (k := j) (by omega), if_pos c13]⟩ | exact ⟨z_ci (by rw [if_neg c5, z_nk (k := j) (by omega), if_neg (fun z => z c13), if_pos c25]), by rw [if_neg c5, z_nk (k := j) (by omega), if_neg (fun z => z c13), if_pos c25]⟩
theorem dX8_setTrue_0 : decode cX8_setTrue 0 = .ok (.iload_n 2, 1) := by decide +kernel
theorem dX8_setTrue_1 : decode cX8_setTrue 1 = .ok (.invokestatic 101, 3) := by decide +kernel
theorem dX8_setTrue_4 : decode cX8_setTrue 4 = .ok (.ifCond .ne 17, 3) := by decide +kernel
theorem dX8_setTrue_7 : decode cX8_setTrue 7 = .ok (.iload_n 3, 1) := by decide +kernel
theorem dX8_setTrue_8 : decode cX8_setTrue 8 = .ok (.i2l, 1) := by decide +kernel
theorem dX8_setTrue_9 : decode cX8_setTrue 9 = .ok (.ldc2_w 350, 3) := by decide +kernel
theorem dX8_setTrue_12 : decode cX8_setTrue 12 = .ok (.ldc2_w 352, 3) := by decide +kernel
theorem dX8_setTrue_15 : decode cX8_setTrue 15 = .ok (.invokestatic 68, 3) := by decide +kernel
theorem dX8_setTrue_18 : decode cX8_setTrue 18 = .ok (.ifCond .ne 6, 3) := by decide +kernel
theorem dX8_setTrue_21 : decode cX8_setTrue 21 = .ok (.ldc 87, 2) := by decide +kernel
theorem dX8_setTrue_23 : decode cX8_setTrue 23 = .ok (.ireturn, 1) := by decide +kernel
theorem dX8_setTrue_24 : decode cX8_setTrue 24 = .ok (.iload_n 1, 1) := by decide +kernel
theorem dX8_setTrue_25 : decode cX8_setTrue 25 = .ok (.ifCond .eq 8, 3) := by decide +kernel
theorem dX8_setTrue_28 : decode cX8_setTrue 28 = .ok (.bipush 24, 2) := by decide +kernel
theorem dX8_setTrue_30 : decode cX8_setTrue 30 = .ok (.goto 4, 3) := by decide +kernel
theorem dX8_setTrue_33 : decode cX8_setTrue 33 = .ok (.iconst 0, 1) := by decide +kernel
theorem dX8_setTrue_34 : decode cX8_setTrue 34 = .ok (.iload_n 2, 1) := by decide +kernel
theorem dX8_setTrue_35 : decode cX8_setTrue 35 = .ok (.iadd, 1) := by decide +kernel
theorem dX8_setTrue_36 : decode cX8_setTrue 36 = .ok (.istore 4, 2) := by decide +kernel
theorem dX8_setTrue_38 : decode cX8_setTrue 38 = .ok (.aload_n 0, 1) := by decide +kernel
theorem dX8_setTrue_39 : decode cX8_setTrue 39 = .ok (.getfield 57, 3) := by decide +kernel
theorem dX8_setTrue_42 : decode cX8_setTrue 42 = .ok (.iload 4, 2) := by decide +kernel
theorem dX8_setTrue_44 : decode cX8_setTrue 44 = .ok (.iaload, 1) := by decide +kernel
theorem dX8_setTrue_45 : decode cX8_setTrue 45 = .ok (.istore 5, 2) := by decide +kernel
theorem dX8_setTrue_47 : decode cX8_setTrue 47 = .ok (.aload_n 0, 1) := by decide +kernel
theorem dX8_setTrue_48 : decode cX8_setTrue 48 = .ok (.getfield 57, 3) := by decide +kernel
theorem dX8_setTrue_51 : decode cX8_setTrue 51 = .ok (.iload 4, 2) := by decide +kernel
theorem dX8_setTrue_53 : decode cX8_setTrue 53 = .ok (.iload_n 3, 1) := by decide +kernel
theorem dX8_setTrue_54 : decode cX8_setTrue 54 = .ok (.iastore, 1) := by decide +kernel
theorem dX8_setTrue_55 : decode cX8_setTrue 55 = .ok (.iload 5, 2) := by decide +kernel
theorem dX8_setTrue_57 : decode cX8_setTrue 57 = .ok (.ireturn, 1) := by decide +kernel
set_option maxRecDepth 100000 in
set_option maxHeartbeats 4000000 in
theorem m_X8_setTrue {l : Launch} {G : z_Gl} {σ : z_St} (P n u v w rc tl : Nat) (hM : z_mi σ P n u v w rc tl) (t : Nat) (x y : Int32) (ht : t < 2) : z_M l G yX8_setTrue cX8_setTrue 6 (some .int) (z_rm 2 45) [.ref (z_ad G 105), .int (nI t), .int x, .int y] σ (z_p1 (.int (if x < nI 0 ∨ nI 23 < x then (-1000001) else if y < (-5000) ∨ nI 5000 < y then (-1000001) else σ.1 119 (24 * t + z_n x))) (if x < nI 0 ∨ nI 23 < x then σ else if y < (-5000) ∨ nI 5000 < y then σ else z_ui σ 119 (24 * t + z_n x) y)) := by
  refine z_M.of (by decide) (Nat.le_of_ble_eq_true rfl) (fun p e s m below meth c C => ?_)
  refine z_sub [0, 1, 2, 3] (lv1 := [(0, .ref (z_ad G 105)), (1, .int (nI t)), (2, .int x), (3, .int y)]) rfl ?_
  have hM0 := hM
  obtain ⟨⟨hP, hn, hu, hv, hw, hrc, htl⟩, hPs, hnP, huv, hw6, hrc8, htl2, hqt, hah⟩ := hM0
  have h0 : 0 < P := by omega
  have h12 : P ≤ 12 := by omega
  have h288 : n ≤ 288 := by omega
  refine z_iload_n 0 C dX8_setTrue_0 2 rfl ?_
  refine z_callS 1 C (As := [.int x]) (rest := []) (m_X8_noPlace x) k_X8_noPlace q1096 ⟨rfl, rfl⟩ ⟨Nat.le_of_ble_eq_true rfl, Nat.le_of_ble_eq_true rfl⟩ rfl (Nat.le_of_ble_eq_true rfl) ⟨Nat.le_of_ble_eq_true rfl, Nat.le_of_ble_eq_true rfl⟩ rfl dX8_setTrue_1 (z_k1 ?_)
  refine z_if_neb 4 C 21 dX8_setTrue_4 (by decide) (fun c4 => ?_) (fun c4 => ?_)
  · skip
    refine z_ldc 21 C dX8_setTrue_21 q1064 ?_
    refine z_iret 23 C dX8_setTrue_23 ?_
    first | exact ⟨z_ci (by rw [if_pos c4]), by rw [if_pos c4]⟩ | exact ⟨z_ci (by rw [if_neg c4, if_pos c18]), by rw [if_neg c4, if_pos c18]⟩
  · skip
    obtain ⟨a, ha, rfl⟩ := z_in0 (by decide) c4
    refine z_iload_n 7 C dX8_setTrue_7 3 rfl ?_
    refine z_i2l 8 C dX8_setTrue_8 ?_
    refine z_ldc2 9 C dX8_setTrue_9 q1462 ?_
    refine z_ldc2 12 C dX8_setTrue_12 q1463 ?_
    refine z_callS 15 C (As := [.long (Int32.toInt64 y), .long (-5000), .long 5000]) (rest := []) (m_X8_in_i y (-5000) (nI 5000) (by decide) (by decide)) k_X8_in q1071 ⟨rfl, rfl⟩ ⟨Nat.le_of_ble_eq_true rfl, Nat.le_of_ble_eq_true rfl⟩ rfl (Nat.le_of_ble_eq_true rfl) ⟨Nat.le_of_ble_eq_true rfl, Nat.le_of_ble_eq_true rfl⟩ rfl dX8_setTrue_15 (z_k1 ?_)
    refine z_if_neb 18 C 24 dX8_setTrue_18 (by decide) (fun c18 => ?_) (fun c18 => ?_)
    · skip
      refine z_iload_n 24 C dX8_setTrue_24 1 rfl ?_
      refine z_if_eq 25 C 33 dX8_setTrue_25 (by decide) (fun c25 => ?_) (fun c25 => ?_)
      · skip
        have et : t = 0 := (z_nI0 (by omega)).mp c25
        refine z_iconst 33 C dX8_setTrue_33 (nI 0) rfl ?_
        refine z_cv (lv1 := [(0, .ref (z_ad G 105)), (1, .int (nI t)), (2, .int (nI a)), (3, .int y)]) (st1 := [.int (nI (24 * t))]) (σ1 := σ) rfl (by subst et; rfl) rfl ?_
        refine z_iload_n 34 C dX8_setTrue_34 2 rfl ?_
        refine z_iaddN 35 C (24 * t) a rfl rfl dX8_setTrue_35 ?_
        refine z_istore 36 C dX8_setTrue_36 [(4, .int (nI ((24 * t) + a))), (0, .ref (z_ad G 105)), (1, .int (nI t)), (2, .int (nI a)), (3, .int y)] (by decide) rfl ?_
        refine z_aload_n 38 C dX8_setTrue_38 1 rfl ?_
        refine z_getf 39 C 105 z_dX8 (⟨rfl, rfl⟩) 27 (by decide) q993 (.ref (z_ad G 119)) rfl dX8_setTrue_39 ?_
        refine z_iload 42 C dX8_setTrue_42 0 rfl ?_
        refine z_ialdN 44 C 119 (n := 48) (⟨rfl, rfl⟩) ((24 * t) + a) rfl (by omega) (by decide) dX8_setTrue_44 ?_
        refine z_istore 45 C dX8_setTrue_45 [(5, .int (σ.1 119 ((24 * t) + a))), (4, .int (nI ((24 * t) + a))), (0, .ref (z_ad G 105)), (1, .int (nI t)), (2, .int (nI a)), (3, .int y)] (by decide) rfl ?_
        refine z_aload_n 47 C dX8_setTrue_47 2 rfl ?_
        refine z_getf 48 C 105 z_dX8 (⟨rfl, rfl⟩) 27 (by decide) q993 (.ref (z_ad G 119)) rfl dX8_setTrue_48 ?_
        refine z_iload 51 C dX8_setTrue_51 1 rfl ?_
        refine z_iload_n 53 C dX8_setTrue_53 5 rfl ?_
        refine z_iastN 54 C 119 (n := 48) (⟨rfl, rfl⟩) ((24 * t) + a) rfl (by omega) (by decide) dX8_setTrue_54 ?_
        refine z_iload 55 C dX8_setTrue_55 0 rfl ?_
        refine z_iret 57 C dX8_setTrue_57 ?_
        exact ⟨z_ci (by rw [if_neg c4, if_neg c18, z_nk (k := a) (by omega)]), by rw [if_neg c4, if_neg c18, z_nk (k := a) (by omega)]⟩
      · skip
        have et : t = 1 := by
          have : ¬ t = 0 := fun z => c25 ((z_nI0 (t := t) (by omega)).mpr z)
          omega
        refine z_bipush 28 C dX8_setTrue_28 (nI 24) rfl ?_
        refine z_goto 30 C 34 dX8_setTrue_30 (by decide) ?_
        refine z_cv (lv1 := [(0, .ref (z_ad G 105)), (1, .int (nI t)), (2, .int (nI a)), (3, .int y)]) (st1 := [.int (nI (24 * t))]) (σ1 := σ) rfl (by subst et; rfl) rfl ?_
        refine z_iload_n 34 C dX8_setTrue_34 2 rfl ?_
        refine z_iaddN 35 C (24 * t) a rfl rfl dX8_setTrue_35 ?_
        refine z_istore 36 C dX8_setTrue_36 [(4, .int (nI ((24 * t) + a))), (0, .ref (z_ad G 105)), (1, .int (nI t)), (2, .int (nI a)), (3, .int y)] (by decide) rfl ?_
        refine z_aload_n 38 C dX8_setTrue_38 1 rfl ?_
        refine z_getf 39 C 105 z_dX8 (⟨rfl, rfl⟩) 27 (by decide) q993 (.ref (z_ad G 119)) rfl dX8_setTrue_39 ?_
        refine z_iload 42 C dX8_setTrue_42 0 rfl ?_
        refine z_ialdN 44 C 119 (n := 48) (⟨rfl, rfl⟩) ((24 * t) + a) rfl (by omega) (by decide) dX8_setTrue_44 ?_
        refine z_istore 45 C dX8_setTrue_45 [(5, .int (σ.1 119 ((24 * t) + a))), (4, .int (nI ((24 * t) + a))), (0, .ref (z_ad G 105)), (1, .int (nI t)), (2, .int (nI a)), (3, .int y)] (by decide) rfl ?_
        refine z_aload_n 47 C dX8_setTrue_47 2 rfl ?_
        refine z_getf 48 C 105 z_dX8 (⟨rfl, rfl⟩) 27 (by decide) q993 (.ref (z_ad G 119)) rfl dX8_setTrue_48 ?_
        refine z_iload 51 C dX8_setTrue_51 1 rfl ?_
        refine z_iload_n 53 C dX8_setTrue_53 5 rfl ?_
        refine z_iastN 54 C 119 (n := 48) (⟨rfl, rfl⟩) ((24 * t) + a) rfl (by omega) (by decide) dX8_setTrue_54 ?_
        refine z_iload 55 C dX8_setTrue_55 0 rfl ?_
        refine z_iret 57 C dX8_setTrue_57 ?_
        exact ⟨z_ci (by rw [if_neg c4, if_neg c18, z_nk (k := a) (by omega)]), by rw [if_neg c4, if_neg c18, z_nk (k := a) (by omega)]⟩
    · skip
      replace c18 := Classical.not_not.mp c18
      refine z_ldc 21 C dX8_setTrue_21 q1064 ?_
      refine z_iret 23 C dX8_setTrue_23 ?_
      first | exact ⟨z_ci (by rw [if_pos c4]), by rw [if_pos c4]⟩ | exact ⟨z_ci (by rw [if_neg c4, if_pos c18]), by rw [if_neg c4, if_pos c18]⟩
theorem dX8_addLobes_0 : decode cX8_addLobes 0 = .ok (.iload_n 2, 1) := by decide +kernel
theorem dX8_addLobes_1 : decode cX8_addLobes 1 = .ok (.invokestatic 189, 3) := by decide +kernel
theorem dX8_addLobes_4 : decode cX8_addLobes 4 = .ok (.ifCond .ne 25, 3) := by decide +kernel
theorem dX8_addLobes_7 : decode cX8_addLobes 7 = .ok (.iload_n 3, 1) := by decide +kernel
theorem dX8_addLobes_8 : decode cX8_addLobes 8 = .ok (.i2l, 1) := by decide +kernel
theorem dX8_addLobes_9 : decode cX8_addLobes 9 = .ok (.ldc2_w 354, 3) := by decide +kernel
theorem dX8_addLobes_12 : decode cX8_addLobes 12 = .ok (.ldc2_w 356, 3) := by decide +kernel
theorem dX8_addLobes_15 : decode cX8_addLobes 15 = .ok (.invokestatic 68, 3) := by decide +kernel
theorem dX8_addLobes_18 : decode cX8_addLobes 18 = .ok (.ifCond .eq 11, 3) := by decide +kernel
theorem dX8_addLobes_21 : decode cX8_addLobes 21 = .ok (.iload 4, 2) := by decide +kernel
theorem dX8_addLobes_23 : decode cX8_addLobes 23 = .ok (.invokestatic 101, 3) := by decide +kernel
theorem dX8_addLobes_26 : decode cX8_addLobes 26 = .ok (.ifCond .eq 6, 3) := by decide +kernel
theorem dX8_addLobes_29 : decode cX8_addLobes 29 = .ok (.ldc 87, 2) := by decide +kernel
theorem dX8_addLobes_31 : decode cX8_addLobes 31 = .ok (.ireturn, 1) := by decide +kernel
theorem dX8_addLobes_32 : decode cX8_addLobes 32 = .ok (.iconst 0, 1) := by decide +kernel
theorem dX8_addLobes_33 : decode cX8_addLobes 33 = .ok (.istore 5, 2) := by decide +kernel
theorem dX8_addLobes_35 : decode cX8_addLobes 35 = .ok (.iconst 0, 1) := by decide +kernel
theorem dX8_addLobes_36 : decode cX8_addLobes 36 = .ok (.istore 6, 2) := by decide +kernel
theorem dX8_addLobes_38 : decode cX8_addLobes 38 = .ok (.iload 6, 2) := by decide +kernel
theorem dX8_addLobes_40 : decode cX8_addLobes 40 = .ok (.bipush 24, 2) := by decide +kernel
theorem dX8_addLobes_42 : decode cX8_addLobes 42 = .ok (.if_icmp .ge 90, 3) := by decide +kernel
theorem dX8_addLobes_45 : decode cX8_addLobes 45 = .ok (.iload_n 1, 1) := by decide +kernel
theorem dX8_addLobes_46 : decode cX8_addLobes 46 = .ok (.ifCond .eq 8, 3) := by decide +kernel
theorem dX8_addLobes_49 : decode cX8_addLobes 49 = .ok (.bipush 24, 2) := by decide +kernel
theorem dX8_addLobes_51 : decode cX8_addLobes 51 = .ok (.goto 4, 3) := by decide +kernel
theorem dX8_addLobes_54 : decode cX8_addLobes 54 = .ok (.iconst 0, 1) := by decide +kernel
theorem dX8_addLobes_55 : decode cX8_addLobes 55 = .ok (.iload 6, 2) := by decide +kernel
theorem dX8_addLobes_57 : decode cX8_addLobes 57 = .ok (.iadd, 1) := by decide +kernel
theorem dX8_addLobes_58 : decode cX8_addLobes 58 = .ok (.istore 7, 2) := by decide +kernel
theorem dX8_addLobes_60 : decode cX8_addLobes 60 = .ok (.aload_n 0, 1) := by decide +kernel
theorem dX8_addLobes_61 : decode cX8_addLobes 61 = .ok (.getfield 57, 3) := by decide +kernel
theorem dX8_addLobes_64 : decode cX8_addLobes 64 = .ok (.iload 7, 2) := by decide +kernel
theorem dX8_addLobes_66 : decode cX8_addLobes 66 = .ok (.iaload, 1) := by decide +kernel
theorem dX8_addLobes_67 : decode cX8_addLobes 67 = .ok (.i2l, 1) := by decide +kernel
theorem dX8_addLobes_68 : decode cX8_addLobes 68 = .ok (.iload_n 3, 1) := by decide +kernel
theorem dX8_addLobes_69 : decode cX8_addLobes 69 = .ok (.i2l, 1) := by decide +kernel
theorem dX8_addLobes_70 : decode cX8_addLobes 70 = .ok (.aload_n 0, 1) := by decide +kernel
theorem dX8_addLobes_71 : decode cX8_addLobes 71 = .ok (.iload_n 2, 1) := by decide +kernel
theorem dX8_addLobes_72 : decode cX8_addLobes 72 = .ok (.iload 6, 2) := by decide +kernel
theorem dX8_addLobes_74 : decode cX8_addLobes 74 = .ok (.imul, 1) := by decide +kernel
theorem dX8_addLobes_75 : decode cX8_addLobes 75 = .ok (.iload 4, 2) := by decide +kernel
theorem dX8_addLobes_77 : decode cX8_addLobes 77 = .ok (.iadd, 1) := by decide +kernel
theorem dX8_addLobes_78 : decode cX8_addLobes 78 = .ok (.invokevirtual 76, 3) := by decide +kernel
theorem dX8_addLobes_81 : decode cX8_addLobes 81 = .ok (.lmul, 1) := by decide +kernel
theorem dX8_addLobes_82 : decode cX8_addLobes 82 = .ok (.ldc2_w 125, 3) := by decide +kernel
theorem dX8_addLobes_85 : decode cX8_addLobes 85 = .ok (.invokestatic 115, 3) := by decide +kernel
theorem dX8_addLobes_88 : decode cX8_addLobes 88 = .ok (.ladd, 1) := by decide +kernel
theorem dX8_addLobes_89 : decode cX8_addLobes 89 = .ok (.sipush 5000, 3) := by decide +kernel
theorem dX8_addLobes_92 : decode cX8_addLobes 92 = .ok (.invokestatic 358, 3) := by decide +kernel
theorem dX8_addLobes_95 : decode cX8_addLobes 95 = .ok (.istore 8, 2) := by decide +kernel
theorem dX8_addLobes_97 : decode cX8_addLobes 97 = .ok (.iload 8, 2) := by decide +kernel
theorem dX8_addLobes_99 : decode cX8_addLobes 99 = .ok (.aload_n 0, 1) := by decide +kernel
theorem dX8_addLobes_100 : decode cX8_addLobes 100 = .ok (.getfield 57, 3) := by decide +kernel
theorem dX8_addLobes_103 : decode cX8_addLobes 103 = .ok (.iload 7, 2) := by decide +kernel
theorem dX8_addLobes_105 : decode cX8_addLobes 105 = .ok (.iaload, 1) := by decide +kernel
theorem dX8_addLobes_106 : decode cX8_addLobes 106 = .ok (.if_icmp .eq 7, 3) := by decide +kernel
theorem dX8_addLobes_109 : decode cX8_addLobes 109 = .ok (.iconst 1, 1) := by decide +kernel
theorem dX8_addLobes_110 : decode cX8_addLobes 110 = .ok (.goto 5, 3) := by decide +kernel
theorem dX8_addLobes_113 : decode cX8_addLobes 113 = .ok (.iload 5, 2) := by decide +kernel
theorem dX8_addLobes_115 : decode cX8_addLobes 115 = .ok (.istore 5, 2) := by decide +kernel
theorem dX8_addLobes_117 : decode cX8_addLobes 117 = .ok (.aload_n 0, 1) := by decide +kernel
theorem dX8_addLobes_118 : decode cX8_addLobes 118 = .ok (.getfield 57, 3) := by decide +kernel
theorem dX8_addLobes_121 : decode cX8_addLobes 121 = .ok (.iload 7, 2) := by decide +kernel
theorem dX8_addLobes_123 : decode cX8_addLobes 123 = .ok (.iload 8, 2) := by decide +kernel
theorem dX8_addLobes_125 : decode cX8_addLobes 125 = .ok (.iastore, 1) := by decide +kernel
theorem dX8_addLobes_126 : decode cX8_addLobes 126 = .ok (.iinc 6 1, 3) := by decide +kernel
theorem dX8_addLobes_129 : decode cX8_addLobes 129 = .ok (.goto (-91), 3) := by decide +kernel
theorem dX8_addLobes_132 : decode cX8_addLobes 132 = .ok (.iload 5, 2) := by decide +kernel
theorem dX8_addLobes_134 : decode cX8_addLobes 134 = .ok (.ireturn, 1) := by decide +kernel
set_option maxRecDepth 100000 in
set_option maxHeartbeats 4000000 in
theorem m_X8_addLobes {l : Launch} {G : z_Gl} {σ : z_St} (P n u v w rc tl : Nat) (hM : z_mi σ P n u v w rc tl) (t : Nat) (x y z : Int32) (ht : t < 2) : z_M l G yX8_addLobes cX8_addLobes 9 (some .int) (z_rm 2 45) [.ref (z_ad G 105), .int (nI t), .int x, .int y, .int z] σ (z_p1 (.int (if x < nI 0 ∨ nI 12 < x then (-1000001) else if y < (-1000) ∨ nI 1000 < y then (-1000001) else if z < nI 0 ∨ nI 23 < z then (-1000001) else z_bo (z_chg (z_so (z_shI (σ.1 119) (24 * t)) y (z_n x) (z_n z)) (z_shI (σ.1 119) (24 * t)) 24))) (if x < nI 0 ∨ nI 12 < x then σ else if y < (-1000) ∨ nI 1000 < y then σ else if z < nI 0 ∨ nI 23 < z then σ else z_uI σ 119 (fb_put (σ.1 119) (z_so (z_shI (σ.1 119) (24 * t)) y (z_n x) (z_n z)) (24 * t) 24))) := by
  refine z_M.of (by decide) (Nat.le_of_ble_eq_true rfl) (fun p e s m below meth c C => ?_)
  refine z_sub [0, 1, 2, 3, 4] (lv1 := [(0, .ref (z_ad G 105)), (1, .int (nI t)), (2, .int x), (3, .int y), (4, .int z)]) rfl ?_
  have hM0 := hM
  obtain ⟨⟨hP, hn, hu, hv, hw, hrc, htl⟩, hPs, hnP, huv, hw6, hrc8, htl2, hqt, hah⟩ := hM0
  have h0 : 0 < P := by omega
  have h12 : P ≤ 12 := by omega
  have h288 : n ≤ 288 := by omega
  refine z_iload_n 0 C dX8_addLobes_0 2 rfl ?_
  refine z_callS 1 C (As := [.int x]) (rest := []) (m_X8_noLobes x) k_X8_noLobes q1243 ⟨rfl, rfl⟩ ⟨Nat.le_of_ble_eq_true rfl, Nat.le_of_ble_eq_true rfl⟩ rfl (Nat.le_of_ble_eq_true rfl) ⟨Nat.le_of_ble_eq_true rfl, Nat.le_of_ble_eq_true rfl⟩ rfl dX8_addLobes_1 (z_k1 ?_)
  refine z_if_neb 4 C 29 dX8_addLobes_4 (by decide) (fun c4 => ?_) (fun c4 => ?_)
  · skip
    refine z_ldc 29 C dX8_addLobes_29 q1064 ?_
    refine z_iret 31 C dX8_addLobes_31 ?_
    first | exact ⟨z_ci (by rw [if_pos c4]), by rw [if_pos c4]⟩ | exact ⟨z_ci (by rw [if_neg c4, if_pos c18]), by rw [if_neg c4, if_pos c18]⟩ | exact ⟨z_ci (by rw [if_neg c4, if_neg c18, if_pos c26]), by rw [if_neg c4, if_neg c18, if_pos c26]⟩
  · skip
    obtain ⟨a, ha, rfl⟩ := z_in0 (by decide) c4
    refine z_iload_n 7 C dX8_addLobes_7 3 rfl ?_
    refine z_i2l 8 C dX8_addLobes_8 ?_
    refine z_ldc2 9 C dX8_addLobes_9 q1472 ?_
    refine z_ldc2 12 C dX8_addLobes_12 q1473 ?_
    refine z_callS 15 C (As := [.long (Int32.toInt64 y), .long (-1000), .long 1000]) (rest := []) (m_X8_in_i y (-1000) (nI 1000) (by decide) (by decide)) k_X8_in q1071 ⟨rfl, rfl⟩ ⟨Nat.le_of_ble_eq_true rfl, Nat.le_of_ble_eq_true rfl⟩ rfl (Nat.le_of_ble_eq_true rfl) ⟨Nat.le_of_ble_eq_true rfl, Nat.le_of_ble_eq_true rfl⟩ rfl dX8_addLobes_15 (z_k1 ?_)
    refine z_if_eqb 18 C 29 dX8_addLobes_18 (by decide) (fun c18 => ?_) (fun c18 => ?_)
    · skip
      replace c18 := Classical.not_not.mp c18
      refine z_ldc 29 C dX8_addLobes_29 q1064 ?_
      refine z_iret 31 C dX8_addLobes_31 ?_
      first | exact ⟨z_ci (by rw [if_pos c4]), by rw [if_pos c4]⟩ | exact ⟨z_ci (by rw [if_neg c4, if_pos c18]), by rw [if_neg c4, if_pos c18]⟩ | exact ⟨z_ci (by rw [if_neg c4, if_neg c18, if_pos c26]), by rw [if_neg c4, if_neg c18, if_pos c26]⟩
    · skip
      refine z_iload 21 C dX8_addLobes_21 4 rfl ?_
      refine z_callS 23 C (As := [.int z]) (rest := []) (m_X8_noPlace z) k_X8_noPlace q1096 ⟨rfl, rfl⟩ ⟨Nat.le_of_ble_eq_true rfl, Nat.le_of_ble_eq_true rfl⟩ rfl (Nat.le_of_ble_eq_true rfl) ⟨Nat.le_of_ble_eq_true rfl, Nat.le_of_ble_eq_true rfl⟩ rfl dX8_addLobes_23 (z_k1 ?_)
      refine z_if_eqb 26 C 32 dX8_addLobes_26 (by decide) (fun c26 => ?_) (fun c26 => ?_)
      · skip
        obtain ⟨b, hb, rfl⟩ := z_in0 (by decide) c26
        refine z_iconst 32 C dX8_addLobes_32 (nI 0) rfl ?_
        refine z_istore 33 C dX8_addLobes_33 [(5, .int (nI 0)), (0, .ref (z_ad G 105)), (1, .int (nI t)), (2, .int (nI a)), (3, .int y), (4, .int (nI b))] (by decide) rfl ?_
        refine z_iconst 35 C dX8_addLobes_35 (nI 0) rfl ?_
        refine z_istore 36 C dX8_addLobes_36 [(6, .int (nI 0)), (5, .int (nI 0)), (0, .ref (z_ad G 105)), (1, .int (nI t)), (2, .int (nI a)), (3, .int y), (4, .int (nI b))] (by decide) rfl ?_
        refine z_sub [2, 3, 4, 5, 6, 1, 0] (lv1 := [(0, .ref (z_ad G 105)), (1, .int (nI t)), (2, .int (nI a)), (3, .int y), (4, .int (nI b)), (5, .int (nI 0)), (6, .int (nI 0))]) rfl ?_
        refine z_cv (lv1 := [(0, .ref (z_ad G 105)), (1, .int (nI t)), (2, .int (nI a)), (3, .int y), (4, .int (nI b)), (5, .int (z_bo (z_chg (z_so (z_shI (σ.1 119) (24 * t)) y a b) (z_shI (σ.1 119) (24 * t)) 0))), (6, .int (nI 0))]) (st1 := []) (σ1 := z_uI σ 119 (fb_put (σ.1 119) (z_so (z_shI (σ.1 119) (24 * t)) y a b) (24 * t) 0)) (by rw [← z_ch0]) rfl (by rw [fb_put_0, z_uI_same]) ?_
        refine z_lp1 (fun (k : Nat) => k ≤ 24) (fun (k : Nat) => 24 - k) (fun (k : Nat) => [(0, .ref (z_ad G 105)), (1, .int (nI t)), (2, .int (nI a)), (3, .int y), (4, .int (nI b)), (5, .int (z_bo (z_chg (z_so (z_shI (σ.1 119) (24 * t)) y a b) (z_shI (σ.1 119) (24 * t)) k))), (6, .int (nI k))]) (fun (k : Nat) => z_uI σ 119 (fb_put (σ.1 119) (z_so (z_shI (σ.1 119) (24 * t)) y a b) (24 * t) k)) (fun k hi_38 ih_38 => ?_) 0 (by omega)
        try dsimp only
        refine z_iload 38 C dX8_addLobes_38 6 rfl ?_
        refine z_bipush 40 C dX8_addLobes_40 (nI 24) rfl ?_
        refine z_icmp_geN 42 C k 24 rfl rfl (by omega) (by omega) 132 dX8_addLobes_42 (by decide) (fun c42 => ?_) (fun c42 => ?_)
        · skip
          have ek : k = 24 := by omega
          subst ek
          refine z_iload 132 C dX8_addLobes_132 5 rfl ?_
          refine z_iret 134 C dX8_addLobes_134 ?_
          exact ⟨z_ci (by rw [if_neg c4, if_neg c18, if_neg c26, z_nk (k := a) (by omega), z_nk (k := b) (by omega)]), by rw [if_neg c4, if_neg c18, if_neg c26, z_nk (k := a) (by omega), z_nk (k := b) (by omega)]⟩
        · skip
          have hhk : a * k ≤ 12 * 24 := Nat.mul_le_mul (by omega) (by omega)
          refine z_iload_n 45 C dX8_addLobes_45 1 rfl ?_
          refine z_if_eq 46 C 54 dX8_addLobes_46 (by decide) (fun c46 => ?_) (fun c46 => ?_)
          · skip
            have et : t = 0 := (z_nI0 (by omega)).mp c46
            refine z_iconst 54 C dX8_addLobes_54 (nI 0) rfl ?_
            refine z_cv (lv1 := [(0, .ref (z_ad G 105)), (1, .int (nI t)), (2, .int (nI a)), (3, .int y), (4, .int (nI b)), (5, .int (z_bo (z_chg (z_so (z_shI (σ.1 119) (24 * t)) y a b) (z_shI (σ.1 119) (24 * t)) k))), (6, .int (nI k))]) (st1 := [.int (nI (24 * t))]) (σ1 := z_uI σ 119 (fb_put (σ.1 119) (z_so (z_shI (σ.1 119) (24 * t)) y a b) (24 * t) k)) rfl (by subst et; rfl) rfl ?_
            refine z_iload 55 C dX8_addLobes_55 6 rfl ?_
            refine z_iaddN 57 C (24 * t) k rfl rfl dX8_addLobes_57 ?_
            refine z_istore 58 C dX8_addLobes_58 [(7, .int (nI ((24 * t) + k))), (0, .ref (z_ad G 105)), (1, .int (nI t)), (2, .int (nI a)), (3, .int y), (4, .int (nI b)), (5, .int (z_bo (z_chg (z_so (z_shI (σ.1 119) (24 * t)) y a b) (z_shI (σ.1 119) (24 * t)) k))), (6, .int (nI k))] (by decide) rfl ?_
            refine z_aload_n 60 C dX8_addLobes_60 1 rfl ?_
            refine z_getf 61 C 105 z_dX8 (⟨rfl, rfl⟩) 27 (by decide) q993 (.ref (z_ad G 119)) rfl dX8_addLobes_61 ?_
            refine z_iload 64 C dX8_addLobes_64 0 rfl ?_
            refine z_ialdN 66 C 119 (n := 48) (⟨rfl, rfl⟩) ((24 * t) + k) rfl (by omega) (by decide) dX8_addLobes_66 ?_
            refine z_cv (lv1 := [(7, .int (nI ((24 * t) + k))), (0, .ref (z_ad G 105)), (1, .int (nI t)), (2, .int (nI a)), (3, .int y), (4, .int (nI b)), (5, .int (z_bo (z_chg (z_so (z_shI (σ.1 119) (24 * t)) y a b) (z_shI (σ.1 119) (24 * t)) k))), (6, .int (nI k))]) (st1 := [.int (σ.1 119 (24 * t + k))]) (σ1 := z_uI σ 119 (fb_put (σ.1 119) (z_so (z_shI (σ.1 119) (24 * t)) y a b) (24 * t) k)) rfl (by rw [zm_putr]) rfl ?_
            refine z_i2l 67 C dX8_addLobes_67 ?_
            refine z_iload_n 68 C dX8_addLobes_68 4 rfl ?_
            refine z_i2l 69 C dX8_addLobes_69 ?_
            refine z_aload_n 70 C dX8_addLobes_70 1 rfl ?_
            refine z_iload_n 71 C dX8_addLobes_71 3 rfl ?_
            refine z_iload 72 C dX8_addLobes_72 7 rfl ?_
            refine z_imulN 74 C a k rfl rfl dX8_addLobes_74 ?_
            refine z_iload 75 C dX8_addLobes_75 5 rfl ?_
            refine z_iaddN 77 C (a * k) b rfl rfl dX8_addLobes_77 ?_
            refine z_callV 78 C 105 (⟨rfl, rfl⟩) rfl (As := [.int (nI ((a * k) + b))]) (rest := [.long (Int32.toInt64 y), .long (Int32.toInt64 (σ.1 119 (24 * t + k)))]) (m_X8_cosine_n (σ := z_uI σ 119 (fb_put (σ.1 119) (z_so (z_shI (σ.1 119) (24 * t)) y a b) (24 * t) k)) P n u v w rc tl hM ((a * k) + b) (by omega)) k_X8_cosine q1203 ⟨rfl, rfl⟩ ⟨Nat.le_of_ble_eq_true rfl, Nat.le_of_ble_eq_true rfl⟩ rfl (Nat.le_of_ble_eq_true rfl) ⟨Nat.le_of_ble_eq_true rfl, Nat.le_of_ble_eq_true rfl⟩ rfl dX8_addLobes_78 (z_k1 ?_)
            refine z_lmul 81 C dX8_addLobes_81 ?_
            refine z_ldc2 82 C dX8_addLobes_82 q1139 ?_
            refine z_callS 85 C (As := [.long ((Int32.toInt64 y) * (Int32.toInt64 (z_tv 0 (((a * k) + b) % 24)))), .long 1000000]) (rest := [.long (Int32.toInt64 (σ.1 119 (24 * t + k)))]) (m_X8_down (σ := z_uI σ 119 (fb_put (σ.1 119) (z_so (z_shI (σ.1 119) (24 * t)) y a b) (24 * t) k)) ((Int32.toInt64 y) * (Int32.toInt64 (z_tv 0 (((a * k) + b) % 24)))) 1000000 (by decide)) k_X8_down q1116 ⟨rfl, rfl⟩ ⟨Nat.le_of_ble_eq_true rfl, Nat.le_of_ble_eq_true rfl⟩ rfl (Nat.le_of_ble_eq_true rfl) ⟨Nat.le_of_ble_eq_true rfl, Nat.le_of_ble_eq_true rfl⟩ rfl dX8_addLobes_85 (z_k1 ?_)
            refine z_ladd 88 C dX8_addLobes_88 ?_
            refine z_sipush 89 C dX8_addLobes_89 (nI 5000) rfl ?_
            refine z_callS 92 C (As := [.long ((Int32.toInt64 (σ.1 119 (24 * t + k))) + (z_fd ((Int32.toInt64 y) * (Int32.toInt64 (z_tv 0 (((a * k) + b) % 24)))) 1000000)), .int (nI 5000)]) (rest := []) (m_X8_kept (σ := z_uI σ 119 (fb_put (σ.1 119) (z_so (z_shI (σ.1 119) (24 * t)) y a b) (24 * t) k)) ((Int32.toInt64 (σ.1 119 (24 * t + k))) + (z_fd ((Int32.toInt64 y) * (Int32.toInt64 (z_tv 0 (((a * k) + b) % 24)))) 1000000)) (nI 5000)) k_X8_kept q1474 ⟨rfl, rfl⟩ ⟨Nat.le_of_ble_eq_true rfl, Nat.le_of_ble_eq_true rfl⟩ rfl (Nat.le_of_ble_eq_true rfl) ⟨Nat.le_of_ble_eq_true rfl, Nat.le_of_ble_eq_true rfl⟩ rfl dX8_addLobes_92 (z_k1 ?_)
            refine z_cv (lv1 := [(7, .int (nI ((24 * t) + k))), (0, .ref (z_ad G 105)), (1, .int (nI t)), (2, .int (nI a)), (3, .int y), (4, .int (nI b)), (5, .int (z_bo (z_chg (z_so (z_shI (σ.1 119) (24 * t)) y a b) (z_shI (σ.1 119) (24 * t)) k))), (6, .int (nI k))]) (st1 := [.int (z_so (z_shI (σ.1 119) (24 * t)) y a b k)]) (σ1 := z_uI σ 119 (fb_put (σ.1 119) (z_so (z_shI (σ.1 119) (24 * t)) y a b) (24 * t) k)) rfl rfl rfl ?_
            refine z_istore 95 C dX8_addLobes_95 [(8, .int (z_so (z_shI (σ.1 119) (24 * t)) y a b k)), (7, .int (nI ((24 * t) + k))), (0, .ref (z_ad G 105)), (1, .int (nI t)), (2, .int (nI a)), (3, .int y), (4, .int (nI b)), (5, .int (z_bo (z_chg (z_so (z_shI (σ.1 119) (24 * t)) y a b) (z_shI (σ.1 119) (24 * t)) k))), (6, .int (nI k))] (by decide) rfl ?_
            refine z_iload 97 C dX8_addLobes_97 0 rfl ?_
            refine z_aload_n 99 C dX8_addLobes_99 2 rfl ?_
            refine z_getf 100 C 105 z_dX8 (⟨rfl, rfl⟩) 27 (by decide) q993 (.ref (z_ad G 119)) rfl dX8_addLobes_100 ?_
            refine z_iload 103 C dX8_addLobes_103 1 rfl ?_
            refine z_ialdN 105 C 119 (n := 48) (⟨rfl, rfl⟩) ((24 * t) + k) rfl (by omega) (by decide) dX8_addLobes_105 ?_
            refine z_cv (lv1 := [(8, .int (z_so (z_shI (σ.1 119) (24 * t)) y a b k)), (7, .int (nI ((24 * t) + k))), (0, .ref (z_ad G 105)), (1, .int (nI t)), (2, .int (nI a)), (3, .int y), (4, .int (nI b)), (5, .int (z_bo (z_chg (z_so (z_shI (σ.1 119) (24 * t)) y a b) (z_shI (σ.1 119) (24 * t)) k))), (6, .int (nI k))]) (st1 := [.int (σ.1 119 (24 * t + k)), .int (z_so (z_shI (σ.1 119) (24 * t)) y a b k)]) (σ1 := z_uI σ 119 (fb_put (σ.1 119) (z_so (z_shI (σ.1 119) (24 * t)) y a b) (24 * t) k)) rfl (by rw [zm_putr]) rfl ?_
            refine z_icmp_eq 106 C 113 dX8_addLobes_106 (by decide) (fun c106 => ?_) (fun c106 => ?_)
            · skip
              refine z_iload 113 C dX8_addLobes_113 7 rfl ?_
              refine z_istore 115 C dX8_addLobes_115 [(5, .int (z_bo (z_chg (z_so (z_shI (σ.1 119) (24 * t)) y a b) (z_shI (σ.1 119) (24 * t)) k))), (8, .int (z_so (z_shI (σ.1 119) (24 * t)) y a b k)), (7, .int (nI ((24 * t) + k))), (0, .ref (z_ad G 105)), (1, .int (nI t)), (2, .int (nI a)), (3, .int y), (4, .int (nI b)), (6, .int (nI k))] (by decide) rfl ?_
              refine z_aload_n 117 C dX8_addLobes_117 3 rfl ?_
              refine z_getf 118 C 105 z_dX8 (⟨rfl, rfl⟩) 27 (by decide) q993 (.ref (z_ad G 119)) rfl dX8_addLobes_118 ?_
              refine z_iload 121 C dX8_addLobes_121 2 rfl ?_
              refine z_iload 123 C dX8_addLobes_123 1 rfl ?_
              refine z_iastN 125 C 119 (n := 48) (⟨rfl, rfl⟩) ((24 * t) + k) rfl (by omega) (by decide) dX8_addLobes_125 ?_
              refine z_iincN 126 C 8 k [(6, .int (nI (k + 1))), (5, .int (z_bo (z_chg (z_so (z_shI (σ.1 119) (24 * t)) y a b) (z_shI (σ.1 119) (24 * t)) k))), (8, .int (z_so (z_shI (σ.1 119) (24 * t)) y a b k)), (7, .int (nI ((24 * t) + k))), (0, .ref (z_ad G 105)), (1, .int (nI t)), (2, .int (nI a)), (3, .int y), (4, .int (nI b))] rfl rfl (by decide) rfl dX8_addLobes_126 ?_
              refine z_goto 129 C 38 dX8_addLobes_129 (by decide) ?_
              refine z_sub [4, 5, 6, 7, 8, 1, 0] (lv1 := [(0, .ref (z_ad G 105)), (1, .int (nI t)), (2, .int (nI a)), (3, .int y), (4, .int (nI b)), (5, .int (z_bo (z_chg (z_so (z_shI (σ.1 119) (24 * t)) y a b) (z_shI (σ.1 119) (24 * t)) k))), (6, .int (nI (k + 1)))]) rfl ?_
              refine z_cv (lv1 := [(0, .ref (z_ad G 105)), (1, .int (nI t)), (2, .int (nI a)), (3, .int y), (4, .int (nI b)), (5, .int (z_bo (z_chg (z_so (z_shI (σ.1 119) (24 * t)) y a b) (z_shI (σ.1 119) (24 * t)) (k + 1)))), (6, .int (nI (k + 1)))]) (st1 := []) (σ1 := z_uI σ 119 (fb_put (σ.1 119) (z_so (z_shI (σ.1 119) (24 * t)) y a b) (24 * t) (k + 1))) (by first | rw [zm_chs (F := z_so (z_shI (σ.1 119) (24 * t)) y a b) (o := (z_shI (σ.1 119) (24 * t))) c106] | rw [← z_ch2 (F := z_so (z_shI (σ.1 119) (24 * t)) y a b) (o := (z_shI (σ.1 119) (24 * t))) c106]) rfl (z_uIu σ 119 (24 * t) k _ _ rfl) ?_
              exact ih_38 (k + 1) (by omega) (by omega)
            · skip
              refine z_iconst 109 C dX8_addLobes_109 (nI 1) rfl ?_
              refine z_goto 110 C 115 dX8_addLobes_110 (by decide) ?_
              refine z_istore 115 C dX8_addLobes_115 [(5, .int (nI 1)), (8, .int (z_so (z_shI (σ.1 119) (24 * t)) y a b k)), (7, .int (nI ((24 * t) + k))), (0, .ref (z_ad G 105)), (1, .int (nI t)), (2, .int (nI a)), (3, .int y), (4, .int (nI b)), (6, .int (nI k))] (by decide) rfl ?_
              refine z_aload_n 117 C dX8_addLobes_117 3 rfl ?_
              refine z_getf 118 C 105 z_dX8 (⟨rfl, rfl⟩) 27 (by decide) q993 (.ref (z_ad G 119)) rfl dX8_addLobes_118 ?_
              refine z_iload 121 C dX8_addLobes_121 2 rfl ?_
              refine z_iload 123 C dX8_addLobes_123 1 rfl ?_
              refine z_iastN 125 C 119 (n := 48) (⟨rfl, rfl⟩) ((24 * t) + k) rfl (by omega) (by decide) dX8_addLobes_125 ?_
              refine z_iincN 126 C 8 k [(6, .int (nI (k + 1))), (5, .int (nI 1)), (8, .int (z_so (z_shI (σ.1 119) (24 * t)) y a b k)), (7, .int (nI ((24 * t) + k))), (0, .ref (z_ad G 105)), (1, .int (nI t)), (2, .int (nI a)), (3, .int y), (4, .int (nI b))] rfl rfl (by decide) rfl dX8_addLobes_126 ?_
              refine z_goto 129 C 38 dX8_addLobes_129 (by decide) ?_
              refine z_sub [4, 5, 6, 7, 8, 1, 0] (lv1 := [(0, .ref (z_ad G 105)), (1, .int (nI t)), (2, .int (nI a)), (3, .int y), (4, .int (nI b)), (5, .int (nI 1)), (6, .int (nI (k + 1)))]) rfl ?_
              refine z_cv (lv1 := [(0, .ref (z_ad G 105)), (1, .int (nI t)), (2, .int (nI a)), (3, .int y), (4, .int (nI b)), (5, .int (z_bo (z_chg (z_so (z_shI (σ.1 119) (24 * t)) y a b) (z_shI (σ.1 119) (24 * t)) (k + 1)))), (6, .int (nI (k + 1)))]) (st1 := []) (σ1 := z_uI σ 119 (fb_put (σ.1 119) (z_so (z_shI (σ.1 119) (24 * t)) y a b) (24 * t) (k + 1))) (by first | rw [zm_chs (F := z_so (z_shI (σ.1 119) (24 * t)) y a b) (o := (z_shI (σ.1 119) (24 * t))) c106] | rw [← z_ch2 (F := z_so (z_shI (σ.1 119) (24 * t)) y a b) (o := (z_shI (σ.1 119) (24 * t))) c106]) rfl (z_uIu σ 119 (24 * t) k _ _ rfl) ?_
              exact ih_38 (k + 1) (by omega) (by omega)
          · skip
            have et : t = 1 := by
              have : ¬ t = 0 := fun z => c46 ((z_nI0 (t := t) (by omega)).mpr z)
              omega
            refine z_bipush 49 C dX8_addLobes_49 (nI 24) rfl ?_
            refine z_goto 51 C 55 dX8_addLobes_51 (by decide) ?_
            refine z_cv (lv1 := [(0, .ref (z_ad G 105)), (1, .int (nI t)), (2, .int (nI a)), (3, .int y), (4, .int (nI b)), (5, .int (z_bo (z_chg (z_so (z_shI (σ.1 119) (24 * t)) y a b) (z_shI (σ.1 119) (24 * t)) k))), (6, .int (nI k))]) (st1 := [.int (nI (24 * t))]) (σ1 := z_uI σ 119 (fb_put (σ.1 119) (z_so (z_shI (σ.1 119) (24 * t)) y a b) (24 * t) k)) rfl (by subst et; rfl) rfl ?_
            refine z_iload 55 C dX8_addLobes_55 6 rfl ?_
            refine z_iaddN 57 C (24 * t) k rfl rfl dX8_addLobes_57 ?_
            refine z_istore 58 C dX8_addLobes_58 [(7, .int (nI ((24 * t) + k))), (0, .ref (z_ad G 105)), (1, .int (nI t)), (2, .int (nI a)), (3, .int y), (4, .int (nI b)), (5, .int (z_bo (z_chg (z_so (z_shI (σ.1 119) (24 * t)) y a b) (z_shI (σ.1 119) (24 * t)) k))), (6, .int (nI k))] (by decide) rfl ?_
            refine z_aload_n 60 C dX8_addLobes_60 1 rfl ?_
            refine z_getf 61 C 105 z_dX8 (⟨rfl, rfl⟩) 27 (by decide) q993 (.ref (z_ad G 119)) rfl dX8_addLobes_61 ?_
            refine z_iload 64 C dX8_addLobes_64 0 rfl ?_
            refine z_ialdN 66 C 119 (n := 48) (⟨rfl, rfl⟩) ((24 * t) + k) rfl (by omega) (by decide) dX8_addLobes_66 ?_
            refine z_cv (lv1 := [(7, .int (nI ((24 * t) + k))), (0, .ref (z_ad G 105)), (1, .int (nI t)), (2, .int (nI a)), (3, .int y), (4, .int (nI b)), (5, .int (z_bo (z_chg (z_so (z_shI (σ.1 119) (24 * t)) y a b) (z_shI (σ.1 119) (24 * t)) k))), (6, .int (nI k))]) (st1 := [.int (σ.1 119 (24 * t + k))]) (σ1 := z_uI σ 119 (fb_put (σ.1 119) (z_so (z_shI (σ.1 119) (24 * t)) y a b) (24 * t) k)) rfl (by rw [zm_putr]) rfl ?_
            refine z_i2l 67 C dX8_addLobes_67 ?_
            refine z_iload_n 68 C dX8_addLobes_68 4 rfl ?_
            refine z_i2l 69 C dX8_addLobes_69 ?_
            refine z_aload_n 70 C dX8_addLobes_70 1 rfl ?_
            refine z_iload_n 71 C dX8_addLobes_71 3 rfl ?_
            refine z_iload 72 C dX8_addLobes_72 7 rfl ?_
            refine z_imulN 74 C a k rfl rfl dX8_addLobes_74 ?_
            refine z_iload 75 C dX8_addLobes_75 5 rfl ?_
            refine z_iaddN 77 C (a * k) b rfl rfl dX8_addLobes_77 ?_
            refine z_callV 78 C 105 (⟨rfl, rfl⟩) rfl (As := [.int (nI ((a * k) + b))]) (rest := [.long (Int32.toInt64 y), .long (Int32.toInt64 (σ.1 119 (24 * t + k)))]) (m_X8_cosine_n (σ := z_uI σ 119 (fb_put (σ.1 119) (z_so (z_shI (σ.1 119) (24 * t)) y a b) (24 * t) k)) P n u v w rc tl hM ((a * k) + b) (by omega)) k_X8_cosine q1203 ⟨rfl, rfl⟩ ⟨Nat.le_of_ble_eq_true rfl, Nat.le_of_ble_eq_true rfl⟩ rfl (Nat.le_of_ble_eq_true rfl) ⟨Nat.le_of_ble_eq_true rfl, Nat.le_of_ble_eq_true rfl⟩ rfl dX8_addLobes_78 (z_k1 ?_)
            refine z_lmul 81 C dX8_addLobes_81 ?_
            refine z_ldc2 82 C dX8_addLobes_82 q1139 ?_
            refine z_callS 85 C (As := [.long ((Int32.toInt64 y) * (Int32.toInt64 (z_tv 0 (((a * k) + b) % 24)))), .long 1000000]) (rest := [.long (Int32.toInt64 (σ.1 119 (24 * t + k)))]) (m_X8_down (σ := z_uI σ 119 (fb_put (σ.1 119) (z_so (z_shI (σ.1 119) (24 * t)) y a b) (24 * t) k)) ((Int32.toInt64 y) * (Int32.toInt64 (z_tv 0 (((a * k) + b) % 24)))) 1000000 (by decide)) k_X8_down q1116 ⟨rfl, rfl⟩ ⟨Nat.le_of_ble_eq_true rfl, Nat.le_of_ble_eq_true rfl⟩ rfl (Nat.le_of_ble_eq_true rfl) ⟨Nat.le_of_ble_eq_true rfl, Nat.le_of_ble_eq_true rfl⟩ rfl dX8_addLobes_85 (z_k1 ?_)
            refine z_ladd 88 C dX8_addLobes_88 ?_
            refine z_sipush 89 C dX8_addLobes_89 (nI 5000) rfl ?_
            refine z_callS 92 C (As := [.long ((Int32.toInt64 (σ.1 119 (24 * t + k))) + (z_fd ((Int32.toInt64 y) * (Int32.toInt64 (z_tv 0 (((a * k) + b) % 24)))) 1000000)), .int (nI 5000)]) (rest := []) (m_X8_kept (σ := z_uI σ 119 (fb_put (σ.1 119) (z_so (z_shI (σ.1 119) (24 * t)) y a b) (24 * t) k)) ((Int32.toInt64 (σ.1 119 (24 * t + k))) + (z_fd ((Int32.toInt64 y) * (Int32.toInt64 (z_tv 0 (((a * k) + b) % 24)))) 1000000)) (nI 5000)) k_X8_kept q1474 ⟨rfl, rfl⟩ ⟨Nat.le_of_ble_eq_true rfl, Nat.le_of_ble_eq_true rfl⟩ rfl (Nat.le_of_ble_eq_true rfl) ⟨Nat.le_of_ble_eq_true rfl, Nat.le_of_ble_eq_true rfl⟩ rfl dX8_addLobes_92 (z_k1 ?_)
            refine z_cv (lv1 := [(7, .int (nI ((24 * t) + k))), (0, .ref (z_ad G 105)), (1, .int (nI t)), (2, .int (nI a)), (3, .int y), (4, .int (nI b)), (5, .int (z_bo (z_chg (z_so (z_shI (σ.1 119) (24 * t)) y a b) (z_shI (σ.1 119) (24 * t)) k))), (6, .int (nI k))]) (st1 := [.int (z_so (z_shI (σ.1 119) (24 * t)) y a b k)]) (σ1 := z_uI σ 119 (fb_put (σ.1 119) (z_so (z_shI (σ.1 119) (24 * t)) y a b) (24 * t) k)) rfl rfl rfl ?_
            refine z_istore 95 C dX8_addLobes_95 [(8, .int (z_so (z_shI (σ.1 119) (24 * t)) y a b k)), (7, .int (nI ((24 * t) + k))), (0, .ref (z_ad G 105)), (1, .int (nI t)), (2, .int (nI a)), (3, .int y), (4, .int (nI b)), (5, .int (z_bo (z_chg (z_so (z_shI (σ.1 119) (24 * t)) y a b) (z_shI (σ.1 119) (24 * t)) k))), (6, .int (nI k))] (by decide) rfl ?_
            refine z_iload 97 C dX8_addLobes_97 0 rfl ?_
            refine z_aload_n 99 C dX8_addLobes_99 2 rfl ?_
            refine z_getf 100 C 105 z_dX8 (⟨rfl, rfl⟩) 27 (by decide) q993 (.ref (z_ad G 119)) rfl dX8_addLobes_100 ?_
            refine z_iload 103 C dX8_addLobes_103 1 rfl ?_
            refine z_ialdN 105 C 119 (n := 48) (⟨rfl, rfl⟩) ((24 * t) + k) rfl (by omega) (by decide) dX8_addLobes_105 ?_
            refine z_cv (lv1 := [(8, .int (z_so (z_shI (σ.1 119) (24 * t)) y a b k)), (7, .int (nI ((24 * t) + k))), (0, .ref (z_ad G 105)), (1, .int (nI t)), (2, .int (nI a)), (3, .int y), (4, .int (nI b)), (5, .int (z_bo (z_chg (z_so (z_shI (σ.1 119) (24 * t)) y a b) (z_shI (σ.1 119) (24 * t)) k))), (6, .int (nI k))]) (st1 := [.int (σ.1 119 (24 * t + k)), .int (z_so (z_shI (σ.1 119) (24 * t)) y a b k)]) (σ1 := z_uI σ 119 (fb_put (σ.1 119) (z_so (z_shI (σ.1 119) (24 * t)) y a b) (24 * t) k)) rfl (by rw [zm_putr]) rfl ?_
            refine z_icmp_eq 106 C 113 dX8_addLobes_106 (by decide) (fun c106 => ?_) (fun c106 => ?_)
            · skip
              refine z_iload 113 C dX8_addLobes_113 7 rfl ?_
              refine z_istore 115 C dX8_addLobes_115 [(5, .int (z_bo (z_chg (z_so (z_shI (σ.1 119) (24 * t)) y a b) (z_shI (σ.1 119) (24 * t)) k))), (8, .int (z_so (z_shI (σ.1 119) (24 * t)) y a b k)), (7, .int (nI ((24 * t) + k))), (0, .ref (z_ad G 105)), (1, .int (nI t)), (2, .int (nI a)), (3, .int y), (4, .int (nI b)), (6, .int (nI k))] (by decide) rfl ?_
              refine z_aload_n 117 C dX8_addLobes_117 3 rfl ?_
              refine z_getf 118 C 105 z_dX8 (⟨rfl, rfl⟩) 27 (by decide) q993 (.ref (z_ad G 119)) rfl dX8_addLobes_118 ?_
              refine z_iload 121 C dX8_addLobes_121 2 rfl ?_
              refine z_iload 123 C dX8_addLobes_123 1 rfl ?_
              refine z_iastN 125 C 119 (n := 48) (⟨rfl, rfl⟩) ((24 * t) + k) rfl (by omega) (by decide) dX8_addLobes_125 ?_
              refine z_iincN 126 C 8 k [(6, .int (nI (k + 1))), (5, .int (z_bo (z_chg (z_so (z_shI (σ.1 119) (24 * t)) y a b) (z_shI (σ.1 119) (24 * t)) k))), (8, .int (z_so (z_shI (σ.1 119) (24 * t)) y a b k)), (7, .int (nI ((24 * t) + k))), (0, .ref (z_ad G 105)), (1, .int (nI t)), (2, .int (nI a)), (3, .int y), (4, .int (nI b))] rfl rfl (by decide) rfl dX8_addLobes_126 ?_
              refine z_goto 129 C 38 dX8_addLobes_129 (by decide) ?_
              refine z_sub [4, 5, 6, 7, 8, 1, 0] (lv1 := [(0, .ref (z_ad G 105)), (1, .int (nI t)), (2, .int (nI a)), (3, .int y), (4, .int (nI b)), (5, .int (z_bo (z_chg (z_so (z_shI (σ.1 119) (24 * t)) y a b) (z_shI (σ.1 119) (24 * t)) k))), (6, .int (nI (k + 1)))]) rfl ?_
              refine z_cv (lv1 := [(0, .ref (z_ad G 105)), (1, .int (nI t)), (2, .int (nI a)), (3, .int y), (4, .int (nI b)), (5, .int (z_bo (z_chg (z_so (z_shI (σ.1 119) (24 * t)) y a b) (z_shI (σ.1 119) (24 * t)) (k + 1)))), (6, .int (nI (k + 1)))]) (st1 := []) (σ1 := z_uI σ 119 (fb_put (σ.1 119) (z_so (z_shI (σ.1 119) (24 * t)) y a b) (24 * t) (k + 1))) (by first | rw [zm_chs (F := z_so (z_shI (σ.1 119) (24 * t)) y a b) (o := (z_shI (σ.1 119) (24 * t))) c106] | rw [← z_ch2 (F := z_so (z_shI (σ.1 119) (24 * t)) y a b) (o := (z_shI (σ.1 119) (24 * t))) c106]) rfl (z_uIu σ 119 (24 * t) k _ _ rfl) ?_
              exact ih_38 (k + 1) (by omega) (by omega)
            · skip
              refine z_iconst 109 C dX8_addLobes_109 (nI 1) rfl ?_
              refine z_goto 110 C 115 dX8_addLobes_110 (by decide) ?_
              refine z_istore 115 C dX8_addLobes_115 [(5, .int (nI 1)), (8, .int (z_so (z_shI (σ.1 119) (24 * t)) y a b k)), (7, .int (nI ((24 * t) + k))), (0, .ref (z_ad G 105)), (1, .int (nI t)), (2, .int (nI a)), (3, .int y), (4, .int (nI b)), (6, .int (nI k))] (by decide) rfl ?_
              refine z_aload_n 117 C dX8_addLobes_117 3 rfl ?_
              refine z_getf 118 C 105 z_dX8 (⟨rfl, rfl⟩) 27 (by decide) q993 (.ref (z_ad G 119)) rfl dX8_addLobes_118 ?_
              refine z_iload 121 C dX8_addLobes_121 2 rfl ?_
              refine z_iload 123 C dX8_addLobes_123 1 rfl ?_
              refine z_iastN 125 C 119 (n := 48) (⟨rfl, rfl⟩) ((24 * t) + k) rfl (by omega) (by decide) dX8_addLobes_125 ?_
              refine z_iincN 126 C 8 k [(6, .int (nI (k + 1))), (5, .int (nI 1)), (8, .int (z_so (z_shI (σ.1 119) (24 * t)) y a b k)), (7, .int (nI ((24 * t) + k))), (0, .ref (z_ad G 105)), (1, .int (nI t)), (2, .int (nI a)), (3, .int y), (4, .int (nI b))] rfl rfl (by decide) rfl dX8_addLobes_126 ?_
              refine z_goto 129 C 38 dX8_addLobes_129 (by decide) ?_
              refine z_sub [4, 5, 6, 7, 8, 1, 0] (lv1 := [(0, .ref (z_ad G 105)), (1, .int (nI t)), (2, .int (nI a)), (3, .int y), (4, .int (nI b)), (5, .int (nI 1)), (6, .int (nI (k + 1)))]) rfl ?_
              refine z_cv (lv1 := [(0, .ref (z_ad G 105)), (1, .int (nI t)), (2, .int (nI a)), (3, .int y), (4, .int (nI b)), (5, .int (z_bo (z_chg (z_so (z_shI (σ.1 119) (24 * t)) y a b) (z_shI (σ.1 119) (24 * t)) (k + 1)))), (6, .int (nI (k + 1)))]) (st1 := []) (σ1 := z_uI σ 119 (fb_put (σ.1 119) (z_so (z_shI (σ.1 119) (24 * t)) y a b) (24 * t) (k + 1))) (by first | rw [zm_chs (F := z_so (z_shI (σ.1 119) (24 * t)) y a b) (o := (z_shI (σ.1 119) (24 * t))) c106] | rw [← z_ch2 (F := z_so (z_shI (σ.1 119) (24 * t)) y a b) (o := (z_shI (σ.1 119) (24 * t))) c106]) rfl (z_uIu σ 119 (24 * t) k _ _ rfl) ?_
              exact ih_38 (k + 1) (by omega) (by omega)
      · skip
        refine z_ldc 29 C dX8_addLobes_29 q1064 ?_
        refine z_iret 31 C dX8_addLobes_31 ?_
        first | exact ⟨z_ci (by rw [if_pos c4]), by rw [if_pos c4]⟩ | exact ⟨z_ci (by rw [if_neg c4, if_pos c18]), by rw [if_neg c4, if_pos c18]⟩ | exact ⟨z_ci (by rw [if_neg c4, if_neg c18, if_pos c26]), by rw [if_neg c4, if_neg c18, if_pos c26]⟩
theorem dX8_setEccentricity_0 : decode cX8_setEccentricity 0 = .ok (.iload_n 1, 1) := by decide +kernel
theorem dX8_setEccentricity_1 : decode cX8_setEccentricity 1 = .ok (.i2l, 1) := by decide +kernel
theorem dX8_setEccentricity_2 : decode cX8_setEccentricity 2 = .ok (.ldc2_w 350, 3) := by decide +kernel
theorem dX8_setEccentricity_5 : decode cX8_setEccentricity 5 = .ok (.ldc2_w 352, 3) := by decide +kernel
theorem dX8_setEccentricity_8 : decode cX8_setEccentricity 8 = .ok (.invokestatic 68, 3) := by decide +kernel
theorem dX8_setEccentricity_11 : decode cX8_setEccentricity 11 = .ok (.ifCond .eq 17, 3) := by decide +kernel
theorem dX8_setEccentricity_14 : decode cX8_setEccentricity 14 = .ok (.iload_n 2, 1) := by decide +kernel
theorem dX8_setEccentricity_15 : decode cX8_setEccentricity 15 = .ok (.i2l, 1) := by decide +kernel
theorem dX8_setEccentricity_16 : decode cX8_setEccentricity 16 = .ok (.ldc2_w 350, 3) := by decide +kernel
theorem dX8_setEccentricity_19 : decode cX8_setEccentricity 19 = .ok (.ldc2_w 352, 3) := by decide +kernel
theorem dX8_setEccentricity_22 : decode cX8_setEccentricity 22 = .ok (.invokestatic 68, 3) := by decide +kernel
theorem dX8_setEccentricity_25 : decode cX8_setEccentricity 25 = .ok (.ifCond .ne 6, 3) := by decide +kernel
theorem dX8_setEccentricity_28 : decode cX8_setEccentricity 28 = .ok (.ldc 87, 2) := by decide +kernel
theorem dX8_setEccentricity_30 : decode cX8_setEccentricity 30 = .ok (.ireturn, 1) := by decide +kernel
theorem dX8_setEccentricity_31 : decode cX8_setEccentricity 31 = .ok (.iload_n 1, 1) := by decide +kernel
theorem dX8_setEccentricity_32 : decode cX8_setEccentricity 32 = .ok (.aload_n 0, 1) := by decide +kernel
theorem dX8_setEccentricity_33 : decode cX8_setEccentricity 33 = .ok (.getfield 344, 3) := by decide +kernel
theorem dX8_setEccentricity_36 : decode cX8_setEccentricity 36 = .ok (.if_icmp .ne 11, 3) := by decide +kernel
theorem dX8_setEccentricity_39 : decode cX8_setEccentricity 39 = .ok (.iload_n 2, 1) := by decide +kernel
theorem dX8_setEccentricity_40 : decode cX8_setEccentricity 40 = .ok (.aload_n 0, 1) := by decide +kernel
theorem dX8_setEccentricity_41 : decode cX8_setEccentricity 41 = .ok (.getfield 347, 3) := by decide +kernel
theorem dX8_setEccentricity_44 : decode cX8_setEccentricity 44 = .ok (.if_icmp .eq 7, 3) := by decide +kernel
theorem dX8_setEccentricity_47 : decode cX8_setEccentricity 47 = .ok (.iconst 1, 1) := by decide +kernel
theorem dX8_setEccentricity_48 : decode cX8_setEccentricity 48 = .ok (.goto 4, 3) := by decide +kernel
theorem dX8_setEccentricity_51 : decode cX8_setEccentricity 51 = .ok (.iconst 0, 1) := by decide +kernel
theorem dX8_setEccentricity_52 : decode cX8_setEccentricity 52 = .ok (.istore_n 3, 1) := by decide +kernel
theorem dX8_setEccentricity_53 : decode cX8_setEccentricity 53 = .ok (.aload_n 0, 1) := by decide +kernel
theorem dX8_setEccentricity_54 : decode cX8_setEccentricity 54 = .ok (.iload_n 1, 1) := by decide +kernel
theorem dX8_setEccentricity_55 : decode cX8_setEccentricity 55 = .ok (.putfield 344, 3) := by decide +kernel
theorem dX8_setEccentricity_58 : decode cX8_setEccentricity 58 = .ok (.aload_n 0, 1) := by decide +kernel
theorem dX8_setEccentricity_59 : decode cX8_setEccentricity 59 = .ok (.iload_n 2, 1) := by decide +kernel
theorem dX8_setEccentricity_60 : decode cX8_setEccentricity 60 = .ok (.putfield 347, 3) := by decide +kernel
theorem dX8_setEccentricity_63 : decode cX8_setEccentricity 63 = .ok (.iload_n 3, 1) := by decide +kernel
theorem dX8_setEccentricity_64 : decode cX8_setEccentricity 64 = .ok (.ireturn, 1) := by decide +kernel
set_option maxRecDepth 100000 in
set_option maxHeartbeats 4000000 in
theorem m_X8_setEccentricity {l : Launch} {G : z_Gl} {σ : z_St} (P n u v w rc tl : Nat) (hM : z_mi σ P n u v w rc tl) (x : Int32) (y : Int32) : z_M l G yX8_setEccentricity cX8_setEccentricity 4 (some .int) (z_rm 1 25) [.ref (z_ad G 105), .int x, .int y] σ (z_p1 (.int (if x < (-5000) ∨ nI 5000 < x then (-1000001) else if y < (-5000) ∨ nI 5000 < y then (-1000001) else z_bo (¬ x = σ.1 105 28 ∨ ¬ y = σ.1 105 29))) (if x < (-5000) ∨ nI 5000 < x then σ else if y < (-5000) ∨ nI 5000 < y then σ else z_ui (z_ui σ 105 28 x) 105 29 y)) := by
  refine z_M.of (by decide) (Nat.le_of_ble_eq_true rfl) (fun p e s m below meth c C => ?_)
  refine z_sub [0, 1, 2] (lv1 := [(0, .ref (z_ad G 105)), (1, .int x), (2, .int y)]) rfl ?_
  have hM0 := hM
  obtain ⟨⟨hP, hn, hu, hv, hw, hrc, htl⟩, hPs, hnP, huv, hw6, hrc8, htl2, hqt, hah⟩ := hM0
  have h0 : 0 < P := by omega
  have h12 : P ≤ 12 := by omega
  have h288 : n ≤ 288 := by omega
  refine z_iload_n 0 C dX8_setEccentricity_0 1 rfl ?_
  refine z_i2l 1 C dX8_setEccentricity_1 ?_
  refine z_ldc2 2 C dX8_setEccentricity_2 q1462 ?_
  refine z_ldc2 5 C dX8_setEccentricity_5 q1463 ?_
  refine z_callS 8 C (As := [.long (Int32.toInt64 x), .long (-5000), .long 5000]) (rest := []) (m_X8_in_i x (-5000) (nI 5000) (by decide) (by decide)) k_X8_in q1071 ⟨rfl, rfl⟩ ⟨Nat.le_of_ble_eq_true rfl, Nat.le_of_ble_eq_true rfl⟩ rfl (Nat.le_of_ble_eq_true rfl) ⟨Nat.le_of_ble_eq_true rfl, Nat.le_of_ble_eq_true rfl⟩ rfl dX8_setEccentricity_8 (z_k1 ?_)
  refine z_if_eqb 11 C 28 dX8_setEccentricity_11 (by decide) (fun c11 => ?_) (fun c11 => ?_)
  · skip
    replace c11 := Classical.not_not.mp c11
    refine z_ldc 28 C dX8_setEccentricity_28 q1064 ?_
    refine z_iret 30 C dX8_setEccentricity_30 ?_
    first | exact ⟨z_ci (by rw [if_pos c11]), by rw [if_pos c11]⟩ | exact ⟨z_ci (by rw [if_neg c11, if_pos c25]), by rw [if_neg c11, if_pos c25]⟩
  · skip
    refine z_iload_n 14 C dX8_setEccentricity_14 2 rfl ?_
    refine z_i2l 15 C dX8_setEccentricity_15 ?_
    refine z_ldc2 16 C dX8_setEccentricity_16 q1462 ?_
    refine z_ldc2 19 C dX8_setEccentricity_19 q1463 ?_
    refine z_callS 22 C (As := [.long (Int32.toInt64 y), .long (-5000), .long 5000]) (rest := []) (m_X8_in_i y (-5000) (nI 5000) (by decide) (by decide)) k_X8_in q1071 ⟨rfl, rfl⟩ ⟨Nat.le_of_ble_eq_true rfl, Nat.le_of_ble_eq_true rfl⟩ rfl (Nat.le_of_ble_eq_true rfl) ⟨Nat.le_of_ble_eq_true rfl, Nat.le_of_ble_eq_true rfl⟩ rfl dX8_setEccentricity_22 (z_k1 ?_)
    refine z_if_neb 25 C 31 dX8_setEccentricity_25 (by decide) (fun c25 => ?_) (fun c25 => ?_)
    · skip
      refine z_iload_n 31 C dX8_setEccentricity_31 1 rfl ?_
      refine z_aload_n 32 C dX8_setEccentricity_32 0 rfl ?_
      refine z_getf 33 C 105 z_dX8 (⟨rfl, rfl⟩) 28 (by decide) q994 (.int (σ.1 105 28)) rfl dX8_setEccentricity_33 ?_
      refine z_icmp_ne 36 C 47 dX8_setEccentricity_36 (by decide) (fun c36 => ?_) (fun c36 => ?_)
      · skip
        refine z_iconst 47 C dX8_setEccentricity_47 (nI 1) rfl ?_
        refine z_goto 48 C 52 dX8_setEccentricity_48 (by decide) ?_
        refine z_istore_n 52 C dX8_setEccentricity_52 [(3, .int (nI 1)), (0, .ref (z_ad G 105)), (1, .int x), (2, .int y)] (by decide) rfl ?_
        refine z_aload_n 53 C dX8_setEccentricity_53 1 rfl ?_
        refine z_iload_n 54 C dX8_setEccentricity_54 2 rfl ?_
        refine z_puti 55 C 105 z_dX8 (⟨rfl, rfl⟩) 28 (by decide) q994 rfl (rfl) rfl ⟨Nat.le_of_ble_eq_true rfl, rfl⟩ dX8_setEccentricity_55 ?_
        refine z_aload_n 58 C dX8_setEccentricity_58 1 rfl ?_
        refine z_iload_n 59 C dX8_setEccentricity_59 3 rfl ?_
        refine z_puti 60 C 105 z_dX8 (⟨rfl, rfl⟩) 29 (by decide) q995 rfl (rfl) rfl ⟨Nat.le_of_ble_eq_true rfl, rfl⟩ dX8_setEccentricity_60 ?_
        refine z_iload_n 63 C dX8_setEccentricity_63 0 rfl ?_
        refine z_iret 64 C dX8_setEccentricity_64 ?_
        refine ⟨z_ci ?_, by rw [if_neg c11, if_neg c25]⟩
        rw [if_neg c11, if_neg c25]
        first | exact z_bo_t (Or.inl c36) | exact z_bo_t (Or.inr c44) | exact z_bo_f (fun z => z.elim (fun q => q (Decidable.not_not.mp c36)) (fun q => q c44)) | exact z_bo_f (fun z => z.elim (fun q => q c36) (fun q => q c44))
      · skip
        refine z_iload_n 39 C dX8_setEccentricity_39 2 rfl ?_
        refine z_aload_n 40 C dX8_setEccentricity_40 0 rfl ?_
        refine z_getf 41 C 105 z_dX8 (⟨rfl, rfl⟩) 29 (by decide) q995 (.int (σ.1 105 29)) rfl dX8_setEccentricity_41 ?_
        refine z_icmp_eq 44 C 51 dX8_setEccentricity_44 (by decide) (fun c44 => ?_) (fun c44 => ?_)
        · skip
          refine z_iconst 51 C dX8_setEccentricity_51 (nI 0) rfl ?_
          refine z_istore_n 52 C dX8_setEccentricity_52 [(3, .int (nI 0)), (0, .ref (z_ad G 105)), (1, .int x), (2, .int y)] (by decide) rfl ?_
          refine z_aload_n 53 C dX8_setEccentricity_53 1 rfl ?_
          refine z_iload_n 54 C dX8_setEccentricity_54 2 rfl ?_
          refine z_puti 55 C 105 z_dX8 (⟨rfl, rfl⟩) 28 (by decide) q994 rfl (rfl) rfl ⟨Nat.le_of_ble_eq_true rfl, rfl⟩ dX8_setEccentricity_55 ?_
          refine z_aload_n 58 C dX8_setEccentricity_58 1 rfl ?_
          refine z_iload_n 59 C dX8_setEccentricity_59 3 rfl ?_
          refine z_puti 60 C 105 z_dX8 (⟨rfl, rfl⟩) 29 (by decide) q995 rfl (rfl) rfl ⟨Nat.le_of_ble_eq_true rfl, rfl⟩ dX8_setEccentricity_60 ?_
          refine z_iload_n 63 C dX8_setEccentricity_63 0 rfl ?_
          refine z_iret 64 C dX8_setEccentricity_64 ?_
          refine ⟨z_ci ?_, by rw [if_neg c11, if_neg c25]⟩
          rw [if_neg c11, if_neg c25]
          first | exact z_bo_t (Or.inl c36) | exact z_bo_t (Or.inr c44) | exact z_bo_f (fun z => z.elim (fun q => q (Decidable.not_not.mp c36)) (fun q => q c44)) | exact z_bo_f (fun z => z.elim (fun q => q c36) (fun q => q c44))
        · skip
          refine z_iconst 47 C dX8_setEccentricity_47 (nI 1) rfl ?_
          refine z_goto 48 C 52 dX8_setEccentricity_48 (by decide) ?_
          refine z_istore_n 52 C dX8_setEccentricity_52 [(3, .int (nI 1)), (0, .ref (z_ad G 105)), (1, .int x), (2, .int y)] (by decide) rfl ?_
          refine z_aload_n 53 C dX8_setEccentricity_53 1 rfl ?_
          refine z_iload_n 54 C dX8_setEccentricity_54 2 rfl ?_
          refine z_puti 55 C 105 z_dX8 (⟨rfl, rfl⟩) 28 (by decide) q994 rfl (rfl) rfl ⟨Nat.le_of_ble_eq_true rfl, rfl⟩ dX8_setEccentricity_55 ?_
          refine z_aload_n 58 C dX8_setEccentricity_58 1 rfl ?_
          refine z_iload_n 59 C dX8_setEccentricity_59 3 rfl ?_
          refine z_puti 60 C 105 z_dX8 (⟨rfl, rfl⟩) 29 (by decide) q995 rfl (rfl) rfl ⟨Nat.le_of_ble_eq_true rfl, rfl⟩ dX8_setEccentricity_60 ?_
          refine z_iload_n 63 C dX8_setEccentricity_63 0 rfl ?_
          refine z_iret 64 C dX8_setEccentricity_64 ?_
          refine ⟨z_ci ?_, by rw [if_neg c11, if_neg c25]⟩
          rw [if_neg c11, if_neg c25]
          first | exact z_bo_t (Or.inl c36) | exact z_bo_t (Or.inr c44) | exact z_bo_f (fun z => z.elim (fun q => q (Decidable.not_not.mp c36)) (fun q => q c44)) | exact z_bo_f (fun z => z.elim (fun q => q c36) (fun q => q c44))
    · skip
      replace c25 := Classical.not_not.mp c25
      refine z_ldc 28 C dX8_setEccentricity_28 q1064 ?_
      refine z_iret 30 C dX8_setEccentricity_30 ?_
      first | exact ⟨z_ci (by rw [if_pos c11]), by rw [if_pos c11]⟩ | exact ⟨z_ci (by rw [if_neg c11, if_pos c25]), by rw [if_neg c11, if_pos c25]⟩
theorem dX8_simulateStep_0 : decode cX8_simulateStep 0 = .ok (.aload_n 0, 1) := by decide +kernel
theorem dX8_simulateStep_1 : decode cX8_simulateStep 1 = .ok (.invokevirtual 92, 3) := by decide +kernel
theorem dX8_simulateStep_4 : decode cX8_simulateStep 4 = .ok (.ifCond .ne 13, 3) := by decide +kernel
theorem dX8_simulateStep_7 : decode cX8_simulateStep 7 = .ok (.aload_n 0, 1) := by decide +kernel
theorem dX8_simulateStep_8 : decode cX8_simulateStep 8 = .ok (.getfield 80, 3) := by decide +kernel
theorem dX8_simulateStep_11 : decode cX8_simulateStep 11 = .ok (.bipush 24, 2) := by decide +kernel
theorem dX8_simulateStep_13 : decode cX8_simulateStep 13 = .ok (.irem, 1) := by decide +kernel
theorem dX8_simulateStep_14 : decode cX8_simulateStep 14 = .ok (.ifCond .eq 6, 3) := by decide +kernel
theorem dX8_simulateStep_17 : decode cX8_simulateStep 17 = .ok (.ldc 96, 2) := by decide +kernel
theorem dX8_simulateStep_19 : decode cX8_simulateStep 19 = .ok (.ireturn, 1) := by decide +kernel
theorem dX8_simulateStep_20 : decode cX8_simulateStep 20 = .ok (.aload_n 0, 1) := by decide +kernel
theorem dX8_simulateStep_21 : decode cX8_simulateStep 21 = .ok (.getfield 80, 3) := by decide +kernel
theorem dX8_simulateStep_24 : decode cX8_simulateStep 24 = .ok (.bipush 24, 2) := by decide +kernel
theorem dX8_simulateStep_26 : decode cX8_simulateStep 26 = .ok (.idiv, 1) := by decide +kernel
theorem dX8_simulateStep_27 : decode cX8_simulateStep 27 = .ok (.istore_n 1, 1) := by decide +kernel
theorem dX8_simulateStep_28 : decode cX8_simulateStep 28 = .ok (.iconst 0, 1) := by decide +kernel
theorem dX8_simulateStep_29 : decode cX8_simulateStep 29 = .ok (.istore_n 2, 1) := by decide +kernel
theorem dX8_simulateStep_30 : decode cX8_simulateStep 30 = .ok (.iload_n 2, 1) := by decide +kernel
theorem dX8_simulateStep_31 : decode cX8_simulateStep 31 = .ok (.bipush 24, 2) := by decide +kernel
theorem dX8_simulateStep_33 : decode cX8_simulateStep 33 = .ok (.if_icmp .ge 96, 3) := by decide +kernel
theorem dX8_simulateStep_36 : decode cX8_simulateStep 36 = .ok (.iload_n 2, 1) := by decide +kernel
theorem dX8_simulateStep_37 : decode cX8_simulateStep 37 = .ok (.aload_n 0, 1) := by decide +kernel
theorem dX8_simulateStep_38 : decode cX8_simulateStep 38 = .ok (.iload_n 1, 1) := by decide +kernel
theorem dX8_simulateStep_39 : decode cX8_simulateStep 39 = .ok (.invokevirtual 119, 3) := by decide +kernel
theorem dX8_simulateStep_42 : decode cX8_simulateStep 42 = .ok (.isub, 1) := by decide +kernel
theorem dX8_simulateStep_43 : decode cX8_simulateStep 43 = .ok (.invokestatic 72, 3) := by decide +kernel
theorem dX8_simulateStep_46 : decode cX8_simulateStep 46 = .ok (.istore_n 3, 1) := by decide +kernel
theorem dX8_simulateStep_47 : decode cX8_simulateStep 47 = .ok (.aload_n 0, 1) := by decide +kernel
theorem dX8_simulateStep_48 : decode cX8_simulateStep 48 = .ok (.getfield 57, 3) := by decide +kernel
theorem dX8_simulateStep_51 : decode cX8_simulateStep 51 = .ok (.iload_n 3, 1) := by decide +kernel
theorem dX8_simulateStep_52 : decode cX8_simulateStep 52 = .ok (.iaload, 1) := by decide +kernel
theorem dX8_simulateStep_53 : decode cX8_simulateStep 53 = .ok (.aload_n 0, 1) := by decide +kernel
theorem dX8_simulateStep_54 : decode cX8_simulateStep 54 = .ok (.getfield 57, 3) := by decide +kernel
theorem dX8_simulateStep_57 : decode cX8_simulateStep 57 = .ok (.bipush 24, 2) := by decide +kernel
theorem dX8_simulateStep_59 : decode cX8_simulateStep 59 = .ok (.iload_n 2, 1) := by decide +kernel
theorem dX8_simulateStep_60 : decode cX8_simulateStep 60 = .ok (.iadd, 1) := by decide +kernel
theorem dX8_simulateStep_61 : decode cX8_simulateStep 61 = .ok (.iaload, 1) := by decide +kernel
theorem dX8_simulateStep_62 : decode cX8_simulateStep 62 = .ok (.iadd, 1) := by decide +kernel
theorem dX8_simulateStep_63 : decode cX8_simulateStep 63 = .ok (.i2l, 1) := by decide +kernel
theorem dX8_simulateStep_64 : decode cX8_simulateStep 64 = .ok (.aload_n 0, 1) := by decide +kernel
theorem dX8_simulateStep_65 : decode cX8_simulateStep 65 = .ok (.getfield 344, 3) := by decide +kernel
theorem dX8_simulateStep_68 : decode cX8_simulateStep 68 = .ok (.i2l, 1) := by decide +kernel
theorem dX8_simulateStep_69 : decode cX8_simulateStep 69 = .ok (.aload_n 0, 1) := by decide +kernel
theorem dX8_simulateStep_70 : decode cX8_simulateStep 70 = .ok (.iload_n 3, 1) := by decide +kernel
theorem dX8_simulateStep_71 : decode cX8_simulateStep 71 = .ok (.invokevirtual 76, 3) := by decide +kernel
theorem dX8_simulateStep_74 : decode cX8_simulateStep 74 = .ok (.lmul, 1) := by decide +kernel
theorem dX8_simulateStep_75 : decode cX8_simulateStep 75 = .ok (.aload_n 0, 1) := by decide +kernel
theorem dX8_simulateStep_76 : decode cX8_simulateStep 76 = .ok (.getfield 347, 3) := by decide +kernel
theorem dX8_simulateStep_79 : decode cX8_simulateStep 79 = .ok (.i2l, 1) := by decide +kernel
theorem dX8_simulateStep_80 : decode cX8_simulateStep 80 = .ok (.aload_n 0, 1) := by decide +kernel
theorem dX8_simulateStep_81 : decode cX8_simulateStep 81 = .ok (.iload_n 3, 1) := by decide +kernel
theorem dX8_simulateStep_82 : decode cX8_simulateStep 82 = .ok (.invokevirtual 161, 3) := by decide +kernel
theorem dX8_simulateStep_85 : decode cX8_simulateStep 85 = .ok (.lmul, 1) := by decide +kernel
theorem dX8_simulateStep_86 : decode cX8_simulateStep 86 = .ok (.ladd, 1) := by decide +kernel
theorem dX8_simulateStep_87 : decode cX8_simulateStep 87 = .ok (.ldc2_w 125, 3) := by decide +kernel
theorem dX8_simulateStep_90 : decode cX8_simulateStep 90 = .ok (.invokestatic 115, 3) := by decide +kernel
theorem dX8_simulateStep_93 : decode cX8_simulateStep 93 = .ok (.ladd, 1) := by decide +kernel
theorem dX8_simulateStep_94 : decode cX8_simulateStep 94 = .ok (.lstore 4, 2) := by decide +kernel
theorem dX8_simulateStep_96 : decode cX8_simulateStep 96 = .ok (.aload_n 0, 1) := by decide +kernel
theorem dX8_simulateStep_97 : decode cX8_simulateStep 97 = .ok (.getfield 19, 3) := by decide +kernel
theorem dX8_simulateStep_100 : decode cX8_simulateStep 100 = .ok (.aload_n 0, 1) := by decide +kernel
theorem dX8_simulateStep_101 : decode cX8_simulateStep 101 = .ok (.getfield 80, 3) := by decide +kernel
theorem dX8_simulateStep_104 : decode cX8_simulateStep 104 = .ok (.lload 4, 2) := by decide +kernel
theorem dX8_simulateStep_106 : decode cX8_simulateStep 106 = .ok (.sipush 10000, 3) := by decide +kernel
theorem dX8_simulateStep_109 : decode cX8_simulateStep 109 = .ok (.invokestatic 358, 3) := by decide +kernel
theorem dX8_simulateStep_112 : decode cX8_simulateStep 112 = .ok (.iastore, 1) := by decide +kernel
theorem dX8_simulateStep_113 : decode cX8_simulateStep 113 = .ok (.aload_n 0, 1) := by decide +kernel
theorem dX8_simulateStep_114 : decode cX8_simulateStep 114 = .ok (.dup, 1) := by decide +kernel
theorem dX8_simulateStep_115 : decode cX8_simulateStep 115 = .ok (.getfield 80, 3) := by decide +kernel
theorem dX8_simulateStep_118 : decode cX8_simulateStep 118 = .ok (.iconst 1, 1) := by decide +kernel
theorem dX8_simulateStep_119 : decode cX8_simulateStep 119 = .ok (.iadd, 1) := by decide +kernel
theorem dX8_simulateStep_120 : decode cX8_simulateStep 120 = .ok (.putfield 80, 3) := by decide +kernel
theorem dX8_simulateStep_123 : decode cX8_simulateStep 123 = .ok (.iinc 2 1, 3) := by decide +kernel
theorem dX8_simulateStep_126 : decode cX8_simulateStep 126 = .ok (.goto (-96), 3) := by decide +kernel
theorem dX8_simulateStep_129 : decode cX8_simulateStep 129 = .ok (.aload_n 0, 1) := by decide +kernel
theorem dX8_simulateStep_130 : decode cX8_simulateStep 130 = .ok (.getfield 80, 3) := by decide +kernel
theorem dX8_simulateStep_133 : decode cX8_simulateStep 133 = .ok (.ireturn, 1) := by decide +kernel
set_option maxRecDepth 100000 in
set_option maxHeartbeats 4000000 in
theorem m_X8_simulateStep {l : Launch} {G : z_Gl} {σ : z_St} (P n u v w rc tl : Nat) (hM : z_mi σ P n u v w rc tl) : z_M l G yX8_simulateStep cX8_simulateStep 6 (some .int) (z_rm 3 64) [.ref (z_ad G 105)] σ (z_p1 (.int (if P * 24 ≤ n then (-1000002) else if ¬ n % 24 = 0 then (-1000002) else nI (n + 24))) (if P * 24 ≤ n then σ else if ¬ n % 24 = 0 then σ else z_ui (z_uI σ 107 (fb_put (σ.1 107) (fun kk => z_rg (σ.1 119) (z_shI (σ.1 119) 24) (σ.1 105 28) (σ.1 105 29) kk (n / 24 * (24 / P))) n 24)) 105 2 (nI (n + 24)))) := by
  refine z_M.of (by decide) (Nat.le_of_ble_eq_true rfl) (fun p e s m below meth c C => ?_)
  refine z_sub [0] (lv1 := [(0, .ref (z_ad G 105))]) rfl ?_
  have hM0 := hM
  obtain ⟨⟨hP, hn, hu, hv, hw, hrc, htl⟩, hPs, hnP, huv, hw6, hrc8, htl2, hqt, hah⟩ := hM0
  have h0 : 0 < P := by omega
  have h12 : P ≤ 12 := by omega
  have h288 : n ≤ 288 := by omega
  refine z_aload_n 0 C dX8_simulateStep_0 0 rfl ?_
  refine z_callV 1 C 105 (⟨rfl, rfl⟩) rfl (As := []) (rest := []) (m_X8_isComplete P n u v w rc tl hM  ) k_X8_isComplete q1074 ⟨rfl, rfl⟩ ⟨Nat.le_of_ble_eq_true rfl, Nat.le_of_ble_eq_true rfl⟩ rfl (Nat.le_of_ble_eq_true rfl) ⟨Nat.le_of_ble_eq_true rfl, Nat.le_of_ble_eq_true rfl⟩ rfl dX8_simulateStep_1 (z_k1 ?_)
  refine z_if_neb 4 C 17 dX8_simulateStep_4 (by decide) (fun c4 => ?_) (fun c4 => ?_)
  · skip
    refine z_ldc 17 C dX8_simulateStep_17 q1078 ?_
    refine z_iret 19 C dX8_simulateStep_19 ?_
    first | exact ⟨z_ci (by rw [if_pos c4]), by rw [if_pos c4]⟩ | exact ⟨z_ci (by rw [if_neg c4, if_pos e14]), by rw [if_neg c4, if_pos e14]⟩
  · skip
    refine z_aload_n 7 C dX8_simulateStep_7 0 rfl ?_
    refine z_getf 8 C 105 z_dX8 (⟨rfl, rfl⟩) 2 (by decide) q968 (.int (nI n)) (z_ci hn) dX8_simulateStep_8 ?_
    refine z_bipush 11 C dX8_simulateStep_11 (nI 24) rfl ?_
    refine z_iremN 13 C n 24 rfl rfl (by omega) (by omega) (by omega) dX8_simulateStep_13 ?_
    refine z_if_eq 14 C 20 dX8_simulateStep_14 (by decide) (fun c14 => ?_) (fun c14 => ?_)
    · skip
      have e14 : n % 24 = 0 := (z_nI0 (by omega)).mp c14
      have hdl : n / 24 * (24 / P) ≤ 12 * 24 := Nat.mul_le_mul (by omega) (Nat.div_le_self 24 P)
      refine z_aload_n 20 C dX8_simulateStep_20 0 rfl ?_
      refine z_getf 21 C 105 z_dX8 (⟨rfl, rfl⟩) 2 (by decide) q968 (.int (nI n)) (z_ci hn) dX8_simulateStep_21 ?_
      refine z_bipush 24 C dX8_simulateStep_24 (nI 24) rfl ?_
      refine z_idivN 26 C n 24 rfl rfl (by omega) (by omega) (by omega) dX8_simulateStep_26 ?_
      refine z_istore_n 27 C dX8_simulateStep_27 [(1, .int (nI (n / 24))), (0, .ref (z_ad G 105))] (by decide) rfl ?_
      refine z_iconst 28 C dX8_simulateStep_28 (nI 0) rfl ?_
      refine z_istore_n 29 C dX8_simulateStep_29 [(2, .int (nI 0)), (1, .int (nI (n / 24))), (0, .ref (z_ad G 105))] (by decide) rfl ?_
      refine z_sub [2, 1, 0] (lv1 := [(0, .ref (z_ad G 105)), (1, .int (nI (n / 24))), (2, .int (nI 0))]) rfl ?_
      refine z_cv (lv1 := [(0, .ref (z_ad G 105)), (1, .int (nI (n / 24))), (2, .int (nI 0))]) (st1 := []) (σ1 := z_ui (z_uI σ 107 (fb_put (σ.1 107) (fun kk => z_rg (σ.1 119) (z_shI (σ.1 119) 24) (σ.1 105 28) (σ.1 105 29) kk (n / 24 * (24 / P))) n 0)) 105 2 (nI (n + 0))) rfl rfl (by rw [fb_put_0, z_uI_same]; exact (z_ui_id hn).symm) ?_
      refine z_lp1 (fun (k : Nat) => k ≤ 24) (fun (k : Nat) => 24 - k) (fun (k : Nat) => [(0, .ref (z_ad G 105)), (1, .int (nI (n / 24))), (2, .int (nI k))]) (fun (k : Nat) => z_ui (z_uI σ 107 (fb_put (σ.1 107) (fun kk => z_rg (σ.1 119) (z_shI (σ.1 119) 24) (σ.1 105 28) (σ.1 105 29) kk (n / 24 * (24 / P))) n k)) 105 2 (nI (n + k))) (fun k hi_30 ih_30 => ?_) 0 (by omega)
      try dsimp only
      refine z_iload_n 30 C dX8_simulateStep_30 2 rfl ?_
      refine z_bipush 31 C dX8_simulateStep_31 (nI 24) rfl ?_
      refine z_icmp_geN 33 C k 24 rfl rfl (by omega) (by omega) 129 dX8_simulateStep_33 (by decide) (fun c33 => ?_) (fun c33 => ?_)
      · skip
        have ek : k = 24 := by omega
        subst ek
        refine z_aload_n 129 C dX8_simulateStep_129 0 rfl ?_
        refine z_getf 130 C 105 z_dX8 (⟨rfl, rfl⟩) 2 (by decide) q968 (.int (nI (n + 24))) rfl dX8_simulateStep_130 ?_
        refine z_iret 133 C dX8_simulateStep_133 ?_
        exact ⟨z_ci (by rw [if_neg c4, if_neg (fun z => z e14)]), by rw [if_neg c4, if_neg (fun z => z e14)]⟩
      · skip
        refine z_iload_n 36 C dX8_simulateStep_36 2 rfl ?_
        refine z_aload_n 37 C dX8_simulateStep_37 0 rfl ?_
        refine z_iload_n 38 C dX8_simulateStep_38 1 rfl ?_
        refine z_callV 39 C 105 (⟨rfl, rfl⟩) rfl (As := [.int (nI (n / 24))]) (rest := [.int (nI k)]) (m_X8_turned (σ := z_ui (z_uI σ 107 (fb_put (σ.1 107) (fun kk => z_rg (σ.1 119) (z_shI (σ.1 119) 24) (σ.1 105 28) (σ.1 105 29) kk (n / 24 * (24 / P))) n k)) 105 2 (nI (n + k))) P (n + k) u v w rc tl (hM.rd (by omega)) (n / 24) (by omega)) k_X8_turned q1131 ⟨rfl, rfl⟩ ⟨Nat.le_of_ble_eq_true rfl, Nat.le_of_ble_eq_true rfl⟩ rfl (Nat.le_of_ble_eq_true rfl) ⟨Nat.le_of_ble_eq_true rfl, Nat.le_of_ble_eq_true rfl⟩ rfl dX8_simulateStep_39 (z_k1 ?_)
        refine z_isub 42 C dX8_simulateStep_42 ?_
        refine z_callS 43 C (As := [.int ((nI k) - (nI ((n / 24) * (24 / P))))]) (rest := []) (m_X8_around_d (σ := z_ui (z_uI σ 107 (fb_put (σ.1 107) (fun kk => z_rg (σ.1 119) (z_shI (σ.1 119) 24) (σ.1 105 28) (σ.1 105 29) kk (n / 24 * (24 / P))) n k)) 105 2 (nI (n + k))) k ((n / 24) * (24 / P)) (by omega) (by omega)) k_X8_around q1109 ⟨rfl, rfl⟩ ⟨Nat.le_of_ble_eq_true rfl, Nat.le_of_ble_eq_true rfl⟩ rfl (Nat.le_of_ble_eq_true rfl) ⟨Nat.le_of_ble_eq_true rfl, Nat.le_of_ble_eq_true rfl⟩ rfl dX8_simulateStep_43 (z_k1 ?_)
        refine z_istore_n 46 C dX8_simulateStep_46 [(3, .int (nI ((k + (24 - ((n / 24) * (24 / P)) % 24)) % 24))), (0, .ref (z_ad G 105)), (1, .int (nI (n / 24))), (2, .int (nI k))] (by decide) rfl ?_
        refine z_aload_n 47 C dX8_simulateStep_47 1 rfl ?_
        refine z_getf 48 C 105 z_dX8 (⟨rfl, rfl⟩) 27 (by decide) q993 (.ref (z_ad G 119)) rfl dX8_simulateStep_48 ?_
        refine z_iload_n 51 C dX8_simulateStep_51 0 rfl ?_
        refine z_ialdN 52 C 119 (n := 48) (⟨rfl, rfl⟩) ((k + (24 - ((n / 24) * (24 / P)) % 24)) % 24) rfl (by omega) (by decide) dX8_simulateStep_52 ?_
        refine z_cv (st1 := [.int (σ.1 119 ((k + (24 - ((n / 24) * (24 / P)) % 24)) % 24))]) rfl rfl rfl ?_
        refine z_aload_n 53 C dX8_simulateStep_53 1 rfl ?_
        refine z_getf 54 C 105 z_dX8 (⟨rfl, rfl⟩) 27 (by decide) q993 (.ref (z_ad G 119)) rfl dX8_simulateStep_54 ?_
        refine z_bipush 57 C dX8_simulateStep_57 (nI 24) rfl ?_
        refine z_iload_n 59 C dX8_simulateStep_59 3 rfl ?_
        refine z_iaddN 60 C 24 k rfl rfl dX8_simulateStep_60 ?_
        refine z_ialdN 61 C 119 (n := 48) (⟨rfl, rfl⟩) (24 + k) rfl (by omega) (by decide) dX8_simulateStep_61 ?_
        refine z_cv (st1 := [.int (σ.1 119 (24 + k)), .int (σ.1 119 ((k + (24 - ((n / 24) * (24 / P)) % 24)) % 24))]) rfl rfl rfl ?_
        refine z_iadd 62 C dX8_simulateStep_62 ?_
        refine z_i2l 63 C dX8_simulateStep_63 ?_
        refine z_aload_n 64 C dX8_simulateStep_64 1 rfl ?_
        refine z_getf 65 C 105 z_dX8 (⟨rfl, rfl⟩) 28 (by decide) q994 (.int (σ.1 105 28)) rfl dX8_simulateStep_65 ?_
        refine z_i2l 68 C dX8_simulateStep_68 ?_
        refine z_aload_n 69 C dX8_simulateStep_69 1 rfl ?_
        refine z_iload_n 70 C dX8_simulateStep_70 0 rfl ?_
        refine z_callV 71 C 105 (⟨rfl, rfl⟩) rfl (As := [.int (nI ((k + (24 - ((n / 24) * (24 / P)) % 24)) % 24))]) (rest := [.long (Int32.toInt64 (σ.1 105 28)), .long (Int32.toInt64 ((σ.1 119 ((k + (24 - ((n / 24) * (24 / P)) % 24)) % 24)) + (σ.1 119 (24 + k))))]) (m_X8_cosine_n (σ := z_ui (z_uI σ 107 (fb_put (σ.1 107) (fun kk => z_rg (σ.1 119) (z_shI (σ.1 119) 24) (σ.1 105 28) (σ.1 105 29) kk (n / 24 * (24 / P))) n k)) 105 2 (nI (n + k))) P (n + k) u v w rc tl (hM.rd (by omega)) ((k + (24 - ((n / 24) * (24 / P)) % 24)) % 24) (by omega)) k_X8_cosine q1203 ⟨rfl, rfl⟩ ⟨Nat.le_of_ble_eq_true rfl, Nat.le_of_ble_eq_true rfl⟩ rfl (Nat.le_of_ble_eq_true rfl) ⟨Nat.le_of_ble_eq_true rfl, Nat.le_of_ble_eq_true rfl⟩ rfl dX8_simulateStep_71 (z_k1 ?_)
        refine z_lmul 74 C dX8_simulateStep_74 ?_
        refine z_aload_n 75 C dX8_simulateStep_75 1 rfl ?_
        refine z_getf 76 C 105 z_dX8 (⟨rfl, rfl⟩) 29 (by decide) q995 (.int (σ.1 105 29)) rfl dX8_simulateStep_76 ?_
        refine z_i2l 79 C dX8_simulateStep_79 ?_
        refine z_aload_n 80 C dX8_simulateStep_80 1 rfl ?_
        refine z_iload_n 81 C dX8_simulateStep_81 0 rfl ?_
        refine z_callV 82 C 105 (⟨rfl, rfl⟩) rfl (As := [.int (nI ((k + (24 - ((n / 24) * (24 / P)) % 24)) % 24))]) (rest := [.long (Int32.toInt64 (σ.1 105 29)), .long ((Int32.toInt64 (σ.1 105 28)) * (Int32.toInt64 (z_tv 0 (((k + (24 - ((n / 24) * (24 / P)) % 24)) % 24) % 24)))), .long (Int32.toInt64 ((σ.1 119 ((k + (24 - ((n / 24) * (24 / P)) % 24)) % 24)) + (σ.1 119 (24 + k))))]) (m_X8_sine (σ := z_ui (z_uI σ 107 (fb_put (σ.1 107) (fun kk => z_rg (σ.1 119) (z_shI (σ.1 119) 24) (σ.1 105 28) (σ.1 105 29) kk (n / 24 * (24 / P))) n k)) 105 2 (nI (n + k))) P (n + k) u v w rc tl (hM.rd (by omega)) ((k + (24 - ((n / 24) * (24 / P)) % 24)) % 24) (by omega)) k_X8_sine q1199 ⟨rfl, rfl⟩ ⟨Nat.le_of_ble_eq_true rfl, Nat.le_of_ble_eq_true rfl⟩ rfl (Nat.le_of_ble_eq_true rfl) ⟨Nat.le_of_ble_eq_true rfl, Nat.le_of_ble_eq_true rfl⟩ rfl dX8_simulateStep_82 (z_k1 ?_)
        refine z_lmul 85 C dX8_simulateStep_85 ?_
        refine z_ladd 86 C dX8_simulateStep_86 ?_
        refine z_ldc2 87 C dX8_simulateStep_87 q1139 ?_
        refine z_callS 90 C (As := [.long (((Int32.toInt64 (σ.1 105 28)) * (Int32.toInt64 (z_tv 0 (((k + (24 - ((n / 24) * (24 / P)) % 24)) % 24) % 24)))) + ((Int32.toInt64 (σ.1 105 29)) * (Int32.toInt64 (z_tv 1 (((k + (24 - ((n / 24) * (24 / P)) % 24)) % 24) % 24))))), .long 1000000]) (rest := [.long (Int32.toInt64 ((σ.1 119 ((k + (24 - ((n / 24) * (24 / P)) % 24)) % 24)) + (σ.1 119 (24 + k))))]) (m_X8_down (σ := z_ui (z_uI σ 107 (fb_put (σ.1 107) (fun kk => z_rg (σ.1 119) (z_shI (σ.1 119) 24) (σ.1 105 28) (σ.1 105 29) kk (n / 24 * (24 / P))) n k)) 105 2 (nI (n + k))) (((Int32.toInt64 (σ.1 105 28)) * (Int32.toInt64 (z_tv 0 (((k + (24 - ((n / 24) * (24 / P)) % 24)) % 24) % 24)))) + ((Int32.toInt64 (σ.1 105 29)) * (Int32.toInt64 (z_tv 1 (((k + (24 - ((n / 24) * (24 / P)) % 24)) % 24) % 24))))) 1000000 (by decide)) k_X8_down q1116 ⟨rfl, rfl⟩ ⟨Nat.le_of_ble_eq_true rfl, Nat.le_of_ble_eq_true rfl⟩ rfl (Nat.le_of_ble_eq_true rfl) ⟨Nat.le_of_ble_eq_true rfl, Nat.le_of_ble_eq_true rfl⟩ rfl dX8_simulateStep_90 (z_k1 ?_)
        refine z_ladd 93 C dX8_simulateStep_93 ?_
        refine z_lstore 94 C dX8_simulateStep_94 [(4, .long ((Int32.toInt64 ((σ.1 119 ((k + (24 - ((n / 24) * (24 / P)) % 24)) % 24)) + (σ.1 119 (24 + k)))) + (z_fd (((Int32.toInt64 (σ.1 105 28)) * (Int32.toInt64 (z_tv 0 (((k + (24 - ((n / 24) * (24 / P)) % 24)) % 24) % 24)))) + ((Int32.toInt64 (σ.1 105 29)) * (Int32.toInt64 (z_tv 1 (((k + (24 - ((n / 24) * (24 / P)) % 24)) % 24) % 24))))) 1000000))), (3, .int (nI ((k + (24 - ((n / 24) * (24 / P)) % 24)) % 24))), (0, .ref (z_ad G 105)), (1, .int (nI (n / 24))), (2, .int (nI k))] (by decide) rfl ?_
        refine z_aload_n 96 C dX8_simulateStep_96 2 rfl ?_
        refine z_getf 97 C 105 z_dX8 (⟨rfl, rfl⟩) 3 (by decide) q969 (.ref (z_ad G 107)) rfl dX8_simulateStep_97 ?_
        refine z_aload_n 100 C dX8_simulateStep_100 2 rfl ?_
        refine z_getf 101 C 105 z_dX8 (⟨rfl, rfl⟩) 2 (by decide) q968 (.int (nI (n + k))) rfl dX8_simulateStep_101 ?_
        refine z_lload 104 C dX8_simulateStep_104 0 rfl ?_
        refine z_sipush 106 C dX8_simulateStep_106 (nI 10000) rfl ?_
        refine z_callS 109 C (As := [.long ((Int32.toInt64 ((σ.1 119 ((k + (24 - ((n / 24) * (24 / P)) % 24)) % 24)) + (σ.1 119 (24 + k)))) + (z_fd (((Int32.toInt64 (σ.1 105 28)) * (Int32.toInt64 (z_tv 0 (((k + (24 - ((n / 24) * (24 / P)) % 24)) % 24) % 24)))) + ((Int32.toInt64 (σ.1 105 29)) * (Int32.toInt64 (z_tv 1 (((k + (24 - ((n / 24) * (24 / P)) % 24)) % 24) % 24))))) 1000000)), .int (nI 10000)]) (rest := [.int (nI (n + k)), .ref (z_ad G 107)]) (m_X8_kept (σ := z_ui (z_uI σ 107 (fb_put (σ.1 107) (fun kk => z_rg (σ.1 119) (z_shI (σ.1 119) 24) (σ.1 105 28) (σ.1 105 29) kk (n / 24 * (24 / P))) n k)) 105 2 (nI (n + k))) ((Int32.toInt64 ((σ.1 119 ((k + (24 - ((n / 24) * (24 / P)) % 24)) % 24)) + (σ.1 119 (24 + k)))) + (z_fd (((Int32.toInt64 (σ.1 105 28)) * (Int32.toInt64 (z_tv 0 (((k + (24 - ((n / 24) * (24 / P)) % 24)) % 24) % 24)))) + ((Int32.toInt64 (σ.1 105 29)) * (Int32.toInt64 (z_tv 1 (((k + (24 - ((n / 24) * (24 / P)) % 24)) % 24) % 24))))) 1000000)) (nI 10000)) k_X8_kept q1474 ⟨rfl, rfl⟩ ⟨Nat.le_of_ble_eq_true rfl, Nat.le_of_ble_eq_true rfl⟩ rfl (Nat.le_of_ble_eq_true rfl) ⟨Nat.le_of_ble_eq_true rfl, Nat.le_of_ble_eq_true rfl⟩ rfl dX8_simulateStep_109 (z_k1 ?_)
        refine z_cv (lv1 := [(4, .long ((Int32.toInt64 ((σ.1 119 ((k + (24 - ((n / 24) * (24 / P)) % 24)) % 24)) + (σ.1 119 (24 + k)))) + (z_fd (((Int32.toInt64 (σ.1 105 28)) * (Int32.toInt64 (z_tv 0 (((k + (24 - ((n / 24) * (24 / P)) % 24)) % 24) % 24)))) + ((Int32.toInt64 (σ.1 105 29)) * (Int32.toInt64 (z_tv 1 (((k + (24 - ((n / 24) * (24 / P)) % 24)) % 24) % 24))))) 1000000))), (3, .int (nI ((k + (24 - ((n / 24) * (24 / P)) % 24)) % 24))), (0, .ref (z_ad G 105)), (1, .int (nI (n / 24))), (2, .int (nI k))]) (st1 := [.int ((fun kk => z_rg (σ.1 119) (z_shI (σ.1 119) 24) (σ.1 105 28) (σ.1 105 29) kk (n / 24 * (24 / P))) k), .int (nI (n + k)), .ref (z_ad G 107)]) (σ1 := z_ui (z_uI σ 107 (fb_put (σ.1 107) (fun kk => z_rg (σ.1 119) (z_shI (σ.1 119) 24) (σ.1 105 28) (σ.1 105 29) kk (n / 24 * (24 / P))) n k)) 105 2 (nI (n + k))) rfl rfl rfl ?_
        refine z_iastN 112 C 107 (n := 288) (⟨rfl, rfl⟩) (n + k) rfl (by omega) (by decide) dX8_simulateStep_112 ?_
        refine z_aload_n 113 C dX8_simulateStep_113 2 rfl ?_
        refine z_dup 114 C dX8_simulateStep_114 rfl ?_
        refine z_getf 115 C 105 z_dX8 (⟨rfl, rfl⟩) 2 (by decide) q968 (.int (nI (n + k))) rfl dX8_simulateStep_115 ?_
        refine z_iconst 118 C dX8_simulateStep_118 (nI 1) rfl ?_
        refine z_iaddN 119 C (n + k) 1 rfl rfl dX8_simulateStep_119 ?_
        refine z_puti 120 C 105 z_dX8 (⟨rfl, rfl⟩) 2 (by decide) q968 rfl (rfl) rfl ⟨Nat.le_of_ble_eq_true rfl, rfl⟩ dX8_simulateStep_120 ?_
        refine z_iincN 123 C 4 k [(2, .int (nI (k + 1))), (4, .long ((Int32.toInt64 ((σ.1 119 ((k + (24 - ((n / 24) * (24 / P)) % 24)) % 24)) + (σ.1 119 (24 + k)))) + (z_fd (((Int32.toInt64 (σ.1 105 28)) * (Int32.toInt64 (z_tv 0 (((k + (24 - ((n / 24) * (24 / P)) % 24)) % 24) % 24)))) + ((Int32.toInt64 (σ.1 105 29)) * (Int32.toInt64 (z_tv 1 (((k + (24 - ((n / 24) * (24 / P)) % 24)) % 24) % 24))))) 1000000))), (3, .int (nI ((k + (24 - ((n / 24) * (24 / P)) % 24)) % 24))), (0, .ref (z_ad G 105)), (1, .int (nI (n / 24)))] rfl rfl (by decide) rfl dX8_simulateStep_123 ?_
        refine z_goto 126 C 30 dX8_simulateStep_126 (by decide) ?_
        refine z_sub [3, 4, 0] (lv1 := [(0, .ref (z_ad G 105)), (1, .int (nI (n / 24))), (2, .int (nI (k + 1)))]) rfl ?_
        refine z_cv (lv1 := [(0, .ref (z_ad G 105)), (1, .int (nI (n / 24))), (2, .int (nI (k + 1)))]) (st1 := []) (σ1 := z_ui (z_uI σ 107 (fb_put (σ.1 107) (fun kk => z_rg (σ.1 119) (z_shI (σ.1 119) 24) (σ.1 105 28) (σ.1 105 29) kk (n / 24 * (24 / P))) n (k + 1))) 105 2 (nI (n + (k + 1)))) rfl rfl (zm_simS σ n k (fun kk => z_rg (σ.1 119) (z_shI (σ.1 119) 24) (σ.1 105 28) (σ.1 105 29) kk (n / 24 * (24 / P)))) ?_
        exact ih_30 (k + 1) (by omega) (by omega)
    · skip
      have e14 : ¬ n % 24 = 0 := fun z => c14 (by rw [z]; rfl)
      refine z_ldc 17 C dX8_simulateStep_17 q1078 ?_
      refine z_iret 19 C dX8_simulateStep_19 ?_
      first | exact ⟨z_ci (by rw [if_pos c4]), by rw [if_pos c4]⟩ | exact ⟨z_ci (by rw [if_neg c4, if_pos e14]), by rw [if_neg c4, if_pos e14]⟩
theorem dX8_addRule_0 : decode cX8_addRule 0 = .ok (.iload_n 1, 1) := by decide +kernel
theorem dX8_addRule_1 : decode cX8_addRule 1 = .ok (.iload_n 2, 1) := by decide +kernel
theorem dX8_addRule_2 : decode cX8_addRule 2 = .ok (.invokestatic 164, 3) := by decide +kernel
theorem dX8_addRule_5 : decode cX8_addRule 5 = .ok (.ifCond .eq 23, 3) := by decide +kernel
theorem dX8_addRule_8 : decode cX8_addRule 8 = .ok (.iload_n 3, 1) := by decide +kernel
theorem dX8_addRule_9 : decode cX8_addRule 9 = .ok (.invokestatic 232, 3) := by decide +kernel
theorem dX8_addRule_12 : decode cX8_addRule 12 = .ok (.ifCond .ne 16, 3) := by decide +kernel
theorem dX8_addRule_15 : decode cX8_addRule 15 = .ok (.iload 4, 2) := by decide +kernel
theorem dX8_addRule_17 : decode cX8_addRule 17 = .ok (.i2l, 1) := by decide +kernel
theorem dX8_addRule_18 : decode cX8_addRule 18 = .ok (.lconst 0, 1) := by decide +kernel
theorem dX8_addRule_19 : decode cX8_addRule 19 = .ok (.ldc2_w 107, 3) := by decide +kernel
theorem dX8_addRule_22 : decode cX8_addRule 22 = .ok (.invokestatic 68, 3) := by decide +kernel
theorem dX8_addRule_25 : decode cX8_addRule 25 = .ok (.ifCond .ne 6, 3) := by decide +kernel
theorem dX8_addRule_28 : decode cX8_addRule 28 = .ok (.ldc 87, 2) := by decide +kernel
theorem dX8_addRule_30 : decode cX8_addRule 30 = .ok (.ireturn, 1) := by decide +kernel
theorem dX8_addRule_31 : decode cX8_addRule 31 = .ok (.aload_n 0, 1) := by decide +kernel
theorem dX8_addRule_32 : decode cX8_addRule 32 = .ok (.getfield 284, 3) := by decide +kernel
theorem dX8_addRule_35 : decode cX8_addRule 35 = .ok (.bipush 8, 2) := by decide +kernel
theorem dX8_addRule_37 : decode cX8_addRule 37 = .ok (.if_icmp .ne 7, 3) := by decide +kernel
theorem dX8_addRule_40 : decode cX8_addRule 40 = .ok (.ldc_w 266, 3) := by decide +kernel
theorem dX8_addRule_43 : decode cX8_addRule 43 = .ok (.ireturn, 1) := by decide +kernel
theorem dX8_addRule_44 : decode cX8_addRule 44 = .ok (.aload_n 0, 1) := by decide +kernel
theorem dX8_addRule_45 : decode cX8_addRule 45 = .ok (.getfield 50, 3) := by decide +kernel
theorem dX8_addRule_48 : decode cX8_addRule 48 = .ok (.iconst 4, 1) := by decide +kernel
theorem dX8_addRule_49 : decode cX8_addRule 49 = .ok (.aload_n 0, 1) := by decide +kernel
theorem dX8_addRule_50 : decode cX8_addRule 50 = .ok (.getfield 284, 3) := by decide +kernel
theorem dX8_addRule_53 : decode cX8_addRule 53 = .ok (.imul, 1) := by decide +kernel
theorem dX8_addRule_54 : decode cX8_addRule 54 = .ok (.iload_n 1, 1) := by decide +kernel
theorem dX8_addRule_55 : decode cX8_addRule 55 = .ok (.iastore, 1) := by decide +kernel
theorem dX8_addRule_56 : decode cX8_addRule 56 = .ok (.aload_n 0, 1) := by decide +kernel
theorem dX8_addRule_57 : decode cX8_addRule 57 = .ok (.getfield 50, 3) := by decide +kernel
theorem dX8_addRule_60 : decode cX8_addRule 60 = .ok (.iconst 4, 1) := by decide +kernel
theorem dX8_addRule_61 : decode cX8_addRule 61 = .ok (.aload_n 0, 1) := by decide +kernel
theorem dX8_addRule_62 : decode cX8_addRule 62 = .ok (.getfield 284, 3) := by decide +kernel
theorem dX8_addRule_65 : decode cX8_addRule 65 = .ok (.imul, 1) := by decide +kernel
theorem dX8_addRule_66 : decode cX8_addRule 66 = .ok (.iconst 1, 1) := by decide +kernel
theorem dX8_addRule_67 : decode cX8_addRule 67 = .ok (.iadd, 1) := by decide +kernel
theorem dX8_addRule_68 : decode cX8_addRule 68 = .ok (.iload_n 2, 1) := by decide +kernel
theorem dX8_addRule_69 : decode cX8_addRule 69 = .ok (.iastore, 1) := by decide +kernel
theorem dX8_addRule_70 : decode cX8_addRule 70 = .ok (.aload_n 0, 1) := by decide +kernel
theorem dX8_addRule_71 : decode cX8_addRule 71 = .ok (.getfield 50, 3) := by decide +kernel
theorem dX8_addRule_74 : decode cX8_addRule 74 = .ok (.iconst 4, 1) := by decide +kernel
theorem dX8_addRule_75 : decode cX8_addRule 75 = .ok (.aload_n 0, 1) := by decide +kernel
theorem dX8_addRule_76 : decode cX8_addRule 76 = .ok (.getfield 284, 3) := by decide +kernel
theorem dX8_addRule_79 : decode cX8_addRule 79 = .ok (.imul, 1) := by decide +kernel
theorem dX8_addRule_80 : decode cX8_addRule 80 = .ok (.iconst 2, 1) := by decide +kernel
theorem dX8_addRule_81 : decode cX8_addRule 81 = .ok (.iadd, 1) := by decide +kernel
theorem dX8_addRule_82 : decode cX8_addRule 82 = .ok (.iload_n 3, 1) := by decide +kernel
theorem dX8_addRule_83 : decode cX8_addRule 83 = .ok (.iastore, 1) := by decide +kernel
theorem dX8_addRule_84 : decode cX8_addRule 84 = .ok (.aload_n 0, 1) := by decide +kernel
theorem dX8_addRule_85 : decode cX8_addRule 85 = .ok (.getfield 50, 3) := by decide +kernel
theorem dX8_addRule_88 : decode cX8_addRule 88 = .ok (.iconst 4, 1) := by decide +kernel
theorem dX8_addRule_89 : decode cX8_addRule 89 = .ok (.aload_n 0, 1) := by decide +kernel
theorem dX8_addRule_90 : decode cX8_addRule 90 = .ok (.getfield 284, 3) := by decide +kernel
theorem dX8_addRule_93 : decode cX8_addRule 93 = .ok (.imul, 1) := by decide +kernel
theorem dX8_addRule_94 : decode cX8_addRule 94 = .ok (.iconst 3, 1) := by decide +kernel
theorem dX8_addRule_95 : decode cX8_addRule 95 = .ok (.iadd, 1) := by decide +kernel
theorem dX8_addRule_96 : decode cX8_addRule 96 = .ok (.iload 4, 2) := by decide +kernel
theorem dX8_addRule_98 : decode cX8_addRule 98 = .ok (.iastore, 1) := by decide +kernel
theorem dX8_addRule_99 : decode cX8_addRule 99 = .ok (.aload_n 0, 1) := by decide +kernel
theorem dX8_addRule_100 : decode cX8_addRule 100 = .ok (.dup, 1) := by decide +kernel
theorem dX8_addRule_101 : decode cX8_addRule 101 = .ok (.getfield 284, 3) := by decide +kernel
theorem dX8_addRule_104 : decode cX8_addRule 104 = .ok (.iconst 1, 1) := by decide +kernel
theorem dX8_addRule_105 : decode cX8_addRule 105 = .ok (.iadd, 1) := by decide +kernel
theorem dX8_addRule_106 : decode cX8_addRule 106 = .ok (.putfield 284, 3) := by decide +kernel
theorem dX8_addRule_109 : decode cX8_addRule 109 = .ok (.aload_n 0, 1) := by decide +kernel
theorem dX8_addRule_110 : decode cX8_addRule 110 = .ok (.getfield 284, 3) := by decide +kernel
theorem dX8_addRule_113 : decode cX8_addRule 113 = .ok (.iconst 1, 1) := by decide +kernel
theorem dX8_addRule_114 : decode cX8_addRule 114 = .ok (.isub, 1) := by decide +kernel
theorem dX8_addRule_115 : decode cX8_addRule 115 = .ok (.ireturn, 1) := by decide +kernel
set_option maxRecDepth 100000 in
set_option maxHeartbeats 4000000 in
theorem m_X8_addRule {l : Launch} {G : z_Gl} {σ : z_St} (P n u v w rc tl : Nat) (hM : z_mi σ P n u v w rc tl) (x : Int32) (y : Int32) (z : Int32) (f : Int32) : z_M l G yX8_addRule cX8_addRule 5 (some .int) (z_rm 2 45) [.ref (z_ad G 105), .int x, .int y, .int z, .int f] σ (z_p1 (.int (if x < 0 ∨ y < x ∨ nI 12 < y then (-1000001) else if z < nI 0 ∨ nI 3 < z then (-1000001) else if f < nI 0 ∨ nI 20000 < f then (-1000001) else if rc = 8 then (-1000004) else nI rc)) (if x < 0 ∨ y < x ∨ nI 12 < y then σ else if z < nI 0 ∨ nI 3 < z then σ else if f < nI 0 ∨ nI 20000 < f then σ else if rc = 8 then σ else z_ui (z_ui (z_ui (z_ui (z_ui σ 117 (4 * rc) x) 117 (4 * rc + 1) y) 117 (4 * rc + 2) z) 117 (4 * rc + 3) f) 105 20 (nI (rc + 1)))) := by
  refine z_M.of (by decide) (Nat.le_of_ble_eq_true rfl) (fun p e s m below meth c C => ?_)
  refine z_sub [0, 1, 2, 3, 4] (lv1 := [(0, .ref (z_ad G 105)), (1, .int x), (2, .int y), (3, .int z), (4, .int f)]) rfl ?_
  have hM0 := hM
  obtain ⟨⟨hP, hn, hu, hv, hw, hrc, htl⟩, hPs, hnP, huv, hw6, hrc8, htl2, hqt, hah⟩ := hM0
  have h0 : 0 < P := by omega
  have h12 : P ≤ 12 := by omega
  have h288 : n ≤ 288 := by omega
  refine z_iload_n 0 C dX8_addRule_0 1 rfl ?_
  refine z_iload_n 1 C dX8_addRule_1 2 rfl ?_
  refine z_callS 2 C (As := [.int x, .int y]) (rest := []) (m_X8_areLobes x y) k_X8_areLobes q1213 ⟨rfl, rfl⟩ ⟨Nat.le_of_ble_eq_true rfl, Nat.le_of_ble_eq_true rfl⟩ rfl (Nat.le_of_ble_eq_true rfl) ⟨Nat.le_of_ble_eq_true rfl, Nat.le_of_ble_eq_true rfl⟩ rfl dX8_addRule_2 (z_k1 ?_)
  refine z_if_eqb 5 C 28 dX8_addRule_5 (by decide) (fun c5 => ?_) (fun c5 => ?_)
  · skip
    replace c5 := Classical.not_not.mp c5
    refine z_ldc 28 C dX8_addRule_28 q1064 ?_
    refine z_iret 30 C dX8_addRule_30 ?_
    refine ⟨?_, ?_⟩
    · (rw [if_pos (c5)]) <;> (try rfl)
    · first | rfl | ((rw [if_pos (c5)]) <;> (try rfl))
  · skip
    refine z_iload_n 8 C dX8_addRule_8 3 rfl ?_
    refine z_callS 9 C (As := [.int z]) (rest := []) (m_X8_noMethod z) k_X8_noMethod q1262 ⟨rfl, rfl⟩ ⟨Nat.le_of_ble_eq_true rfl, Nat.le_of_ble_eq_true rfl⟩ rfl (Nat.le_of_ble_eq_true rfl) ⟨Nat.le_of_ble_eq_true rfl, Nat.le_of_ble_eq_true rfl⟩ rfl dX8_addRule_9 (z_k1 ?_)
    refine z_if_neb 12 C 28 dX8_addRule_12 (by decide) (fun c12 => ?_) (fun c12 => ?_)
    · skip
      refine z_ldc 28 C dX8_addRule_28 q1064 ?_
      refine z_iret 30 C dX8_addRule_30 ?_
      refine ⟨?_, ?_⟩
      · (rw [if_neg (c5), if_pos (c12)]) <;> (try rfl)
      · first | rfl | ((rw [if_neg (c5), if_pos (c12)]) <;> (try rfl))
    · skip
      refine z_iload 15 C dX8_addRule_15 4 rfl ?_
      refine z_i2l 17 C dX8_addRule_17 ?_
      refine z_lconst 18 C dX8_addRule_18 0 rfl ?_
      refine z_ldc2 19 C dX8_addRule_19 q1108 ?_
      refine z_callS 22 C (As := [.long (Int32.toInt64 f), .long 0, .long 20000]) (rest := []) (m_X8_in_i f (nI 0) (nI 20000) (by decide) (by decide)) k_X8_in q1071 ⟨rfl, rfl⟩ ⟨Nat.le_of_ble_eq_true rfl, Nat.le_of_ble_eq_true rfl⟩ rfl (Nat.le_of_ble_eq_true rfl) ⟨Nat.le_of_ble_eq_true rfl, Nat.le_of_ble_eq_true rfl⟩ rfl dX8_addRule_22 (z_k1 ?_)
      refine z_if_neb 25 C 31 dX8_addRule_25 (by decide) (fun c25 => ?_) (fun c25 => ?_)
      · skip
        refine z_aload_n 31 C dX8_addRule_31 0 rfl ?_
        refine z_getf 32 C 105 z_dX8 (⟨rfl, rfl⟩) 20 (by decide) q986 (.int (nI rc)) (z_ci hrc) dX8_addRule_32 ?_
        refine z_bipush 35 C dX8_addRule_35 (nI 8) rfl ?_
        refine z_icmp_neN 37 C rc 8 rfl rfl (by omega) (by omega) 44 dX8_addRule_37 (by decide) (fun c37 => ?_) (fun c37 => ?_)
        · skip
          refine z_aload_n 44 C dX8_addRule_44 0 rfl ?_
          refine z_getf 45 C 105 z_dX8 (⟨rfl, rfl⟩) 21 (by decide) q987 (.ref (z_ad G 117)) rfl dX8_addRule_45 ?_
          refine z_iconst 48 C dX8_addRule_48 (nI 4) rfl ?_
          refine z_aload_n 49 C dX8_addRule_49 0 rfl ?_
          refine z_getf 50 C 105 z_dX8 (⟨rfl, rfl⟩) 20 (by decide) q986 (.int (nI rc)) (z_ci hrc) dX8_addRule_50 ?_
          refine z_imulN 53 C 4 rc rfl rfl dX8_addRule_53 ?_
          refine z_iload_n 54 C dX8_addRule_54 1 rfl ?_
          refine z_iastN 55 C 117 (n := 32) (⟨rfl, rfl⟩) (4 * rc) rfl (by omega) (by decide) dX8_addRule_55 ?_
          refine z_aload_n 56 C dX8_addRule_56 0 rfl ?_
          refine z_getf 57 C 105 z_dX8 (⟨rfl, rfl⟩) 21 (by decide) q987 (.ref (z_ad G 117)) rfl dX8_addRule_57 ?_
          refine z_iconst 60 C dX8_addRule_60 (nI 4) rfl ?_
          refine z_aload_n 61 C dX8_addRule_61 0 rfl ?_
          refine z_getf 62 C 105 z_dX8 (⟨rfl, rfl⟩) 20 (by decide) q986 (.int (nI rc)) (z_ci hrc) dX8_addRule_62 ?_
          refine z_imulN 65 C 4 rc rfl rfl dX8_addRule_65 ?_
          refine z_iconst 66 C dX8_addRule_66 (nI 1) rfl ?_
          refine z_iaddN 67 C (4 * rc) 1 rfl rfl dX8_addRule_67 ?_
          refine z_iload_n 68 C dX8_addRule_68 2 rfl ?_
          refine z_iastN 69 C 117 (n := 32) (⟨rfl, rfl⟩) ((4 * rc) + 1) rfl (by omega) (by decide) dX8_addRule_69 ?_
          refine z_aload_n 70 C dX8_addRule_70 0 rfl ?_
          refine z_getf 71 C 105 z_dX8 (⟨rfl, rfl⟩) 21 (by decide) q987 (.ref (z_ad G 117)) rfl dX8_addRule_71 ?_
          refine z_iconst 74 C dX8_addRule_74 (nI 4) rfl ?_
          refine z_aload_n 75 C dX8_addRule_75 0 rfl ?_
          refine z_getf 76 C 105 z_dX8 (⟨rfl, rfl⟩) 20 (by decide) q986 (.int (nI rc)) (z_ci hrc) dX8_addRule_76 ?_
          refine z_imulN 79 C 4 rc rfl rfl dX8_addRule_79 ?_
          refine z_iconst 80 C dX8_addRule_80 (nI 2) rfl ?_
          refine z_iaddN 81 C (4 * rc) 2 rfl rfl dX8_addRule_81 ?_
          refine z_iload_n 82 C dX8_addRule_82 3 rfl ?_
          refine z_iastN 83 C 117 (n := 32) (⟨rfl, rfl⟩) ((4 * rc) + 2) rfl (by omega) (by decide) dX8_addRule_83 ?_
          refine z_aload_n 84 C dX8_addRule_84 0 rfl ?_
          refine z_getf 85 C 105 z_dX8 (⟨rfl, rfl⟩) 21 (by decide) q987 (.ref (z_ad G 117)) rfl dX8_addRule_85 ?_
          refine z_iconst 88 C dX8_addRule_88 (nI 4) rfl ?_
          refine z_aload_n 89 C dX8_addRule_89 0 rfl ?_
          refine z_getf 90 C 105 z_dX8 (⟨rfl, rfl⟩) 20 (by decide) q986 (.int (nI rc)) (z_ci hrc) dX8_addRule_90 ?_
          refine z_imulN 93 C 4 rc rfl rfl dX8_addRule_93 ?_
          refine z_iconst 94 C dX8_addRule_94 (nI 3) rfl ?_
          refine z_iaddN 95 C (4 * rc) 3 rfl rfl dX8_addRule_95 ?_
          refine z_iload 96 C dX8_addRule_96 4 rfl ?_
          refine z_iastN 98 C 117 (n := 32) (⟨rfl, rfl⟩) ((4 * rc) + 3) rfl (by omega) (by decide) dX8_addRule_98 ?_
          refine z_aload_n 99 C dX8_addRule_99 0 rfl ?_
          refine z_dup 100 C dX8_addRule_100 rfl ?_
          refine z_getf 101 C 105 z_dX8 (⟨rfl, rfl⟩) 20 (by decide) q986 (.int (nI rc)) (z_ci hrc) dX8_addRule_101 ?_
          refine z_iconst 104 C dX8_addRule_104 (nI 1) rfl ?_
          refine z_iaddN 105 C rc 1 rfl rfl dX8_addRule_105 ?_
          refine z_puti 106 C 105 z_dX8 (⟨rfl, rfl⟩) 20 (by decide) q986 rfl (rfl) rfl ⟨Nat.le_of_ble_eq_true rfl, rfl⟩ dX8_addRule_106 ?_
          refine z_aload_n 109 C dX8_addRule_109 0 rfl ?_
          refine z_getf 110 C 105 z_dX8 (⟨rfl, rfl⟩) 20 (by decide) q986 (.int (nI (rc + 1))) rfl dX8_addRule_110 ?_
          refine z_iconst 113 C dX8_addRule_113 (nI 1) rfl ?_
          refine z_isubN 114 C (rc + 1) 1 rfl rfl (by omega) dX8_addRule_114 ?_
          refine z_iret 115 C dX8_addRule_115 ?_
          refine ⟨?_, ?_⟩
          · (rw [if_neg (c5), if_neg (c12), if_neg (c25), if_neg (c37)]) <;> (try rfl)
          · first | rfl | ((rw [if_neg (c5), if_neg (c12), if_neg (c25), if_neg (c37)]) <;> (try rfl))
        · skip
          refine z_ldcw 40 C dX8_addRule_40 q1336 ?_
          refine z_iret 43 C dX8_addRule_43 ?_
          refine ⟨?_, ?_⟩
          · (rw [if_neg (c5), if_neg (c12), if_neg (c25), if_pos (c37)]) <;> (try rfl)
          · first | rfl | ((rw [if_neg (c5), if_neg (c12), if_neg (c25), if_pos (c37)]) <;> (try rfl))
      · skip
        replace c25 := Classical.not_not.mp c25
        refine z_ldc 28 C dX8_addRule_28 q1064 ?_
        refine z_iret 30 C dX8_addRule_30 ?_
        refine ⟨?_, ?_⟩
        · (rw [if_neg (c5), if_neg (c12), if_pos (c25)]) <;> (try rfl)
        · first | rfl | ((rw [if_neg (c5), if_neg (c12), if_pos (c25)]) <;> (try rfl))
theorem dX8_clearRules_0 : decode cX8_clearRules 0 = .ok (.aload_n 0, 1) := by decide +kernel
theorem dX8_clearRules_1 : decode cX8_clearRules 1 = .ok (.getfield 284, 3) := by decide +kernel
theorem dX8_clearRules_4 : decode cX8_clearRules 4 = .ok (.istore_n 1, 1) := by decide +kernel
theorem dX8_clearRules_5 : decode cX8_clearRules 5 = .ok (.aload_n 0, 1) := by decide +kernel
theorem dX8_clearRules_6 : decode cX8_clearRules 6 = .ok (.iconst 0, 1) := by decide +kernel
theorem dX8_clearRules_7 : decode cX8_clearRules 7 = .ok (.putfield 284, 3) := by decide +kernel
theorem dX8_clearRules_10 : decode cX8_clearRules 10 = .ok (.iload_n 1, 1) := by decide +kernel
theorem dX8_clearRules_11 : decode cX8_clearRules 11 = .ok (.ireturn, 1) := by decide +kernel
set_option maxRecDepth 100000 in
set_option maxHeartbeats 4000000 in
theorem m_X8_clearRules {l : Launch} {G : z_Gl} {σ : z_St} (P n u v w rc tl : Nat) (hM : z_mi σ P n u v w rc tl) : z_M l G yX8_clearRules cX8_clearRules 2 (some .int) (z_rm 0 0) [.ref (z_ad G 105)] σ (z_p1 (.int (nI rc)) (z_ui σ 105 20 (nI 0))) := by
  refine z_M.of (by decide) (Nat.le_of_ble_eq_true rfl) (fun p e s m below meth c C => ?_)
  refine z_sub [0] (lv1 := [(0, .ref (z_ad G 105))]) rfl ?_
  have hM0 := hM
  obtain ⟨⟨hP, hn, hu, hv, hw, hrc, htl⟩, hPs, hnP, huv, hw6, hrc8, htl2, hqt, hah⟩ := hM0
  have h0 : 0 < P := by omega
  have h12 : P ≤ 12 := by omega
  have h288 : n ≤ 288 := by omega
  refine z_aload_n 0 C dX8_clearRules_0 0 rfl ?_
  refine z_getf 1 C 105 z_dX8 (⟨rfl, rfl⟩) 20 (by decide) q986 (.int (nI rc)) (z_ci hrc) dX8_clearRules_1 ?_
  refine z_istore_n 4 C dX8_clearRules_4 [(1, .int (nI rc)), (0, .ref (z_ad G 105))] (by decide) rfl ?_
  refine z_aload_n 5 C dX8_clearRules_5 1 rfl ?_
  refine z_iconst 6 C dX8_clearRules_6 (nI 0) rfl ?_
  refine z_puti 7 C 105 z_dX8 (⟨rfl, rfl⟩) 20 (by decide) q986 rfl (rfl) rfl ⟨Nat.le_of_ble_eq_true rfl, rfl⟩ dX8_clearRules_7 ?_
  refine z_iload_n 10 C dX8_clearRules_10 0 rfl ?_
  refine z_iret 11 C dX8_clearRules_11 ?_
  refine ⟨?_, ?_⟩
  · (skip) <;> (try rfl)
  · first | rfl | ((skip) <;> (try rfl))
theorem dX8_type_0 : decode cX8_type 0 = .ok (.aload_n 0, 1) := by decide +kernel
theorem dX8_type_1 : decode cX8_type 1 = .ok (.getfield 290, 3) := by decide +kernel
theorem dX8_type_4 : decode cX8_type 4 = .ok (.sipush 200, 3) := by decide +kernel
theorem dX8_type_7 : decode cX8_type 7 = .ok (.if_icmp .ne 7, 3) := by decide +kernel
theorem dX8_type_10 : decode cX8_type 10 = .ok (.ldc_w 266, 3) := by decide +kernel
theorem dX8_type_13 : decode cX8_type 13 = .ok (.ireturn, 1) := by decide +kernel
theorem dX8_type_14 : decode cX8_type 14 = .ok (.aload_n 0, 1) := by decide +kernel
theorem dX8_type_15 : decode cX8_type 15 = .ok (.getfield 53, 3) := by decide +kernel
theorem dX8_type_18 : decode cX8_type 18 = .ok (.aload_n 0, 1) := by decide +kernel
theorem dX8_type_19 : decode cX8_type 19 = .ok (.getfield 290, 3) := by decide +kernel
theorem dX8_type_22 : decode cX8_type 22 = .ok (.iload_n 1, 1) := by decide +kernel
theorem dX8_type_23 : decode cX8_type 23 = .ok (.castore, 1) := by decide +kernel
theorem dX8_type_24 : decode cX8_type 24 = .ok (.aload_n 0, 1) := by decide +kernel
theorem dX8_type_25 : decode cX8_type 25 = .ok (.dup, 1) := by decide +kernel
theorem dX8_type_26 : decode cX8_type 26 = .ok (.getfield 290, 3) := by decide +kernel
theorem dX8_type_29 : decode cX8_type 29 = .ok (.iconst 1, 1) := by decide +kernel
theorem dX8_type_30 : decode cX8_type 30 = .ok (.iadd, 1) := by decide +kernel
theorem dX8_type_31 : decode cX8_type 31 = .ok (.putfield 290, 3) := by decide +kernel
theorem dX8_type_34 : decode cX8_type 34 = .ok (.aload_n 0, 1) := by decide +kernel
theorem dX8_type_35 : decode cX8_type 35 = .ok (.getfield 290, 3) := by decide +kernel
theorem dX8_type_38 : decode cX8_type 38 = .ok (.ireturn, 1) := by decide +kernel
set_option maxRecDepth 100000 in
set_option maxHeartbeats 4000000 in
theorem m_X8_type {l : Launch} {G : z_Gl} {σ : z_St} (P n u v w rc tl : Nat) (hM : z_mi σ P n u v w rc tl) (x : Int32) : z_M l G yX8_type cX8_type 2 (some .int) (z_rm 0 0) [.ref (z_ad G 105), .int x] σ (z_p1 (.int (if tl = 200 then (-1000004) else nI (tl + 1))) (if tl = 200 then σ else z_ui (z_ui σ 118 tl (vp_nar .char x)) 105 22 (nI (tl + 1)))) := by
  refine z_M.of (by decide) (Nat.le_of_ble_eq_true rfl) (fun p e s m below meth c C => ?_)
  refine z_sub [0, 1] (lv1 := [(0, .ref (z_ad G 105)), (1, .int x)]) rfl ?_
  have hM0 := hM
  obtain ⟨⟨hP, hn, hu, hv, hw, hrc, htl⟩, hPs, hnP, huv, hw6, hrc8, htl2, hqt, hah⟩ := hM0
  have h0 : 0 < P := by omega
  have h12 : P ≤ 12 := by omega
  have h288 : n ≤ 288 := by omega
  refine z_aload_n 0 C dX8_type_0 0 rfl ?_
  refine z_getf 1 C 105 z_dX8 (⟨rfl, rfl⟩) 22 (by decide) q988 (.int (nI tl)) (z_ci htl) dX8_type_1 ?_
  refine z_sipush 4 C dX8_type_4 (nI 200) rfl ?_
  refine z_icmp_neN 7 C tl 200 rfl rfl (by omega) (by omega) 14 dX8_type_7 (by decide) (fun c7 => ?_) (fun c7 => ?_)
  · skip
    refine z_aload_n 14 C dX8_type_14 0 rfl ?_
    refine z_getf 15 C 105 z_dX8 (⟨rfl, rfl⟩) 23 (by decide) q989 (.ref (z_ad G 118)) rfl dX8_type_15 ?_
    refine z_aload_n 18 C dX8_type_18 0 rfl ?_
    refine z_getf 19 C 105 z_dX8 (⟨rfl, rfl⟩) 22 (by decide) q988 (.int (nI tl)) (z_ci htl) dX8_type_19 ?_
    refine z_iload_n 22 C dX8_type_22 1 rfl ?_
    refine z_castN 23 C 118 (n := 200) (⟨rfl, rfl⟩) tl rfl (by omega) (by decide) dX8_type_23 ?_
    refine z_aload_n 24 C dX8_type_24 0 rfl ?_
    refine z_dup 25 C dX8_type_25 rfl ?_
    refine z_getf 26 C 105 z_dX8 (⟨rfl, rfl⟩) 22 (by decide) q988 (.int (nI tl)) (z_ci htl) dX8_type_26 ?_
    refine z_iconst 29 C dX8_type_29 (nI 1) rfl ?_
    refine z_iaddN 30 C tl 1 rfl rfl dX8_type_30 ?_
    refine z_puti 31 C 105 z_dX8 (⟨rfl, rfl⟩) 22 (by decide) q988 rfl (rfl) rfl ⟨Nat.le_of_ble_eq_true rfl, rfl⟩ dX8_type_31 ?_
    refine z_aload_n 34 C dX8_type_34 0 rfl ?_
    refine z_getf 35 C 105 z_dX8 (⟨rfl, rfl⟩) 22 (by decide) q988 (.int (nI (tl + 1))) rfl dX8_type_35 ?_
    refine z_iret 38 C dX8_type_38 ?_
    refine ⟨?_, ?_⟩
    · (rw [if_neg (c7)]) <;> (try rfl)
    · first | rfl | ((rw [if_neg (c7)]) <;> (try rfl))
  · skip
    refine z_ldcw 10 C dX8_type_10 q1336 ?_
    refine z_iret 13 C dX8_type_13 ?_
    refine ⟨?_, ?_⟩
    · (rw [if_pos (c7)]) <;> (try rfl)
    · first | rfl | ((rw [if_pos (c7)]) <;> (try rfl))
theorem dX8_clearText_0 : decode cX8_clearText 0 = .ok (.aload_n 0, 1) := by decide +kernel
theorem dX8_clearText_1 : decode cX8_clearText 1 = .ok (.getfield 290, 3) := by decide +kernel
theorem dX8_clearText_4 : decode cX8_clearText 4 = .ok (.istore_n 1, 1) := by decide +kernel
theorem dX8_clearText_5 : decode cX8_clearText 5 = .ok (.aload_n 0, 1) := by decide +kernel
theorem dX8_clearText_6 : decode cX8_clearText 6 = .ok (.iconst 0, 1) := by decide +kernel
theorem dX8_clearText_7 : decode cX8_clearText 7 = .ok (.putfield 290, 3) := by decide +kernel
theorem dX8_clearText_10 : decode cX8_clearText 10 = .ok (.iload_n 1, 1) := by decide +kernel
theorem dX8_clearText_11 : decode cX8_clearText 11 = .ok (.ireturn, 1) := by decide +kernel
set_option maxRecDepth 100000 in
set_option maxHeartbeats 4000000 in
theorem m_X8_clearText {l : Launch} {G : z_Gl} {σ : z_St} (P n u v w rc tl : Nat) (hM : z_mi σ P n u v w rc tl) : z_M l G yX8_clearText cX8_clearText 2 (some .int) (z_rm 0 0) [.ref (z_ad G 105)] σ (z_p1 (.int (nI tl)) (z_ui σ 105 22 (nI 0))) := by
  refine z_M.of (by decide) (Nat.le_of_ble_eq_true rfl) (fun p e s m below meth c C => ?_)
  refine z_sub [0] (lv1 := [(0, .ref (z_ad G 105))]) rfl ?_
  have hM0 := hM
  obtain ⟨⟨hP, hn, hu, hv, hw, hrc, htl⟩, hPs, hnP, huv, hw6, hrc8, htl2, hqt, hah⟩ := hM0
  have h0 : 0 < P := by omega
  have h12 : P ≤ 12 := by omega
  have h288 : n ≤ 288 := by omega
  refine z_aload_n 0 C dX8_clearText_0 0 rfl ?_
  refine z_getf 1 C 105 z_dX8 (⟨rfl, rfl⟩) 22 (by decide) q988 (.int (nI tl)) (z_ci htl) dX8_clearText_1 ?_
  refine z_istore_n 4 C dX8_clearText_4 [(1, .int (nI tl)), (0, .ref (z_ad G 105))] (by decide) rfl ?_
  refine z_aload_n 5 C dX8_clearText_5 1 rfl ?_
  refine z_iconst 6 C dX8_clearText_6 (nI 0) rfl ?_
  refine z_puti 7 C 105 z_dX8 (⟨rfl, rfl⟩) 22 (by decide) q988 rfl (rfl) rfl ⟨Nat.le_of_ble_eq_true rfl, rfl⟩ dX8_clearText_7 ?_
  refine z_iload_n 10 C dX8_clearText_10 0 rfl ?_
  refine z_iret 11 C dX8_clearText_11 ?_
  refine ⟨?_, ?_⟩
  · (skip) <;> (try rfl)
  · first | rfl | ((skip) <;> (try rfl))
theorem dX8_ruleNow_0 : decode cX8_ruleNow 0 = .ok (.aload_n 0, 1) := by decide +kernel
theorem dX8_ruleNow_1 : decode cX8_ruleNow 1 = .ok (.aload_n 0, 1) := by decide +kernel
theorem dX8_ruleNow_2 : decode cX8_ruleNow 2 = .ok (.getfield 50, 3) := by decide +kernel
theorem dX8_ruleNow_5 : decode cX8_ruleNow 5 = .ok (.iconst 4, 1) := by decide +kernel
theorem dX8_ruleNow_6 : decode cX8_ruleNow 6 = .ok (.iload_n 1, 1) := by decide +kernel
theorem dX8_ruleNow_7 : decode cX8_ruleNow 7 = .ok (.imul, 1) := by decide +kernel
theorem dX8_ruleNow_8 : decode cX8_ruleNow 8 = .ok (.iaload, 1) := by decide +kernel
theorem dX8_ruleNow_9 : decode cX8_ruleNow 9 = .ok (.aload_n 0, 1) := by decide +kernel
theorem dX8_ruleNow_10 : decode cX8_ruleNow 10 = .ok (.getfield 50, 3) := by decide +kernel
theorem dX8_ruleNow_13 : decode cX8_ruleNow 13 = .ok (.iconst 4, 1) := by decide +kernel
theorem dX8_ruleNow_14 : decode cX8_ruleNow 14 = .ok (.iload_n 1, 1) := by decide +kernel
theorem dX8_ruleNow_15 : decode cX8_ruleNow 15 = .ok (.imul, 1) := by decide +kernel
theorem dX8_ruleNow_16 : decode cX8_ruleNow 16 = .ok (.iconst 1, 1) := by decide +kernel
theorem dX8_ruleNow_17 : decode cX8_ruleNow 17 = .ok (.iadd, 1) := by decide +kernel
theorem dX8_ruleNow_18 : decode cX8_ruleNow 18 = .ok (.iaload, 1) := by decide +kernel
theorem dX8_ruleNow_19 : decode cX8_ruleNow 19 = .ok (.invokevirtual 168, 3) := by decide +kernel
theorem dX8_ruleNow_22 : decode cX8_ruleNow 22 = .ok (.aload_n 0, 1) := by decide +kernel
theorem dX8_ruleNow_23 : decode cX8_ruleNow 23 = .ok (.aload_n 0, 1) := by decide +kernel
theorem dX8_ruleNow_24 : decode cX8_ruleNow 24 = .ok (.getfield 26, 3) := by decide +kernel
theorem dX8_ruleNow_27 : decode cX8_ruleNow 27 = .ok (.aload_n 0, 1) := by decide +kernel
theorem dX8_ruleNow_28 : decode cX8_ruleNow 28 = .ok (.getfield 50, 3) := by decide +kernel
theorem dX8_ruleNow_31 : decode cX8_ruleNow 31 = .ok (.iconst 4, 1) := by decide +kernel
theorem dX8_ruleNow_32 : decode cX8_ruleNow 32 = .ok (.iload_n 1, 1) := by decide +kernel
theorem dX8_ruleNow_33 : decode cX8_ruleNow 33 = .ok (.imul, 1) := by decide +kernel
theorem dX8_ruleNow_34 : decode cX8_ruleNow 34 = .ok (.iconst 2, 1) := by decide +kernel
theorem dX8_ruleNow_35 : decode cX8_ruleNow 35 = .ok (.iadd, 1) := by decide +kernel
theorem dX8_ruleNow_36 : decode cX8_ruleNow 36 = .ok (.iaload, 1) := by decide +kernel
theorem dX8_ruleNow_37 : decode cX8_ruleNow 37 = .ok (.invokevirtual 241, 3) := by decide +kernel
theorem dX8_ruleNow_40 : decode cX8_ruleNow 40 = .ok (.lreturn, 1) := by decide +kernel
set_option maxRecDepth 100000 in
set_option maxHeartbeats 4000000 in
theorem m_X8_ruleNow {l : Launch} {G : z_Gl} {σ : z_St} (P n u v w rc tl : Nat) (hM : z_mi σ P n u v w rc tl) (cx cy mo le : Int64) (as_ of_ : Nat → Int64) (i : Nat) (hi : i < rc) (hru : zm_ru σ rc) (hkb : z_kb (σ.2 108)) : z_M l G yX8_ruleNow cX8_ruleNow 2 (some .long) (z_rm 8 200) [.ref (z_ad G 105), .int (nI i)] (z_mU σ cx cy mo le as_ of_) (fun v_ σ1 => v_ = some (.long (z_rv (zm_rr (σ.1 117) 0) (zm_rr (σ.1 117) 1) (zm_rr (σ.1 117) 2) (σ.2 108) i)) ∧ ∃ q1 q2 q3 q4 oo, σ1 = z_mU σ q1 q2 q3 q4 oo of_) := by
  refine z_M.of (by decide) (Nat.le_of_ble_eq_true rfl) (fun p e s m below meth c C => ?_)
  refine z_sub [0, 1] (lv1 := [(0, .ref (z_ad G 105)), (1, .int (nI i))]) rfl ?_
  have hM0 := hM
  obtain ⟨⟨hP, hn, hu, hv, hw, hrc, htl⟩, hPs, hnP, huv, hw6, hrc8, htl2, hqt, hah⟩ := hM0
  have h0 : 0 < P := by omega
  have h12 : P ≤ 12 := by omega
  have h288 : n ≤ 288 := by omega
  obtain ⟨a, b, mm, hab, hb12, hmm, ha, hbb, hm4⟩ := hru i hi
  refine z_aload_n 0 C dX8_ruleNow_0 0 rfl ?_
  refine z_aload_n 1 C dX8_ruleNow_1 0 rfl ?_
  refine z_getf 2 C 105 z_dX8 (⟨rfl, rfl⟩) 21 (by decide) q987 (.ref (z_ad G 117)) rfl dX8_ruleNow_2 ?_
  refine z_iconst 5 C dX8_ruleNow_5 (nI 4) rfl ?_
  refine z_iload_n 6 C dX8_ruleNow_6 1 rfl ?_
  refine z_imulN 7 C 4 i rfl rfl dX8_ruleNow_7 ?_
  refine z_ialdN 8 C 117 (n := 32) (⟨rfl, rfl⟩) (4 * i) rfl (by omega) (by decide) dX8_ruleNow_8 ?_
  refine z_cv (st1 := [.int (σ.1 117 (4 * i)), .ref (z_ad G 105)]) rfl rfl rfl ?_
  refine z_cv (lv1 := [(0, .ref (z_ad G 105)), (1, .int (nI i))]) (st1 := [.int (nI a), .ref (z_ad G 105)]) (σ1 := z_mU σ cx cy mo le as_ of_) rfl (by rw [← ha]; rfl) rfl ?_
  refine z_aload_n 9 C dX8_ruleNow_9 0 rfl ?_
  refine z_getf 10 C 105 z_dX8 (⟨rfl, rfl⟩) 21 (by decide) q987 (.ref (z_ad G 117)) rfl dX8_ruleNow_10 ?_
  refine z_iconst 13 C dX8_ruleNow_13 (nI 4) rfl ?_
  refine z_iload_n 14 C dX8_ruleNow_14 1 rfl ?_
  refine z_imulN 15 C 4 i rfl rfl dX8_ruleNow_15 ?_
  refine z_iconst 16 C dX8_ruleNow_16 (nI 1) rfl ?_
  refine z_iaddN 17 C (4 * i) 1 rfl rfl dX8_ruleNow_17 ?_
  refine z_ialdN 18 C 117 (n := 32) (⟨rfl, rfl⟩) ((4 * i) + 1) rfl (by omega) (by decide) dX8_ruleNow_18 ?_
  refine z_cv (st1 := [.int (σ.1 117 ((4 * i) + 1)), .int (nI a), .ref (z_ad G 105)]) rfl rfl rfl ?_
  refine z_cv (lv1 := [(0, .ref (z_ad G 105)), (1, .int (nI i))]) (st1 := [.int (nI b), .int (nI a), .ref (z_ad G 105)]) (σ1 := z_mU σ cx cy mo le as_ of_) rfl (by rw [← hbb]; rfl) rfl ?_
  refine z_callV 19 C 105 (⟨rfl, rfl⟩) rfl (As := [.int (nI a), .int (nI b)]) (rest := []) (m_X8_keeps (σ := z_mU σ cx cy mo le as_ of_) P n u v w rc tl hM.mU a b (by omega) (by omega)) k_X8_keeps q1216 ⟨rfl, rfl⟩ ⟨Nat.le_of_ble_eq_true rfl, Nat.le_of_ble_eq_true rfl⟩ rfl (Nat.le_of_ble_eq_true rfl) ⟨Nat.le_of_ble_eq_true rfl, Nat.le_of_ble_eq_true rfl⟩ rfl dX8_ruleNow_19 (z_k0 ?_)
  refine z_cv (σ1 := z_mU σ cx cy mo le (z_fil (z_kl (σ.2 108) a (b + 1 - a)) as_ 24) of_) rfl rfl (by exact z_mU_9) ?_
  refine z_aload_n 22 C dX8_ruleNow_22 0 rfl ?_
  refine z_aload_n 23 C dX8_ruleNow_23 0 rfl ?_
  refine z_getf 24 C 105 z_dX8 (⟨rfl, rfl⟩) 5 (by decide) q971 (.ref (z_ad G 109)) rfl dX8_ruleNow_24 ?_
  refine z_aload_n 27 C dX8_ruleNow_27 0 rfl ?_
  refine z_getf 28 C 105 z_dX8 (⟨rfl, rfl⟩) 21 (by decide) q987 (.ref (z_ad G 117)) rfl dX8_ruleNow_28 ?_
  refine z_iconst 31 C dX8_ruleNow_31 (nI 4) rfl ?_
  refine z_iload_n 32 C dX8_ruleNow_32 1 rfl ?_
  refine z_imulN 33 C 4 i rfl rfl dX8_ruleNow_33 ?_
  refine z_iconst 34 C dX8_ruleNow_34 (nI 2) rfl ?_
  refine z_iaddN 35 C (4 * i) 2 rfl rfl dX8_ruleNow_35 ?_
  refine z_ialdN 36 C 117 (n := 32) (⟨rfl, rfl⟩) ((4 * i) + 2) rfl (by omega) (by decide) dX8_ruleNow_36 ?_
  refine z_cv (st1 := [.int (σ.1 117 ((4 * i) + 2)), .ref (z_ad G 109), .ref (z_ad G 105)]) rfl rfl rfl ?_
  refine z_cv (lv1 := [(0, .ref (z_ad G 105)), (1, .int (nI i))]) (st1 := [.int (nI mm), .ref (z_ad G 109), .ref (z_ad G 105)]) (σ1 := z_mU σ cx cy mo le (z_fil (z_kl (σ.2 108) a (b + 1 - a)) as_ 24) of_) rfl (by rw [← hm4]; rfl) rfl ?_
  refine z_callV 37 C 105 (⟨rfl, rfl⟩) rfl (As := [.ref (z_ad G 109), .int (nI mm)]) (rest := []) (@m_X8_roundnessOf _ _ σ P n u v w rc tl hM cx cy mo le (z_fil (z_kl (σ.2 108) a (b + 1 - a)) as_ 24) of_ 109 mm (by omega) (z_fil (z_kl (σ.2 108) a (b + 1 - a)) as_ 24) (zs_hb_ag z_eq24_fil (hkb a b hab hb12)) (⟨rfl, rfl⟩) (fun _ _ _ _ => rfl)) k_X8_roundnessOf q1299 ⟨rfl, rfl⟩ ⟨Nat.le_of_ble_eq_true rfl, Nat.le_of_ble_eq_true rfl⟩ rfl (Nat.le_of_ble_eq_true rfl) ⟨Nat.le_of_ble_eq_true rfl, Nat.le_of_ble_eq_true rfl⟩ rfl dX8_ruleNow_37 (fun v37 σ37 hv37 => ?_)
  rcases hv37 with ⟨rfl, q1_37, q2_37, q3_37, q4_37, rfl⟩
  · skip
    refine z_cv (st1 := [.long (z_tp (z_fil (z_kl (σ.2 108) a (b + 1 - a)) as_ 24) mm - z_bt (z_fil (z_kl (σ.2 108) a (b + 1 - a)) as_ 24) mm)]) rfl rfl rfl ?_
    refine z_lret 40 C dX8_ruleNow_40 ?_
    refine ⟨z_cl ?_, _, _, _, _, _, rfl⟩
    rw [z_rv_e ha hbb hm4 hab hb12 hmm, z_tp_ag z_eq24_fil, z_bt_ag z_eq24_fil]
theorem dX8_ruleValue_0 : decode cX8_ruleValue 0 = .ok (.iload_n 1, 1) := by decide +kernel
theorem dX8_ruleValue_1 : decode cX8_ruleValue 1 = .ok (.i2l, 1) := by decide +kernel
theorem dX8_ruleValue_2 : decode cX8_ruleValue 2 = .ok (.lconst 0, 1) := by decide +kernel
theorem dX8_ruleValue_3 : decode cX8_ruleValue 3 = .ok (.aload_n 0, 1) := by decide +kernel
theorem dX8_ruleValue_4 : decode cX8_ruleValue 4 = .ok (.getfield 284, 3) := by decide +kernel
theorem dX8_ruleValue_7 : decode cX8_ruleValue 7 = .ok (.i2l, 1) := by decide +kernel
theorem dX8_ruleValue_8 : decode cX8_ruleValue 8 = .ok (.lconst 1, 1) := by decide +kernel
theorem dX8_ruleValue_9 : decode cX8_ruleValue 9 = .ok (.lsub, 1) := by decide +kernel
theorem dX8_ruleValue_10 : decode cX8_ruleValue 10 = .ok (.invokestatic 68, 3) := by decide +kernel
theorem dX8_ruleValue_13 : decode cX8_ruleValue 13 = .ok (.ifCond .ne 9, 3) := by decide +kernel
theorem dX8_ruleValue_16 : decode cX8_ruleValue 16 = .ok (.invokestatic 127, 3) := by decide +kernel
theorem dX8_ruleValue_19 : decode cX8_ruleValue 19 = .ok (.goto 8, 3) := by decide +kernel
theorem dX8_ruleValue_22 : decode cX8_ruleValue 22 = .ok (.aload_n 0, 1) := by decide +kernel
theorem dX8_ruleValue_23 : decode cX8_ruleValue 23 = .ok (.iload_n 1, 1) := by decide +kernel
theorem dX8_ruleValue_24 : decode cX8_ruleValue 24 = .ok (.invokevirtual 287, 3) := by decide +kernel
theorem dX8_ruleValue_27 : decode cX8_ruleValue 27 = .ok (.lreturn, 1) := by decide +kernel
set_option maxRecDepth 100000 in
set_option maxHeartbeats 4000000 in
theorem m_X8_ruleValue {l : Launch} {G : z_Gl} {σ : z_St} (P n u v w rc tl : Nat) (hM : z_mi σ P n u v w rc tl) (cx cy mo le : Int64) (as_ of_ : Nat → Int64) (x : Int32) (hru : zm_ru σ rc) (hkb : z_kb (σ.2 108)) : z_M l G yX8_ruleValue cX8_ruleValue 2 (some .long) (z_rm 9 221) [.ref (z_ad G 105), .int x] (z_mU σ cx cy mo le as_ of_) (fun v_ σ1 => v_ = some (.long (if x < nI 0 ∨ nI rc - nI 1 < x then (-9223372036854775808) else z_rv (zm_rr (σ.1 117) 0) (zm_rr (σ.1 117) 1) (zm_rr (σ.1 117) 2) (σ.2 108) (z_n x))) ∧ ∃ q1 q2 q3 q4 oo, σ1 = z_mU σ q1 q2 q3 q4 oo of_) := by
  refine z_M.of (by decide) (Nat.le_of_ble_eq_true rfl) (fun p e s m below meth c C => ?_)
  refine z_sub [0, 1] (lv1 := [(0, .ref (z_ad G 105)), (1, .int x)]) rfl ?_
  have hM0 := hM
  obtain ⟨⟨hP, hn, hu, hv, hw, hrc, htl⟩, hPs, hnP, huv, hw6, hrc8, htl2, hqt, hah⟩ := hM0
  have h0 : 0 < P := by omega
  have h12 : P ≤ 12 := by omega
  have h288 : n ≤ 288 := by omega
  refine z_iload_n 0 C dX8_ruleValue_0 1 rfl ?_
  refine z_i2l 1 C dX8_ruleValue_1 ?_
  refine z_lconst 2 C dX8_ruleValue_2 0 rfl ?_
  refine z_aload_n 3 C dX8_ruleValue_3 0 rfl ?_
  refine z_getf 4 C 105 z_dX8 (⟨rfl, rfl⟩) 20 (by decide) q986 (.int (nI rc)) (z_ci hrc) dX8_ruleValue_4 ?_
  refine z_i2l 7 C dX8_ruleValue_7 ?_
  refine z_lconst 8 C dX8_ruleValue_8 1 rfl ?_
  refine z_lsub 9 C dX8_ruleValue_9 ?_
  refine z_callS 10 C (As := [.long (Int32.toInt64 x), .long 0, .long ((Int32.toInt64 (nI rc)) - 1)]) (rest := []) (m_X8_in_i (σ := z_mU σ cx cy mo le as_ of_) x (nI 0) (nI rc - nI 1) (by decide) (z_sb1 (by omega))) k_X8_in q1071 ⟨rfl, rfl⟩ ⟨Nat.le_of_ble_eq_true rfl, Nat.le_of_ble_eq_true rfl⟩ rfl (Nat.le_of_ble_eq_true rfl) ⟨Nat.le_of_ble_eq_true rfl, Nat.le_of_ble_eq_true rfl⟩ rfl dX8_ruleValue_10 (z_k1 ?_)
  refine z_if_neb 13 C 22 dX8_ruleValue_13 (by decide) (fun c13 => ?_) (fun c13 => ?_)
  · skip
    obtain ⟨a, ha, rfl⟩ := z_inw (by omega) c13
    refine z_aload_n 22 C dX8_ruleValue_22 0 rfl ?_
    refine z_iload_n 23 C dX8_ruleValue_23 1 rfl ?_
    refine z_callV 24 C 105 (⟨rfl, rfl⟩) rfl (As := [.int (nI a)]) (rest := []) (@m_X8_ruleNow _ _ σ P n u v w rc tl hM cx cy mo le as_ of_ a (by omega) hru hkb) k_X8_ruleNow q1405 ⟨rfl, rfl⟩ ⟨Nat.le_of_ble_eq_true rfl, Nat.le_of_ble_eq_true rfl⟩ rfl (Nat.le_of_ble_eq_true rfl) ⟨Nat.le_of_ble_eq_true rfl, Nat.le_of_ble_eq_true rfl⟩ rfl dX8_ruleValue_24 (fun v24 σ24 hv24 => ?_)
    rcases hv24 with ⟨rfl, q1_24, q2_24, q3_24, q4_24, oo_24, rfl⟩
    · skip
      refine z_cv (st1 := [.long (z_rv (zm_rr (σ.1 117) 0) (zm_rr (σ.1 117) 1) (zm_rr (σ.1 117) 2) (σ.2 108) a)]) rfl rfl rfl ?_
      refine z_lret 27 C dX8_ruleValue_27 ?_
      exact ⟨z_cl (by rw [if_neg c13, z_nk (k := a) (by omega)]), _, _, _, _, _, rfl⟩
  · skip
    replace c13 := Classical.not_not.mp c13
    refine z_callS 16 C (As := []) (rest := []) (m_X8_lost (σ := z_mU σ cx cy mo le as_ of_)) k_X8_lost q1123 ⟨rfl, rfl⟩ ⟨Nat.le_of_ble_eq_true rfl, Nat.le_of_ble_eq_true rfl⟩ rfl (Nat.le_of_ble_eq_true rfl) ⟨Nat.le_of_ble_eq_true rfl, Nat.le_of_ble_eq_true rfl⟩ rfl dX8_ruleValue_16 (z_k1 ?_)
    refine z_goto 19 C 27 dX8_ruleValue_19 (by decide) ?_
    refine z_lret 27 C dX8_ruleValue_27 ?_
    exact ⟨z_cl (by rw [if_pos c13]), _, _, _, _, _, rfl⟩
theorem dX8_violated_0 : decode cX8_violated 0 = .ok (.iconst 0, 1) := by decide +kernel
theorem dX8_violated_1 : decode cX8_violated 1 = .ok (.istore_n 1, 1) := by decide +kernel
theorem dX8_violated_2 : decode cX8_violated 2 = .ok (.iconst 0, 1) := by decide +kernel
theorem dX8_violated_3 : decode cX8_violated 3 = .ok (.istore_n 2, 1) := by decide +kernel
theorem dX8_violated_4 : decode cX8_violated 4 = .ok (.iload_n 2, 1) := by decide +kernel
theorem dX8_violated_5 : decode cX8_violated 5 = .ok (.aload_n 0, 1) := by decide +kernel
theorem dX8_violated_6 : decode cX8_violated 6 = .ok (.getfield 284, 3) := by decide +kernel
theorem dX8_violated_9 : decode cX8_violated 9 = .ok (.if_icmp .ge 43, 3) := by decide +kernel
theorem dX8_violated_12 : decode cX8_violated 12 = .ok (.iload_n 1, 1) := by decide +kernel
theorem dX8_violated_13 : decode cX8_violated 13 = .ok (.aload_n 0, 1) := by decide +kernel
theorem dX8_violated_14 : decode cX8_violated 14 = .ok (.iload_n 2, 1) := by decide +kernel
theorem dX8_violated_15 : decode cX8_violated 15 = .ok (.invokevirtual 287, 3) := by decide +kernel
theorem dX8_violated_18 : decode cX8_violated 18 = .ok (.ldc2_w 125, 3) := by decide +kernel
theorem dX8_violated_21 : decode cX8_violated 21 = .ok (.aload_n 0, 1) := by decide +kernel
theorem dX8_violated_22 : decode cX8_violated 22 = .ok (.getfield 50, 3) := by decide +kernel
theorem dX8_violated_25 : decode cX8_violated 25 = .ok (.iconst 4, 1) := by decide +kernel
theorem dX8_violated_26 : decode cX8_violated 26 = .ok (.iload_n 2, 1) := by decide +kernel
theorem dX8_violated_27 : decode cX8_violated 27 = .ok (.imul, 1) := by decide +kernel
theorem dX8_violated_28 : decode cX8_violated 28 = .ok (.iconst 3, 1) := by decide +kernel
theorem dX8_violated_29 : decode cX8_violated 29 = .ok (.iadd, 1) := by decide +kernel
theorem dX8_violated_30 : decode cX8_violated 30 = .ok (.iaload, 1) := by decide +kernel
theorem dX8_violated_31 : decode cX8_violated 31 = .ok (.i2l, 1) := by decide +kernel
theorem dX8_violated_32 : decode cX8_violated 32 = .ok (.lmul, 1) := by decide +kernel
theorem dX8_violated_33 : decode cX8_violated 33 = .ok (.lcmp, 1) := by decide +kernel
theorem dX8_violated_34 : decode cX8_violated 34 = .ok (.ifCond .le 9, 3) := by decide +kernel
theorem dX8_violated_37 : decode cX8_violated 37 = .ok (.iconst 1, 1) := by decide +kernel
theorem dX8_violated_38 : decode cX8_violated 38 = .ok (.iload_n 2, 1) := by decide +kernel
theorem dX8_violated_39 : decode cX8_violated 39 = .ok (.ishl, 1) := by decide +kernel
theorem dX8_violated_40 : decode cX8_violated 40 = .ok (.goto 4, 3) := by decide +kernel
theorem dX8_violated_43 : decode cX8_violated 43 = .ok (.iconst 0, 1) := by decide +kernel
theorem dX8_violated_44 : decode cX8_violated 44 = .ok (.ior, 1) := by decide +kernel
theorem dX8_violated_45 : decode cX8_violated 45 = .ok (.istore_n 1, 1) := by decide +kernel
theorem dX8_violated_46 : decode cX8_violated 46 = .ok (.iinc 2 1, 3) := by decide +kernel
theorem dX8_violated_49 : decode cX8_violated 49 = .ok (.goto (-45), 3) := by decide +kernel
theorem dX8_violated_52 : decode cX8_violated 52 = .ok (.iload_n 1, 1) := by decide +kernel
theorem dX8_violated_53 : decode cX8_violated 53 = .ok (.ireturn, 1) := by decide +kernel
set_option maxRecDepth 100000 in
set_option maxHeartbeats 4000000 in
theorem m_X8_violated {l : Launch} {G : z_Gl} {σ : z_St} (P n u v w rc tl : Nat) (hM : z_mi σ P n u v w rc tl) (cx cy mo le : Int64) (as_ of_ : Nat → Int64) (hru : zm_ru σ rc) (hkb : z_kb (σ.2 108)) : z_M l G yX8_violated cX8_violated 3 (some .int) (z_rm 9 221) [.ref (z_ad G 105)] (z_mU σ cx cy mo le as_ of_) (fun v_ σ1 => v_ = some (.int (z_vs (z_rv (zm_rr (σ.1 117) 0) (zm_rr (σ.1 117) 1) (zm_rr (σ.1 117) 2) (σ.2 108)) (zm_rr (σ.1 117) 3) rc)) ∧ ∃ q1 q2 q3 q4 oo, σ1 = z_mU σ q1 q2 q3 q4 oo of_) := by
  refine z_M.of (by decide) (Nat.le_of_ble_eq_true rfl) (fun p e s m below meth c C => ?_)
  refine z_sub [0] (lv1 := [(0, .ref (z_ad G 105))]) rfl ?_
  have hM0 := hM
  obtain ⟨⟨hP, hn, hu, hv, hw, hrc, htl⟩, hPs, hnP, huv, hw6, hrc8, htl2, hqt, hah⟩ := hM0
  have h0 : 0 < P := by omega
  have h12 : P ≤ 12 := by omega
  have h288 : n ≤ 288 := by omega
  refine z_iconst 0 C dX8_violated_0 (nI 0) rfl ?_
  refine z_istore_n 1 C dX8_violated_1 [(1, .int (nI 0)), (0, .ref (z_ad G 105))] (by decide) rfl ?_
  refine z_iconst 2 C dX8_violated_2 (nI 0) rfl ?_
  refine z_istore_n 3 C dX8_violated_3 [(2, .int (nI 0)), (1, .int (nI 0)), (0, .ref (z_ad G 105))] (by decide) rfl ?_
  refine z_sub [2, 1, 0] (lv1 := [(0, .ref (z_ad G 105)), (1, .int (nI 0)), (2, .int (nI 0))]) rfl ?_
  refine z_cv (lv1 := [(0, .ref (z_ad G 105)), (1, .int (z_vs (z_rv (zm_rr (σ.1 117) 0) (zm_rr (σ.1 117) 1) (zm_rr (σ.1 117) 2) (σ.2 108)) (zm_rr (σ.1 117) 3) 0)), (2, .int (nI 0))]) (st1 := []) (σ1 := z_mU σ cx cy mo le as_ of_) rfl rfl rfl ?_
  refine z_lp6 (fun (i : Nat) (xx : Int64) (yy : Int64) (md : Int64) (me : Int64) (aa : Nat → Int64) => i ≤ rc) (fun (i : Nat) (xx : Int64) (yy : Int64) (md : Int64) (me : Int64) (aa : Nat → Int64) => rc - i) (fun (i : Nat) (xx : Int64) (yy : Int64) (md : Int64) (me : Int64) (aa : Nat → Int64) => [(0, .ref (z_ad G 105)), (1, .int (z_vs (z_rv (zm_rr (σ.1 117) 0) (zm_rr (σ.1 117) 1) (zm_rr (σ.1 117) 2) (σ.2 108)) (zm_rr (σ.1 117) 3) i)), (2, .int (nI i))]) (fun (i : Nat) (xx : Int64) (yy : Int64) (md : Int64) (me : Int64) (aa : Nat → Int64) => z_mU σ xx yy md me aa of_) (fun i xx yy md me aa hi_4 ih_4 => ?_) 0 cx cy mo le as_ (by omega)
  try dsimp only
  refine z_iload_n 4 C dX8_violated_4 2 rfl ?_
  refine z_aload_n 5 C dX8_violated_5 0 rfl ?_
  refine z_getf 6 C 105 z_dX8 (⟨rfl, rfl⟩) 20 (by decide) q986 (.int (nI rc)) (z_ci hrc) dX8_violated_6 ?_
  refine z_icmp_geN 9 C i rc rfl rfl (by omega) (by omega) 52 dX8_violated_9 (by decide) (fun c9 => ?_) (fun c9 => ?_)
  · skip
    have ei : rc = i := by omega
    subst ei
    refine z_iload_n 52 C dX8_violated_52 1 rfl ?_
    refine z_iret 53 C dX8_violated_53 ?_
    exact ⟨rfl, _, _, _, _, _, rfl⟩
  · skip
    refine z_iload_n 12 C dX8_violated_12 1 rfl ?_
    refine z_aload_n 13 C dX8_violated_13 0 rfl ?_
    refine z_iload_n 14 C dX8_violated_14 2 rfl ?_
    refine z_callV 15 C 105 (⟨rfl, rfl⟩) rfl (As := [.int (nI i)]) (rest := [.int (z_vs (z_rv (zm_rr (σ.1 117) 0) (zm_rr (σ.1 117) 1) (zm_rr (σ.1 117) 2) (σ.2 108)) (zm_rr (σ.1 117) 3) i)]) (@m_X8_ruleNow _ _ σ P n u v w rc tl hM xx yy md me aa of_ i (by omega) hru hkb) k_X8_ruleNow q1405 ⟨rfl, rfl⟩ ⟨Nat.le_of_ble_eq_true rfl, Nat.le_of_ble_eq_true rfl⟩ rfl (Nat.le_of_ble_eq_true rfl) ⟨Nat.le_of_ble_eq_true rfl, Nat.le_of_ble_eq_true rfl⟩ rfl dX8_violated_15 (fun v15 σ15 hv15 => ?_)
    rcases hv15 with ⟨rfl, q1_15, q2_15, q3_15, q4_15, oo_15, rfl⟩
    · skip
      refine z_cv (st1 := [.long (z_rv (zm_rr (σ.1 117) 0) (zm_rr (σ.1 117) 1) (zm_rr (σ.1 117) 2) (σ.2 108) i), .int (z_vs (z_rv (zm_rr (σ.1 117) 0) (zm_rr (σ.1 117) 1) (zm_rr (σ.1 117) 2) (σ.2 108)) (zm_rr (σ.1 117) 3) i)]) rfl rfl rfl ?_
      refine z_ldc2 18 C dX8_violated_18 q1139 ?_
      refine z_aload_n 21 C dX8_violated_21 0 rfl ?_
      refine z_getf 22 C 105 z_dX8 (⟨rfl, rfl⟩) 21 (by decide) q987 (.ref (z_ad G 117)) rfl dX8_violated_22 ?_
      refine z_iconst 25 C dX8_violated_25 (nI 4) rfl ?_
      refine z_iload_n 26 C dX8_violated_26 2 rfl ?_
      refine z_imulN 27 C 4 i rfl rfl dX8_violated_27 ?_
      refine z_iconst 28 C dX8_violated_28 (nI 3) rfl ?_
      refine z_iaddN 29 C (4 * i) 3 rfl rfl dX8_violated_29 ?_
      refine z_ialdN 30 C 117 (n := 32) (⟨rfl, rfl⟩) ((4 * i) + 3) rfl (by omega) (by decide) dX8_violated_30 ?_
      refine z_cv (st1 := [.int (σ.1 117 ((4 * i) + 3)), .long 1000000, .long (z_rv (zm_rr (σ.1 117) 0) (zm_rr (σ.1 117) 1) (zm_rr (σ.1 117) 2) (σ.2 108) i), .int (z_vs (z_rv (zm_rr (σ.1 117) 0) (zm_rr (σ.1 117) 1) (zm_rr (σ.1 117) 2) (σ.2 108)) (zm_rr (σ.1 117) 3) i)]) rfl rfl rfl ?_
      refine z_i2l 31 C dX8_violated_31 ?_
      refine z_lmul 32 C dX8_violated_32 ?_
      refine z_lcmp_le 33 C 43 dX8_violated_33 dX8_violated_34 (by decide) (fun c33 => ?_) (fun c33 => ?_)
      · skip
        replace c33 : z_rv (zm_rr (σ.1 117) 0) (zm_rr (σ.1 117) 1) (zm_rr (σ.1 117) 2) (σ.2 108) i ≤ (zm_rr (σ.1 117) 3 i).toInt64 * 1000000 := by rw [Int64.mul_comm]; exact c33
        refine z_iconst 43 C dX8_violated_43 (nI 0) rfl ?_
        refine z_ior 44 C dX8_violated_44 ?_
        refine z_istore_n 45 C dX8_violated_45 [(1, .int ((z_vs (z_rv (zm_rr (σ.1 117) 0) (zm_rr (σ.1 117) 1) (zm_rr (σ.1 117) 2) (σ.2 108)) (zm_rr (σ.1 117) 3) i) ||| (nI 0))), (0, .ref (z_ad G 105)), (2, .int (nI i))] (by decide) rfl ?_
        refine z_iincN 46 C 2 i [(2, .int (nI (i + 1))), (1, .int ((z_vs (z_rv (zm_rr (σ.1 117) 0) (zm_rr (σ.1 117) 1) (zm_rr (σ.1 117) 2) (σ.2 108)) (zm_rr (σ.1 117) 3) i) ||| (nI 0))), (0, .ref (z_ad G 105))] rfl rfl (by decide) rfl dX8_violated_46 ?_
        refine z_goto 49 C 4 dX8_violated_49 (by decide) ?_
        refine z_sub [2, 1, 0] (lv1 := [(0, .ref (z_ad G 105)), (1, .int ((z_vs (z_rv (zm_rr (σ.1 117) 0) (zm_rr (σ.1 117) 1) (zm_rr (σ.1 117) 2) (σ.2 108)) (zm_rr (σ.1 117) 3) i) ||| (nI 0))), (2, .int (nI (i + 1)))]) rfl ?_
        refine z_cv (lv1 := [(0, .ref (z_ad G 105)), (1, .int (z_vs (z_rv (zm_rr (σ.1 117) 0) (zm_rr (σ.1 117) 1) (zm_rr (σ.1 117) 2) (σ.2 108)) (zm_rr (σ.1 117) 3) (i + 1))), (2, .int (nI (i + 1)))]) (st1 := []) (σ1 := z_mU σ q1_15 q2_15 q3_15 q4_15 oo_15 of_) (by first | rw [z_vs_1 c33] | rw [z_vs_0 c33, zm_or0]) rfl rfl ?_
        exact ih_4 (i + 1) q1_15 q2_15 q3_15 q4_15 oo_15 (by omega) (by omega)
      · skip
        replace c33 : ¬ z_rv (zm_rr (σ.1 117) 0) (zm_rr (σ.1 117) 1) (zm_rr (σ.1 117) 2) (σ.2 108) i ≤ (zm_rr (σ.1 117) 3 i).toInt64 * 1000000 := by rw [Int64.mul_comm]; exact c33
        refine z_iconst 37 C dX8_violated_37 (nI 1) rfl ?_
        refine z_iload_n 38 C dX8_violated_38 2 rfl ?_
        refine z_ishl 39 C dX8_violated_39 ?_
        refine z_goto 40 C 44 dX8_violated_40 (by decide) ?_
        refine z_ior 44 C dX8_violated_44 ?_
        refine z_istore_n 45 C dX8_violated_45 [(1, .int ((z_vs (z_rv (zm_rr (σ.1 117) 0) (zm_rr (σ.1 117) 1) (zm_rr (σ.1 117) 2) (σ.2 108)) (zm_rr (σ.1 117) 3) i) ||| ((nI 1) <<< ((nI i) &&& 31)))), (0, .ref (z_ad G 105)), (2, .int (nI i))] (by decide) rfl ?_
        refine z_iincN 46 C 2 i [(2, .int (nI (i + 1))), (1, .int ((z_vs (z_rv (zm_rr (σ.1 117) 0) (zm_rr (σ.1 117) 1) (zm_rr (σ.1 117) 2) (σ.2 108)) (zm_rr (σ.1 117) 3) i) ||| ((nI 1) <<< ((nI i) &&& 31)))), (0, .ref (z_ad G 105))] rfl rfl (by decide) rfl dX8_violated_46 ?_
        refine z_goto 49 C 4 dX8_violated_49 (by decide) ?_
        refine z_sub [2, 1, 0] (lv1 := [(0, .ref (z_ad G 105)), (1, .int ((z_vs (z_rv (zm_rr (σ.1 117) 0) (zm_rr (σ.1 117) 1) (zm_rr (σ.1 117) 2) (σ.2 108)) (zm_rr (σ.1 117) 3) i) ||| ((nI 1) <<< ((nI i) &&& 31)))), (2, .int (nI (i + 1)))]) rfl ?_
        refine z_cv (lv1 := [(0, .ref (z_ad G 105)), (1, .int (z_vs (z_rv (zm_rr (σ.1 117) 0) (zm_rr (σ.1 117) 1) (zm_rr (σ.1 117) 2) (σ.2 108)) (zm_rr (σ.1 117) 3) (i + 1))), (2, .int (nI (i + 1)))]) (st1 := []) (σ1 := z_mU σ q1_15 q2_15 q3_15 q4_15 oo_15 of_) (by first | rw [z_vs_1 c33] | rw [z_vs_0 c33, zm_or0]) rfl rfl ?_
        exact ih_4 (i + 1) q1_15 q2_15 q3_15 q4_15 oo_15 (by omega) (by omega)
