/-! THE REFERENCE: its numbers, its small methods -/
theorem z_bo_iff {P Q : Prop} [Decidable P] [Decidable Q] (h : P ↔ Q) : z_bo P = z_bo Q := by
  by_cases hp : P
  · rw [← z_bo_t hp, ← z_bo_t (h.mp hp)]
  · rw [← z_bo_f hp, ← z_bo_f (fun z => hp (h.mpr z))]
/-- what holds of the reference's cells -/
def z_mi (σ : z_St) (P n u v w rc tl : Nat) : Prop := (σ.1 105 1 = nI P ∧ σ.1 105 2 = nI n ∧ σ.1 105 8 = nI u ∧ σ.1 105 9 = nI v ∧ σ.1 105 17 = nI w ∧ σ.1 105 20 = nI rc ∧ σ.1 105 22 = nI tl) ∧ (P = 2 ∨ P = 3 ∨ P = 4 ∨ P = 6 ∨ P = 8 ∨ P = 12) ∧ n ≤ P * 24 ∧ u + v ≤ 20 ∧ w ≤ 6 ∧ rc ≤ 8 ∧ tl ≤ 200 ∧ (∀ k, k < 7 → σ.1 106 k = z_tv 0 k) ∧ ∀ k, k < 8 → σ.1 112 k = z_tv 2 k ∧ σ.1 113 k = z_tv 3 k
theorem z_q2 : ∀ a, a < 24 → a ≤ 12 → ¬ a ≤ 6 → -z_tv 0 (12 - a) = z_tv 0 a := by decide +kernel
theorem z_q3 : ∀ a, a < 24 → ¬ a ≤ 12 → 24 - a ≤ 6 → z_tv 0 (24 - a) = z_tv 0 a := by decide +kernel
theorem z_q4 : ∀ a, a < 24 → ¬ a ≤ 12 → ¬ 24 - a ≤ 6 → -z_tv 0 (12 - (24 - a)) = z_tv 0 a := by decide +kernel
theorem z_s18 : ∀ a, a < 24 → z_tv 0 ((a + 18) % 24) = z_tv 1 a := by decide +kernel
theorem z_s6 (i : Nat) : z_tv 0 ((i + (24 - 6 % 24)) % 24) = z_tv 1 (i % 24) := by
  rw [← z_s18 (i % 24) (Nat.mod_lt _ (by decide)), show (i + (24 - 6 % 24)) % 24 = (i % 24 + 18) % 24 by omega]
theorem z_sb1 {k : Nat} (h : k < 2 ^ 30) : (nI k - nI 1).toInt64 = (nI k).toInt64 - 1 := by
  have e1 : (nI 1).toInt = 1 := rfl
  rw [fa_eq64, Int32.toInt_toInt64, fb_subI (by rw [nI_toInt (by omega), e1]; omega) (by rw [nI_toInt (by omega), e1]; omega)]
  rw [fb_subL (by rw [Int32.toInt_toInt64, nI_toInt (by omega)]; show _ ≤ _ - (1 : Int); omega) (by rw [Int32.toInt_toInt64, nI_toInt (by omega)]; show _ - (1 : Int) < _; omega), Int32.toInt_toInt64]
  rfl
theorem z_mn1 {a b : Nat} (h : b ≤ a) : a = b ∨ ¬ a ≤ b := by omega
/-- a row from a place on -/
def z_sh (z : Nat → Int64) (f : Nat) : Nat → Int64 := fun k => z (f + k)
theorem z_sh0 (z : Nat → Int64) : z_sh z 0 = z := funext fun k => by unfold z_sh; rw [Nat.zero_add]
theorem dX8_in_0 : decode cX8_in 0 = .ok (.lload_n 0, 1) := by decide +kernel
theorem dX8_in_1 : decode cX8_in 1 = .ok (.lload_n 2, 1) := by decide +kernel
theorem dX8_in_2 : decode cX8_in 2 = .ok (.lcmp, 1) := by decide +kernel
theorem dX8_in_3 : decode cX8_in 3 = .ok (.ifCond .lt 14, 3) := by decide +kernel
theorem dX8_in_6 : decode cX8_in 6 = .ok (.lload_n 0, 1) := by decide +kernel
theorem dX8_in_7 : decode cX8_in 7 = .ok (.lload 4, 2) := by decide +kernel
theorem dX8_in_9 : decode cX8_in 9 = .ok (.lcmp, 1) := by decide +kernel
theorem dX8_in_10 : decode cX8_in 10 = .ok (.ifCond .gt 7, 3) := by decide +kernel
theorem dX8_in_13 : decode cX8_in 13 = .ok (.iconst 1, 1) := by decide +kernel
theorem dX8_in_14 : decode cX8_in 14 = .ok (.goto 4, 3) := by decide +kernel
theorem dX8_in_17 : decode cX8_in 17 = .ok (.iconst 0, 1) := by decide +kernel
theorem dX8_in_18 : decode cX8_in 18 = .ok (.ireturn, 1) := by decide +kernel
set_option maxRecDepth 100000 in
set_option maxHeartbeats 4000000 in
theorem m_X8_in {l : Launch} {G : z_Gl} {σ : z_St} (u lo hi : Int64) : z_M l G yX8_in cX8_in 6 (some .boolean) (z_rm 0 0) [.long u, .long lo, .long hi] σ (z_p1 (.int (z_bo (¬ (u < lo ∨ hi < u)))) σ) := by
  refine z_M.of (by decide) (Nat.le_of_ble_eq_true rfl) (fun p e s m below meth c C => ?_)
  refine z_sub [0, 1, 2] (lv1 := [(0, .long u), (2, .long lo), (4, .long hi)]) rfl ?_
  refine z_lload_n 0 C dX8_in_0 0 rfl ?_
  refine z_lload_n 1 C dX8_in_1 1 rfl ?_
  refine z_lcmp_lt 2 C 17 dX8_in_2 dX8_in_3 (by decide) (fun c2 => ?_) (fun c2 => ?_)
  · skip
    refine z_iconst 17 C dX8_in_17 (nI 0) rfl ?_
    refine z_zret 18 C (rfl) dX8_in_18 ?_
    first | exact ⟨z_ci (z_bo_t (fun z => z.elim c2 c9)), rfl⟩ | exact ⟨z_ci (z_bo_f (fun z => z (Or.inl c2))), rfl⟩ | exact ⟨z_ci (z_bo_f (fun z => z (Or.inr c9))), rfl⟩
  · skip
    refine z_lload_n 6 C dX8_in_6 0 rfl ?_
    refine z_lload 7 C dX8_in_7 2 rfl ?_
    refine z_lcmp_gt 9 C 17 dX8_in_9 dX8_in_10 (by decide) (fun c9 => ?_) (fun c9 => ?_)
    · skip
      refine z_iconst 17 C dX8_in_17 (nI 0) rfl ?_
      refine z_zret 18 C (rfl) dX8_in_18 ?_
      first | exact ⟨z_ci (z_bo_t (fun z => z.elim c2 c9)), rfl⟩ | exact ⟨z_ci (z_bo_f (fun z => z (Or.inl c2))), rfl⟩ | exact ⟨z_ci (z_bo_f (fun z => z (Or.inr c9))), rfl⟩
    · skip
      refine z_iconst 13 C dX8_in_13 (nI 1) rfl ?_
      refine z_goto 14 C 18 dX8_in_14 (by decide) ?_
      refine z_zret 18 C (rfl) dX8_in_18 ?_
      first | exact ⟨z_ci (z_bo_t (fun z => z.elim c2 c9)), rfl⟩ | exact ⟨z_ci (z_bo_f (fun z => z (Or.inl c2))), rfl⟩ | exact ⟨z_ci (z_bo_f (fun z => z (Or.inr c9))), rfl⟩
theorem m_X8_in_i {l : Launch} {G : z_Gl} {σ : z_St} (x lo hi : Int32) {L H : Int64} (hL : lo.toInt64 = L) (hH : hi.toInt64 = H) : z_M l G yX8_in cX8_in 6 (some .boolean) (z_rm 0 0) [.long x.toInt64, .long L, .long H] σ (z_p1 (.int (z_bo (¬ (x < lo ∨ hi < x)))) σ) := by
  subst hL
  subst hH
  have h := m_X8_in (l := l) (G := G) (σ := σ) x.toInt64 lo.toInt64 hi.toInt64
  rw [z_bo_iff (Q := ¬ (x < lo ∨ hi < x)) (by rw [fa_wide_lt, fa_wide_lt])] at h
  exact h
theorem dX8_lost_0 : decode cX8_lost 0 = .ok (.ldc2_w 64, 3) := by decide +kernel
theorem dX8_lost_3 : decode cX8_lost 3 = .ok (.lreturn, 1) := by decide +kernel
set_option maxRecDepth 100000 in
set_option maxHeartbeats 4000000 in
theorem m_X8_lost {l : Launch} {G : z_Gl} {σ : z_St}  : z_M l G yX8_lost cX8_lost 0 (some .long) (z_rm 0 0) [] σ (z_p1 (.long (-9223372036854775808)) σ) := by
  refine z_M.of (by decide) (Nat.le_of_ble_eq_true rfl) (fun p e s m below meth c C => ?_)
  refine z_sub [] (lv1 := []) rfl ?_
  refine z_ldc2 0 C dX8_lost_0 q1126 ?_
  refine z_lret 3 C dX8_lost_3 ?_
  exact ⟨rfl, rfl⟩
theorem dX8_down_0 : decode cX8_down 0 = .ok (.lload_n 0, 1) := by decide +kernel
theorem dX8_down_1 : decode cX8_down 1 = .ok (.lload_n 2, 1) := by decide +kernel
theorem dX8_down_2 : decode cX8_down 2 = .ok (.ldiv, 1) := by decide +kernel
theorem dX8_down_3 : decode cX8_down 3 = .ok (.lstore 4, 2) := by decide +kernel
theorem dX8_down_5 : decode cX8_down 5 = .ok (.lload 4, 2) := by decide +kernel
theorem dX8_down_7 : decode cX8_down 7 = .ok (.lload_n 2, 1) := by decide +kernel
theorem dX8_down_8 : decode cX8_down 8 = .ok (.lmul, 1) := by decide +kernel
theorem dX8_down_9 : decode cX8_down 9 = .ok (.lload_n 0, 1) := by decide +kernel
theorem dX8_down_10 : decode cX8_down 10 = .ok (.lcmp, 1) := by decide +kernel
theorem dX8_down_11 : decode cX8_down 11 = .ok (.ifCond .le 10, 3) := by decide +kernel
theorem dX8_down_14 : decode cX8_down 14 = .ok (.lload 4, 2) := by decide +kernel
theorem dX8_down_16 : decode cX8_down 16 = .ok (.lconst 1, 1) := by decide +kernel
theorem dX8_down_17 : decode cX8_down 17 = .ok (.lsub, 1) := by decide +kernel
theorem dX8_down_18 : decode cX8_down 18 = .ok (.goto 5, 3) := by decide +kernel
theorem dX8_down_21 : decode cX8_down 21 = .ok (.lload 4, 2) := by decide +kernel
theorem dX8_down_23 : decode cX8_down 23 = .ok (.lreturn, 1) := by decide +kernel
set_option maxRecDepth 100000 in
set_option maxHeartbeats 4000000 in
theorem m_X8_down {l : Launch} {G : z_Gl} {σ : z_St} (a b : Int64) (hb : 0 < b) : z_M l G yX8_down cX8_down 6 (some .long) (z_rm 0 0) [.long a, .long b] σ (z_p1 (.long (z_fd a b)) σ) := by
  refine z_M.of (by decide) (Nat.le_of_ble_eq_true rfl) (fun p e s m below meth c C => ?_)
  refine z_sub [0, 1] (lv1 := [(0, .long a), (2, .long b)]) rfl ?_
  refine z_lload_n 0 C dX8_down_0 0 rfl ?_
  refine z_lload_n 1 C dX8_down_1 1 rfl ?_
  refine z_ldiv 2 C dX8_down_2 (fun z => absurd hb (by rw [z]; decide)) ?_
  refine z_lstore 3 C dX8_down_3 [(4, .long (a / b)), (0, .long a), (2, .long b)] (by decide) rfl ?_
  refine z_lload 5 C dX8_down_5 0 rfl ?_
  refine z_lload_n 7 C dX8_down_7 2 rfl ?_
  refine z_lmul 8 C dX8_down_8 ?_
  refine z_lload_n 9 C dX8_down_9 1 rfl ?_
  refine z_lcmp_le 10 C 21 dX8_down_10 dX8_down_11 (by decide) (fun c10 => ?_) (fun c10 => ?_)
  · skip
    refine z_lload 21 C dX8_down_21 0 rfl ?_
    refine z_lret 23 C dX8_down_23 ?_
    first | exact ⟨z_cl (z_dn_1 hb (Int64.not_le.mp c10)), rfl⟩ | exact ⟨z_cl (z_dn_2 hb (Int64.not_lt.mpr c10)), rfl⟩
  · skip
    refine z_lload 14 C dX8_down_14 0 rfl ?_
    refine z_lconst 16 C dX8_down_16 1 rfl ?_
    refine z_lsub 17 C dX8_down_17 ?_
    refine z_goto 18 C 23 dX8_down_18 (by decide) ?_
    refine z_lret 23 C dX8_down_23 ?_
    first | exact ⟨z_cl (z_dn_1 hb (Int64.not_le.mp c10)), rfl⟩ | exact ⟨z_cl (z_dn_2 hb (Int64.not_lt.mpr c10)), rfl⟩
theorem dX8_size_0 : decode cX8_size 0 = .ok (.lload_n 0, 1) := by decide +kernel
theorem dX8_size_1 : decode cX8_size 1 = .ok (.lconst 0, 1) := by decide +kernel
theorem dX8_size_2 : decode cX8_size 2 = .ok (.lcmp, 1) := by decide +kernel
theorem dX8_size_3 : decode cX8_size 3 = .ok (.ifCond .ge 8, 3) := by decide +kernel
theorem dX8_size_6 : decode cX8_size 6 = .ok (.lload_n 0, 1) := by decide +kernel
theorem dX8_size_7 : decode cX8_size 7 = .ok (.lneg, 1) := by decide +kernel
theorem dX8_size_8 : decode cX8_size 8 = .ok (.goto 4, 3) := by decide +kernel
theorem dX8_size_11 : decode cX8_size 11 = .ok (.lload_n 0, 1) := by decide +kernel
theorem dX8_size_12 : decode cX8_size 12 = .ok (.lreturn, 1) := by decide +kernel
set_option maxRecDepth 100000 in
set_option maxHeartbeats 4000000 in
theorem m_X8_size {l : Launch} {G : z_Gl} {σ : z_St} (a : Int64) : z_M l G yX8_size cX8_size 2 (some .long) (z_rm 0 0) [.long a] σ (z_p1 (.long (z_ab a)) σ) := by
  refine z_M.of (by decide) (Nat.le_of_ble_eq_true rfl) (fun p e s m below meth c C => ?_)
  refine z_sub [0] (lv1 := [(0, .long a)]) rfl ?_
  refine z_lload_n 0 C dX8_size_0 0 rfl ?_
  refine z_lconst 1 C dX8_size_1 0 rfl ?_
  refine z_lcmp_ge 2 C 11 dX8_size_2 dX8_size_3 (by decide) (fun c2 => ?_) (fun c2 => ?_)
  · skip
    refine z_lload_n 11 C dX8_size_11 0 rfl ?_
    refine z_lret 12 C dX8_size_12 ?_
    first | exact ⟨z_cl (by unfold z_ab; rw [if_pos (Int64.not_le.mp c2)]), rfl⟩ | exact ⟨z_cl (by unfold z_ab; rw [if_neg (Int64.not_lt.mpr c2)]), rfl⟩
  · skip
    refine z_lload_n 6 C dX8_size_6 0 rfl ?_
    refine z_lneg 7 C dX8_size_7 ?_
    refine z_goto 8 C 12 dX8_size_8 (by decide) ?_
    refine z_lret 12 C dX8_size_12 ?_
    first | exact ⟨z_cl (by unfold z_ab; rw [if_pos (Int64.not_le.mp c2)]), rfl⟩ | exact ⟨z_cl (by unfold z_ab; rw [if_neg (Int64.not_lt.mpr c2)]), rfl⟩
theorem dX8_around_0 : decode cX8_around 0 = .ok (.iload_n 0, 1) := by decide +kernel
theorem dX8_around_1 : decode cX8_around 1 = .ok (.bipush 24, 2) := by decide +kernel
theorem dX8_around_3 : decode cX8_around 3 = .ok (.irem, 1) := by decide +kernel
theorem dX8_around_4 : decode cX8_around 4 = .ok (.istore_n 1, 1) := by decide +kernel
theorem dX8_around_5 : decode cX8_around 5 = .ok (.iload_n 1, 1) := by decide +kernel
theorem dX8_around_6 : decode cX8_around 6 = .ok (.ifCond .ge 10, 3) := by decide +kernel
theorem dX8_around_9 : decode cX8_around 9 = .ok (.iload_n 1, 1) := by decide +kernel
theorem dX8_around_10 : decode cX8_around 10 = .ok (.bipush 24, 2) := by decide +kernel
theorem dX8_around_12 : decode cX8_around 12 = .ok (.iadd, 1) := by decide +kernel
theorem dX8_around_13 : decode cX8_around 13 = .ok (.goto 4, 3) := by decide +kernel
theorem dX8_around_16 : decode cX8_around 16 = .ok (.iload_n 1, 1) := by decide +kernel
theorem dX8_around_17 : decode cX8_around 17 = .ok (.ireturn, 1) := by decide +kernel
set_option maxRecDepth 100000 in
set_option maxHeartbeats 4000000 in
theorem m_X8_around {l : Launch} {G : z_Gl} {σ : z_St} (x : Int32) : z_M l G yX8_around cX8_around 2 (some .int) (z_rm 0 0) [.int x] σ (z_p1 (.int (nI (z_pm x))) σ) := by
  refine z_M.of (by decide) (Nat.le_of_ble_eq_true rfl) (fun p e s m below meth c C => ?_)
  refine z_sub [0] (lv1 := [(0, .int x)]) rfl ?_
  refine z_iload_n 0 C dX8_around_0 0 rfl ?_
  refine z_bipush 1 C dX8_around_1 (nI 24) rfl ?_
  refine z_irem 3 C dX8_around_3 (by decide) ?_
  refine z_istore_n 4 C dX8_around_4 [(1, .int (x - x / (nI 24) * (nI 24))), (0, .int x)] (by decide) rfl ?_
  refine z_iload_n 5 C dX8_around_5 0 rfl ?_
  refine z_if_ge 6 C 16 dX8_around_6 (by decide) (fun c6 => ?_) (fun c6 => ?_)
  · skip
    refine z_iload_n 16 C dX8_around_16 0 rfl ?_
    refine z_iret 17 C dX8_around_17 ?_
    first | exact ⟨z_ci (z_ar_1 (Int32.not_le.mp c6)), rfl⟩ | exact ⟨z_ci (z_ar_2 (Int32.not_lt.mpr c6)), rfl⟩
  · skip
    refine z_iload_n 9 C dX8_around_9 0 rfl ?_
    refine z_bipush 10 C dX8_around_10 (nI 24) rfl ?_
    refine z_iadd 12 C dX8_around_12 ?_
    refine z_goto 13 C 17 dX8_around_13 (by decide) ?_
    refine z_iret 17 C dX8_around_17 ?_
    first | exact ⟨z_ci (z_ar_1 (Int32.not_le.mp c6)), rfl⟩ | exact ⟨z_ci (z_ar_2 (Int32.not_lt.mpr c6)), rfl⟩
theorem m_X8_around_n {l : Launch} {G : z_Gl} {σ : z_St} (n : Nat) (hn : n < 2 ^ 31) : z_M l G yX8_around cX8_around 2 (some .int) (z_rm 0 0) [.int (nI n)] σ (z_p1 (.int (nI (n % 24))) σ) := by
  have h := m_X8_around (l := l) (G := G) (σ := σ) (nI n)
  rw [z_pm_n hn] at h
  exact h
theorem m_X8_around_d {l : Launch} {G : z_Gl} {σ : z_St} (a b : Nat) (ha : a < 2 ^ 30) (hb : b < 2 ^ 30) : z_M l G yX8_around cX8_around 2 (some .int) (z_rm 0 0) [.int (nI a - nI b)] σ (z_p1 (.int (nI ((a + (24 - b % 24)) % 24))) σ) := by
  have h := m_X8_around (l := l) (G := G) (σ := σ) (nI a - nI b)
  rw [z_pm_s ha hb] at h
  exact h
theorem dX8_noPlace_0 : decode cX8_noPlace 0 = .ok (.iload_n 0, 1) := by decide +kernel
theorem dX8_noPlace_1 : decode cX8_noPlace 1 = .ok (.i2l, 1) := by decide +kernel
theorem dX8_noPlace_2 : decode cX8_noPlace 2 = .ok (.lconst 0, 1) := by decide +kernel
theorem dX8_noPlace_3 : decode cX8_noPlace 3 = .ok (.ldc2_w 66, 3) := by decide +kernel
theorem dX8_noPlace_6 : decode cX8_noPlace 6 = .ok (.invokestatic 68, 3) := by decide +kernel
theorem dX8_noPlace_9 : decode cX8_noPlace 9 = .ok (.ifCond .ne 7, 3) := by decide +kernel
theorem dX8_noPlace_12 : decode cX8_noPlace 12 = .ok (.iconst 1, 1) := by decide +kernel
theorem dX8_noPlace_13 : decode cX8_noPlace 13 = .ok (.goto 4, 3) := by decide +kernel
theorem dX8_noPlace_16 : decode cX8_noPlace 16 = .ok (.iconst 0, 1) := by decide +kernel
theorem dX8_noPlace_17 : decode cX8_noPlace 17 = .ok (.ireturn, 1) := by decide +kernel
set_option maxRecDepth 100000 in
set_option maxHeartbeats 4000000 in
theorem m_X8_noPlace {l : Launch} {G : z_Gl} {σ : z_St} (x : Int32) : z_M l G yX8_noPlace cX8_noPlace 1 (some .boolean) (z_rm 1 25) [.int x] σ (z_p1 (.int (z_bo (x < nI 0 ∨ nI 23 < x))) σ) := by
  refine z_M.of (by decide) (Nat.le_of_ble_eq_true rfl) (fun p e s m below meth c C => ?_)
  refine z_sub [0] (lv1 := [(0, .int x)]) rfl ?_
  refine z_iload_n 0 C dX8_noPlace_0 0 rfl ?_
  refine z_i2l 1 C dX8_noPlace_1 ?_
  refine z_lconst 2 C dX8_noPlace_2 0 rfl ?_
  refine z_ldc2 3 C dX8_noPlace_3 q1099 ?_
  refine z_callS 6 C (As := [.long (Int32.toInt64 x), .long 0, .long 23]) (rest := []) (m_X8_in_i x (nI 0) (nI 23) (by decide) (by decide)) k_X8_in q1071 ⟨rfl, rfl⟩ ⟨Nat.le_of_ble_eq_true rfl, Nat.le_of_ble_eq_true rfl⟩ rfl (Nat.le_of_ble_eq_true rfl) ⟨Nat.le_of_ble_eq_true rfl, Nat.le_of_ble_eq_true rfl⟩ rfl dX8_noPlace_6 (z_k1 ?_)
  refine z_if_neb 9 C 16 dX8_noPlace_9 (by decide) (fun c9 => ?_) (fun c9 => ?_)
  · skip
    refine z_iconst 16 C dX8_noPlace_16 (nI 0) rfl ?_
    refine z_zret 17 C (rfl) dX8_noPlace_17 ?_
    first | exact ⟨z_ci (z_bo_f c9), rfl⟩ | exact ⟨z_ci (z_bo_t c9), rfl⟩
  · skip
    replace c9 := Classical.not_not.mp c9
    refine z_iconst 12 C dX8_noPlace_12 (nI 1) rfl ?_
    refine z_goto 13 C 17 dX8_noPlace_13 (by decide) ?_
    refine z_zret 17 C (rfl) dX8_noPlace_17 ?_
    first | exact ⟨z_ci (z_bo_f c9), rfl⟩ | exact ⟨z_ci (z_bo_t c9), rfl⟩
theorem dX8_noLobes_0 : decode cX8_noLobes 0 = .ok (.iload_n 0, 1) := by decide +kernel
theorem dX8_noLobes_1 : decode cX8_noLobes 1 = .ok (.i2l, 1) := by decide +kernel
theorem dX8_noLobes_2 : decode cX8_noLobes 2 = .ok (.lconst 0, 1) := by decide +kernel
theorem dX8_noLobes_3 : decode cX8_noLobes 3 = .ok (.ldc2_w 137, 3) := by decide +kernel
theorem dX8_noLobes_6 : decode cX8_noLobes 6 = .ok (.invokestatic 68, 3) := by decide +kernel
theorem dX8_noLobes_9 : decode cX8_noLobes 9 = .ok (.ifCond .ne 7, 3) := by decide +kernel
theorem dX8_noLobes_12 : decode cX8_noLobes 12 = .ok (.iconst 1, 1) := by decide +kernel
theorem dX8_noLobes_13 : decode cX8_noLobes 13 = .ok (.goto 4, 3) := by decide +kernel
theorem dX8_noLobes_16 : decode cX8_noLobes 16 = .ok (.iconst 0, 1) := by decide +kernel
theorem dX8_noLobes_17 : decode cX8_noLobes 17 = .ok (.ireturn, 1) := by decide +kernel
set_option maxRecDepth 100000 in
set_option maxHeartbeats 4000000 in
theorem m_X8_noLobes {l : Launch} {G : z_Gl} {σ : z_St} (x : Int32) : z_M l G yX8_noLobes cX8_noLobes 1 (some .boolean) (z_rm 1 25) [.int x] σ (z_p1 (.int (z_bo (x < nI 0 ∨ nI 12 < x))) σ) := by
  refine z_M.of (by decide) (Nat.le_of_ble_eq_true rfl) (fun p e s m below meth c C => ?_)
  refine z_sub [0] (lv1 := [(0, .int x)]) rfl ?_
  refine z_iload_n 0 C dX8_noLobes_0 0 rfl ?_
  refine z_i2l 1 C dX8_noLobes_1 ?_
  refine z_lconst 2 C dX8_noLobes_2 0 rfl ?_
  refine z_ldc2 3 C dX8_noLobes_3 q1152 ?_
  refine z_callS 6 C (As := [.long (Int32.toInt64 x), .long 0, .long 12]) (rest := []) (m_X8_in_i x (nI 0) (nI 12) (by decide) (by decide)) k_X8_in q1071 ⟨rfl, rfl⟩ ⟨Nat.le_of_ble_eq_true rfl, Nat.le_of_ble_eq_true rfl⟩ rfl (Nat.le_of_ble_eq_true rfl) ⟨Nat.le_of_ble_eq_true rfl, Nat.le_of_ble_eq_true rfl⟩ rfl dX8_noLobes_6 (z_k1 ?_)
  refine z_if_neb 9 C 16 dX8_noLobes_9 (by decide) (fun c9 => ?_) (fun c9 => ?_)
  · skip
    refine z_iconst 16 C dX8_noLobes_16 (nI 0) rfl ?_
    refine z_zret 17 C (rfl) dX8_noLobes_17 ?_
    first | exact ⟨z_ci (z_bo_f c9), rfl⟩ | exact ⟨z_ci (z_bo_t c9), rfl⟩
  · skip
    replace c9 := Classical.not_not.mp c9
    refine z_iconst 12 C dX8_noLobes_12 (nI 1) rfl ?_
    refine z_goto 13 C 17 dX8_noLobes_13 (by decide) ?_
    refine z_zret 17 C (rfl) dX8_noLobes_17 ?_
    first | exact ⟨z_ci (z_bo_f c9), rfl⟩ | exact ⟨z_ci (z_bo_t c9), rfl⟩
theorem dX8_noMethod_0 : decode cX8_noMethod 0 = .ok (.iload_n 0, 1) := by decide +kernel
theorem dX8_noMethod_1 : decode cX8_noMethod 1 = .ok (.i2l, 1) := by decide +kernel
theorem dX8_noMethod_2 : decode cX8_noMethod 2 = .ok (.lconst 0, 1) := by decide +kernel
theorem dX8_noMethod_3 : decode cX8_noMethod 3 = .ok (.ldc2_w 230, 3) := by decide +kernel
theorem dX8_noMethod_6 : decode cX8_noMethod 6 = .ok (.invokestatic 68, 3) := by decide +kernel
theorem dX8_noMethod_9 : decode cX8_noMethod 9 = .ok (.ifCond .ne 7, 3) := by decide +kernel
theorem dX8_noMethod_12 : decode cX8_noMethod 12 = .ok (.iconst 1, 1) := by decide +kernel
theorem dX8_noMethod_13 : decode cX8_noMethod 13 = .ok (.goto 4, 3) := by decide +kernel
theorem dX8_noMethod_16 : decode cX8_noMethod 16 = .ok (.iconst 0, 1) := by decide +kernel
theorem dX8_noMethod_17 : decode cX8_noMethod 17 = .ok (.ireturn, 1) := by decide +kernel
set_option maxRecDepth 100000 in
set_option maxHeartbeats 4000000 in
theorem m_X8_noMethod {l : Launch} {G : z_Gl} {σ : z_St} (x : Int32) : z_M l G yX8_noMethod cX8_noMethod 1 (some .boolean) (z_rm 1 25) [.int x] σ (z_p1 (.int (z_bo (x < nI 0 ∨ nI 3 < x))) σ) := by
  refine z_M.of (by decide) (Nat.le_of_ble_eq_true rfl) (fun p e s m below meth c C => ?_)
  refine z_sub [0] (lv1 := [(0, .int x)]) rfl ?_
  refine z_iload_n 0 C dX8_noMethod_0 0 rfl ?_
  refine z_i2l 1 C dX8_noMethod_1 ?_
  refine z_lconst 2 C dX8_noMethod_2 0 rfl ?_
  refine z_ldc2 3 C dX8_noMethod_3 q1265 ?_
  refine z_callS 6 C (As := [.long (Int32.toInt64 x), .long 0, .long 3]) (rest := []) (m_X8_in_i x (nI 0) (nI 3) (by decide) (by decide)) k_X8_in q1071 ⟨rfl, rfl⟩ ⟨Nat.le_of_ble_eq_true rfl, Nat.le_of_ble_eq_true rfl⟩ rfl (Nat.le_of_ble_eq_true rfl) ⟨Nat.le_of_ble_eq_true rfl, Nat.le_of_ble_eq_true rfl⟩ rfl dX8_noMethod_6 (z_k1 ?_)
  refine z_if_neb 9 C 16 dX8_noMethod_9 (by decide) (fun c9 => ?_) (fun c9 => ?_)
  · skip
    refine z_iconst 16 C dX8_noMethod_16 (nI 0) rfl ?_
    refine z_zret 17 C (rfl) dX8_noMethod_17 ?_
    first | exact ⟨z_ci (z_bo_f c9), rfl⟩ | exact ⟨z_ci (z_bo_t c9), rfl⟩
  · skip
    replace c9 := Classical.not_not.mp c9
    refine z_iconst 12 C dX8_noMethod_12 (nI 1) rfl ?_
    refine z_goto 13 C 17 dX8_noMethod_13 (by decide) ?_
    refine z_zret 17 C (rfl) dX8_noMethod_17 ?_
    first | exact ⟨z_ci (z_bo_f c9), rfl⟩ | exact ⟨z_ci (z_bo_t c9), rfl⟩
theorem dX8_areLobes_0 : decode cX8_areLobes 0 = .ok (.iload_n 0, 1) := by decide +kernel
theorem dX8_areLobes_1 : decode cX8_areLobes 1 = .ok (.ifCond .lt 18, 3) := by decide +kernel
theorem dX8_areLobes_4 : decode cX8_areLobes 4 = .ok (.iload_n 0, 1) := by decide +kernel
theorem dX8_areLobes_5 : decode cX8_areLobes 5 = .ok (.iload_n 1, 1) := by decide +kernel
theorem dX8_areLobes_6 : decode cX8_areLobes 6 = .ok (.if_icmp .gt 13, 3) := by decide +kernel
theorem dX8_areLobes_9 : decode cX8_areLobes 9 = .ok (.iload_n 1, 1) := by decide +kernel
theorem dX8_areLobes_10 : decode cX8_areLobes 10 = .ok (.bipush 12, 2) := by decide +kernel
theorem dX8_areLobes_12 : decode cX8_areLobes 12 = .ok (.if_icmp .gt 7, 3) := by decide +kernel
theorem dX8_areLobes_15 : decode cX8_areLobes 15 = .ok (.iconst 1, 1) := by decide +kernel
theorem dX8_areLobes_16 : decode cX8_areLobes 16 = .ok (.goto 4, 3) := by decide +kernel
theorem dX8_areLobes_19 : decode cX8_areLobes 19 = .ok (.iconst 0, 1) := by decide +kernel
theorem dX8_areLobes_20 : decode cX8_areLobes 20 = .ok (.ireturn, 1) := by decide +kernel
set_option maxRecDepth 100000 in
set_option maxHeartbeats 4000000 in
theorem m_X8_areLobes {l : Launch} {G : z_Gl} {σ : z_St} (x y : Int32) : z_M l G yX8_areLobes cX8_areLobes 2 (some .boolean) (z_rm 0 0) [.int x, .int y] σ (z_p1 (.int (z_bo (¬ (x < 0 ∨ y < x ∨ nI 12 < y)))) σ) := by
  refine z_M.of (by decide) (Nat.le_of_ble_eq_true rfl) (fun p e s m below meth c C => ?_)
  refine z_sub [0, 1] (lv1 := [(0, .int x), (1, .int y)]) rfl ?_
  refine z_iload_n 0 C dX8_areLobes_0 0 rfl ?_
  refine z_if_lt 1 C 19 dX8_areLobes_1 (by decide) (fun c1 => ?_) (fun c1 => ?_)
  · skip
    refine z_iconst 19 C dX8_areLobes_19 (nI 0) rfl ?_
    refine z_zret 20 C (rfl) dX8_areLobes_20 ?_
    first | exact ⟨z_ci (z_bo_t (fun z => z.elim c1 (fun z => z.elim c6 c12))), rfl⟩ | exact ⟨z_ci (z_bo_f (fun z => z (Or.inl c1))), rfl⟩ | exact ⟨z_ci (z_bo_f (fun z => z (Or.inr (Or.inl c6)))), rfl⟩ | exact ⟨z_ci (z_bo_f (fun z => z (Or.inr (Or.inr c12)))), rfl⟩
  · skip
    refine z_iload_n 4 C dX8_areLobes_4 0 rfl ?_
    refine z_iload_n 5 C dX8_areLobes_5 1 rfl ?_
    refine z_icmp_gt 6 C 19 dX8_areLobes_6 (by decide) (fun c6 => ?_) (fun c6 => ?_)
    · skip
      refine z_iconst 19 C dX8_areLobes_19 (nI 0) rfl ?_
      refine z_zret 20 C (rfl) dX8_areLobes_20 ?_
      first | exact ⟨z_ci (z_bo_t (fun z => z.elim c1 (fun z => z.elim c6 c12))), rfl⟩ | exact ⟨z_ci (z_bo_f (fun z => z (Or.inl c1))), rfl⟩ | exact ⟨z_ci (z_bo_f (fun z => z (Or.inr (Or.inl c6)))), rfl⟩ | exact ⟨z_ci (z_bo_f (fun z => z (Or.inr (Or.inr c12)))), rfl⟩
    · skip
      refine z_iload_n 9 C dX8_areLobes_9 1 rfl ?_
      refine z_bipush 10 C dX8_areLobes_10 (nI 12) rfl ?_
      refine z_icmp_gt 12 C 19 dX8_areLobes_12 (by decide) (fun c12 => ?_) (fun c12 => ?_)
      · skip
        refine z_iconst 19 C dX8_areLobes_19 (nI 0) rfl ?_
        refine z_zret 20 C (rfl) dX8_areLobes_20 ?_
        first | exact ⟨z_ci (z_bo_t (fun z => z.elim c1 (fun z => z.elim c6 c12))), rfl⟩ | exact ⟨z_ci (z_bo_f (fun z => z (Or.inl c1))), rfl⟩ | exact ⟨z_ci (z_bo_f (fun z => z (Or.inr (Or.inl c6)))), rfl⟩ | exact ⟨z_ci (z_bo_f (fun z => z (Or.inr (Or.inr c12)))), rfl⟩
      · skip
        refine z_iconst 15 C dX8_areLobes_15 (nI 1) rfl ?_
        refine z_goto 16 C 20 dX8_areLobes_16 (by decide) ?_
        refine z_zret 20 C (rfl) dX8_areLobes_20 ?_
        first | exact ⟨z_ci (z_bo_t (fun z => z.elim c1 (fun z => z.elim c6 c12))), rfl⟩ | exact ⟨z_ci (z_bo_f (fun z => z (Or.inl c1))), rfl⟩ | exact ⟨z_ci (z_bo_f (fun z => z (Or.inr (Or.inl c6)))), rfl⟩ | exact ⟨z_ci (z_bo_f (fun z => z (Or.inr (Or.inr c12)))), rfl⟩
theorem dX8_isSteps_0 : decode cX8_isSteps 0 = .ok (.iload_n 0, 1) := by decide +kernel
theorem dX8_isSteps_1 : decode cX8_isSteps 1 = .ok (.iconst 2, 1) := by decide +kernel
theorem dX8_isSteps_2 : decode cX8_isSteps 2 = .ok (.if_icmp .eq 31, 3) := by decide +kernel
theorem dX8_isSteps_5 : decode cX8_isSteps 5 = .ok (.iload_n 0, 1) := by decide +kernel
theorem dX8_isSteps_6 : decode cX8_isSteps 6 = .ok (.iconst 3, 1) := by decide +kernel
theorem dX8_isSteps_7 : decode cX8_isSteps 7 = .ok (.if_icmp .eq 26, 3) := by decide +kernel
theorem dX8_isSteps_10 : decode cX8_isSteps 10 = .ok (.iload_n 0, 1) := by decide +kernel
theorem dX8_isSteps_11 : decode cX8_isSteps 11 = .ok (.iconst 4, 1) := by decide +kernel
theorem dX8_isSteps_12 : decode cX8_isSteps 12 = .ok (.if_icmp .eq 21, 3) := by decide +kernel
theorem dX8_isSteps_15 : decode cX8_isSteps 15 = .ok (.iload_n 0, 1) := by decide +kernel
theorem dX8_isSteps_16 : decode cX8_isSteps 16 = .ok (.bipush 6, 2) := by decide +kernel
theorem dX8_isSteps_18 : decode cX8_isSteps 18 = .ok (.if_icmp .eq 15, 3) := by decide +kernel
theorem dX8_isSteps_21 : decode cX8_isSteps 21 = .ok (.iload_n 0, 1) := by decide +kernel
theorem dX8_isSteps_22 : decode cX8_isSteps 22 = .ok (.bipush 8, 2) := by decide +kernel
theorem dX8_isSteps_24 : decode cX8_isSteps 24 = .ok (.if_icmp .eq 9, 3) := by decide +kernel
theorem dX8_isSteps_27 : decode cX8_isSteps 27 = .ok (.iload_n 0, 1) := by decide +kernel
theorem dX8_isSteps_28 : decode cX8_isSteps 28 = .ok (.bipush 12, 2) := by decide +kernel
theorem dX8_isSteps_30 : decode cX8_isSteps 30 = .ok (.if_icmp .ne 7, 3) := by decide +kernel
theorem dX8_isSteps_33 : decode cX8_isSteps 33 = .ok (.iconst 1, 1) := by decide +kernel
theorem dX8_isSteps_34 : decode cX8_isSteps 34 = .ok (.goto 4, 3) := by decide +kernel
theorem dX8_isSteps_37 : decode cX8_isSteps 37 = .ok (.iconst 0, 1) := by decide +kernel
theorem dX8_isSteps_38 : decode cX8_isSteps 38 = .ok (.ireturn, 1) := by decide +kernel
set_option maxRecDepth 100000 in
set_option maxHeartbeats 4000000 in
theorem m_X8_isSteps {l : Launch} {G : z_Gl} {σ : z_St} (x : Int32) : z_M l G yX8_isSteps cX8_isSteps 1 (some .boolean) (z_rm 0 0) [.int x] σ (z_p1 (.int (z_bo (x = nI 2 ∨ x = nI 3 ∨ x = nI 4 ∨ x = nI 6 ∨ x = nI 8 ∨ x = nI 12))) σ) := by
  refine z_M.of (by decide) (Nat.le_of_ble_eq_true rfl) (fun p e s m below meth c C => ?_)
  refine z_sub [0] (lv1 := [(0, .int x)]) rfl ?_
  refine z_iload_n 0 C dX8_isSteps_0 0 rfl ?_
  refine z_iconst 1 C dX8_isSteps_1 (nI 2) rfl ?_
  refine z_icmp_eq 2 C 33 dX8_isSteps_2 (by decide) (fun c2 => ?_) (fun c2 => ?_)
  · skip
    refine z_iconst 33 C dX8_isSteps_33 (nI 1) rfl ?_
    refine z_goto 34 C 38 dX8_isSteps_34 (by decide) ?_
    refine z_zret 38 C (rfl) dX8_isSteps_38 ?_
    first | exact ⟨z_ci (z_bo_t (Or.inl c2)), rfl⟩ | exact ⟨z_ci (z_bo_t (Or.inr (Or.inl c7))), rfl⟩ | exact ⟨z_ci (z_bo_t (Or.inr (Or.inr (Or.inl c12)))), rfl⟩ | exact ⟨z_ci (z_bo_t (Or.inr (Or.inr (Or.inr (Or.inl c18))))), rfl⟩ | exact ⟨z_ci (z_bo_t (Or.inr (Or.inr (Or.inr (Or.inr (Or.inl c24)))))), rfl⟩ | exact ⟨z_ci (z_bo_f (fun z => z.elim c2 (fun z => z.elim c7 (fun z => z.elim c12 (fun z => z.elim c18 (fun z => z.elim c24 c30)))))), rfl⟩ | exact ⟨z_ci (z_bo_t (Or.inr (Or.inr (Or.inr (Or.inr (Or.inr c30)))))), rfl⟩
  · skip
    refine z_iload_n 5 C dX8_isSteps_5 0 rfl ?_
    refine z_iconst 6 C dX8_isSteps_6 (nI 3) rfl ?_
    refine z_icmp_eq 7 C 33 dX8_isSteps_7 (by decide) (fun c7 => ?_) (fun c7 => ?_)
    · skip
      refine z_iconst 33 C dX8_isSteps_33 (nI 1) rfl ?_
      refine z_goto 34 C 38 dX8_isSteps_34 (by decide) ?_
      refine z_zret 38 C (rfl) dX8_isSteps_38 ?_
      first | exact ⟨z_ci (z_bo_t (Or.inl c2)), rfl⟩ | exact ⟨z_ci (z_bo_t (Or.inr (Or.inl c7))), rfl⟩ | exact ⟨z_ci (z_bo_t (Or.inr (Or.inr (Or.inl c12)))), rfl⟩ | exact ⟨z_ci (z_bo_t (Or.inr (Or.inr (Or.inr (Or.inl c18))))), rfl⟩ | exact ⟨z_ci (z_bo_t (Or.inr (Or.inr (Or.inr (Or.inr (Or.inl c24)))))), rfl⟩ | exact ⟨z_ci (z_bo_f (fun z => z.elim c2 (fun z => z.elim c7 (fun z => z.elim c12 (fun z => z.elim c18 (fun z => z.elim c24 c30)))))), rfl⟩ | exact ⟨z_ci (z_bo_t (Or.inr (Or.inr (Or.inr (Or.inr (Or.inr c30)))))), rfl⟩
    · skip
      refine z_iload_n 10 C dX8_isSteps_10 0 rfl ?_
      refine z_iconst 11 C dX8_isSteps_11 (nI 4) rfl ?_
      refine z_icmp_eq 12 C 33 dX8_isSteps_12 (by decide) (fun c12 => ?_) (fun c12 => ?_)
      · skip
        refine z_iconst 33 C dX8_isSteps_33 (nI 1) rfl ?_
        refine z_goto 34 C 38 dX8_isSteps_34 (by decide) ?_
        refine z_zret 38 C (rfl) dX8_isSteps_38 ?_
        first | exact ⟨z_ci (z_bo_t (Or.inl c2)), rfl⟩ | exact ⟨z_ci (z_bo_t (Or.inr (Or.inl c7))), rfl⟩ | exact ⟨z_ci (z_bo_t (Or.inr (Or.inr (Or.inl c12)))), rfl⟩ | exact ⟨z_ci (z_bo_t (Or.inr (Or.inr (Or.inr (Or.inl c18))))), rfl⟩ | exact ⟨z_ci (z_bo_t (Or.inr (Or.inr (Or.inr (Or.inr (Or.inl c24)))))), rfl⟩ | exact ⟨z_ci (z_bo_f (fun z => z.elim c2 (fun z => z.elim c7 (fun z => z.elim c12 (fun z => z.elim c18 (fun z => z.elim c24 c30)))))), rfl⟩ | exact ⟨z_ci (z_bo_t (Or.inr (Or.inr (Or.inr (Or.inr (Or.inr c30)))))), rfl⟩
      · skip
        refine z_iload_n 15 C dX8_isSteps_15 0 rfl ?_
        refine z_bipush 16 C dX8_isSteps_16 (nI 6) rfl ?_
        refine z_icmp_eq 18 C 33 dX8_isSteps_18 (by decide) (fun c18 => ?_) (fun c18 => ?_)
        · skip
          refine z_iconst 33 C dX8_isSteps_33 (nI 1) rfl ?_
          refine z_goto 34 C 38 dX8_isSteps_34 (by decide) ?_
          refine z_zret 38 C (rfl) dX8_isSteps_38 ?_
          first | exact ⟨z_ci (z_bo_t (Or.inl c2)), rfl⟩ | exact ⟨z_ci (z_bo_t (Or.inr (Or.inl c7))), rfl⟩ | exact ⟨z_ci (z_bo_t (Or.inr (Or.inr (Or.inl c12)))), rfl⟩ | exact ⟨z_ci (z_bo_t (Or.inr (Or.inr (Or.inr (Or.inl c18))))), rfl⟩ | exact ⟨z_ci (z_bo_t (Or.inr (Or.inr (Or.inr (Or.inr (Or.inl c24)))))), rfl⟩ | exact ⟨z_ci (z_bo_f (fun z => z.elim c2 (fun z => z.elim c7 (fun z => z.elim c12 (fun z => z.elim c18 (fun z => z.elim c24 c30)))))), rfl⟩ | exact ⟨z_ci (z_bo_t (Or.inr (Or.inr (Or.inr (Or.inr (Or.inr c30)))))), rfl⟩
        · skip
          refine z_iload_n 21 C dX8_isSteps_21 0 rfl ?_
          refine z_bipush 22 C dX8_isSteps_22 (nI 8) rfl ?_
          refine z_icmp_eq 24 C 33 dX8_isSteps_24 (by decide) (fun c24 => ?_) (fun c24 => ?_)
          · skip
            refine z_iconst 33 C dX8_isSteps_33 (nI 1) rfl ?_
            refine z_goto 34 C 38 dX8_isSteps_34 (by decide) ?_
            refine z_zret 38 C (rfl) dX8_isSteps_38 ?_
            first | exact ⟨z_ci (z_bo_t (Or.inl c2)), rfl⟩ | exact ⟨z_ci (z_bo_t (Or.inr (Or.inl c7))), rfl⟩ | exact ⟨z_ci (z_bo_t (Or.inr (Or.inr (Or.inl c12)))), rfl⟩ | exact ⟨z_ci (z_bo_t (Or.inr (Or.inr (Or.inr (Or.inl c18))))), rfl⟩ | exact ⟨z_ci (z_bo_t (Or.inr (Or.inr (Or.inr (Or.inr (Or.inl c24)))))), rfl⟩ | exact ⟨z_ci (z_bo_f (fun z => z.elim c2 (fun z => z.elim c7 (fun z => z.elim c12 (fun z => z.elim c18 (fun z => z.elim c24 c30)))))), rfl⟩ | exact ⟨z_ci (z_bo_t (Or.inr (Or.inr (Or.inr (Or.inr (Or.inr c30)))))), rfl⟩
          · skip
            refine z_iload_n 27 C dX8_isSteps_27 0 rfl ?_
            refine z_bipush 28 C dX8_isSteps_28 (nI 12) rfl ?_
            refine z_icmp_ne 30 C 37 dX8_isSteps_30 (by decide) (fun c30 => ?_) (fun c30 => ?_)
            · skip
              refine z_iconst 37 C dX8_isSteps_37 (nI 0) rfl ?_
              refine z_zret 38 C (rfl) dX8_isSteps_38 ?_
              first | exact ⟨z_ci (z_bo_t (Or.inl c2)), rfl⟩ | exact ⟨z_ci (z_bo_t (Or.inr (Or.inl c7))), rfl⟩ | exact ⟨z_ci (z_bo_t (Or.inr (Or.inr (Or.inl c12)))), rfl⟩ | exact ⟨z_ci (z_bo_t (Or.inr (Or.inr (Or.inr (Or.inl c18))))), rfl⟩ | exact ⟨z_ci (z_bo_t (Or.inr (Or.inr (Or.inr (Or.inr (Or.inl c24)))))), rfl⟩ | exact ⟨z_ci (z_bo_f (fun z => z.elim c2 (fun z => z.elim c7 (fun z => z.elim c12 (fun z => z.elim c18 (fun z => z.elim c24 c30)))))), rfl⟩ | exact ⟨z_ci (z_bo_t (Or.inr (Or.inr (Or.inr (Or.inr (Or.inr c30)))))), rfl⟩
            · skip
              refine z_iconst 33 C dX8_isSteps_33 (nI 1) rfl ?_
              refine z_goto 34 C 38 dX8_isSteps_34 (by decide) ?_
              refine z_zret 38 C (rfl) dX8_isSteps_38 ?_
              first | exact ⟨z_ci (z_bo_t (Or.inl c2)), rfl⟩ | exact ⟨z_ci (z_bo_t (Or.inr (Or.inl c7))), rfl⟩ | exact ⟨z_ci (z_bo_t (Or.inr (Or.inr (Or.inl c12)))), rfl⟩ | exact ⟨z_ci (z_bo_t (Or.inr (Or.inr (Or.inr (Or.inl c18))))), rfl⟩ | exact ⟨z_ci (z_bo_t (Or.inr (Or.inr (Or.inr (Or.inr (Or.inl c24)))))), rfl⟩ | exact ⟨z_ci (z_bo_f (fun z => z.elim c2 (fun z => z.elim c7 (fun z => z.elim c12 (fun z => z.elim c18 (fun z => z.elim c24 c30)))))), rfl⟩ | exact ⟨z_ci (z_bo_t (Or.inr (Or.inr (Or.inr (Or.inr (Or.inr c30)))))), rfl⟩
theorem dX8_kept_0 : decode cX8_kept 0 = .ok (.lload_n 0, 1) := by decide +kernel
theorem dX8_kept_1 : decode cX8_kept 1 = .ok (.iload_n 2, 1) := by decide +kernel
theorem dX8_kept_2 : decode cX8_kept 2 = .ok (.i2l, 1) := by decide +kernel
theorem dX8_kept_3 : decode cX8_kept 3 = .ok (.lcmp, 1) := by decide +kernel
theorem dX8_kept_4 : decode cX8_kept 4 = .ok (.ifCond .le 7, 3) := by decide +kernel
theorem dX8_kept_7 : decode cX8_kept 7 = .ok (.iload_n 2, 1) := by decide +kernel
theorem dX8_kept_8 : decode cX8_kept 8 = .ok (.goto 18, 3) := by decide +kernel
theorem dX8_kept_11 : decode cX8_kept 11 = .ok (.lload_n 0, 1) := by decide +kernel
theorem dX8_kept_12 : decode cX8_kept 12 = .ok (.iload_n 2, 1) := by decide +kernel
theorem dX8_kept_13 : decode cX8_kept 13 = .ok (.ineg, 1) := by decide +kernel
theorem dX8_kept_14 : decode cX8_kept 14 = .ok (.i2l, 1) := by decide +kernel
theorem dX8_kept_15 : decode cX8_kept 15 = .ok (.lcmp, 1) := by decide +kernel
theorem dX8_kept_16 : decode cX8_kept 16 = .ok (.ifCond .ge 8, 3) := by decide +kernel
theorem dX8_kept_19 : decode cX8_kept 19 = .ok (.iload_n 2, 1) := by decide +kernel
theorem dX8_kept_20 : decode cX8_kept 20 = .ok (.ineg, 1) := by decide +kernel
theorem dX8_kept_21 : decode cX8_kept 21 = .ok (.goto 5, 3) := by decide +kernel
theorem dX8_kept_24 : decode cX8_kept 24 = .ok (.lload_n 0, 1) := by decide +kernel
theorem dX8_kept_25 : decode cX8_kept 25 = .ok (.l2i, 1) := by decide +kernel
theorem dX8_kept_26 : decode cX8_kept 26 = .ok (.ireturn, 1) := by decide +kernel
set_option maxRecDepth 100000 in
set_option maxHeartbeats 4000000 in
theorem m_X8_kept {l : Launch} {G : z_Gl} {σ : z_St} (x : Int64) (b : Int32) : z_M l G yX8_kept cX8_kept 3 (some .int) (z_rm 0 0) [.long x, .int b] σ (z_p1 (.int (z_cla x b)) σ) := by
  refine z_M.of (by decide) (Nat.le_of_ble_eq_true rfl) (fun p e s m below meth c C => ?_)
  refine z_sub [0, 1] (lv1 := [(0, .long x), (2, .int b)]) rfl ?_
  refine z_lload_n 0 C dX8_kept_0 0 rfl ?_
  refine z_iload_n 1 C dX8_kept_1 1 rfl ?_
  refine z_i2l 2 C dX8_kept_2 ?_
  refine z_lcmp_le 3 C 11 dX8_kept_3 dX8_kept_4 (by decide) (fun c3 => ?_) (fun c3 => ?_)
  · skip
    refine z_lload_n 11 C dX8_kept_11 0 rfl ?_
    refine z_iload_n 12 C dX8_kept_12 1 rfl ?_
    refine z_ineg 13 C dX8_kept_13 ?_
    refine z_i2l 14 C dX8_kept_14 ?_
    refine z_lcmp_ge 15 C 24 dX8_kept_15 dX8_kept_16 (by decide) (fun c15 => ?_) (fun c15 => ?_)
    · skip
      refine z_lload_n 24 C dX8_kept_24 0 rfl ?_
      refine z_l2i 25 C dX8_kept_25 ?_
      refine z_iret 26 C dX8_kept_26 ?_
      first | exact ⟨z_ci (by unfold z_cla; rw [if_pos (Int64.not_le.mp c3)]), rfl⟩ | exact ⟨z_ci (by unfold z_cla; rw [if_neg (Int64.not_lt.mpr c3), if_pos (Int64.not_le.mp c15)]), rfl⟩ | exact ⟨z_ci (by unfold z_cla; rw [if_neg (Int64.not_lt.mpr c3), if_neg (Int64.not_lt.mpr c15)]), rfl⟩
    · skip
      refine z_iload_n 19 C dX8_kept_19 1 rfl ?_
      refine z_ineg 20 C dX8_kept_20 ?_
      refine z_goto 21 C 26 dX8_kept_21 (by decide) ?_
      refine z_iret 26 C dX8_kept_26 ?_
      first | exact ⟨z_ci (by unfold z_cla; rw [if_pos (Int64.not_le.mp c3)]), rfl⟩ | exact ⟨z_ci (by unfold z_cla; rw [if_neg (Int64.not_lt.mpr c3), if_pos (Int64.not_le.mp c15)]), rfl⟩ | exact ⟨z_ci (by unfold z_cla; rw [if_neg (Int64.not_lt.mpr c3), if_neg (Int64.not_lt.mpr c15)]), rfl⟩
  · skip
    refine z_iload_n 7 C dX8_kept_7 1 rfl ?_
    refine z_goto 8 C 26 dX8_kept_8 (by decide) ?_
    refine z_iret 26 C dX8_kept_26 ?_
    first | exact ⟨z_ci (by unfold z_cla; rw [if_pos (Int64.not_le.mp c3)]), rfl⟩ | exact ⟨z_ci (by unfold z_cla; rw [if_neg (Int64.not_lt.mpr c3), if_pos (Int64.not_le.mp c15)]), rfl⟩ | exact ⟨z_ci (by unfold z_cla; rw [if_neg (Int64.not_lt.mpr c3), if_neg (Int64.not_lt.mpr c15)]), rfl⟩
theorem dX8_cosine_0 : decode cX8_cosine 0 = .ok (.iload_n 1, 1) := by decide +kernel
theorem dX8_cosine_1 : decode cX8_cosine 1 = .ok (.invokestatic 72, 3) := by decide +kernel
theorem dX8_cosine_4 : decode cX8_cosine 4 = .ok (.istore_n 2, 1) := by decide +kernel
theorem dX8_cosine_5 : decode cX8_cosine 5 = .ok (.iload_n 2, 1) := by decide +kernel
theorem dX8_cosine_6 : decode cX8_cosine 6 = .ok (.bipush 12, 2) := by decide +kernel
theorem dX8_cosine_8 : decode cX8_cosine 8 = .ok (.if_icmp .le 10, 3) := by decide +kernel
theorem dX8_cosine_11 : decode cX8_cosine 11 = .ok (.bipush 24, 2) := by decide +kernel
theorem dX8_cosine_13 : decode cX8_cosine 13 = .ok (.iload_n 2, 1) := by decide +kernel
theorem dX8_cosine_14 : decode cX8_cosine 14 = .ok (.isub, 1) := by decide +kernel
theorem dX8_cosine_15 : decode cX8_cosine 15 = .ok (.goto 4, 3) := by decide +kernel
theorem dX8_cosine_18 : decode cX8_cosine 18 = .ok (.iload_n 2, 1) := by decide +kernel
theorem dX8_cosine_19 : decode cX8_cosine 19 = .ok (.istore_n 2, 1) := by decide +kernel
theorem dX8_cosine_20 : decode cX8_cosine 20 = .ok (.iload_n 2, 1) := by decide +kernel
theorem dX8_cosine_21 : decode cX8_cosine 21 = .ok (.bipush 6, 2) := by decide +kernel
theorem dX8_cosine_23 : decode cX8_cosine 23 = .ok (.if_icmp .le 17, 3) := by decide +kernel
theorem dX8_cosine_26 : decode cX8_cosine 26 = .ok (.aload_n 0, 1) := by decide +kernel
theorem dX8_cosine_27 : decode cX8_cosine 27 = .ok (.getfield 13, 3) := by decide +kernel
theorem dX8_cosine_30 : decode cX8_cosine 30 = .ok (.bipush 12, 2) := by decide +kernel
theorem dX8_cosine_32 : decode cX8_cosine 32 = .ok (.iload_n 2, 1) := by decide +kernel
theorem dX8_cosine_33 : decode cX8_cosine 33 = .ok (.isub, 1) := by decide +kernel
theorem dX8_cosine_34 : decode cX8_cosine 34 = .ok (.iaload, 1) := by decide +kernel
theorem dX8_cosine_35 : decode cX8_cosine 35 = .ok (.ineg, 1) := by decide +kernel
theorem dX8_cosine_36 : decode cX8_cosine 36 = .ok (.i2l, 1) := by decide +kernel
theorem dX8_cosine_37 : decode cX8_cosine 37 = .ok (.goto 10, 3) := by decide +kernel
theorem dX8_cosine_40 : decode cX8_cosine 40 = .ok (.aload_n 0, 1) := by decide +kernel
theorem dX8_cosine_41 : decode cX8_cosine 41 = .ok (.getfield 13, 3) := by decide +kernel
theorem dX8_cosine_44 : decode cX8_cosine 44 = .ok (.iload_n 2, 1) := by decide +kernel
theorem dX8_cosine_45 : decode cX8_cosine 45 = .ok (.iaload, 1) := by decide +kernel
theorem dX8_cosine_46 : decode cX8_cosine 46 = .ok (.i2l, 1) := by decide +kernel
theorem dX8_cosine_47 : decode cX8_cosine 47 = .ok (.lreturn, 1) := by decide +kernel
set_option maxRecDepth 100000 in
set_option maxHeartbeats 4000000 in
theorem m_X8_cosine {l : Launch} {G : z_Gl} {σ : z_St} (P n u v w rc tl : Nat) (hM : z_mi σ P n u v w rc tl) (x : Int32) : z_M l G yX8_cosine cX8_cosine 3 (some .long) (z_rm 1 21) [.ref (z_ad G 105), .int x] σ (z_p1 (.long (Int32.toInt64 (z_tv 0 (z_pm x)))) σ) := by
  refine z_M.of (by decide) (Nat.le_of_ble_eq_true rfl) (fun p e s m below meth c C => ?_)
  refine z_sub [0, 1] (lv1 := [(0, .ref (z_ad G 105)), (1, .int x)]) rfl ?_
  have hM0 := hM
  obtain ⟨⟨hP, hn, hu, hv, hw, hrc, htl⟩, hPs, hnP, huv, hw6, hrc8, htl2, hqt, hah⟩ := hM0
  have h0 : 0 < P := by omega
  have h12 : P ≤ 12 := by omega
  have h288 : n ≤ 288 := by omega
  have hpm := z_pm_lt x
  refine z_iload_n 0 C dX8_cosine_0 1 rfl ?_
  refine z_callS 1 C (As := [.int x]) (rest := []) (m_X8_around x) k_X8_around q1109 ⟨rfl, rfl⟩ ⟨Nat.le_of_ble_eq_true rfl, Nat.le_of_ble_eq_true rfl⟩ rfl (Nat.le_of_ble_eq_true rfl) ⟨Nat.le_of_ble_eq_true rfl, Nat.le_of_ble_eq_true rfl⟩ rfl dX8_cosine_1 (z_k1 ?_)
  refine z_istore_n 4 C dX8_cosine_4 [(2, .int (nI (z_pm x))), (0, .ref (z_ad G 105)), (1, .int x)] (by decide) rfl ?_
  refine z_iload_n 5 C dX8_cosine_5 0 rfl ?_
  refine z_bipush 6 C dX8_cosine_6 (nI 12) rfl ?_
  refine z_icmp_leN 8 C (z_pm x) 12 rfl rfl (by omega) (by omega) 18 dX8_cosine_8 (by decide) (fun c8 => ?_) (fun c8 => ?_)
  · skip
    refine z_iload_n 18 C dX8_cosine_18 0 rfl ?_
    refine z_istore_n 19 C dX8_cosine_19 [(2, .int (nI (z_pm x))), (0, .ref (z_ad G 105)), (1, .int x)] (by decide) rfl ?_
    refine z_iload_n 20 C dX8_cosine_20 0 rfl ?_
    refine z_bipush 21 C dX8_cosine_21 (nI 6) rfl ?_
    refine z_icmp_leN 23 C (z_pm x) 6 rfl rfl (by omega) (by omega) 40 dX8_cosine_23 (by decide) (fun c23 => ?_) (fun c23 => ?_)
    · skip
      refine z_aload_n 40 C dX8_cosine_40 1 rfl ?_
      refine z_getf 41 C 105 z_dX8 (⟨rfl, rfl⟩) 0 (by decide) q966 (.ref (z_ad G 106)) rfl dX8_cosine_41 ?_
      refine z_iload_n 44 C dX8_cosine_44 0 rfl ?_
      refine z_ialdN 45 C 106 (n := 7) (⟨rfl, rfl⟩) (z_pm x) rfl (by omega) (by decide) dX8_cosine_45 ?_
      refine z_i2l 46 C dX8_cosine_46 ?_
      refine z_lret 47 C dX8_cosine_47 ?_
      first | exact ⟨z_cl (by rw [hqt _ (by omega), z_q2 _ hpm (by omega) (by omega)]), rfl⟩ | exact ⟨z_cl (by rw [hqt _ (by omega), z_q3 _ hpm (by omega) (by omega)]), rfl⟩ | exact ⟨z_cl (by rw [hqt _ (by omega), z_q4 _ hpm (by omega) (by omega)]), rfl⟩ | exact ⟨z_cl (by rw [hqt _ (by omega)]), rfl⟩
    · skip
      refine z_aload_n 26 C dX8_cosine_26 1 rfl ?_
      refine z_getf 27 C 105 z_dX8 (⟨rfl, rfl⟩) 0 (by decide) q966 (.ref (z_ad G 106)) rfl dX8_cosine_27 ?_
      refine z_bipush 30 C dX8_cosine_30 (nI 12) rfl ?_
      refine z_iload_n 32 C dX8_cosine_32 0 rfl ?_
      refine z_isubN 33 C 12 (z_pm x) rfl rfl (by omega) dX8_cosine_33 ?_
      refine z_ialdN 34 C 106 (n := 7) (⟨rfl, rfl⟩) (12 - (z_pm x)) rfl (by omega) (by decide) dX8_cosine_34 ?_
      refine z_ineg 35 C dX8_cosine_35 ?_
      refine z_i2l 36 C dX8_cosine_36 ?_
      refine z_goto 37 C 47 dX8_cosine_37 (by decide) ?_
      refine z_lret 47 C dX8_cosine_47 ?_
      first | exact ⟨z_cl (by rw [hqt _ (by omega), z_q2 _ hpm (by omega) (by omega)]), rfl⟩ | exact ⟨z_cl (by rw [hqt _ (by omega), z_q3 _ hpm (by omega) (by omega)]), rfl⟩ | exact ⟨z_cl (by rw [hqt _ (by omega), z_q4 _ hpm (by omega) (by omega)]), rfl⟩ | exact ⟨z_cl (by rw [hqt _ (by omega)]), rfl⟩
  · skip
    refine z_bipush 11 C dX8_cosine_11 (nI 24) rfl ?_
    refine z_iload_n 13 C dX8_cosine_13 0 rfl ?_
    refine z_isubN 14 C 24 (z_pm x) rfl rfl (by omega) dX8_cosine_14 ?_
    refine z_goto 15 C 19 dX8_cosine_15 (by decide) ?_
    refine z_istore_n 19 C dX8_cosine_19 [(2, .int (nI (24 - (z_pm x)))), (0, .ref (z_ad G 105)), (1, .int x)] (by decide) rfl ?_
    refine z_iload_n 20 C dX8_cosine_20 0 rfl ?_
    refine z_bipush 21 C dX8_cosine_21 (nI 6) rfl ?_
    refine z_icmp_leN 23 C (24 - (z_pm x)) 6 rfl rfl (by omega) (by omega) 40 dX8_cosine_23 (by decide) (fun c23 => ?_) (fun c23 => ?_)
    · skip
      refine z_aload_n 40 C dX8_cosine_40 1 rfl ?_
      refine z_getf 41 C 105 z_dX8 (⟨rfl, rfl⟩) 0 (by decide) q966 (.ref (z_ad G 106)) rfl dX8_cosine_41 ?_
      refine z_iload_n 44 C dX8_cosine_44 0 rfl ?_
      refine z_ialdN 45 C 106 (n := 7) (⟨rfl, rfl⟩) (24 - (z_pm x)) rfl (by omega) (by decide) dX8_cosine_45 ?_
      refine z_i2l 46 C dX8_cosine_46 ?_
      refine z_lret 47 C dX8_cosine_47 ?_
      first | exact ⟨z_cl (by rw [hqt _ (by omega), z_q2 _ hpm (by omega) (by omega)]), rfl⟩ | exact ⟨z_cl (by rw [hqt _ (by omega), z_q3 _ hpm (by omega) (by omega)]), rfl⟩ | exact ⟨z_cl (by rw [hqt _ (by omega), z_q4 _ hpm (by omega) (by omega)]), rfl⟩ | exact ⟨z_cl (by rw [hqt _ (by omega)]), rfl⟩
    · skip
      refine z_aload_n 26 C dX8_cosine_26 1 rfl ?_
      refine z_getf 27 C 105 z_dX8 (⟨rfl, rfl⟩) 0 (by decide) q966 (.ref (z_ad G 106)) rfl dX8_cosine_27 ?_
      refine z_bipush 30 C dX8_cosine_30 (nI 12) rfl ?_
      refine z_iload_n 32 C dX8_cosine_32 0 rfl ?_
      refine z_isubN 33 C 12 (24 - (z_pm x)) rfl rfl (by omega) dX8_cosine_33 ?_
      refine z_ialdN 34 C 106 (n := 7) (⟨rfl, rfl⟩) (12 - (24 - (z_pm x))) rfl (by omega) (by decide) dX8_cosine_34 ?_
      refine z_ineg 35 C dX8_cosine_35 ?_
      refine z_i2l 36 C dX8_cosine_36 ?_
      refine z_goto 37 C 47 dX8_cosine_37 (by decide) ?_
      refine z_lret 47 C dX8_cosine_47 ?_
      first | exact ⟨z_cl (by rw [hqt _ (by omega), z_q2 _ hpm (by omega) (by omega)]), rfl⟩ | exact ⟨z_cl (by rw [hqt _ (by omega), z_q3 _ hpm (by omega) (by omega)]), rfl⟩ | exact ⟨z_cl (by rw [hqt _ (by omega), z_q4 _ hpm (by omega) (by omega)]), rfl⟩ | exact ⟨z_cl (by rw [hqt _ (by omega)]), rfl⟩
theorem m_X8_cosine_n {l : Launch} {G : z_Gl} {σ : z_St} (P n u v w rc tl : Nat) (hM : z_mi σ P n u v w rc tl) (i : Nat) (hn : i < 2 ^ 31) : z_M l G yX8_cosine cX8_cosine 3 (some .long) (z_rm 1 21) [.ref (z_ad G 105), .int (nI i)] σ (z_p1 (.long (Int32.toInt64 (z_tv 0 (i % 24)))) σ) := by
  have h := m_X8_cosine (l := l) (G := G) (σ := σ) P n u v w rc tl hM (nI i)
  rw [z_pm_n hn] at h
  exact h
theorem m_X8_cosine_d {l : Launch} {G : z_Gl} {σ : z_St} (P n u v w rc tl : Nat) (hM : z_mi σ P n u v w rc tl) (a b : Nat) (ha : a < 2 ^ 30) (hb : b < 2 ^ 30) : z_M l G yX8_cosine cX8_cosine 3 (some .long) (z_rm 1 21) [.ref (z_ad G 105), .int (nI a - nI b)] σ (z_p1 (.long (Int32.toInt64 (z_tv 0 ((a + (24 - b % 24)) % 24)))) σ) := by
  have h := m_X8_cosine (l := l) (G := G) (σ := σ) P n u v w rc tl hM (nI a - nI b)
  rw [z_pm_s ha hb] at h
  exact h
theorem dX8_sine_0 : decode cX8_sine 0 = .ok (.aload_n 0, 1) := by decide +kernel
theorem dX8_sine_1 : decode cX8_sine 1 = .ok (.iload_n 1, 1) := by decide +kernel
theorem dX8_sine_2 : decode cX8_sine 2 = .ok (.bipush 6, 2) := by decide +kernel
theorem dX8_sine_4 : decode cX8_sine 4 = .ok (.isub, 1) := by decide +kernel
theorem dX8_sine_5 : decode cX8_sine 5 = .ok (.invokevirtual 76, 3) := by decide +kernel
theorem dX8_sine_8 : decode cX8_sine 8 = .ok (.lreturn, 1) := by decide +kernel
set_option maxRecDepth 100000 in
set_option maxHeartbeats 4000000 in
theorem m_X8_sine {l : Launch} {G : z_Gl} {σ : z_St} (P n u v w rc tl : Nat) (hM : z_mi σ P n u v w rc tl) (i : Nat) (hi : i < 2 ^ 30) : z_M l G yX8_sine cX8_sine 2 (some .long) (z_rm 2 43) [.ref (z_ad G 105), .int (nI i)] σ (z_p1 (.long (Int32.toInt64 (z_tv 1 (i % 24)))) σ) := by
  refine z_M.of (by decide) (Nat.le_of_ble_eq_true rfl) (fun p e s m below meth c C => ?_)
  refine z_sub [0, 1] (lv1 := [(0, .ref (z_ad G 105)), (1, .int (nI i))]) rfl ?_
  have hM0 := hM
  obtain ⟨⟨hP, hn, hu, hv, hw, hrc, htl⟩, hPs, hnP, huv, hw6, hrc8, htl2, hqt, hah⟩ := hM0
  have h0 : 0 < P := by omega
  have h12 : P ≤ 12 := by omega
  have h288 : n ≤ 288 := by omega
  refine z_aload_n 0 C dX8_sine_0 0 rfl ?_
  refine z_iload_n 1 C dX8_sine_1 1 rfl ?_
  refine z_bipush 2 C dX8_sine_2 (nI 6) rfl ?_
  refine z_isub 4 C dX8_sine_4 ?_
  refine z_callV 5 C 105 (⟨rfl, rfl⟩) rfl (As := [.int ((nI i) - (nI 6))]) (rest := []) (m_X8_cosine_d P n u v w rc tl hM i 6 (by omega) (by omega)) k_X8_cosine q1203 ⟨rfl, rfl⟩ ⟨Nat.le_of_ble_eq_true rfl, Nat.le_of_ble_eq_true rfl⟩ rfl (Nat.le_of_ble_eq_true rfl) ⟨Nat.le_of_ble_eq_true rfl, Nat.le_of_ble_eq_true rfl⟩ rfl dX8_sine_5 (z_k1 ?_)
  refine z_lret 8 C dX8_sine_8 ?_
  exact ⟨z_cl (by rw [z_s6]), rfl⟩
