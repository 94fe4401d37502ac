theorem fb_putL {f g : Nat → Int64} {a n : Nat} : vp_updL (fb_put f g a n) (a + n) (g n) = fb_put f g a (n + 1) := by
  funext k
  unfold vp_updL fb_put
  by_cases h : k = a + n
  · subst h
    rw [if_pos rfl, if_pos (by omega), show a + n - a = n by omega]
  · rw [if_neg h]
    by_cases h2 : a ≤ k ∧ k < a + n
    · rw [if_pos h2, if_pos (by omega)]
    · rw [if_neg h2, if_neg (by omega)]
theorem zm_put2 (σ : z_St) {a b : Nat} (hab : ¬ a = b) {X X1 Y Y1 : Nat → Int64} {i j : Nat} {x y : Int64} (hP : vp_updL X i x = X1) (hQ : vp_updL Y j y = Y1) : z_ul (z_ul (z_uL (z_uL σ a X) b Y) a i x) b j y = z_uL (z_uL σ a X1) b Y1 := by
  subst hP
  subst hQ
  unfold z_ul z_uL
  refine Prod.ext rfl ?_
  funext q
  by_cases h1 : q = b
  · subst h1
    have h2 : ¬ q = a := fun z => hab z.symm
    simp [h2]
  · by_cases h2 : q = a
    · subst h2; simp [hab]
    · simp [h1, h2]
/-- what is one, once a place differs -/
abbrev zm_ne (f g : Nat → Int64) (k : Nat) : Prop := ¬ ∀ j, j < k → f j = g j
theorem zm_ne0 (f g : Nat → Int64) : nI 0 = z_bo (zm_ne f g 0) := z_bo_f (fun z => z (fun j h => absurd h (Nat.not_lt_zero j)))
theorem zm_ne1 {f g : Nat → Int64} {k : Nat} (h : ¬ f k = g k) : nI 1 = z_bo (zm_ne f g (k + 1)) := z_bo_t (fun z => h (z k (Nat.lt_succ_self k)))
theorem zm_ne2 {f g : Nat → Int64} {k : Nat} (h : f k = g k) : z_bo (zm_ne f g k) = z_bo (zm_ne f g (k + 1)) := z_bo_iff (not_congr ⟨fun z => lt_s z h, fun z j hj => z j (Nat.lt_succ_of_lt hj)⟩)
/-- the profiles undone are at most twenty -/
def zm_u (u : Nat) : Nat := if u = 20 then 19 else u
def zm_s24 (f : Nat → Int64) : Nat → Int64 := fun x => f (x + 24)
def zm_ud (u : Nat) (f : Nat → Int64) : Nat → Int64 := if u = 20 then z_fil (zm_s24 f) f 456 else f
def z_mtk (σ : z_St) (u : Nat) : z_St := z_ui (z_ui (z_uL (z_uL σ 110 (fb_put (zm_ud u (σ.2 110)) (σ.2 108) (24 * zm_u u) 24)) 108 (z_fil (σ.2 109) (σ.2 108) 24)) 105 8 (nI (zm_u u + 1))) 105 9 (nI 0)
theorem zm_tk0 (σ : z_St) {u : Nat} (h : ¬ u = 20) : z_ui (z_ui (z_uL (z_uL σ 110 (fb_put (σ.2 110) (σ.2 108) (24 * u) 24)) 108 (z_fil (σ.2 109) (σ.2 108) 24)) 105 8 (nI (u + 1))) 105 9 (nI 0) = z_mtk σ u := by
  unfold z_mtk zm_ud zm_u
  rw [if_neg h, if_neg h]
theorem zm_tk1 (σ : z_St) : z_ui (z_ui (z_uL (z_uL (z_ui σ 105 8 (nI (20 - 1))) 110 (fb_put (z_fil (zm_s24 (σ.2 110)) (σ.2 110) 456) (σ.2 108) (24 * (20 - 1)) 24)) 108 (z_fil (σ.2 109) (σ.2 108) 24)) 105 8 (nI (20 - 1 + 1))) 105 9 (nI 0) = z_mtk σ 20 := by
  show _ = z_ui (z_ui (z_uL (z_uL σ 110 (fb_put (z_fil (zm_s24 (σ.2 110)) (σ.2 110) 456) (σ.2 108) (24 * 19) 24)) 108 (z_fil (σ.2 109) (σ.2 108) 24)) 105 8 (nI (19 + 1))) 105 9 (nI 0)
  unfold z_ui z_uL
  refine Prod.ext ?_ rfl
  funext a
  by_cases h : a = 105
  · subst h
    funext k
    simp only [if_true, upd]
    by_cases h2 : k = 8
    · subst h2; simp
    · simp [h2]
  · simp [h]
theorem zm_uLu {σ : z_St} {i k : Nat} {F f : Nat → Int64} {x : Int64} (hx : x = F k) : z_ul (z_uL σ i (z_fil F f k)) i k x = z_uL σ i (z_fil F f (k + 1)) := z_filSL σ i k F f hx
theorem zm_b1 {i j : Nat} (hi : i < 24) (hj : j < 24) : (z_tv 0 i).toInt64 + (z_tv 0 j).toInt64 = 0 ↔ z_tv 0 i + z_tv 0 j = 0 := by
  have h1 := z_tvb 0 (by decide) i hi
  have h2 := z_tvb 0 (by decide) j hj
  rw [fa_eq64, fa_eq, fb_addL (by rw [Int32.toInt_toInt64, Int32.toInt_toInt64]; omega) (by rw [Int32.toInt_toInt64, Int32.toInt_toInt64]; omega), fb_addI (by omega) (by omega), Int32.toInt_toInt64, Int32.toInt_toInt64]
  rfl
theorem zm_b2 {i j : Nat} (hi : i < 24) (hj : j < 24) : (z_tv 0 i).toInt64 - (z_tv 0 j).toInt64 = 0 ↔ z_tv 0 i - z_tv 0 j = 0 := by
  have h1 := z_tvb 0 (by decide) i hi
  have h2 := z_tvb 0 (by decide) j hj
  rw [fa_eq64, fa_eq, fb_subL (by rw [Int32.toInt_toInt64, Int32.toInt_toInt64]; omega) (by rw [Int32.toInt_toInt64, Int32.toInt_toInt64]; omega), fb_subI (by omega) (by omega), Int32.toInt_toInt64, Int32.toInt_toInt64]
  rfl
theorem zm_dm (z : Nat → Int64) (a : Nat) : ∀ {d : Nat}, z_dm z a d ≤ a + d
  | 0 => Nat.le_refl a
  | d + 1 => by
    have := zm_dm z a (d := d)
    rw [z_dm]
    split <;> omega
def z_mun (σ : z_St) (u v : Nat) : z_St := z_ui (z_uL (z_uL (z_ui σ 105 8 (nI (u - 1))) 111 (fb_put (σ.2 111) (σ.2 108) (24 * v) 24)) 108 (z_fil (z_sh (σ.2 110) (24 * (u - 1))) (σ.2 108) 24)) 105 9 (nI (v + 1))
def z_mre (σ : z_St) (u v : Nat) : z_St := z_ui (z_uL (z_uL (z_ui σ 105 9 (nI (v - 1))) 110 (fb_put (σ.2 110) (σ.2 108) (24 * u) 24)) 108 (z_fil (z_sh (σ.2 111) (24 * (v - 1))) (σ.2 108) 24)) 105 8 (nI (u + 1))
theorem dX8_harmonicIn_0 : decode cX8_harmonicIn 0 = .ok (.lconst 0, 1) := by decide +kernel
theorem dX8_harmonicIn_1 : decode cX8_harmonicIn 1 = .ok (.lstore 5, 2) := by decide +kernel
theorem dX8_harmonicIn_3 : decode cX8_harmonicIn 3 = .ok (.iconst 0, 1) := by decide +kernel
theorem dX8_harmonicIn_4 : decode cX8_harmonicIn 4 = .ok (.istore 7, 2) := by decide +kernel
theorem dX8_harmonicIn_6 : decode cX8_harmonicIn 6 = .ok (.iload 7, 2) := by decide +kernel
theorem dX8_harmonicIn_8 : decode cX8_harmonicIn 8 = .ok (.bipush 24, 2) := by decide +kernel
theorem dX8_harmonicIn_10 : decode cX8_harmonicIn 10 = .ok (.if_icmp .ge 45, 3) := by decide +kernel
theorem dX8_harmonicIn_13 : decode cX8_harmonicIn 13 = .ok (.lload 5, 2) := by decide +kernel
theorem dX8_harmonicIn_15 : decode cX8_harmonicIn 15 = .ok (.aload_n 1, 1) := by decide +kernel
theorem dX8_harmonicIn_16 : decode cX8_harmonicIn 16 = .ok (.iload_n 2, 1) := by decide +kernel
theorem dX8_harmonicIn_17 : decode cX8_harmonicIn 17 = .ok (.iload 7, 2) := by decide +kernel
theorem dX8_harmonicIn_19 : decode cX8_harmonicIn 19 = .ok (.iadd, 1) := by decide +kernel
theorem dX8_harmonicIn_20 : decode cX8_harmonicIn 20 = .ok (.laload, 1) := by decide +kernel
theorem dX8_harmonicIn_21 : decode cX8_harmonicIn 21 = .ok (.iload 4, 2) := by decide +kernel
theorem dX8_harmonicIn_23 : decode cX8_harmonicIn 23 = .ok (.ifCond .eq 14, 3) := by decide +kernel
theorem dX8_harmonicIn_26 : decode cX8_harmonicIn 26 = .ok (.aload_n 0, 1) := by decide +kernel
theorem dX8_harmonicIn_27 : decode cX8_harmonicIn 27 = .ok (.iload_n 3, 1) := by decide +kernel
theorem dX8_harmonicIn_28 : decode cX8_harmonicIn 28 = .ok (.iload 7, 2) := by decide +kernel
theorem dX8_harmonicIn_30 : decode cX8_harmonicIn 30 = .ok (.imul, 1) := by decide +kernel
theorem dX8_harmonicIn_31 : decode cX8_harmonicIn 31 = .ok (.invokevirtual 161, 3) := by decide +kernel
theorem dX8_harmonicIn_34 : decode cX8_harmonicIn 34 = .ok (.goto 11, 3) := by decide +kernel
theorem dX8_harmonicIn_37 : decode cX8_harmonicIn 37 = .ok (.aload_n 0, 1) := by decide +kernel
theorem dX8_harmonicIn_38 : decode cX8_harmonicIn 38 = .ok (.iload_n 3, 1) := by decide +kernel
theorem dX8_harmonicIn_39 : decode cX8_harmonicIn 39 = .ok (.iload 7, 2) := by decide +kernel
theorem dX8_harmonicIn_41 : decode cX8_harmonicIn 41 = .ok (.imul, 1) := by decide +kernel
theorem dX8_harmonicIn_42 : decode cX8_harmonicIn 42 = .ok (.invokevirtual 76, 3) := by decide +kernel
theorem dX8_harmonicIn_45 : decode cX8_harmonicIn 45 = .ok (.lmul, 1) := by decide +kernel
theorem dX8_harmonicIn_46 : decode cX8_harmonicIn 46 = .ok (.ladd, 1) := by decide +kernel
theorem dX8_harmonicIn_47 : decode cX8_harmonicIn 47 = .ok (.lstore 5, 2) := by decide +kernel
theorem dX8_harmonicIn_49 : decode cX8_harmonicIn 49 = .ok (.iinc 7 1, 3) := by decide +kernel
theorem dX8_harmonicIn_52 : decode cX8_harmonicIn 52 = .ok (.goto (-46), 3) := by decide +kernel
theorem dX8_harmonicIn_55 : decode cX8_harmonicIn 55 = .ok (.lload 5, 2) := by decide +kernel
theorem dX8_harmonicIn_57 : decode cX8_harmonicIn 57 = .ok (.iload_n 3, 1) := by decide +kernel
theorem dX8_harmonicIn_58 : decode cX8_harmonicIn 58 = .ok (.ifCond .eq 9, 3) := by decide +kernel
theorem dX8_harmonicIn_61 : decode cX8_harmonicIn 61 = .ok (.iload_n 3, 1) := by decide +kernel
theorem dX8_harmonicIn_62 : decode cX8_harmonicIn 62 = .ok (.bipush 12, 2) := by decide +kernel
theorem dX8_harmonicIn_64 : decode cX8_harmonicIn 64 = .ok (.if_icmp .ne 9, 3) := by decide +kernel
theorem dX8_harmonicIn_67 : decode cX8_harmonicIn 67 = .ok (.ldc2_w 185, 3) := by decide +kernel
theorem dX8_harmonicIn_70 : decode cX8_harmonicIn 70 = .ok (.goto 6, 3) := by decide +kernel
theorem dX8_harmonicIn_73 : decode cX8_harmonicIn 73 = .ok (.ldc2_w 187, 3) := by decide +kernel
theorem dX8_harmonicIn_76 : decode cX8_harmonicIn 76 = .ok (.invokestatic 115, 3) := by decide +kernel
theorem dX8_harmonicIn_79 : decode cX8_harmonicIn 79 = .ok (.lreturn, 1) := by decide +kernel
set_option maxRecDepth 100000 in
set_option maxHeartbeats 4000000 in
theorem m_X8_harmonicIn {l : Launch} {G : z_Gl} {σ : z_St} (P n u v w rc tl : Nat) (hM : z_mi σ P n u v w rc tl) (r f h t sz : Nat) (hr : z_kd r = 2 ∧ z_sz r = sz) (hf : f + 24 ≤ sz) (hsz : sz ≤ 480) (hh : h ≤ 12) (ht : t < 2) : z_M l G yX8_harmonicIn cX8_harmonicIn 8 (some .long) (z_rm 3 64) [.ref (z_ad G 105), .ref (z_ad G r), .int (nI f), .int (nI h), .int (nI t)] σ (z_p1 (.long (z_cf (z_sh (σ.2 r) f) t h)) σ) := by
  refine z_M.of (by decide) (Nat.le_of_ble_eq_true rfl) (fun p e s m below meth c C => ?_)
  refine z_sub [0, 1, 2, 3, 4] (lv1 := [(0, .ref (z_ad G 105)), (1, .ref (z_ad G r)), (2, .int (nI f)), (3, .int (nI h)), (4, .int (nI t))]) rfl ?_
  have hM0 := hM
  obtain ⟨⟨hP, hn, hu, hv, hw, hrc, htl⟩, hPs, hnP, huv, hw6, hrc8, htl2, hqt, hah⟩ := hM0
  have h0 : 0 < P := by omega
  have h12 : P ≤ 12 := by omega
  have h288 : n ≤ 288 := by omega
  refine z_lconst 0 C dX8_harmonicIn_0 0 rfl ?_
  refine z_lstore 1 C dX8_harmonicIn_1 [(5, .long 0), (0, .ref (z_ad G 105)), (1, .ref (z_ad G r)), (2, .int (nI f)), (3, .int (nI h)), (4, .int (nI t))] (by decide) rfl ?_
  refine z_iconst 3 C dX8_harmonicIn_3 (nI 0) rfl ?_
  refine z_istore 4 C dX8_harmonicIn_4 [(7, .int (nI 0)), (5, .long 0), (0, .ref (z_ad G 105)), (1, .ref (z_ad G r)), (2, .int (nI f)), (3, .int (nI h)), (4, .int (nI t))] (by decide) rfl ?_
  refine z_sub [2, 3, 4, 5, 6, 1, 0] (lv1 := [(0, .ref (z_ad G 105)), (1, .ref (z_ad G r)), (2, .int (nI f)), (3, .int (nI h)), (4, .int (nI t)), (5, .long 0), (7, .int (nI 0))]) rfl ?_
  refine z_cv (lv1 := [(0, .ref (z_ad G 105)), (1, .ref (z_ad G r)), (2, .int (nI f)), (3, .int (nI h)), (4, .int (nI t)), (5, .long (z_sm (z_sh (σ.2 r) f) t h 0)), (7, .int (nI 0))]) (st1 := []) (σ1 := σ) rfl rfl rfl ?_
  refine z_lp1 (fun (k : Nat) => k ≤ 24) (fun (k : Nat) => 24 - k) (fun (k : Nat) => [(0, .ref (z_ad G 105)), (1, .ref (z_ad G r)), (2, .int (nI f)), (3, .int (nI h)), (4, .int (nI t)), (5, .long (z_sm (z_sh (σ.2 r) f) t h k)), (7, .int (nI k))]) (fun (k : Nat) => σ) (fun k hi_6 ih_6 => ?_) 0 (by omega)
  try dsimp only
  refine z_iload 6 C dX8_harmonicIn_6 6 rfl ?_
  refine z_bipush 8 C dX8_harmonicIn_8 (nI 24) rfl ?_
  refine z_icmp_geN 10 C k 24 rfl rfl (by omega) (by omega) 55 dX8_harmonicIn_10 (by decide) (fun c10 => ?_) (fun c10 => ?_)
  · skip
    have ek : k = 24 := by omega
    subst ek
    refine z_lload 55 C dX8_harmonicIn_55 5 rfl ?_
    refine z_iload_n 57 C dX8_harmonicIn_57 3 rfl ?_
    refine z_if_eq 58 C 67 dX8_harmonicIn_58 (by decide) (fun c58 => ?_) (fun c58 => ?_)
    · skip
      refine z_ldc2 67 C dX8_harmonicIn_67 q1207 ?_
      refine z_goto 70 C 76 dX8_harmonicIn_70 (by decide) ?_
      refine z_callS 76 C (As := [.long (z_sm (z_sh (σ.2 r) f) t h 24), .long 24000000]) (rest := []) (m_X8_down (z_sm (z_sh (σ.2 r) f) t h 24) 24000000 (by decide)) k_X8_down q1116 ⟨rfl, rfl⟩ ⟨Nat.le_of_ble_eq_true rfl, Nat.le_of_ble_eq_true rfl⟩ rfl (Nat.le_of_ble_eq_true rfl) ⟨Nat.le_of_ble_eq_true rfl, Nat.le_of_ble_eq_true rfl⟩ rfl dX8_harmonicIn_76 (z_k1 ?_)
      refine z_lret 79 C dX8_harmonicIn_79 ?_
      first | exact ⟨z_cl (z_cf_1 (Or.inl ((z_nI0 (by omega)).mp c58))), rfl⟩ | exact ⟨z_cl (z_cf_1 (Or.inr c64)), rfl⟩ | exact ⟨z_cl (z_cf_2 (fun z => c58 ((z_nI0 (by omega)).mpr z)) c64), rfl⟩
    · skip
      refine z_iload_n 61 C dX8_harmonicIn_61 3 rfl ?_
      refine z_bipush 62 C dX8_harmonicIn_62 (nI 12) rfl ?_
      refine z_icmp_neN 64 C h 12 rfl rfl (by omega) (by omega) 73 dX8_harmonicIn_64 (by decide) (fun c64 => ?_) (fun c64 => ?_)
      · skip
        refine z_ldc2 73 C dX8_harmonicIn_73 q1208 ?_
        refine z_callS 76 C (As := [.long (z_sm (z_sh (σ.2 r) f) t h 24), .long 12000000]) (rest := []) (m_X8_down (z_sm (z_sh (σ.2 r) f) t h 24) 12000000 (by decide)) k_X8_down q1116 ⟨rfl, rfl⟩ ⟨Nat.le_of_ble_eq_true rfl, Nat.le_of_ble_eq_true rfl⟩ rfl (Nat.le_of_ble_eq_true rfl) ⟨Nat.le_of_ble_eq_true rfl, Nat.le_of_ble_eq_true rfl⟩ rfl dX8_harmonicIn_76 (z_k1 ?_)
        refine z_lret 79 C dX8_harmonicIn_79 ?_
        first | exact ⟨z_cl (z_cf_1 (Or.inl ((z_nI0 (by omega)).mp c58))), rfl⟩ | exact ⟨z_cl (z_cf_1 (Or.inr c64)), rfl⟩ | exact ⟨z_cl (z_cf_2 (fun z => c58 ((z_nI0 (by omega)).mpr z)) c64), rfl⟩
      · skip
        refine z_ldc2 67 C dX8_harmonicIn_67 q1207 ?_
        refine z_goto 70 C 76 dX8_harmonicIn_70 (by decide) ?_
        refine z_callS 76 C (As := [.long (z_sm (z_sh (σ.2 r) f) t h 24), .long 24000000]) (rest := []) (m_X8_down (z_sm (z_sh (σ.2 r) f) t h 24) 24000000 (by decide)) k_X8_down q1116 ⟨rfl, rfl⟩ ⟨Nat.le_of_ble_eq_true rfl, Nat.le_of_ble_eq_true rfl⟩ rfl (Nat.le_of_ble_eq_true rfl) ⟨Nat.le_of_ble_eq_true rfl, Nat.le_of_ble_eq_true rfl⟩ rfl dX8_harmonicIn_76 (z_k1 ?_)
        refine z_lret 79 C dX8_harmonicIn_79 ?_
        first | exact ⟨z_cl (z_cf_1 (Or.inl ((z_nI0 (by omega)).mp c58))), rfl⟩ | exact ⟨z_cl (z_cf_1 (Or.inr c64)), rfl⟩ | exact ⟨z_cl (z_cf_2 (fun z => c58 ((z_nI0 (by omega)).mpr z)) c64), rfl⟩
  · skip
    have hhk : h * k ≤ 12 * 24 := Nat.mul_le_mul hh (by omega)
    refine z_lload 13 C dX8_harmonicIn_13 5 rfl ?_
    refine z_aload_n 15 C dX8_harmonicIn_15 1 rfl ?_
    refine z_iload_n 16 C dX8_harmonicIn_16 2 rfl ?_
    refine z_iload 17 C dX8_harmonicIn_17 6 rfl ?_
    refine z_iaddN 19 C f k rfl rfl dX8_harmonicIn_19 ?_
    refine z_laldN 20 C r (n := sz) (hr) (f + k) rfl (by omega) (by omega) dX8_harmonicIn_20 ?_
    refine z_iload 21 C dX8_harmonicIn_21 4 rfl ?_
    refine z_if_eq 23 C 37 dX8_harmonicIn_23 (by decide) (fun c23 => ?_) (fun c23 => ?_)
    · skip
      have et : t = 0 := (z_nI0 (by omega)).mp c23
      refine z_aload_n 37 C dX8_harmonicIn_37 0 rfl ?_
      refine z_iload_n 38 C dX8_harmonicIn_38 3 rfl ?_
      refine z_iload 39 C dX8_harmonicIn_39 6 rfl ?_
      refine z_imulN 41 C h k rfl rfl dX8_harmonicIn_41 ?_
      refine z_callV 42 C 105 (⟨rfl, rfl⟩) rfl (As := [.int (nI (h * k))]) (rest := [.long (σ.2 r (f + k)), .long (z_sm (z_sh (σ.2 r) f) t h k)]) (m_X8_cosine_n P n u v w rc tl hM (h * k) (by omega)) k_X8_cosine q1203 ⟨rfl, rfl⟩ ⟨Nat.le_of_ble_eq_true rfl, Nat.le_of_ble_eq_true rfl⟩ rfl (Nat.le_of_ble_eq_true rfl) ⟨Nat.le_of_ble_eq_true rfl, Nat.le_of_ble_eq_true rfl⟩ rfl dX8_harmonicIn_42 (z_k1 ?_)
      refine z_lmul 45 C dX8_harmonicIn_45 ?_
      refine z_ladd 46 C dX8_harmonicIn_46 ?_
      refine z_lstore 47 C dX8_harmonicIn_47 [(5, .long ((z_sm (z_sh (σ.2 r) f) t h k) + ((σ.2 r (f + k)) * (Int32.toInt64 (z_tv 0 ((h * k) % 24)))))), (0, .ref (z_ad G 105)), (1, .ref (z_ad G r)), (2, .int (nI f)), (3, .int (nI h)), (4, .int (nI t)), (7, .int (nI k))] (by decide) rfl ?_
      refine z_iincN 49 C 6 k [(7, .int (nI (k + 1))), (5, .long ((z_sm (z_sh (σ.2 r) f) t h k) + ((σ.2 r (f + k)) * (Int32.toInt64 (z_tv 0 ((h * k) % 24)))))), (0, .ref (z_ad G 105)), (1, .ref (z_ad G r)), (2, .int (nI f)), (3, .int (nI h)), (4, .int (nI t))] rfl rfl (by decide) rfl dX8_harmonicIn_49 ?_
      refine z_goto 52 C 6 dX8_harmonicIn_52 (by decide) ?_
      refine z_sub [2, 3, 4, 5, 6, 1, 0] (lv1 := [(0, .ref (z_ad G 105)), (1, .ref (z_ad G r)), (2, .int (nI f)), (3, .int (nI h)), (4, .int (nI t)), (5, .long ((z_sm (z_sh (σ.2 r) f) t h k) + ((σ.2 r (f + k)) * (Int32.toInt64 (z_tv 0 ((h * k) % 24)))))), (7, .int (nI (k + 1)))]) rfl ?_
      refine z_cv (lv1 := [(0, .ref (z_ad G 105)), (1, .ref (z_ad G r)), (2, .int (nI f)), (3, .int (nI h)), (4, .int (nI t)), (5, .long (z_sm (z_sh (σ.2 r) f) t h (k + 1))), (7, .int (nI (k + 1)))]) (st1 := []) (σ1 := σ) (by subst et; rfl) rfl rfl ?_
      exact ih_6 (k + 1) (by omega) (by omega)
    · skip
      have et : t = 1 := by
        have : ¬ t = 0 := fun z => c23 ((z_nI0 (t := t) (by omega)).mpr z)
        omega
      refine z_aload_n 26 C dX8_harmonicIn_26 0 rfl ?_
      refine z_iload_n 27 C dX8_harmonicIn_27 3 rfl ?_
      refine z_iload 28 C dX8_harmonicIn_28 6 rfl ?_
      refine z_imulN 30 C h k rfl rfl dX8_harmonicIn_30 ?_
      refine z_callV 31 C 105 (⟨rfl, rfl⟩) rfl (As := [.int (nI (h * k))]) (rest := [.long (σ.2 r (f + k)), .long (z_sm (z_sh (σ.2 r) f) t h k)]) (m_X8_sine P n u v w rc tl hM (h * k) (by omega)) k_X8_sine q1199 ⟨rfl, rfl⟩ ⟨Nat.le_of_ble_eq_true rfl, Nat.le_of_ble_eq_true rfl⟩ rfl (Nat.le_of_ble_eq_true rfl) ⟨Nat.le_of_ble_eq_true rfl, Nat.le_of_ble_eq_true rfl⟩ rfl dX8_harmonicIn_31 (z_k1 ?_)
      refine z_goto 34 C 45 dX8_harmonicIn_34 (by decide) ?_
      refine z_lmul 45 C dX8_harmonicIn_45 ?_
      refine z_ladd 46 C dX8_harmonicIn_46 ?_
      refine z_lstore 47 C dX8_harmonicIn_47 [(5, .long ((z_sm (z_sh (σ.2 r) f) t h k) + ((σ.2 r (f + k)) * (Int32.toInt64 (z_tv 1 ((h * k) % 24)))))), (0, .ref (z_ad G 105)), (1, .ref (z_ad G r)), (2, .int (nI f)), (3, .int (nI h)), (4, .int (nI t)), (7, .int (nI k))] (by decide) rfl ?_
      refine z_iincN 49 C 6 k [(7, .int (nI (k + 1))), (5, .long ((z_sm (z_sh (σ.2 r) f) t h k) + ((σ.2 r (f + k)) * (Int32.toInt64 (z_tv 1 ((h * k) % 24)))))), (0, .ref (z_ad G 105)), (1, .ref (z_ad G r)), (2, .int (nI f)), (3, .int (nI h)), (4, .int (nI t))] rfl rfl (by decide) rfl dX8_harmonicIn_49 ?_
      refine z_goto 52 C 6 dX8_harmonicIn_52 (by decide) ?_
      refine z_sub [2, 3, 4, 5, 6, 1, 0] (lv1 := [(0, .ref (z_ad G 105)), (1, .ref (z_ad G r)), (2, .int (nI f)), (3, .int (nI h)), (4, .int (nI t)), (5, .long ((z_sm (z_sh (σ.2 r) f) t h k) + ((σ.2 r (f + k)) * (Int32.toInt64 (z_tv 1 ((h * k) % 24)))))), (7, .int (nI (k + 1)))]) rfl ?_
      refine z_cv (lv1 := [(0, .ref (z_ad G 105)), (1, .ref (z_ad G r)), (2, .int (nI f)), (3, .int (nI h)), (4, .int (nI t)), (5, .long (z_sm (z_sh (σ.2 r) f) t h (k + 1))), (7, .int (nI (k + 1)))]) (st1 := []) (σ1 := σ) (by subst et; rfl) rfl rfl ?_
      exact ih_6 (k + 1) (by omega) (by omega)
theorem dX8_harmonicOf_0 : decode cX8_harmonicOf 0 = .ok (.aload_n 0, 1) := by decide +kernel
theorem dX8_harmonicOf_1 : decode cX8_harmonicOf 1 = .ok (.aload_n 0, 1) := by decide +kernel
theorem dX8_harmonicOf_2 : decode cX8_harmonicOf 2 = .ok (.getfield 22, 3) := by decide +kernel
theorem dX8_harmonicOf_5 : decode cX8_harmonicOf 5 = .ok (.iconst 0, 1) := by decide +kernel
theorem dX8_harmonicOf_6 : decode cX8_harmonicOf 6 = .ok (.iload_n 1, 1) := by decide +kernel
theorem dX8_harmonicOf_7 : decode cX8_harmonicOf 7 = .ok (.iload_n 2, 1) := by decide +kernel
theorem dX8_harmonicOf_8 : decode cX8_harmonicOf 8 = .ok (.invokevirtual 181, 3) := by decide +kernel
theorem dX8_harmonicOf_11 : decode cX8_harmonicOf 11 = .ok (.lreturn, 1) := by decide +kernel
set_option maxRecDepth 100000 in
set_option maxHeartbeats 4000000 in
theorem m_X8_harmonicOf {l : Launch} {G : z_Gl} {σ : z_St} (P n u v w rc tl : Nat) (hM : z_mi σ P n u v w rc tl) (h t : Nat) (hh : h ≤ 12) (ht : t < 2) : z_M l G yX8_harmonicOf cX8_harmonicOf 3 (some .long) (z_rm 4 91) [.ref (z_ad G 105), .int (nI h), .int (nI t)] σ (z_p1 (.long (z_cf (σ.2 108) t h)) σ) := by
  refine z_M.of (by decide) (Nat.le_of_ble_eq_true rfl) (fun p e s m below meth c C => ?_)
  refine z_sub [0, 1, 2] (lv1 := [(0, .ref (z_ad G 105)), (1, .int (nI h)), (2, .int (nI t))]) rfl ?_
  have hM0 := hM
  obtain ⟨⟨hP, hn, hu, hv, hw, hrc, htl⟩, hPs, hnP, huv, hw6, hrc8, htl2, hqt, hah⟩ := hM0
  have h0 : 0 < P := by omega
  have h12 : P ≤ 12 := by omega
  have h288 : n ≤ 288 := by omega
  refine z_aload_n 0 C dX8_harmonicOf_0 0 rfl ?_
  refine z_aload_n 1 C dX8_harmonicOf_1 0 rfl ?_
  refine z_getf 2 C 105 z_dX8 (⟨rfl, rfl⟩) 4 (by decide) q970 (.ref (z_ad G 108)) rfl dX8_harmonicOf_2 ?_
  refine z_iconst 5 C dX8_harmonicOf_5 (nI 0) rfl ?_
  refine z_iload_n 6 C dX8_harmonicOf_6 1 rfl ?_
  refine z_iload_n 7 C dX8_harmonicOf_7 2 rfl ?_
  refine z_callV 8 C 105 (⟨rfl, rfl⟩) rfl (As := [.ref (z_ad G 108), .int (nI 0), .int (nI h), .int (nI t)]) (rest := []) (m_X8_harmonicIn P n u v w rc tl hM 108 0 h t 24 (⟨rfl, rfl⟩) (by omega) (by omega) (by omega) (by omega)) k_X8_harmonicIn q1195 ⟨rfl, rfl⟩ ⟨Nat.le_of_ble_eq_true rfl, Nat.le_of_ble_eq_true rfl⟩ rfl (Nat.le_of_ble_eq_true rfl) ⟨Nat.le_of_ble_eq_true rfl, Nat.le_of_ble_eq_true rfl⟩ rfl dX8_harmonicOf_8 (z_k1 ?_)
  refine z_lret 11 C dX8_harmonicOf_11 ?_
  exact ⟨z_cl (by rw [z_sh0]), rfl⟩
theorem dX8_strengthOf_0 : decode cX8_strengthOf 0 = .ok (.aload_n 0, 1) := by decide +kernel
theorem dX8_strengthOf_1 : decode cX8_strengthOf 1 = .ok (.iload_n 1, 1) := by decide +kernel
theorem dX8_strengthOf_2 : decode cX8_strengthOf 2 = .ok (.iconst 0, 1) := by decide +kernel
theorem dX8_strengthOf_3 : decode cX8_strengthOf 3 = .ok (.invokevirtual 157, 3) := by decide +kernel
theorem dX8_strengthOf_6 : decode cX8_strengthOf 6 = .ok (.invokestatic 111, 3) := by decide +kernel
theorem dX8_strengthOf_9 : decode cX8_strengthOf 9 = .ok (.aload_n 0, 1) := by decide +kernel
theorem dX8_strengthOf_10 : decode cX8_strengthOf 10 = .ok (.iload_n 1, 1) := by decide +kernel
theorem dX8_strengthOf_11 : decode cX8_strengthOf 11 = .ok (.iconst 1, 1) := by decide +kernel
theorem dX8_strengthOf_12 : decode cX8_strengthOf 12 = .ok (.invokevirtual 157, 3) := by decide +kernel
theorem dX8_strengthOf_15 : decode cX8_strengthOf 15 = .ok (.invokestatic 111, 3) := by decide +kernel
theorem dX8_strengthOf_18 : decode cX8_strengthOf 18 = .ok (.ladd, 1) := by decide +kernel
theorem dX8_strengthOf_19 : decode cX8_strengthOf 19 = .ok (.lreturn, 1) := by decide +kernel
set_option maxRecDepth 100000 in
set_option maxHeartbeats 4000000 in
theorem m_X8_strengthOf {l : Launch} {G : z_Gl} {σ : z_St} (P n u v w rc tl : Nat) (hM : z_mi σ P n u v w rc tl) (h : Nat) (hh : h ≤ 12) : z_M l G yX8_strengthOf cX8_strengthOf 2 (some .long) (z_rm 5 113) [.ref (z_ad G 105), .int (nI h)] σ (z_p1 (.long (z_sg (σ.2 108) h)) σ) := by
  refine z_M.of (by decide) (Nat.le_of_ble_eq_true rfl) (fun p e s m below meth c C => ?_)
  refine z_sub [0, 1] (lv1 := [(0, .ref (z_ad G 105)), (1, .int (nI h))]) rfl ?_
  have hM0 := hM
  obtain ⟨⟨hP, hn, hu, hv, hw, hrc, htl⟩, hPs, hnP, huv, hw6, hrc8, htl2, hqt, hah⟩ := hM0
  have h0 : 0 < P := by omega
  have h12 : P ≤ 12 := by omega
  have h288 : n ≤ 288 := by omega
  refine z_aload_n 0 C dX8_strengthOf_0 0 rfl ?_
  refine z_iload_n 1 C dX8_strengthOf_1 1 rfl ?_
  refine z_iconst 2 C dX8_strengthOf_2 (nI 0) rfl ?_
  refine z_callV 3 C 105 (⟨rfl, rfl⟩) rfl (As := [.int (nI h), .int (nI 0)]) (rest := []) (m_X8_harmonicOf P n u v w rc tl hM h 0 (by omega) (by omega)) k_X8_harmonicOf q1191 ⟨rfl, rfl⟩ ⟨Nat.le_of_ble_eq_true rfl, Nat.le_of_ble_eq_true rfl⟩ rfl (Nat.le_of_ble_eq_true rfl) ⟨Nat.le_of_ble_eq_true rfl, Nat.le_of_ble_eq_true rfl⟩ rfl dX8_strengthOf_3 (z_k1 ?_)
  refine z_callS 6 C (As := [.long (z_cf (σ.2 108) 0 h)]) (rest := []) (m_X8_size (z_cf (σ.2 108) 0 h)) k_X8_size q1113 ⟨rfl, rfl⟩ ⟨Nat.le_of_ble_eq_true rfl, Nat.le_of_ble_eq_true rfl⟩ rfl (Nat.le_of_ble_eq_true rfl) ⟨Nat.le_of_ble_eq_true rfl, Nat.le_of_ble_eq_true rfl⟩ rfl dX8_strengthOf_6 (z_k1 ?_)
  refine z_aload_n 9 C dX8_strengthOf_9 0 rfl ?_
  refine z_iload_n 10 C dX8_strengthOf_10 1 rfl ?_
  refine z_iconst 11 C dX8_strengthOf_11 (nI 1) rfl ?_
  refine z_callV 12 C 105 (⟨rfl, rfl⟩) rfl (As := [.int (nI h), .int (nI 1)]) (rest := [.long (z_ab (z_cf (σ.2 108) 0 h))]) (m_X8_harmonicOf P n u v w rc tl hM h 1 (by omega) (by omega)) k_X8_harmonicOf q1191 ⟨rfl, rfl⟩ ⟨Nat.le_of_ble_eq_true rfl, Nat.le_of_ble_eq_true rfl⟩ rfl (Nat.le_of_ble_eq_true rfl) ⟨Nat.le_of_ble_eq_true rfl, Nat.le_of_ble_eq_true rfl⟩ rfl dX8_strengthOf_12 (z_k1 ?_)
  refine z_callS 15 C (As := [.long (z_cf (σ.2 108) 1 h)]) (rest := [.long (z_ab (z_cf (σ.2 108) 0 h))]) (m_X8_size (z_cf (σ.2 108) 1 h)) k_X8_size q1113 ⟨rfl, rfl⟩ ⟨Nat.le_of_ble_eq_true rfl, Nat.le_of_ble_eq_true rfl⟩ rfl (Nat.le_of_ble_eq_true rfl) ⟨Nat.le_of_ble_eq_true rfl, Nat.le_of_ble_eq_true rfl⟩ rfl dX8_strengthOf_15 (z_k1 ?_)
  refine z_ladd 18 C dX8_strengthOf_18 ?_
  refine z_lret 19 C dX8_strengthOf_19 ?_
  exact ⟨rfl, rfl⟩
theorem dX8_harmonic_0 : decode cX8_harmonic 0 = .ok (.iload_n 1, 1) := by decide +kernel
theorem dX8_harmonic_1 : decode cX8_harmonic 1 = .ok (.invokestatic 189, 3) := by decide +kernel
theorem dX8_harmonic_4 : decode cX8_harmonic 4 = .ok (.ifCond .eq 9, 3) := by decide +kernel
theorem dX8_harmonic_7 : decode cX8_harmonic 7 = .ok (.invokestatic 127, 3) := by decide +kernel
theorem dX8_harmonic_10 : decode cX8_harmonic 10 = .ok (.goto 9, 3) := by decide +kernel
theorem dX8_harmonic_13 : decode cX8_harmonic 13 = .ok (.aload_n 0, 1) := by decide +kernel
theorem dX8_harmonic_14 : decode cX8_harmonic 14 = .ok (.iload_n 1, 1) := by decide +kernel
theorem dX8_harmonic_15 : decode cX8_harmonic 15 = .ok (.iload_n 2, 1) := by decide +kernel
theorem dX8_harmonic_16 : decode cX8_harmonic 16 = .ok (.invokevirtual 157, 3) := by decide +kernel
theorem dX8_harmonic_19 : decode cX8_harmonic 19 = .ok (.lreturn, 1) := by decide +kernel
set_option maxRecDepth 100000 in
set_option maxHeartbeats 4000000 in
theorem m_X8_harmonic {l : Launch} {G : z_Gl} {σ : z_St} (P n u v w rc tl : Nat) (hM : z_mi σ P n u v w rc tl) (x : Int32) (t : Nat) (ht : t < 2) : z_M l G yX8_harmonic cX8_harmonic 3 (some .long) (z_rm 5 113) [.ref (z_ad G 105), .int x, .int (nI t)] σ (z_p1 (.long (if x < nI 0 ∨ nI 12 < x then (-9223372036854775808) else z_cf (σ.2 108) t (z_n x))) σ) := by
  refine z_M.of (by decide) (Nat.le_of_ble_eq_true rfl) (fun p e s m below meth c C => ?_)
  refine z_sub [0, 1, 2] (lv1 := [(0, .ref (z_ad G 105)), (1, .int x), (2, .int (nI t))]) rfl ?_
  have hM0 := hM
  obtain ⟨⟨hP, hn, hu, hv, hw, hrc, htl⟩, hPs, hnP, huv, hw6, hrc8, htl2, hqt, hah⟩ := hM0
  have h0 : 0 < P := by omega
  have h12 : P ≤ 12 := by omega
  have h288 : n ≤ 288 := by omega
  refine z_iload_n 0 C dX8_harmonic_0 1 rfl ?_
  refine z_callS 1 C (As := [.int x]) (rest := []) (m_X8_noLobes x) k_X8_noLobes q1243 ⟨rfl, rfl⟩ ⟨Nat.le_of_ble_eq_true rfl, Nat.le_of_ble_eq_true rfl⟩ rfl (Nat.le_of_ble_eq_true rfl) ⟨Nat.le_of_ble_eq_true rfl, Nat.le_of_ble_eq_true rfl⟩ rfl dX8_harmonic_1 (z_k1 ?_)
  refine z_if_eqb 4 C 13 dX8_harmonic_4 (by decide) (fun c4 => ?_) (fun c4 => ?_)
  · skip
    obtain ⟨a, ha, rfl⟩ := z_in0 (by decide) c4
    refine z_aload_n 13 C dX8_harmonic_13 0 rfl ?_
    refine z_iload_n 14 C dX8_harmonic_14 1 rfl ?_
    refine z_iload_n 15 C dX8_harmonic_15 2 rfl ?_
    refine z_callV 16 C 105 (⟨rfl, rfl⟩) rfl (As := [.int (nI a), .int (nI t)]) (rest := []) (m_X8_harmonicOf P n u v w rc tl hM a t (by omega) (by omega)) k_X8_harmonicOf q1191 ⟨rfl, rfl⟩ ⟨Nat.le_of_ble_eq_true rfl, Nat.le_of_ble_eq_true rfl⟩ rfl (Nat.le_of_ble_eq_true rfl) ⟨Nat.le_of_ble_eq_true rfl, Nat.le_of_ble_eq_true rfl⟩ rfl dX8_harmonic_16 (z_k1 ?_)
    refine z_lret 19 C dX8_harmonic_19 ?_
    refine ⟨?_, ?_⟩
    · (rw [if_neg (c4), z_nk (k := a) (by omega)]) <;> (try rfl)
    · first | rfl | ((rw [if_neg (c4), z_nk (k := a) (by omega)]) <;> (try rfl))
  · skip
    refine z_callS 7 C (As := []) (rest := []) (m_X8_lost) k_X8_lost q1123 ⟨rfl, rfl⟩ ⟨Nat.le_of_ble_eq_true rfl, Nat.le_of_ble_eq_true rfl⟩ rfl (Nat.le_of_ble_eq_true rfl) ⟨Nat.le_of_ble_eq_true rfl, Nat.le_of_ble_eq_true rfl⟩ rfl dX8_harmonic_7 (z_k1 ?_)
    refine z_goto 10 C 19 dX8_harmonic_10 (by decide) ?_
    refine z_lret 19 C dX8_harmonic_19 ?_
    refine ⟨?_, ?_⟩
    · (rw [if_pos (c4)]) <;> (try rfl)
    · first | rfl | ((rw [if_pos (c4)]) <;> (try rfl))
theorem dX8_strength_0 : decode cX8_strength 0 = .ok (.iload_n 1, 1) := by decide +kernel
theorem dX8_strength_1 : decode cX8_strength 1 = .ok (.invokestatic 189, 3) := by decide +kernel
theorem dX8_strength_4 : decode cX8_strength 4 = .ok (.ifCond .eq 9, 3) := by decide +kernel
theorem dX8_strength_7 : decode cX8_strength 7 = .ok (.invokestatic 127, 3) := by decide +kernel
theorem dX8_strength_10 : decode cX8_strength 10 = .ok (.goto 8, 3) := by decide +kernel
theorem dX8_strength_13 : decode cX8_strength 13 = .ok (.aload_n 0, 1) := by decide +kernel
theorem dX8_strength_14 : decode cX8_strength 14 = .ok (.iload_n 1, 1) := by decide +kernel
theorem dX8_strength_15 : decode cX8_strength 15 = .ok (.invokevirtual 192, 3) := by decide +kernel
theorem dX8_strength_18 : decode cX8_strength 18 = .ok (.lreturn, 1) := by decide +kernel
set_option maxRecDepth 100000 in
set_option maxHeartbeats 4000000 in
theorem m_X8_strength {l : Launch} {G : z_Gl} {σ : z_St} (P n u v w rc tl : Nat) (hM : z_mi σ P n u v w rc tl) (x : Int32) : z_M l G yX8_strength cX8_strength 2 (some .long) (z_rm 6 134) [.ref (z_ad G 105), .int x] σ (z_p1 (.long (if x < nI 0 ∨ nI 12 < x then (-9223372036854775808) else z_sg (σ.2 108) (z_n x))) σ) := by
  refine z_M.of (by decide) (Nat.le_of_ble_eq_true rfl) (fun p e s m below meth c C => ?_)
  refine z_sub [0, 1] (lv1 := [(0, .ref (z_ad G 105)), (1, .int x)]) rfl ?_
  have hM0 := hM
  obtain ⟨⟨hP, hn, hu, hv, hw, hrc, htl⟩, hPs, hnP, huv, hw6, hrc8, htl2, hqt, hah⟩ := hM0
  have h0 : 0 < P := by omega
  have h12 : P ≤ 12 := by omega
  have h288 : n ≤ 288 := by omega
  refine z_iload_n 0 C dX8_strength_0 1 rfl ?_
  refine z_callS 1 C (As := [.int x]) (rest := []) (m_X8_noLobes x) k_X8_noLobes q1243 ⟨rfl, rfl⟩ ⟨Nat.le_of_ble_eq_true rfl, Nat.le_of_ble_eq_true rfl⟩ rfl (Nat.le_of_ble_eq_true rfl) ⟨Nat.le_of_ble_eq_true rfl, Nat.le_of_ble_eq_true rfl⟩ rfl dX8_strength_1 (z_k1 ?_)
  refine z_if_eqb 4 C 13 dX8_strength_4 (by decide) (fun c4 => ?_) (fun c4 => ?_)
  · skip
    obtain ⟨a, ha, rfl⟩ := z_in0 (by decide) c4
    refine z_aload_n 13 C dX8_strength_13 0 rfl ?_
    refine z_iload_n 14 C dX8_strength_14 1 rfl ?_
    refine z_callV 15 C 105 (⟨rfl, rfl⟩) rfl (As := [.int (nI a)]) (rest := []) (m_X8_strengthOf P n u v w rc tl hM a (by omega)) k_X8_strengthOf q1250 ⟨rfl, rfl⟩ ⟨Nat.le_of_ble_eq_true rfl, Nat.le_of_ble_eq_true rfl⟩ rfl (Nat.le_of_ble_eq_true rfl) ⟨Nat.le_of_ble_eq_true rfl, Nat.le_of_ble_eq_true rfl⟩ rfl dX8_strength_15 (z_k1 ?_)
    refine z_lret 18 C dX8_strength_18 ?_
    refine ⟨?_, ?_⟩
    · (rw [if_neg (c4), z_nk (k := a) (by omega)]) <;> (try rfl)
    · first | rfl | ((rw [if_neg (c4), z_nk (k := a) (by omega)]) <;> (try rfl))
  · skip
    refine z_callS 7 C (As := []) (rest := []) (m_X8_lost) k_X8_lost q1123 ⟨rfl, rfl⟩ ⟨Nat.le_of_ble_eq_true rfl, Nat.le_of_ble_eq_true rfl⟩ rfl (Nat.le_of_ble_eq_true rfl) ⟨Nat.le_of_ble_eq_true rfl, Nat.le_of_ble_eq_true rfl⟩ rfl dX8_strength_7 (z_k1 ?_)
    refine z_goto 10 C 18 dX8_strength_10 (by decide) ?_
    refine z_lret 18 C dX8_strength_18 ?_
    refine ⟨?_, ?_⟩
    · (rw [if_pos (c4)]) <;> (try rfl)
    · first | rfl | ((rw [if_pos (c4)]) <;> (try rfl))
theorem dX8_dominant_0 : decode cX8_dominant 0 = .ok (.iload_n 1, 1) := by decide +kernel
theorem dX8_dominant_1 : decode cX8_dominant 1 = .ok (.invokestatic 189, 3) := by decide +kernel
theorem dX8_dominant_4 : decode cX8_dominant 4 = .ok (.ifCond .eq 6, 3) := by decide +kernel
theorem dX8_dominant_7 : decode cX8_dominant 7 = .ok (.ldc 87, 2) := by decide +kernel
theorem dX8_dominant_9 : decode cX8_dominant 9 = .ok (.ireturn, 1) := by decide +kernel
theorem dX8_dominant_10 : decode cX8_dominant 10 = .ok (.iload_n 1, 1) := by decide +kernel
theorem dX8_dominant_11 : decode cX8_dominant 11 = .ok (.istore_n 2, 1) := by decide +kernel
theorem dX8_dominant_12 : decode cX8_dominant 12 = .ok (.iload_n 1, 1) := by decide +kernel
theorem dX8_dominant_13 : decode cX8_dominant 13 = .ok (.iconst 1, 1) := by decide +kernel
theorem dX8_dominant_14 : decode cX8_dominant 14 = .ok (.iadd, 1) := by decide +kernel
theorem dX8_dominant_15 : decode cX8_dominant 15 = .ok (.istore_n 3, 1) := by decide +kernel
theorem dX8_dominant_16 : decode cX8_dominant 16 = .ok (.iload_n 3, 1) := by decide +kernel
theorem dX8_dominant_17 : decode cX8_dominant 17 = .ok (.bipush 13, 2) := by decide +kernel
theorem dX8_dominant_19 : decode cX8_dominant 19 = .ok (.if_icmp .ge 29, 3) := by decide +kernel
theorem dX8_dominant_22 : decode cX8_dominant 22 = .ok (.aload_n 0, 1) := by decide +kernel
theorem dX8_dominant_23 : decode cX8_dominant 23 = .ok (.iload_n 3, 1) := by decide +kernel
theorem dX8_dominant_24 : decode cX8_dominant 24 = .ok (.invokevirtual 192, 3) := by decide +kernel
theorem dX8_dominant_27 : decode cX8_dominant 27 = .ok (.aload_n 0, 1) := by decide +kernel
theorem dX8_dominant_28 : decode cX8_dominant 28 = .ok (.iload_n 2, 1) := by decide +kernel
theorem dX8_dominant_29 : decode cX8_dominant 29 = .ok (.invokevirtual 192, 3) := by decide +kernel
theorem dX8_dominant_32 : decode cX8_dominant 32 = .ok (.lcmp, 1) := by decide +kernel
theorem dX8_dominant_33 : decode cX8_dominant 33 = .ok (.ifCond .le 7, 3) := by decide +kernel
theorem dX8_dominant_36 : decode cX8_dominant 36 = .ok (.iload_n 3, 1) := by decide +kernel
theorem dX8_dominant_37 : decode cX8_dominant 37 = .ok (.goto 4, 3) := by decide +kernel
theorem dX8_dominant_40 : decode cX8_dominant 40 = .ok (.iload_n 2, 1) := by decide +kernel
theorem dX8_dominant_41 : decode cX8_dominant 41 = .ok (.istore_n 2, 1) := by decide +kernel
theorem dX8_dominant_42 : decode cX8_dominant 42 = .ok (.iinc 3 1, 3) := by decide +kernel
theorem dX8_dominant_45 : decode cX8_dominant 45 = .ok (.goto (-29), 3) := by decide +kernel
theorem dX8_dominant_48 : decode cX8_dominant 48 = .ok (.iload_n 2, 1) := by decide +kernel
theorem dX8_dominant_49 : decode cX8_dominant 49 = .ok (.ireturn, 1) := by decide +kernel
set_option maxRecDepth 100000 in
set_option maxHeartbeats 4000000 in
theorem m_X8_dominant {l : Launch} {G : z_Gl} {σ : z_St} (P n u v w rc tl : Nat) (hM : z_mi σ P n u v w rc tl) (x : Int32) : z_M l G yX8_dominant cX8_dominant 4 (some .int) (z_rm 6 134) [.ref (z_ad G 105), .int x] σ (z_p1 (.int (if x < nI 0 ∨ nI 12 < x then (-1000001) else nI (z_dm (σ.2 108) (z_n x) (12 - z_n x)))) σ) := by
  refine z_M.of (by decide) (Nat.le_of_ble_eq_true rfl) (fun p e s m below meth c C => ?_)
  refine z_sub [0, 1] (lv1 := [(0, .ref (z_ad G 105)), (1, .int x)]) rfl ?_
  have hM0 := hM
  obtain ⟨⟨hP, hn, hu, hv, hw, hrc, htl⟩, hPs, hnP, huv, hw6, hrc8, htl2, hqt, hah⟩ := hM0
  have h0 : 0 < P := by omega
  have h12 : P ≤ 12 := by omega
  have h288 : n ≤ 288 := by omega
  refine z_iload_n 0 C dX8_dominant_0 1 rfl ?_
  refine z_callS 1 C (As := [.int x]) (rest := []) (m_X8_noLobes x) k_X8_noLobes q1243 ⟨rfl, rfl⟩ ⟨Nat.le_of_ble_eq_true rfl, Nat.le_of_ble_eq_true rfl⟩ rfl (Nat.le_of_ble_eq_true rfl) ⟨Nat.le_of_ble_eq_true rfl, Nat.le_of_ble_eq_true rfl⟩ rfl dX8_dominant_1 (z_k1 ?_)
  refine z_if_eqb 4 C 10 dX8_dominant_4 (by decide) (fun c4 => ?_) (fun c4 => ?_)
  · skip
    obtain ⟨a, ha, rfl⟩ := z_in0 (by decide) c4
    refine z_iload_n 10 C dX8_dominant_10 1 rfl ?_
    refine z_istore_n 11 C dX8_dominant_11 [(2, .int (nI a)), (0, .ref (z_ad G 105)), (1, .int (nI a))] (by decide) rfl ?_
    refine z_iload_n 12 C dX8_dominant_12 2 rfl ?_
    refine z_iconst 13 C dX8_dominant_13 (nI 1) rfl ?_
    refine z_iaddN 14 C a 1 rfl rfl dX8_dominant_14 ?_
    refine z_istore_n 15 C dX8_dominant_15 [(3, .int (nI (a + 1))), (2, .int (nI a)), (0, .ref (z_ad G 105)), (1, .int (nI a))] (by decide) rfl ?_
    refine z_sub [2, 3, 1, 0] (lv1 := [(0, .ref (z_ad G 105)), (1, .int (nI a)), (2, .int (nI a)), (3, .int (nI (a + 1)))]) rfl ?_
    refine z_cv (lv1 := [(0, .ref (z_ad G 105)), (1, .int (nI a)), (2, .int (nI (z_dm (σ.2 108) a 0))), (3, .int (nI (a + 1 + 0)))]) (st1 := []) (σ1 := σ) rfl rfl rfl ?_
    refine z_lp1 (fun (d : Nat) => a + d ≤ 12) (fun (d : Nat) => 12 - (a + d)) (fun (d : Nat) => [(0, .ref (z_ad G 105)), (1, .int (nI a)), (2, .int (nI (z_dm (σ.2 108) a d))), (3, .int (nI (a + 1 + d)))]) (fun (d : Nat) => σ) (fun d hi_16 ih_16 => ?_) 0 (by omega)
    try dsimp only
    refine z_iload_n 16 C dX8_dominant_16 3 rfl ?_
    refine z_bipush 17 C dX8_dominant_17 (nI 13) rfl ?_
    refine z_icmp_geN 19 C (a + 1 + d) 13 rfl rfl (by omega) (by omega) 48 dX8_dominant_19 (by decide) (fun c19 => ?_) (fun c19 => ?_)
    · skip
      have ed : d = 12 - a := by omega
      subst ed
      refine z_iload_n 48 C dX8_dominant_48 2 rfl ?_
      refine z_iret 49 C dX8_dominant_49 ?_
      exact ⟨z_ci (by rw [if_neg c4, z_nk (k := a) (by omega)]), rfl⟩
    · skip
      have hdm := zm_dm (σ.2 108) a (d := d)
      refine z_aload_n 22 C dX8_dominant_22 0 rfl ?_
      refine z_iload_n 23 C dX8_dominant_23 3 rfl ?_
      refine z_callV 24 C 105 (⟨rfl, rfl⟩) rfl (As := [.int (nI (a + 1 + d))]) (rest := []) (m_X8_strengthOf P n u v w rc tl hM (a + 1 + d) (by omega)) k_X8_strengthOf q1250 ⟨rfl, rfl⟩ ⟨Nat.le_of_ble_eq_true rfl, Nat.le_of_ble_eq_true rfl⟩ rfl (Nat.le_of_ble_eq_true rfl) ⟨Nat.le_of_ble_eq_true rfl, Nat.le_of_ble_eq_true rfl⟩ rfl dX8_dominant_24 (z_k1 ?_)
      refine z_aload_n 27 C dX8_dominant_27 0 rfl ?_
      refine z_iload_n 28 C dX8_dominant_28 2 rfl ?_
      refine z_callV 29 C 105 (⟨rfl, rfl⟩) rfl (As := [.int (nI (z_dm (σ.2 108) a d))]) (rest := [.long (z_sg (σ.2 108) (a + 1 + d))]) (m_X8_strengthOf P n u v w rc tl hM (z_dm (σ.2 108) a d) (by omega)) k_X8_strengthOf q1250 ⟨rfl, rfl⟩ ⟨Nat.le_of_ble_eq_true rfl, Nat.le_of_ble_eq_true rfl⟩ rfl (Nat.le_of_ble_eq_true rfl) ⟨Nat.le_of_ble_eq_true rfl, Nat.le_of_ble_eq_true rfl⟩ rfl dX8_dominant_29 (z_k1 ?_)
      refine z_lcmp_le 32 C 40 dX8_dominant_32 dX8_dominant_33 (by decide) (fun c32 => ?_) (fun c32 => ?_)
      · skip
        refine z_iload_n 40 C dX8_dominant_40 2 rfl ?_
        refine z_istore_n 41 C dX8_dominant_41 [(2, .int (nI (z_dm (σ.2 108) a d))), (0, .ref (z_ad G 105)), (1, .int (nI a)), (3, .int (nI (a + 1 + d)))] (by decide) rfl ?_
        refine z_iincN 42 C 3 (a + 1 + d) [(3, .int (nI (a + 1 + d + 1))), (2, .int (nI (z_dm (σ.2 108) a d))), (0, .ref (z_ad G 105)), (1, .int (nI a))] rfl rfl (by decide) rfl dX8_dominant_42 ?_
        refine z_goto 45 C 16 dX8_dominant_45 (by decide) ?_
        refine z_sub [2, 3, 1, 0] (lv1 := [(0, .ref (z_ad G 105)), (1, .int (nI a)), (2, .int (nI (z_dm (σ.2 108) a d))), (3, .int (nI (a + 1 + d + 1)))]) rfl ?_
        refine z_cv (lv1 := [(0, .ref (z_ad G 105)), (1, .int (nI a)), (2, .int (nI (z_dm (σ.2 108) a (d + 1)))), (3, .int (nI (a + 1 + (d + 1))))]) (st1 := []) (σ1 := σ) (by first | rw [z_dm_n (Int64.not_lt.mpr c32)] <;> rfl | rw [z_dm_s (Int64.not_le.mp c32)] <;> rfl) rfl rfl ?_
        exact ih_16 (d + 1) (by omega) (by omega)
      · skip
        refine z_iload_n 36 C dX8_dominant_36 3 rfl ?_
        refine z_goto 37 C 41 dX8_dominant_37 (by decide) ?_
        refine z_istore_n 41 C dX8_dominant_41 [(2, .int (nI (a + 1 + d))), (0, .ref (z_ad G 105)), (1, .int (nI a)), (3, .int (nI (a + 1 + d)))] (by decide) rfl ?_
        refine z_iincN 42 C 3 (a + 1 + d) [(3, .int (nI (a + 1 + d + 1))), (2, .int (nI (a + 1 + d))), (0, .ref (z_ad G 105)), (1, .int (nI a))] rfl rfl (by decide) rfl dX8_dominant_42 ?_
        refine z_goto 45 C 16 dX8_dominant_45 (by decide) ?_
        refine z_sub [2, 3, 1, 0] (lv1 := [(0, .ref (z_ad G 105)), (1, .int (nI a)), (2, .int (nI (a + 1 + d))), (3, .int (nI (a + 1 + d + 1)))]) rfl ?_
        refine z_cv (lv1 := [(0, .ref (z_ad G 105)), (1, .int (nI a)), (2, .int (nI (z_dm (σ.2 108) a (d + 1)))), (3, .int (nI (a + 1 + (d + 1))))]) (st1 := []) (σ1 := σ) (by first | rw [z_dm_n (Int64.not_lt.mpr c32)] <;> rfl | rw [z_dm_s (Int64.not_le.mp c32)] <;> rfl) rfl rfl ?_
        exact ih_16 (d + 1) (by omega) (by omega)
  · skip
    refine z_ldc 7 C dX8_dominant_7 q1064 ?_
    refine z_iret 9 C dX8_dominant_9 ?_
    exact ⟨z_ci (by rw [if_pos c4]), rfl⟩
theorem dX8_takes_0 : decode cX8_takes 0 = .ok (.aload_n 0, 1) := by decide +kernel
theorem dX8_takes_1 : decode cX8_takes 1 = .ok (.getfield 139, 3) := by decide +kernel
theorem dX8_takes_4 : decode cX8_takes 4 = .ok (.bipush 20, 2) := by decide +kernel
theorem dX8_takes_6 : decode cX8_takes 6 = .ok (.if_icmp .ne 47, 3) := by decide +kernel
theorem dX8_takes_9 : decode cX8_takes 9 = .ok (.aload_n 0, 1) := by decide +kernel
theorem dX8_takes_10 : decode cX8_takes 10 = .ok (.dup, 1) := by decide +kernel
theorem dX8_takes_11 : decode cX8_takes 11 = .ok (.getfield 139, 3) := by decide +kernel
theorem dX8_takes_14 : decode cX8_takes 14 = .ok (.iconst 1, 1) := by decide +kernel
theorem dX8_takes_15 : decode cX8_takes 15 = .ok (.isub, 1) := by decide +kernel
theorem dX8_takes_16 : decode cX8_takes 16 = .ok (.putfield 139, 3) := by decide +kernel
theorem dX8_takes_19 : decode cX8_takes 19 = .ok (.iconst 0, 1) := by decide +kernel
theorem dX8_takes_20 : decode cX8_takes 20 = .ok (.istore_n 1, 1) := by decide +kernel
theorem dX8_takes_21 : decode cX8_takes 21 = .ok (.iload_n 1, 1) := by decide +kernel
theorem dX8_takes_22 : decode cX8_takes 22 = .ok (.bipush 24, 2) := by decide +kernel
theorem dX8_takes_24 : decode cX8_takes 24 = .ok (.aload_n 0, 1) := by decide +kernel
theorem dX8_takes_25 : decode cX8_takes 25 = .ok (.getfield 139, 3) := by decide +kernel
theorem dX8_takes_28 : decode cX8_takes 28 = .ok (.imul, 1) := by decide +kernel
theorem dX8_takes_29 : decode cX8_takes 29 = .ok (.if_icmp .ge 24, 3) := by decide +kernel
theorem dX8_takes_32 : decode cX8_takes 32 = .ok (.aload_n 0, 1) := by decide +kernel
theorem dX8_takes_33 : decode cX8_takes 33 = .ok (.getfield 29, 3) := by decide +kernel
theorem dX8_takes_36 : decode cX8_takes 36 = .ok (.iload_n 1, 1) := by decide +kernel
theorem dX8_takes_37 : decode cX8_takes 37 = .ok (.aload_n 0, 1) := by decide +kernel
theorem dX8_takes_38 : decode cX8_takes 38 = .ok (.getfield 29, 3) := by decide +kernel
theorem dX8_takes_41 : decode cX8_takes 41 = .ok (.iload_n 1, 1) := by decide +kernel
theorem dX8_takes_42 : decode cX8_takes 42 = .ok (.bipush 24, 2) := by decide +kernel
theorem dX8_takes_44 : decode cX8_takes 44 = .ok (.iadd, 1) := by decide +kernel
theorem dX8_takes_45 : decode cX8_takes 45 = .ok (.laload, 1) := by decide +kernel
theorem dX8_takes_46 : decode cX8_takes 46 = .ok (.lastore, 1) := by decide +kernel
theorem dX8_takes_47 : decode cX8_takes 47 = .ok (.iinc 1 1, 3) := by decide +kernel
theorem dX8_takes_50 : decode cX8_takes 50 = .ok (.goto (-29), 3) := by decide +kernel
theorem dX8_takes_53 : decode cX8_takes 53 = .ok (.iconst 0, 1) := by decide +kernel
theorem dX8_takes_54 : decode cX8_takes 54 = .ok (.istore_n 1, 1) := by decide +kernel
theorem dX8_takes_55 : decode cX8_takes 55 = .ok (.iconst 0, 1) := by decide +kernel
theorem dX8_takes_56 : decode cX8_takes 56 = .ok (.istore_n 2, 1) := by decide +kernel
theorem dX8_takes_57 : decode cX8_takes 57 = .ok (.iload_n 2, 1) := by decide +kernel
theorem dX8_takes_58 : decode cX8_takes 58 = .ok (.bipush 24, 2) := by decide +kernel
theorem dX8_takes_60 : decode cX8_takes 60 = .ok (.if_icmp .ge 63, 3) := by decide +kernel
theorem dX8_takes_63 : decode cX8_takes 63 = .ok (.aload_n 0, 1) := by decide +kernel
theorem dX8_takes_64 : decode cX8_takes 64 = .ok (.getfield 29, 3) := by decide +kernel
theorem dX8_takes_67 : decode cX8_takes 67 = .ok (.bipush 24, 2) := by decide +kernel
theorem dX8_takes_69 : decode cX8_takes 69 = .ok (.aload_n 0, 1) := by decide +kernel
theorem dX8_takes_70 : decode cX8_takes 70 = .ok (.getfield 139, 3) := by decide +kernel
theorem dX8_takes_73 : decode cX8_takes 73 = .ok (.imul, 1) := by decide +kernel
theorem dX8_takes_74 : decode cX8_takes 74 = .ok (.iload_n 2, 1) := by decide +kernel
theorem dX8_takes_75 : decode cX8_takes 75 = .ok (.iadd, 1) := by decide +kernel
theorem dX8_takes_76 : decode cX8_takes 76 = .ok (.aload_n 0, 1) := by decide +kernel
theorem dX8_takes_77 : decode cX8_takes 77 = .ok (.getfield 22, 3) := by decide +kernel
theorem dX8_takes_80 : decode cX8_takes 80 = .ok (.iload_n 2, 1) := by decide +kernel
theorem dX8_takes_81 : decode cX8_takes 81 = .ok (.laload, 1) := by decide +kernel
theorem dX8_takes_82 : decode cX8_takes 82 = .ok (.lastore, 1) := by decide +kernel
theorem dX8_takes_83 : decode cX8_takes 83 = .ok (.aload_n 0, 1) := by decide +kernel
theorem dX8_takes_84 : decode cX8_takes 84 = .ok (.getfield 22, 3) := by decide +kernel
theorem dX8_takes_87 : decode cX8_takes 87 = .ok (.iload_n 2, 1) := by decide +kernel
theorem dX8_takes_88 : decode cX8_takes 88 = .ok (.laload, 1) := by decide +kernel
theorem dX8_takes_89 : decode cX8_takes 89 = .ok (.aload_n 0, 1) := by decide +kernel
theorem dX8_takes_90 : decode cX8_takes 90 = .ok (.getfield 26, 3) := by decide +kernel
theorem dX8_takes_93 : decode cX8_takes 93 = .ok (.iload_n 2, 1) := by decide +kernel
theorem dX8_takes_94 : decode cX8_takes 94 = .ok (.laload, 1) := by decide +kernel
theorem dX8_takes_95 : decode cX8_takes 95 = .ok (.lcmp, 1) := by decide +kernel
theorem dX8_takes_96 : decode cX8_takes 96 = .ok (.ifCond .eq 7, 3) := by decide +kernel
theorem dX8_takes_99 : decode cX8_takes 99 = .ok (.iconst 1, 1) := by decide +kernel
theorem dX8_takes_100 : decode cX8_takes 100 = .ok (.goto 4, 3) := by decide +kernel
theorem dX8_takes_103 : decode cX8_takes 103 = .ok (.iload_n 1, 1) := by decide +kernel
theorem dX8_takes_104 : decode cX8_takes 104 = .ok (.istore_n 1, 1) := by decide +kernel
theorem dX8_takes_105 : decode cX8_takes 105 = .ok (.aload_n 0, 1) := by decide +kernel
theorem dX8_takes_106 : decode cX8_takes 106 = .ok (.getfield 22, 3) := by decide +kernel
theorem dX8_takes_109 : decode cX8_takes 109 = .ok (.iload_n 2, 1) := by decide +kernel
theorem dX8_takes_110 : decode cX8_takes 110 = .ok (.aload_n 0, 1) := by decide +kernel
theorem dX8_takes_111 : decode cX8_takes 111 = .ok (.getfield 26, 3) := by decide +kernel
theorem dX8_takes_114 : decode cX8_takes 114 = .ok (.iload_n 2, 1) := by decide +kernel
theorem dX8_takes_115 : decode cX8_takes 115 = .ok (.laload, 1) := by decide +kernel
theorem dX8_takes_116 : decode cX8_takes 116 = .ok (.lastore, 1) := by decide +kernel
theorem dX8_takes_117 : decode cX8_takes 117 = .ok (.iinc 2 1, 3) := by decide +kernel
theorem dX8_takes_120 : decode cX8_takes 120 = .ok (.goto (-63), 3) := by decide +kernel
theorem dX8_takes_123 : decode cX8_takes 123 = .ok (.aload_n 0, 1) := by decide +kernel
theorem dX8_takes_124 : decode cX8_takes 124 = .ok (.dup, 1) := by decide +kernel
theorem dX8_takes_125 : decode cX8_takes 125 = .ok (.getfield 139, 3) := by decide +kernel
theorem dX8_takes_128 : decode cX8_takes 128 = .ok (.iconst 1, 1) := by decide +kernel
theorem dX8_takes_129 : decode cX8_takes 129 = .ok (.iadd, 1) := by decide +kernel
theorem dX8_takes_130 : decode cX8_takes 130 = .ok (.putfield 139, 3) := by decide +kernel
theorem dX8_takes_133 : decode cX8_takes 133 = .ok (.aload_n 0, 1) := by decide +kernel
theorem dX8_takes_134 : decode cX8_takes 134 = .ok (.iconst 0, 1) := by decide +kernel
theorem dX8_takes_135 : decode cX8_takes 135 = .ok (.putfield 142, 3) := by decide +kernel
theorem dX8_takes_138 : decode cX8_takes 138 = .ok (.iload_n 1, 1) := by decide +kernel
theorem dX8_takes_139 : decode cX8_takes 139 = .ok (.ireturn, 1) := by decide +kernel
set_option maxRecDepth 100000 in
set_option maxHeartbeats 4000000 in
theorem m_X8_takes {l : Launch} {G : z_Gl} {σ : z_St} (P n u v w rc tl : Nat) (hM : z_mi σ P n u v w rc tl) : z_M l G yX8_takes cX8_takes 3 (some .int) (z_rm 0 0) [.ref (z_ad G 105)] σ (z_p1 (.int (z_bo (¬ z_eq24 (σ.2 108) (σ.2 109)))) (z_mtk σ u)) := by
  refine z_M.of (by decide) (Nat.le_of_ble_eq_true rfl) (fun p e s m below meth c C => ?_)
  refine z_sub [0] (lv1 := [(0, .ref (z_ad G 105))]) rfl ?_
  have hM0 := hM
  obtain ⟨⟨hP, hn, hu, hv, hw, hrc, htl⟩, hPs, hnP, huv, hw6, hrc8, htl2, hqt, hah⟩ := hM0
  have h0 : 0 < P := by omega
  have h12 : P ≤ 12 := by omega
  have h288 : n ≤ 288 := by omega
  refine z_aload_n 0 C dX8_takes_0 0 rfl ?_
  refine z_getf 1 C 105 z_dX8 (⟨rfl, rfl⟩) 8 (by decide) q974 (.int (nI u)) (z_ci hu) dX8_takes_1 ?_
  refine z_bipush 4 C dX8_takes_4 (nI 20) rfl ?_
  refine z_icmp_neN 6 C u 20 rfl rfl (by omega) (by omega) 53 dX8_takes_6 (by decide) (fun c6 => ?_) (fun c6 => ?_)
  · skip
    refine z_iconst 53 C dX8_takes_53 (nI 0) rfl ?_
    refine z_istore_n 54 C dX8_takes_54 [(1, .int (nI 0)), (0, .ref (z_ad G 105))] (by decide) rfl ?_
    refine z_iconst 55 C dX8_takes_55 (nI 0) rfl ?_
    refine z_istore_n 56 C dX8_takes_56 [(2, .int (nI 0)), (1, .int (nI 0)), (0, .ref (z_ad G 105))] (by decide) rfl ?_
    refine z_sub [2, 1, 0] (lv1 := [(0, .ref (z_ad G 105)), (1, .int (nI 0)), (2, .int (nI 0))]) rfl ?_
    refine z_cv (lv1 := [(0, .ref (z_ad G 105)), (1, .int (z_bo (zm_ne (σ.2 108) (σ.2 109) 0))), (2, .int (nI 0))]) (st1 := []) (σ1 := z_uL (z_uL σ 110 (fb_put (σ.2 110) (σ.2 108) (24 * u) 0)) 108 (z_fil (σ.2 109) (σ.2 108) 0)) (by rw [← zm_ne0]) rfl (by rw [fb_put_0, z_fil_0, z_uL_same, z_uL_same]) ?_
    refine z_lp1 (fun (k : Nat) => k ≤ 24) (fun (k : Nat) => 24 - k) (fun (k : Nat) => [(0, .ref (z_ad G 105)), (1, .int (z_bo (zm_ne (σ.2 108) (σ.2 109) k))), (2, .int (nI k))]) (fun (k : Nat) => z_uL (z_uL σ 110 (fb_put (σ.2 110) (σ.2 108) (24 * u) k)) 108 (z_fil (σ.2 109) (σ.2 108) k)) (fun k hi_57 ih_57 => ?_) 0 (by omega)
    try dsimp only
    refine z_iload_n 57 C dX8_takes_57 2 rfl ?_
    refine z_bipush 58 C dX8_takes_58 (nI 24) rfl ?_
    refine z_icmp_geN 60 C k 24 rfl rfl (by omega) (by omega) 123 dX8_takes_60 (by decide) (fun c60 => ?_) (fun c60 => ?_)
    · skip
      have ek : k = 24 := by omega
      subst ek
      refine z_aload_n 123 C dX8_takes_123 0 rfl ?_
      refine z_dup 124 C dX8_takes_124 rfl ?_
      refine z_getf 125 C 105 z_dX8 (⟨rfl, rfl⟩) 8 (by decide) q974 (.int (nI u)) (z_ci hu) dX8_takes_125 ?_
      refine z_iconst 128 C dX8_takes_128 (nI 1) rfl ?_
      refine z_iaddN 129 C u 1 rfl rfl dX8_takes_129 ?_
      refine z_puti 130 C 105 z_dX8 (⟨rfl, rfl⟩) 8 (by decide) q974 rfl (rfl) rfl ⟨Nat.le_of_ble_eq_true rfl, rfl⟩ dX8_takes_130 ?_
      refine z_aload_n 133 C dX8_takes_133 0 rfl ?_
      refine z_iconst 134 C dX8_takes_134 (nI 0) rfl ?_
      refine z_puti 135 C 105 z_dX8 (⟨rfl, rfl⟩) 9 (by decide) q975 rfl (rfl) rfl ⟨Nat.le_of_ble_eq_true rfl, rfl⟩ dX8_takes_135 ?_
      refine z_iload_n 138 C dX8_takes_138 1 rfl ?_
      refine z_iret 139 C dX8_takes_139 ?_
      exact ⟨z_ci (z_bo_iff Iff.rfl), zm_tk0 σ c6⟩
    · skip
      refine z_aload_n 63 C dX8_takes_63 0 rfl ?_
      refine z_getf 64 C 105 z_dX8 (⟨rfl, rfl⟩) 6 (by decide) q972 (.ref (z_ad G 110)) rfl dX8_takes_64 ?_
      refine z_bipush 67 C dX8_takes_67 (nI 24) rfl ?_
      refine z_aload_n 69 C dX8_takes_69 0 rfl ?_
      refine z_getf 70 C 105 z_dX8 (⟨rfl, rfl⟩) 8 (by decide) q974 (.int (nI u)) (z_ci hu) dX8_takes_70 ?_
      refine z_imulN 73 C 24 u rfl rfl dX8_takes_73 ?_
      refine z_iload_n 74 C dX8_takes_74 2 rfl ?_
      refine z_iaddN 75 C (24 * u) k rfl rfl dX8_takes_75 ?_
      refine z_aload_n 76 C dX8_takes_76 0 rfl ?_
      refine z_getf 77 C 105 z_dX8 (⟨rfl, rfl⟩) 4 (by decide) q970 (.ref (z_ad G 108)) rfl dX8_takes_77 ?_
      refine z_iload_n 80 C dX8_takes_80 2 rfl ?_
      refine z_laldN 81 C 108 (n := 24) (⟨rfl, rfl⟩) k rfl (by omega) (by decide) dX8_takes_81 ?_
      refine z_cv (lv1 := [(0, .ref (z_ad G 105)), (1, .int (z_bo (zm_ne (σ.2 108) (σ.2 109) k))), (2, .int (nI k))]) (st1 := [.long (σ.2 108 k), .int (nI ((24 * u) + k)), .ref (z_ad G 110)]) (σ1 := z_uL (z_uL σ 110 (fb_put (σ.2 110) (σ.2 108) (24 * u) k)) 108 (z_fil (σ.2 109) (σ.2 108) k)) rfl (by rw [z_uL2s, z_fil_ge (Nat.le_refl k)]) rfl ?_
      refine z_lastN 82 C 110 (n := 480) (⟨rfl, rfl⟩) ((24 * u) + k) rfl (by omega) (by decide) dX8_takes_82 ?_
      refine z_aload_n 83 C dX8_takes_83 0 rfl ?_
      refine z_getf 84 C 105 z_dX8 (⟨rfl, rfl⟩) 4 (by decide) q970 (.ref (z_ad G 108)) rfl dX8_takes_84 ?_
      refine z_iload_n 87 C dX8_takes_87 2 rfl ?_
      refine z_laldN 88 C 108 (n := 24) (⟨rfl, rfl⟩) k rfl (by omega) (by decide) dX8_takes_88 ?_
      refine z_cv (lv1 := [(0, .ref (z_ad G 105)), (1, .int (z_bo (zm_ne (σ.2 108) (σ.2 109) k))), (2, .int (nI k))]) (st1 := [.long (σ.2 108 k)]) (σ1 := z_ul (z_uL (z_uL σ 110 (fb_put (σ.2 110) (σ.2 108) (24 * u) k)) 108 (z_fil (σ.2 109) (σ.2 108) k)) 110 ((24 * u) + k) (σ.2 108 k)) rfl (by show [Value.long (z_fil (σ.2 109) (σ.2 108) k k)] = _; rw [z_fil_ge (Nat.le_refl k)]) rfl ?_
      refine z_aload_n 89 C dX8_takes_89 0 rfl ?_
      refine z_getf 90 C 105 z_dX8 (⟨rfl, rfl⟩) 5 (by decide) q971 (.ref (z_ad G 109)) rfl dX8_takes_90 ?_
      refine z_iload_n 93 C dX8_takes_93 2 rfl ?_
      refine z_laldN 94 C 109 (n := 24) (⟨rfl, rfl⟩) k rfl (by omega) (by decide) dX8_takes_94 ?_
      refine z_cv (st1 := [.long (σ.2 109 k), .long (σ.2 108 k)]) rfl rfl rfl ?_
      refine z_lcmp_eq 95 C 103 dX8_takes_95 dX8_takes_96 (by decide) (fun c95 => ?_) (fun c95 => ?_)
      · skip
        refine z_iload_n 103 C dX8_takes_103 1 rfl ?_
        refine z_istore_n 104 C dX8_takes_104 [(1, .int (z_bo (zm_ne (σ.2 108) (σ.2 109) k))), (0, .ref (z_ad G 105)), (2, .int (nI k))] (by decide) rfl ?_
        refine z_aload_n 105 C dX8_takes_105 1 rfl ?_
        refine z_getf 106 C 105 z_dX8 (⟨rfl, rfl⟩) 4 (by decide) q970 (.ref (z_ad G 108)) rfl dX8_takes_106 ?_
        refine z_iload_n 109 C dX8_takes_109 2 rfl ?_
        refine z_aload_n 110 C dX8_takes_110 1 rfl ?_
        refine z_getf 111 C 105 z_dX8 (⟨rfl, rfl⟩) 5 (by decide) q971 (.ref (z_ad G 109)) rfl dX8_takes_111 ?_
        refine z_iload_n 114 C dX8_takes_114 2 rfl ?_
        refine z_laldN 115 C 109 (n := 24) (⟨rfl, rfl⟩) k rfl (by omega) (by decide) dX8_takes_115 ?_
        refine z_cv (st1 := [.long (σ.2 109 k), .int (nI k), .ref (z_ad G 108)]) rfl rfl rfl ?_
        refine z_lastN 116 C 108 (n := 24) (⟨rfl, rfl⟩) k rfl (by omega) (by decide) dX8_takes_116 ?_
        refine z_iincN 117 C 2 k [(2, .int (nI (k + 1))), (1, .int (z_bo (zm_ne (σ.2 108) (σ.2 109) k))), (0, .ref (z_ad G 105))] rfl rfl (by decide) rfl dX8_takes_117 ?_
        refine z_goto 120 C 57 dX8_takes_120 (by decide) ?_
        refine z_sub [2, 1, 0] (lv1 := [(0, .ref (z_ad G 105)), (1, .int (z_bo (zm_ne (σ.2 108) (σ.2 109) k))), (2, .int (nI (k + 1)))]) rfl ?_
        refine z_cv (lv1 := [(0, .ref (z_ad G 105)), (1, .int (z_bo (zm_ne (σ.2 108) (σ.2 109) (k + 1)))), (2, .int (nI (k + 1)))]) (st1 := []) (σ1 := z_uL (z_uL σ 110 (fb_put (σ.2 110) (σ.2 108) (24 * u) (k + 1))) 108 (z_fil (σ.2 109) (σ.2 108) (k + 1))) (by first | rw [zm_ne2 c95] | rw [← zm_ne1 c95]) rfl (zm_put2 _ (by decide) fb_putL z_filS1.symm) ?_
        exact ih_57 (k + 1) (by omega) (by omega)
      · skip
        refine z_iconst 99 C dX8_takes_99 (nI 1) rfl ?_
        refine z_goto 100 C 104 dX8_takes_100 (by decide) ?_
        refine z_istore_n 104 C dX8_takes_104 [(1, .int (nI 1)), (0, .ref (z_ad G 105)), (2, .int (nI k))] (by decide) rfl ?_
        refine z_aload_n 105 C dX8_takes_105 1 rfl ?_
        refine z_getf 106 C 105 z_dX8 (⟨rfl, rfl⟩) 4 (by decide) q970 (.ref (z_ad G 108)) rfl dX8_takes_106 ?_
        refine z_iload_n 109 C dX8_takes_109 2 rfl ?_
        refine z_aload_n 110 C dX8_takes_110 1 rfl ?_
        refine z_getf 111 C 105 z_dX8 (⟨rfl, rfl⟩) 5 (by decide) q971 (.ref (z_ad G 109)) rfl dX8_takes_111 ?_
        refine z_iload_n 114 C dX8_takes_114 2 rfl ?_
        refine z_laldN 115 C 109 (n := 24) (⟨rfl, rfl⟩) k rfl (by omega) (by decide) dX8_takes_115 ?_
        refine z_cv (st1 := [.long (σ.2 109 k), .int (nI k), .ref (z_ad G 108)]) rfl rfl rfl ?_
        refine z_lastN 116 C 108 (n := 24) (⟨rfl, rfl⟩) k rfl (by omega) (by decide) dX8_takes_116 ?_
        refine z_iincN 117 C 2 k [(2, .int (nI (k + 1))), (1, .int (nI 1)), (0, .ref (z_ad G 105))] rfl rfl (by decide) rfl dX8_takes_117 ?_
        refine z_goto 120 C 57 dX8_takes_120 (by decide) ?_
        refine z_sub [2, 1, 0] (lv1 := [(0, .ref (z_ad G 105)), (1, .int (nI 1)), (2, .int (nI (k + 1)))]) rfl ?_
        refine z_cv (lv1 := [(0, .ref (z_ad G 105)), (1, .int (z_bo (zm_ne (σ.2 108) (σ.2 109) (k + 1)))), (2, .int (nI (k + 1)))]) (st1 := []) (σ1 := z_uL (z_uL σ 110 (fb_put (σ.2 110) (σ.2 108) (24 * u) (k + 1))) 108 (z_fil (σ.2 109) (σ.2 108) (k + 1))) (by first | rw [zm_ne2 c95] | rw [← zm_ne1 c95]) rfl (zm_put2 _ (by decide) fb_putL z_filS1.symm) ?_
        exact ih_57 (k + 1) (by omega) (by omega)
  · skip
    have eu : u = 20 := c6
    subst eu
    refine z_aload_n 9 C dX8_takes_9 0 rfl ?_
    refine z_dup 10 C dX8_takes_10 rfl ?_
    refine z_getf 11 C 105 z_dX8 (⟨rfl, rfl⟩) 8 (by decide) q974 (.int (nI 20)) (z_ci hu) dX8_takes_11 ?_
    refine z_iconst 14 C dX8_takes_14 (nI 1) rfl ?_
    refine z_isubN 15 C 20 1 rfl rfl (by omega) dX8_takes_15 ?_
    refine z_puti 16 C 105 z_dX8 (⟨rfl, rfl⟩) 8 (by decide) q974 rfl (rfl) rfl ⟨Nat.le_of_ble_eq_true rfl, rfl⟩ dX8_takes_16 ?_
    refine z_iconst 19 C dX8_takes_19 (nI 0) rfl ?_
    refine z_istore_n 20 C dX8_takes_20 [(1, .int (nI 0)), (0, .ref (z_ad G 105))] (by decide) rfl ?_
    refine z_sub [1, 0] (lv1 := [(0, .ref (z_ad G 105)), (1, .int (nI 0))]) rfl ?_
    refine z_cv (lv1 := [(0, .ref (z_ad G 105)), (1, .int (nI 0))]) (st1 := []) (σ1 := z_uL (z_ui σ 105 8 (nI (20 - 1))) 110 (z_fil (zm_s24 (σ.2 110)) (σ.2 110) 0)) rfl rfl (by rw [z_fil_0]; exact (z_uL_same (z_ui σ 105 8 (nI (20 - 1))) 110).symm) ?_
    refine z_lp1 (fun (k : Nat) => k ≤ 456) (fun (k : Nat) => 456 - k) (fun (k : Nat) => [(0, .ref (z_ad G 105)), (1, .int (nI k))]) (fun (k : Nat) => z_uL (z_ui σ 105 8 (nI (20 - 1))) 110 (z_fil (zm_s24 (σ.2 110)) (σ.2 110) k)) (fun k hi_21 ih_21 => ?_) 0 (by omega)
    try dsimp only
    refine z_iload_n 21 C dX8_takes_21 1 rfl ?_
    refine z_bipush 22 C dX8_takes_22 (nI 24) rfl ?_
    refine z_aload_n 24 C dX8_takes_24 0 rfl ?_
    refine z_getf 25 C 105 z_dX8 (⟨rfl, rfl⟩) 8 (by decide) q974 (.int (nI (20 - 1))) rfl dX8_takes_25 ?_
    refine z_imulN 28 C 24 (20 - 1) rfl rfl dX8_takes_28 ?_
    refine z_icmp_geN 29 C k (24 * (20 - 1)) rfl rfl (by omega) (by omega) 53 dX8_takes_29 (by decide) (fun c29 => ?_) (fun c29 => ?_)
    · skip
      have ek : k = 456 := by omega
      subst ek
      refine z_iconst 53 C dX8_takes_53 (nI 0) rfl ?_
      refine z_istore_n 54 C dX8_takes_54 [(1, .int (nI 0)), (0, .ref (z_ad G 105))] (by decide) rfl ?_
      refine z_iconst 55 C dX8_takes_55 (nI 0) rfl ?_
      refine z_istore_n 56 C dX8_takes_56 [(2, .int (nI 0)), (1, .int (nI 0)), (0, .ref (z_ad G 105))] (by decide) rfl ?_
      refine z_sub [2, 1, 0] (lv1 := [(0, .ref (z_ad G 105)), (1, .int (nI 0)), (2, .int (nI 0))]) rfl ?_
      refine z_cv (lv1 := [(0, .ref (z_ad G 105)), (1, .int (z_bo (zm_ne (σ.2 108) (σ.2 109) 0))), (2, .int (nI 0))]) (st1 := []) (σ1 := z_uL (z_uL (z_ui σ 105 8 (nI (20 - 1))) 110 (fb_put (z_fil (zm_s24 (σ.2 110)) (σ.2 110) 456) (σ.2 108) (24 * (20 - 1)) 0)) 108 (z_fil (σ.2 109) (σ.2 108) 0)) (by rw [← zm_ne0]) rfl (by rw [fb_put_0, z_fil_0]; exact (z_uL_same (z_uL (z_ui σ 105 8 (nI (20 - 1))) 110 (z_fil (zm_s24 (σ.2 110)) (σ.2 110) 456)) 108).symm) ?_
      refine z_lp1 (fun (k : Nat) => k ≤ 24) (fun (k : Nat) => 24 - k) (fun (k : Nat) => [(0, .ref (z_ad G 105)), (1, .int (z_bo (zm_ne (σ.2 108) (σ.2 109) k))), (2, .int (nI k))]) (fun (k : Nat) => z_uL (z_uL (z_ui σ 105 8 (nI (20 - 1))) 110 (fb_put (z_fil (zm_s24 (σ.2 110)) (σ.2 110) 456) (σ.2 108) (24 * (20 - 1)) k)) 108 (z_fil (σ.2 109) (σ.2 108) k)) (fun k hi_57 ih_57 => ?_) 0 (by omega)
      try dsimp only
      refine z_iload_n 57 C dX8_takes_57 2 rfl ?_
      refine z_bipush 58 C dX8_takes_58 (nI 24) rfl ?_
      refine z_icmp_geN 60 C k 24 rfl rfl (by omega) (by omega) 123 dX8_takes_60 (by decide) (fun c60 => ?_) (fun c60 => ?_)
      · skip
        have ek : k = 24 := by omega
        subst ek
        refine z_aload_n 123 C dX8_takes_123 0 rfl ?_
        refine z_dup 124 C dX8_takes_124 rfl ?_
        refine z_getf 125 C 105 z_dX8 (⟨rfl, rfl⟩) 8 (by decide) q974 (.int (nI (20 - 1))) rfl dX8_takes_125 ?_
        refine z_iconst 128 C dX8_takes_128 (nI 1) rfl ?_
        refine z_iaddN 129 C (20 - 1) 1 rfl rfl dX8_takes_129 ?_
        refine z_puti 130 C 105 z_dX8 (⟨rfl, rfl⟩) 8 (by decide) q974 rfl (rfl) rfl ⟨Nat.le_of_ble_eq_true rfl, rfl⟩ dX8_takes_130 ?_
        refine z_aload_n 133 C dX8_takes_133 0 rfl ?_
        refine z_iconst 134 C dX8_takes_134 (nI 0) rfl ?_
        refine z_puti 135 C 105 z_dX8 (⟨rfl, rfl⟩) 9 (by decide) q975 rfl (rfl) rfl ⟨Nat.le_of_ble_eq_true rfl, rfl⟩ dX8_takes_135 ?_
        refine z_iload_n 138 C dX8_takes_138 1 rfl ?_
        refine z_iret 139 C dX8_takes_139 ?_
        exact ⟨z_ci (z_bo_iff Iff.rfl), zm_tk1 σ⟩
      · skip
        refine z_aload_n 63 C dX8_takes_63 0 rfl ?_
        refine z_getf 64 C 105 z_dX8 (⟨rfl, rfl⟩) 6 (by decide) q972 (.ref (z_ad G 110)) rfl dX8_takes_64 ?_
        refine z_bipush 67 C dX8_takes_67 (nI 24) rfl ?_
        refine z_aload_n 69 C dX8_takes_69 0 rfl ?_
        refine z_getf 70 C 105 z_dX8 (⟨rfl, rfl⟩) 8 (by decide) q974 (.int (nI (20 - 1))) rfl dX8_takes_70 ?_
        refine z_imulN 73 C 24 (20 - 1) rfl rfl dX8_takes_73 ?_
        refine z_iload_n 74 C dX8_takes_74 2 rfl ?_
        refine z_iaddN 75 C (24 * (20 - 1)) k rfl rfl dX8_takes_75 ?_
        refine z_aload_n 76 C dX8_takes_76 0 rfl ?_
        refine z_getf 77 C 105 z_dX8 (⟨rfl, rfl⟩) 4 (by decide) q970 (.ref (z_ad G 108)) rfl dX8_takes_77 ?_
        refine z_iload_n 80 C dX8_takes_80 2 rfl ?_
        refine z_laldN 81 C 108 (n := 24) (⟨rfl, rfl⟩) k rfl (by omega) (by decide) dX8_takes_81 ?_
        refine z_cv (lv1 := [(0, .ref (z_ad G 105)), (1, .int (z_bo (zm_ne (σ.2 108) (σ.2 109) k))), (2, .int (nI k))]) (st1 := [.long (σ.2 108 k), .int (nI ((24 * (20 - 1)) + k)), .ref (z_ad G 110)]) (σ1 := z_uL (z_uL (z_ui σ 105 8 (nI (20 - 1))) 110 (fb_put (z_fil (zm_s24 (σ.2 110)) (σ.2 110) 456) (σ.2 108) (24 * (20 - 1)) k)) 108 (z_fil (σ.2 109) (σ.2 108) k)) rfl (by rw [z_uL2s, z_fil_ge (Nat.le_refl k)]) rfl ?_
        refine z_lastN 82 C 110 (n := 480) (⟨rfl, rfl⟩) ((24 * (20 - 1)) + k) rfl (by omega) (by decide) dX8_takes_82 ?_
        refine z_aload_n 83 C dX8_takes_83 0 rfl ?_
        refine z_getf 84 C 105 z_dX8 (⟨rfl, rfl⟩) 4 (by decide) q970 (.ref (z_ad G 108)) rfl dX8_takes_84 ?_
        refine z_iload_n 87 C dX8_takes_87 2 rfl ?_
        refine z_laldN 88 C 108 (n := 24) (⟨rfl, rfl⟩) k rfl (by omega) (by decide) dX8_takes_88 ?_
        refine z_cv (lv1 := [(0, .ref (z_ad G 105)), (1, .int (z_bo (zm_ne (σ.2 108) (σ.2 109) k))), (2, .int (nI k))]) (st1 := [.long (σ.2 108 k)]) (σ1 := z_ul (z_uL (z_uL (z_ui σ 105 8 (nI (20 - 1))) 110 (fb_put (z_fil (zm_s24 (σ.2 110)) (σ.2 110) 456) (σ.2 108) (24 * (20 - 1)) k)) 108 (z_fil (σ.2 109) (σ.2 108) k)) 110 ((24 * (20 - 1)) + k) (σ.2 108 k)) rfl (by show [Value.long (z_fil (σ.2 109) (σ.2 108) k k)] = _; rw [z_fil_ge (Nat.le_refl k)]) rfl ?_
        refine z_aload_n 89 C dX8_takes_89 0 rfl ?_
        refine z_getf 90 C 105 z_dX8 (⟨rfl, rfl⟩) 5 (by decide) q971 (.ref (z_ad G 109)) rfl dX8_takes_90 ?_
        refine z_iload_n 93 C dX8_takes_93 2 rfl ?_
        refine z_laldN 94 C 109 (n := 24) (⟨rfl, rfl⟩) k rfl (by omega) (by decide) dX8_takes_94 ?_
        refine z_cv (st1 := [.long (σ.2 109 k), .long (σ.2 108 k)]) rfl rfl rfl ?_
        refine z_lcmp_eq 95 C 103 dX8_takes_95 dX8_takes_96 (by decide) (fun c95 => ?_) (fun c95 => ?_)
        · skip
          refine z_iload_n 103 C dX8_takes_103 1 rfl ?_
          refine z_istore_n 104 C dX8_takes_104 [(1, .int (z_bo (zm_ne (σ.2 108) (σ.2 109) k))), (0, .ref (z_ad G 105)), (2, .int (nI k))] (by decide) rfl ?_
          refine z_aload_n 105 C dX8_takes_105 1 rfl ?_
          refine z_getf 106 C 105 z_dX8 (⟨rfl, rfl⟩) 4 (by decide) q970 (.ref (z_ad G 108)) rfl dX8_takes_106 ?_
          refine z_iload_n 109 C dX8_takes_109 2 rfl ?_
          refine z_aload_n 110 C dX8_takes_110 1 rfl ?_
          refine z_getf 111 C 105 z_dX8 (⟨rfl, rfl⟩) 5 (by decide) q971 (.ref (z_ad G 109)) rfl dX8_takes_111 ?_
          refine z_iload_n 114 C dX8_takes_114 2 rfl ?_
          refine z_laldN 115 C 109 (n := 24) (⟨rfl, rfl⟩) k rfl (by omega) (by decide) dX8_takes_115 ?_
          refine z_cv (st1 := [.long (σ.2 109 k), .int (nI k), .ref (z_ad G 108)]) rfl rfl rfl ?_
          refine z_lastN 116 C 108 (n := 24) (⟨rfl, rfl⟩) k rfl (by omega) (by decide) dX8_takes_116 ?_
          refine z_iincN 117 C 2 k [(2, .int (nI (k + 1))), (1, .int (z_bo (zm_ne (σ.2 108) (σ.2 109) k))), (0, .ref (z_ad G 105))] rfl rfl (by decide) rfl dX8_takes_117 ?_
          refine z_goto 120 C 57 dX8_takes_120 (by decide) ?_
          refine z_sub [2, 1, 0] (lv1 := [(0, .ref (z_ad G 105)), (1, .int (z_bo (zm_ne (σ.2 108) (σ.2 109) k))), (2, .int (nI (k + 1)))]) rfl ?_
          refine z_cv (lv1 := [(0, .ref (z_ad G 105)), (1, .int (z_bo (zm_ne (σ.2 108) (σ.2 109) (k + 1)))), (2, .int (nI (k + 1)))]) (st1 := []) (σ1 := z_uL (z_uL (z_ui σ 105 8 (nI (20 - 1))) 110 (fb_put (z_fil (zm_s24 (σ.2 110)) (σ.2 110) 456) (σ.2 108) (24 * (20 - 1)) (k + 1))) 108 (z_fil (σ.2 109) (σ.2 108) (k + 1))) (by first | rw [zm_ne2 c95] | rw [← zm_ne1 c95]) rfl (zm_put2 _ (by decide) fb_putL z_filS1.symm) ?_
          exact ih_57 (k + 1) (by omega) (by omega)
        · skip
          refine z_iconst 99 C dX8_takes_99 (nI 1) rfl ?_
          refine z_goto 100 C 104 dX8_takes_100 (by decide) ?_
          refine z_istore_n 104 C dX8_takes_104 [(1, .int (nI 1)), (0, .ref (z_ad G 105)), (2, .int (nI k))] (by decide) rfl ?_
          refine z_aload_n 105 C dX8_takes_105 1 rfl ?_
          refine z_getf 106 C 105 z_dX8 (⟨rfl, rfl⟩) 4 (by decide) q970 (.ref (z_ad G 108)) rfl dX8_takes_106 ?_
          refine z_iload_n 109 C dX8_takes_109 2 rfl ?_
          refine z_aload_n 110 C dX8_takes_110 1 rfl ?_
          refine z_getf 111 C 105 z_dX8 (⟨rfl, rfl⟩) 5 (by decide) q971 (.ref (z_ad G 109)) rfl dX8_takes_111 ?_
          refine z_iload_n 114 C dX8_takes_114 2 rfl ?_
          refine z_laldN 115 C 109 (n := 24) (⟨rfl, rfl⟩) k rfl (by omega) (by decide) dX8_takes_115 ?_
          refine z_cv (st1 := [.long (σ.2 109 k), .int (nI k), .ref (z_ad G 108)]) rfl rfl rfl ?_
          refine z_lastN 116 C 108 (n := 24) (⟨rfl, rfl⟩) k rfl (by omega) (by decide) dX8_takes_116 ?_
          refine z_iincN 117 C 2 k [(2, .int (nI (k + 1))), (1, .int (nI 1)), (0, .ref (z_ad G 105))] rfl rfl (by decide) rfl dX8_takes_117 ?_
          refine z_goto 120 C 57 dX8_takes_120 (by decide) ?_
          refine z_sub [2, 1, 0] (lv1 := [(0, .ref (z_ad G 105)), (1, .int (nI 1)), (2, .int (nI (k + 1)))]) rfl ?_
          refine z_cv (lv1 := [(0, .ref (z_ad G 105)), (1, .int (z_bo (zm_ne (σ.2 108) (σ.2 109) (k + 1)))), (2, .int (nI (k + 1)))]) (st1 := []) (σ1 := z_uL (z_uL (z_ui σ 105 8 (nI (20 - 1))) 110 (fb_put (z_fil (zm_s24 (σ.2 110)) (σ.2 110) 456) (σ.2 108) (24 * (20 - 1)) (k + 1))) 108 (z_fil (σ.2 109) (σ.2 108) (k + 1))) (by first | rw [zm_ne2 c95] | rw [← zm_ne1 c95]) rfl (zm_put2 _ (by decide) fb_putL z_filS1.symm) ?_
          exact ih_57 (k + 1) (by omega) (by omega)
    · skip
      refine z_aload_n 32 C dX8_takes_32 0 rfl ?_
      refine z_getf 33 C 105 z_dX8 (⟨rfl, rfl⟩) 6 (by decide) q972 (.ref (z_ad G 110)) rfl dX8_takes_33 ?_
      refine z_iload_n 36 C dX8_takes_36 1 rfl ?_
      refine z_aload_n 37 C dX8_takes_37 0 rfl ?_
      refine z_getf 38 C 105 z_dX8 (⟨rfl, rfl⟩) 6 (by decide) q972 (.ref (z_ad G 110)) rfl dX8_takes_38 ?_
      refine z_iload_n 41 C dX8_takes_41 1 rfl ?_
      refine z_bipush 42 C dX8_takes_42 (nI 24) rfl ?_
      refine z_iaddN 44 C k 24 rfl rfl dX8_takes_44 ?_
      refine z_laldN 45 C 110 (n := 480) (⟨rfl, rfl⟩) (k + 24) rfl (by omega) (by decide) dX8_takes_45 ?_
      refine z_lastN 46 C 110 (n := 480) (⟨rfl, rfl⟩) k rfl (by omega) (by decide) dX8_takes_46 ?_
      refine z_iincN 47 C 1 k [(1, .int (nI (k + 1))), (0, .ref (z_ad G 105))] rfl rfl (by decide) rfl dX8_takes_47 ?_
      refine z_goto 50 C 21 dX8_takes_50 (by decide) ?_
      refine z_sub [1, 0] (lv1 := [(0, .ref (z_ad G 105)), (1, .int (nI (k + 1)))]) rfl ?_
      refine z_cv (lv1 := [(0, .ref (z_ad G 105)), (1, .int (nI (k + 1)))]) (st1 := []) (σ1 := z_uL (z_ui σ 105 8 (nI (20 - 1))) 110 (z_fil (zm_s24 (σ.2 110)) (σ.2 110) (k + 1))) rfl rfl (zm_uLu (by rw [z_uL2s, z_fil_ge (by omega)]; rfl)) ?_
      exact ih_21 (k + 1) (by omega) (by omega)
theorem dX8_undo_0 : decode cX8_undo 0 = .ok (.aload_n 0, 1) := by decide +kernel
theorem dX8_undo_1 : decode cX8_undo 1 = .ok (.getfield 139, 3) := by decide +kernel
theorem dX8_undo_4 : decode cX8_undo 4 = .ok (.ifCond .ne 6, 3) := by decide +kernel
theorem dX8_undo_7 : decode cX8_undo 7 = .ok (.ldc 97, 2) := by decide +kernel
theorem dX8_undo_9 : decode cX8_undo 9 = .ok (.ireturn, 1) := by decide +kernel
theorem dX8_undo_10 : decode cX8_undo 10 = .ok (.aload_n 0, 1) := by decide +kernel
theorem dX8_undo_11 : decode cX8_undo 11 = .ok (.dup, 1) := by decide +kernel
theorem dX8_undo_12 : decode cX8_undo 12 = .ok (.getfield 139, 3) := by decide +kernel
theorem dX8_undo_15 : decode cX8_undo 15 = .ok (.iconst 1, 1) := by decide +kernel
theorem dX8_undo_16 : decode cX8_undo 16 = .ok (.isub, 1) := by decide +kernel
theorem dX8_undo_17 : decode cX8_undo 17 = .ok (.putfield 139, 3) := by decide +kernel
theorem dX8_undo_20 : decode cX8_undo 20 = .ok (.iconst 0, 1) := by decide +kernel
theorem dX8_undo_21 : decode cX8_undo 21 = .ok (.istore_n 1, 1) := by decide +kernel
theorem dX8_undo_22 : decode cX8_undo 22 = .ok (.iload_n 1, 1) := by decide +kernel
theorem dX8_undo_23 : decode cX8_undo 23 = .ok (.bipush 24, 2) := by decide +kernel
theorem dX8_undo_25 : decode cX8_undo 25 = .ok (.if_icmp .ge 49, 3) := by decide +kernel
theorem dX8_undo_28 : decode cX8_undo 28 = .ok (.aload_n 0, 1) := by decide +kernel
theorem dX8_undo_29 : decode cX8_undo 29 = .ok (.getfield 32, 3) := by decide +kernel
theorem dX8_undo_32 : decode cX8_undo 32 = .ok (.bipush 24, 2) := by decide +kernel
theorem dX8_undo_34 : decode cX8_undo 34 = .ok (.aload_n 0, 1) := by decide +kernel
theorem dX8_undo_35 : decode cX8_undo 35 = .ok (.getfield 142, 3) := by decide +kernel
theorem dX8_undo_38 : decode cX8_undo 38 = .ok (.imul, 1) := by decide +kernel
theorem dX8_undo_39 : decode cX8_undo 39 = .ok (.iload_n 1, 1) := by decide +kernel
theorem dX8_undo_40 : decode cX8_undo 40 = .ok (.iadd, 1) := by decide +kernel
theorem dX8_undo_41 : decode cX8_undo 41 = .ok (.aload_n 0, 1) := by decide +kernel
theorem dX8_undo_42 : decode cX8_undo 42 = .ok (.getfield 22, 3) := by decide +kernel
theorem dX8_undo_45 : decode cX8_undo 45 = .ok (.iload_n 1, 1) := by decide +kernel
theorem dX8_undo_46 : decode cX8_undo 46 = .ok (.laload, 1) := by decide +kernel
theorem dX8_undo_47 : decode cX8_undo 47 = .ok (.lastore, 1) := by decide +kernel
theorem dX8_undo_48 : decode cX8_undo 48 = .ok (.aload_n 0, 1) := by decide +kernel
theorem dX8_undo_49 : decode cX8_undo 49 = .ok (.getfield 22, 3) := by decide +kernel
theorem dX8_undo_52 : decode cX8_undo 52 = .ok (.iload_n 1, 1) := by decide +kernel
theorem dX8_undo_53 : decode cX8_undo 53 = .ok (.aload_n 0, 1) := by decide +kernel
theorem dX8_undo_54 : decode cX8_undo 54 = .ok (.getfield 29, 3) := by decide +kernel
theorem dX8_undo_57 : decode cX8_undo 57 = .ok (.bipush 24, 2) := by decide +kernel
theorem dX8_undo_59 : decode cX8_undo 59 = .ok (.aload_n 0, 1) := by decide +kernel
theorem dX8_undo_60 : decode cX8_undo 60 = .ok (.getfield 139, 3) := by decide +kernel
theorem dX8_undo_63 : decode cX8_undo 63 = .ok (.imul, 1) := by decide +kernel
theorem dX8_undo_64 : decode cX8_undo 64 = .ok (.iload_n 1, 1) := by decide +kernel
theorem dX8_undo_65 : decode cX8_undo 65 = .ok (.iadd, 1) := by decide +kernel
theorem dX8_undo_66 : decode cX8_undo 66 = .ok (.laload, 1) := by decide +kernel
theorem dX8_undo_67 : decode cX8_undo 67 = .ok (.lastore, 1) := by decide +kernel
theorem dX8_undo_68 : decode cX8_undo 68 = .ok (.iinc 1 1, 3) := by decide +kernel
theorem dX8_undo_71 : decode cX8_undo 71 = .ok (.goto (-49), 3) := by decide +kernel
theorem dX8_undo_74 : decode cX8_undo 74 = .ok (.aload_n 0, 1) := by decide +kernel
theorem dX8_undo_75 : decode cX8_undo 75 = .ok (.dup, 1) := by decide +kernel
theorem dX8_undo_76 : decode cX8_undo 76 = .ok (.getfield 142, 3) := by decide +kernel
theorem dX8_undo_79 : decode cX8_undo 79 = .ok (.iconst 1, 1) := by decide +kernel
theorem dX8_undo_80 : decode cX8_undo 80 = .ok (.iadd, 1) := by decide +kernel
theorem dX8_undo_81 : decode cX8_undo 81 = .ok (.putfield 142, 3) := by decide +kernel
theorem dX8_undo_84 : decode cX8_undo 84 = .ok (.aload_n 0, 1) := by decide +kernel
theorem dX8_undo_85 : decode cX8_undo 85 = .ok (.getfield 139, 3) := by decide +kernel
theorem dX8_undo_88 : decode cX8_undo 88 = .ok (.ireturn, 1) := by decide +kernel
set_option maxRecDepth 100000 in
set_option maxHeartbeats 4000000 in
theorem m_X8_undo {l : Launch} {G : z_Gl} {σ : z_St} (P n u v w rc tl : Nat) (hM : z_mi σ P n u v w rc tl) : z_M l G yX8_undo cX8_undo 2 (some .int) (z_rm 0 0) [.ref (z_ad G 105)] σ (z_p1 (.int (if u = 0 then (-1000003) else nI (u - 1))) (if u = 0 then σ else z_mun σ u v)) := by
  refine z_M.of (by decide) (Nat.le_of_ble_eq_true rfl) (fun p e s m below meth c C => ?_)
  refine z_sub [0] (lv1 := [(0, .ref (z_ad G 105))]) rfl ?_
  have hM0 := hM
  obtain ⟨⟨hP, hn, hu, hv, hw, hrc, htl⟩, hPs, hnP, huv, hw6, hrc8, htl2, hqt, hah⟩ := hM0
  have h0 : 0 < P := by omega
  have h12 : P ≤ 12 := by omega
  have h288 : n ≤ 288 := by omega
  refine z_aload_n 0 C dX8_undo_0 0 rfl ?_
  refine z_getf 1 C 105 z_dX8 (⟨rfl, rfl⟩) 8 (by decide) q974 (.int (nI u)) (z_ci hu) dX8_undo_1 ?_
  refine z_if_ne 4 C 10 dX8_undo_4 (by decide) (fun c4 => ?_) (fun c4 => ?_)
  · skip
    have c4 : ¬ u = 0 := fun z => c4 ((z_nI0 (t := u) (by omega)).mpr z)
    refine z_aload_n 10 C dX8_undo_10 0 rfl ?_
    refine z_dup 11 C dX8_undo_11 rfl ?_
    refine z_getf 12 C 105 z_dX8 (⟨rfl, rfl⟩) 8 (by decide) q974 (.int (nI u)) (z_ci hu) dX8_undo_12 ?_
    refine z_iconst 15 C dX8_undo_15 (nI 1) rfl ?_
    refine z_isubN 16 C u 1 rfl rfl (by omega) dX8_undo_16 ?_
    refine z_puti 17 C 105 z_dX8 (⟨rfl, rfl⟩) 8 (by decide) q974 rfl (rfl) rfl ⟨Nat.le_of_ble_eq_true rfl, rfl⟩ dX8_undo_17 ?_
    refine z_iconst 20 C dX8_undo_20 (nI 0) rfl ?_
    refine z_istore_n 21 C dX8_undo_21 [(1, .int (nI 0)), (0, .ref (z_ad G 105))] (by decide) rfl ?_
    refine z_sub [1, 0] (lv1 := [(0, .ref (z_ad G 105)), (1, .int (nI 0))]) rfl ?_
    refine z_cv (lv1 := [(0, .ref (z_ad G 105)), (1, .int (nI 0))]) (st1 := []) (σ1 := z_uL (z_uL (z_ui σ 105 8 (nI (u - 1))) 111 (fb_put (σ.2 111) (σ.2 108) (24 * v) 0)) 108 (z_fil (z_sh (σ.2 110) (24 * (u - 1))) (σ.2 108) 0)) rfl rfl (by rw [fb_put_0, z_fil_0]; exact ((congrArg (fun q => z_uL q 108 (σ.2 108)) (z_uL_same (z_ui σ 105 8 (nI (u - 1))) 111)).trans (z_uL_same (z_ui σ 105 8 (nI (u - 1))) 108)).symm) ?_
    refine z_lp1 (fun (k : Nat) => k ≤ 24) (fun (k : Nat) => 24 - k) (fun (k : Nat) => [(0, .ref (z_ad G 105)), (1, .int (nI k))]) (fun (k : Nat) => z_uL (z_uL (z_ui σ 105 8 (nI (u - 1))) 111 (fb_put (σ.2 111) (σ.2 108) (24 * v) k)) 108 (z_fil (z_sh (σ.2 110) (24 * (u - 1))) (σ.2 108) k)) (fun k hi_22 ih_22 => ?_) 0 (by omega)
    try dsimp only
    refine z_iload_n 22 C dX8_undo_22 1 rfl ?_
    refine z_bipush 23 C dX8_undo_23 (nI 24) rfl ?_
    refine z_icmp_geN 25 C k 24 rfl rfl (by omega) (by omega) 74 dX8_undo_25 (by decide) (fun c25 => ?_) (fun c25 => ?_)
    · skip
      have ek : k = 24 := by omega
      subst ek
      refine z_aload_n 74 C dX8_undo_74 0 rfl ?_
      refine z_dup 75 C dX8_undo_75 rfl ?_
      refine z_getf 76 C 105 z_dX8 (⟨rfl, rfl⟩) 9 (by decide) q975 (.int (nI v)) (z_ci hv) dX8_undo_76 ?_
      refine z_iconst 79 C dX8_undo_79 (nI 1) rfl ?_
      refine z_iaddN 80 C v 1 rfl rfl dX8_undo_80 ?_
      refine z_puti 81 C 105 z_dX8 (⟨rfl, rfl⟩) 9 (by decide) q975 rfl (rfl) rfl ⟨Nat.le_of_ble_eq_true rfl, rfl⟩ dX8_undo_81 ?_
      refine z_aload_n 84 C dX8_undo_84 0 rfl ?_
      refine z_getf 85 C 105 z_dX8 (⟨rfl, rfl⟩) 8 (by decide) q974 (.int (nI (u - 1))) rfl dX8_undo_85 ?_
      refine z_iret 88 C dX8_undo_88 ?_
      exact ⟨z_ci (by rw [if_neg c4]), by rw [if_neg c4]; rfl⟩
    · skip
      refine z_aload_n 28 C dX8_undo_28 0 rfl ?_
      refine z_getf 29 C 105 z_dX8 (⟨rfl, rfl⟩) 7 (by decide) q973 (.ref (z_ad G 111)) rfl dX8_undo_29 ?_
      refine z_bipush 32 C dX8_undo_32 (nI 24) rfl ?_
      refine z_aload_n 34 C dX8_undo_34 0 rfl ?_
      refine z_getf 35 C 105 z_dX8 (⟨rfl, rfl⟩) 9 (by decide) q975 (.int (nI v)) (z_ci hv) dX8_undo_35 ?_
      refine z_imulN 38 C 24 v rfl rfl dX8_undo_38 ?_
      refine z_iload_n 39 C dX8_undo_39 1 rfl ?_
      refine z_iaddN 40 C (24 * v) k rfl rfl dX8_undo_40 ?_
      refine z_aload_n 41 C dX8_undo_41 0 rfl ?_
      refine z_getf 42 C 105 z_dX8 (⟨rfl, rfl⟩) 4 (by decide) q970 (.ref (z_ad G 108)) rfl dX8_undo_42 ?_
      refine z_iload_n 45 C dX8_undo_45 1 rfl ?_
      refine z_laldN 46 C 108 (n := 24) (⟨rfl, rfl⟩) k rfl (by omega) (by decide) dX8_undo_46 ?_
      refine z_cv (lv1 := [(0, .ref (z_ad G 105)), (1, .int (nI k))]) (st1 := [.long (σ.2 108 k), .int (nI ((24 * v) + k)), .ref (z_ad G 111)]) (σ1 := z_uL (z_uL (z_ui σ 105 8 (nI (u - 1))) 111 (fb_put (σ.2 111) (σ.2 108) (24 * v) k)) 108 (z_fil (z_sh (σ.2 110) (24 * (u - 1))) (σ.2 108) k)) rfl (by rw [z_uL2s, z_fil_ge (Nat.le_refl k)]) rfl ?_
      refine z_lastN 47 C 111 (n := 480) (⟨rfl, rfl⟩) ((24 * v) + k) rfl (by omega) (by decide) dX8_undo_47 ?_
      refine z_aload_n 48 C dX8_undo_48 0 rfl ?_
      refine z_getf 49 C 105 z_dX8 (⟨rfl, rfl⟩) 4 (by decide) q970 (.ref (z_ad G 108)) rfl dX8_undo_49 ?_
      refine z_iload_n 52 C dX8_undo_52 1 rfl ?_
      refine z_aload_n 53 C dX8_undo_53 0 rfl ?_
      refine z_getf 54 C 105 z_dX8 (⟨rfl, rfl⟩) 6 (by decide) q972 (.ref (z_ad G 110)) rfl dX8_undo_54 ?_
      refine z_bipush 57 C dX8_undo_57 (nI 24) rfl ?_
      refine z_aload_n 59 C dX8_undo_59 0 rfl ?_
      refine z_getf 60 C 105 z_dX8 (⟨rfl, rfl⟩) 8 (by decide) q974 (.int (nI (u - 1))) rfl dX8_undo_60 ?_
      refine z_imulN 63 C 24 (u - 1) rfl rfl dX8_undo_63 ?_
      refine z_iload_n 64 C dX8_undo_64 1 rfl ?_
      refine z_iaddN 65 C (24 * (u - 1)) k rfl rfl dX8_undo_65 ?_
      refine z_laldN 66 C 110 (n := 480) (⟨rfl, rfl⟩) ((24 * (u - 1)) + k) rfl (by omega) (by decide) dX8_undo_66 ?_
      refine z_cv (st1 := [.long (σ.2 110 ((24 * (u - 1)) + k)), .int (nI k), .ref (z_ad G 108)]) rfl rfl rfl ?_
      refine z_lastN 67 C 108 (n := 24) (⟨rfl, rfl⟩) k rfl (by omega) (by decide) dX8_undo_67 ?_
      refine z_iincN 68 C 1 k [(1, .int (nI (k + 1))), (0, .ref (z_ad G 105))] rfl rfl (by decide) rfl dX8_undo_68 ?_
      refine z_goto 71 C 22 dX8_undo_71 (by decide) ?_
      refine z_sub [1, 0] (lv1 := [(0, .ref (z_ad G 105)), (1, .int (nI (k + 1)))]) rfl ?_
      refine z_cv (lv1 := [(0, .ref (z_ad G 105)), (1, .int (nI (k + 1)))]) (st1 := []) (σ1 := z_uL (z_uL (z_ui σ 105 8 (nI (u - 1))) 111 (fb_put (σ.2 111) (σ.2 108) (24 * v) (k + 1))) 108 (z_fil (z_sh (σ.2 110) (24 * (u - 1))) (σ.2 108) (k + 1))) rfl rfl (zm_put2 _ (by decide) fb_putL z_filS1.symm) ?_
      exact ih_22 (k + 1) (by omega) (by omega)
  · skip
    have c4 : u = 0 := (z_nI0 (by omega)).mp c4
    refine z_ldc 7 C dX8_undo_7 q1087 ?_
    refine z_iret 9 C dX8_undo_9 ?_
    exact ⟨z_ci (by rw [if_pos c4]), by rw [if_pos c4]⟩
theorem dX8_redo_0 : decode cX8_redo 0 = .ok (.aload_n 0, 1) := by decide +kernel
theorem dX8_redo_1 : decode cX8_redo 1 = .ok (.getfield 142, 3) := by decide +kernel
theorem dX8_redo_4 : decode cX8_redo 4 = .ok (.ifCond .ne 6, 3) := by decide +kernel
theorem dX8_redo_7 : decode cX8_redo 7 = .ok (.ldc 97, 2) := by decide +kernel
theorem dX8_redo_9 : decode cX8_redo 9 = .ok (.ireturn, 1) := by decide +kernel
theorem dX8_redo_10 : decode cX8_redo 10 = .ok (.aload_n 0, 1) := by decide +kernel
theorem dX8_redo_11 : decode cX8_redo 11 = .ok (.dup, 1) := by decide +kernel
theorem dX8_redo_12 : decode cX8_redo 12 = .ok (.getfield 142, 3) := by decide +kernel
theorem dX8_redo_15 : decode cX8_redo 15 = .ok (.iconst 1, 1) := by decide +kernel
theorem dX8_redo_16 : decode cX8_redo 16 = .ok (.isub, 1) := by decide +kernel
theorem dX8_redo_17 : decode cX8_redo 17 = .ok (.putfield 142, 3) := by decide +kernel
theorem dX8_redo_20 : decode cX8_redo 20 = .ok (.iconst 0, 1) := by decide +kernel
theorem dX8_redo_21 : decode cX8_redo 21 = .ok (.istore_n 1, 1) := by decide +kernel
theorem dX8_redo_22 : decode cX8_redo 22 = .ok (.iload_n 1, 1) := by decide +kernel
theorem dX8_redo_23 : decode cX8_redo 23 = .ok (.bipush 24, 2) := by decide +kernel
theorem dX8_redo_25 : decode cX8_redo 25 = .ok (.if_icmp .ge 49, 3) := by decide +kernel
theorem dX8_redo_28 : decode cX8_redo 28 = .ok (.aload_n 0, 1) := by decide +kernel
theorem dX8_redo_29 : decode cX8_redo 29 = .ok (.getfield 29, 3) := by decide +kernel
theorem dX8_redo_32 : decode cX8_redo 32 = .ok (.bipush 24, 2) := by decide +kernel
theorem dX8_redo_34 : decode cX8_redo 34 = .ok (.aload_n 0, 1) := by decide +kernel
theorem dX8_redo_35 : decode cX8_redo 35 = .ok (.getfield 139, 3) := by decide +kernel
theorem dX8_redo_38 : decode cX8_redo 38 = .ok (.imul, 1) := by decide +kernel
theorem dX8_redo_39 : decode cX8_redo 39 = .ok (.iload_n 1, 1) := by decide +kernel
theorem dX8_redo_40 : decode cX8_redo 40 = .ok (.iadd, 1) := by decide +kernel
theorem dX8_redo_41 : decode cX8_redo 41 = .ok (.aload_n 0, 1) := by decide +kernel
theorem dX8_redo_42 : decode cX8_redo 42 = .ok (.getfield 22, 3) := by decide +kernel
theorem dX8_redo_45 : decode cX8_redo 45 = .ok (.iload_n 1, 1) := by decide +kernel
theorem dX8_redo_46 : decode cX8_redo 46 = .ok (.laload, 1) := by decide +kernel
theorem dX8_redo_47 : decode cX8_redo 47 = .ok (.lastore, 1) := by decide +kernel
theorem dX8_redo_48 : decode cX8_redo 48 = .ok (.aload_n 0, 1) := by decide +kernel
theorem dX8_redo_49 : decode cX8_redo 49 = .ok (.getfield 22, 3) := by decide +kernel
theorem dX8_redo_52 : decode cX8_redo 52 = .ok (.iload_n 1, 1) := by decide +kernel
theorem dX8_redo_53 : decode cX8_redo 53 = .ok (.aload_n 0, 1) := by decide +kernel
theorem dX8_redo_54 : decode cX8_redo 54 = .ok (.getfield 32, 3) := by decide +kernel
theorem dX8_redo_57 : decode cX8_redo 57 = .ok (.bipush 24, 2) := by decide +kernel
theorem dX8_redo_59 : decode cX8_redo 59 = .ok (.aload_n 0, 1) := by decide +kernel
theorem dX8_redo_60 : decode cX8_redo 60 = .ok (.getfield 142, 3) := by decide +kernel
theorem dX8_redo_63 : decode cX8_redo 63 = .ok (.imul, 1) := by decide +kernel
theorem dX8_redo_64 : decode cX8_redo 64 = .ok (.iload_n 1, 1) := by decide +kernel
theorem dX8_redo_65 : decode cX8_redo 65 = .ok (.iadd, 1) := by decide +kernel
theorem dX8_redo_66 : decode cX8_redo 66 = .ok (.laload, 1) := by decide +kernel
theorem dX8_redo_67 : decode cX8_redo 67 = .ok (.lastore, 1) := by decide +kernel
theorem dX8_redo_68 : decode cX8_redo 68 = .ok (.iinc 1 1, 3) := by decide +kernel
theorem dX8_redo_71 : decode cX8_redo 71 = .ok (.goto (-49), 3) := by decide +kernel
theorem dX8_redo_74 : decode cX8_redo 74 = .ok (.aload_n 0, 1) := by decide +kernel
theorem dX8_redo_75 : decode cX8_redo 75 = .ok (.dup, 1) := by decide +kernel
theorem dX8_redo_76 : decode cX8_redo 76 = .ok (.getfield 139, 3) := by decide +kernel
theorem dX8_redo_79 : decode cX8_redo 79 = .ok (.iconst 1, 1) := by decide +kernel
theorem dX8_redo_80 : decode cX8_redo 80 = .ok (.iadd, 1) := by decide +kernel
theorem dX8_redo_81 : decode cX8_redo 81 = .ok (.putfield 139, 3) := by decide +kernel
theorem dX8_redo_84 : decode cX8_redo 84 = .ok (.aload_n 0, 1) := by decide +kernel
theorem dX8_redo_85 : decode cX8_redo 85 = .ok (.getfield 142, 3) := by decide +kernel
theorem dX8_redo_88 : decode cX8_redo 88 = .ok (.ireturn, 1) := by decide +kernel
set_option maxRecDepth 100000 in
set_option maxHeartbeats 4000000 in
theorem m_X8_redo {l : Launch} {G : z_Gl} {σ : z_St} (P n u v w rc tl : Nat) (hM : z_mi σ P n u v w rc tl) : z_M l G yX8_redo cX8_redo 2 (some .int) (z_rm 0 0) [.ref (z_ad G 105)] σ (z_p1 (.int (if v = 0 then (-1000003) else nI (v - 1))) (if v = 0 then σ else z_mre σ u v)) := by
  refine z_M.of (by decide) (Nat.le_of_ble_eq_true rfl) (fun p e s m below meth c C => ?_)
  refine z_sub [0] (lv1 := [(0, .ref (z_ad G 105))]) rfl ?_
  have hM0 := hM
  obtain ⟨⟨hP, hn, hu, hv, hw, hrc, htl⟩, hPs, hnP, huv, hw6, hrc8, htl2, hqt, hah⟩ := hM0
  have h0 : 0 < P := by omega
  have h12 : P ≤ 12 := by omega
  have h288 : n ≤ 288 := by omega
  refine z_aload_n 0 C dX8_redo_0 0 rfl ?_
  refine z_getf 1 C 105 z_dX8 (⟨rfl, rfl⟩) 9 (by decide) q975 (.int (nI v)) (z_ci hv) dX8_redo_1 ?_
  refine z_if_ne 4 C 10 dX8_redo_4 (by decide) (fun c4 => ?_) (fun c4 => ?_)
  · skip
    have c4 : ¬ v = 0 := fun z => c4 ((z_nI0 (t := v) (by omega)).mpr z)
    refine z_aload_n 10 C dX8_redo_10 0 rfl ?_
    refine z_dup 11 C dX8_redo_11 rfl ?_
    refine z_getf 12 C 105 z_dX8 (⟨rfl, rfl⟩) 9 (by decide) q975 (.int (nI v)) (z_ci hv) dX8_redo_12 ?_
    refine z_iconst 15 C dX8_redo_15 (nI 1) rfl ?_
    refine z_isubN 16 C v 1 rfl rfl (by omega) dX8_redo_16 ?_
    refine z_puti 17 C 105 z_dX8 (⟨rfl, rfl⟩) 9 (by decide) q975 rfl (rfl) rfl ⟨Nat.le_of_ble_eq_true rfl, rfl⟩ dX8_redo_17 ?_
    refine z_iconst 20 C dX8_redo_20 (nI 0) rfl ?_
    refine z_istore_n 21 C dX8_redo_21 [(1, .int (nI 0)), (0, .ref (z_ad G 105))] (by decide) rfl ?_
    refine z_sub [1, 0] (lv1 := [(0, .ref (z_ad G 105)), (1, .int (nI 0))]) rfl ?_
    refine z_cv (lv1 := [(0, .ref (z_ad G 105)), (1, .int (nI 0))]) (st1 := []) (σ1 := z_uL (z_uL (z_ui σ 105 9 (nI (v - 1))) 110 (fb_put (σ.2 110) (σ.2 108) (24 * u) 0)) 108 (z_fil (z_sh (σ.2 111) (24 * (v - 1))) (σ.2 108) 0)) rfl rfl (by rw [fb_put_0, z_fil_0]; exact ((congrArg (fun q => z_uL q 108 (σ.2 108)) (z_uL_same (z_ui σ 105 9 (nI (v - 1))) 110)).trans (z_uL_same (z_ui σ 105 9 (nI (v - 1))) 108)).symm) ?_
    refine z_lp1 (fun (k : Nat) => k ≤ 24) (fun (k : Nat) => 24 - k) (fun (k : Nat) => [(0, .ref (z_ad G 105)), (1, .int (nI k))]) (fun (k : Nat) => z_uL (z_uL (z_ui σ 105 9 (nI (v - 1))) 110 (fb_put (σ.2 110) (σ.2 108) (24 * u) k)) 108 (z_fil (z_sh (σ.2 111) (24 * (v - 1))) (σ.2 108) k)) (fun k hi_22 ih_22 => ?_) 0 (by omega)
    try dsimp only
    refine z_iload_n 22 C dX8_redo_22 1 rfl ?_
    refine z_bipush 23 C dX8_redo_23 (nI 24) rfl ?_
    refine z_icmp_geN 25 C k 24 rfl rfl (by omega) (by omega) 74 dX8_redo_25 (by decide) (fun c25 => ?_) (fun c25 => ?_)
    · skip
      have ek : k = 24 := by omega
      subst ek
      refine z_aload_n 74 C dX8_redo_74 0 rfl ?_
      refine z_dup 75 C dX8_redo_75 rfl ?_
      refine z_getf 76 C 105 z_dX8 (⟨rfl, rfl⟩) 8 (by decide) q974 (.int (nI u)) (z_ci hu) dX8_redo_76 ?_
      refine z_iconst 79 C dX8_redo_79 (nI 1) rfl ?_
      refine z_iaddN 80 C u 1 rfl rfl dX8_redo_80 ?_
      refine z_puti 81 C 105 z_dX8 (⟨rfl, rfl⟩) 8 (by decide) q974 rfl (rfl) rfl ⟨Nat.le_of_ble_eq_true rfl, rfl⟩ dX8_redo_81 ?_
      refine z_aload_n 84 C dX8_redo_84 0 rfl ?_
      refine z_getf 85 C 105 z_dX8 (⟨rfl, rfl⟩) 9 (by decide) q975 (.int (nI (v - 1))) rfl dX8_redo_85 ?_
      refine z_iret 88 C dX8_redo_88 ?_
      exact ⟨z_ci (by rw [if_neg c4]), by rw [if_neg c4]; rfl⟩
    · skip
      refine z_aload_n 28 C dX8_redo_28 0 rfl ?_
      refine z_getf 29 C 105 z_dX8 (⟨rfl, rfl⟩) 6 (by decide) q972 (.ref (z_ad G 110)) rfl dX8_redo_29 ?_
      refine z_bipush 32 C dX8_redo_32 (nI 24) rfl ?_
      refine z_aload_n 34 C dX8_redo_34 0 rfl ?_
      refine z_getf 35 C 105 z_dX8 (⟨rfl, rfl⟩) 8 (by decide) q974 (.int (nI u)) (z_ci hu) dX8_redo_35 ?_
      refine z_imulN 38 C 24 u rfl rfl dX8_redo_38 ?_
      refine z_iload_n 39 C dX8_redo_39 1 rfl ?_
      refine z_iaddN 40 C (24 * u) k rfl rfl dX8_redo_40 ?_
      refine z_aload_n 41 C dX8_redo_41 0 rfl ?_
      refine z_getf 42 C 105 z_dX8 (⟨rfl, rfl⟩) 4 (by decide) q970 (.ref (z_ad G 108)) rfl dX8_redo_42 ?_
      refine z_iload_n 45 C dX8_redo_45 1 rfl ?_
      refine z_laldN 46 C 108 (n := 24) (⟨rfl, rfl⟩) k rfl (by omega) (by decide) dX8_redo_46 ?_
      refine z_cv (lv1 := [(0, .ref (z_ad G 105)), (1, .int (nI k))]) (st1 := [.long (σ.2 108 k), .int (nI ((24 * u) + k)), .ref (z_ad G 110)]) (σ1 := z_uL (z_uL (z_ui σ 105 9 (nI (v - 1))) 110 (fb_put (σ.2 110) (σ.2 108) (24 * u) k)) 108 (z_fil (z_sh (σ.2 111) (24 * (v - 1))) (σ.2 108) k)) rfl (by rw [z_uL2s, z_fil_ge (Nat.le_refl k)]) rfl ?_
      refine z_lastN 47 C 110 (n := 480) (⟨rfl, rfl⟩) ((24 * u) + k) rfl (by omega) (by decide) dX8_redo_47 ?_
      refine z_aload_n 48 C dX8_redo_48 0 rfl ?_
      refine z_getf 49 C 105 z_dX8 (⟨rfl, rfl⟩) 4 (by decide) q970 (.ref (z_ad G 108)) rfl dX8_redo_49 ?_
      refine z_iload_n 52 C dX8_redo_52 1 rfl ?_
      refine z_aload_n 53 C dX8_redo_53 0 rfl ?_
      refine z_getf 54 C 105 z_dX8 (⟨rfl, rfl⟩) 7 (by decide) q973 (.ref (z_ad G 111)) rfl dX8_redo_54 ?_
      refine z_bipush 57 C dX8_redo_57 (nI 24) rfl ?_
      refine z_aload_n 59 C dX8_redo_59 0 rfl ?_
      refine z_getf 60 C 105 z_dX8 (⟨rfl, rfl⟩) 9 (by decide) q975 (.int (nI (v - 1))) rfl dX8_redo_60 ?_
      refine z_imulN 63 C 24 (v - 1) rfl rfl dX8_redo_63 ?_
      refine z_iload_n 64 C dX8_redo_64 1 rfl ?_
      refine z_iaddN 65 C (24 * (v - 1)) k rfl rfl dX8_redo_65 ?_
      refine z_laldN 66 C 111 (n := 480) (⟨rfl, rfl⟩) ((24 * (v - 1)) + k) rfl (by omega) (by decide) dX8_redo_66 ?_
      refine z_cv (st1 := [.long (σ.2 111 ((24 * (v - 1)) + k)), .int (nI k), .ref (z_ad G 108)]) rfl rfl rfl ?_
      refine z_lastN 67 C 108 (n := 24) (⟨rfl, rfl⟩) k rfl (by omega) (by decide) dX8_redo_67 ?_
      refine z_iincN 68 C 1 k [(1, .int (nI (k + 1))), (0, .ref (z_ad G 105))] rfl rfl (by decide) rfl dX8_redo_68 ?_
      refine z_goto 71 C 22 dX8_redo_71 (by decide) ?_
      refine z_sub [1, 0] (lv1 := [(0, .ref (z_ad G 105)), (1, .int (nI (k + 1)))]) rfl ?_
      refine z_cv (lv1 := [(0, .ref (z_ad G 105)), (1, .int (nI (k + 1)))]) (st1 := []) (σ1 := z_uL (z_uL (z_ui σ 105 9 (nI (v - 1))) 110 (fb_put (σ.2 110) (σ.2 108) (24 * u) (k + 1))) 108 (z_fil (z_sh (σ.2 111) (24 * (v - 1))) (σ.2 108) (k + 1))) rfl rfl (zm_put2 _ (by decide) fb_putL z_filS1.symm) ?_
      exact ih_22 (k + 1) (by omega) (by omega)
  · skip
    have c4 : v = 0 := (z_nI0 (by omega)).mp c4
    refine z_ldc 7 C dX8_redo_7 q1087 ?_
    refine z_iret 9 C dX8_redo_9 ?_
    exact ⟨z_ci (by rw [if_pos c4]), by rw [if_pos c4]⟩
theorem dX8_isTooFar_0 : decode cX8_isTooFar 0 = .ok (.iconst 0, 1) := by decide +kernel
theorem dX8_isTooFar_1 : decode cX8_isTooFar 1 = .ok (.istore_n 1, 1) := by decide +kernel
theorem dX8_isTooFar_2 : decode cX8_isTooFar 2 = .ok (.iload_n 1, 1) := by decide +kernel
theorem dX8_isTooFar_3 : decode cX8_isTooFar 3 = .ok (.bipush 24, 2) := by decide +kernel
theorem dX8_isTooFar_5 : decode cX8_isTooFar 5 = .ok (.if_icmp .ge 27, 3) := by decide +kernel
theorem dX8_isTooFar_8 : decode cX8_isTooFar 8 = .ok (.aload_n 0, 1) := by decide +kernel
theorem dX8_isTooFar_9 : decode cX8_isTooFar 9 = .ok (.getfield 26, 3) := by decide +kernel
theorem dX8_isTooFar_12 : decode cX8_isTooFar 12 = .ok (.iload_n 1, 1) := by decide +kernel
theorem dX8_isTooFar_13 : decode cX8_isTooFar 13 = .ok (.laload, 1) := by decide +kernel
theorem dX8_isTooFar_14 : decode cX8_isTooFar 14 = .ok (.invokestatic 111, 3) := by decide +kernel
theorem dX8_isTooFar_17 : decode cX8_isTooFar 17 = .ok (.ldc2_w 172, 3) := by decide +kernel
theorem dX8_isTooFar_20 : decode cX8_isTooFar 20 = .ok (.lcmp, 1) := by decide +kernel
theorem dX8_isTooFar_21 : decode cX8_isTooFar 21 = .ok (.ifCond .le 5, 3) := by decide +kernel
theorem dX8_isTooFar_24 : decode cX8_isTooFar 24 = .ok (.iconst 1, 1) := by decide +kernel
theorem dX8_isTooFar_25 : decode cX8_isTooFar 25 = .ok (.ireturn, 1) := by decide +kernel
theorem dX8_isTooFar_26 : decode cX8_isTooFar 26 = .ok (.iinc 1 1, 3) := by decide +kernel
theorem dX8_isTooFar_29 : decode cX8_isTooFar 29 = .ok (.goto (-27), 3) := by decide +kernel
theorem dX8_isTooFar_32 : decode cX8_isTooFar 32 = .ok (.iconst 0, 1) := by decide +kernel
theorem dX8_isTooFar_33 : decode cX8_isTooFar 33 = .ok (.ireturn, 1) := by decide +kernel
set_option maxRecDepth 100000 in
set_option maxHeartbeats 4000000 in
theorem m_X8_isTooFar {l : Launch} {G : z_Gl} {σ : z_St} (P n u v w rc tl : Nat) (hM : z_mi σ P n u v w rc tl) : z_M l G yX8_isTooFar cX8_isTooFar 2 (some .boolean) (z_rm 1 21) [.ref (z_ad G 105)] σ (z_p1 (.int (z_bo (z_tg (σ.2 109) 24 = true))) σ) := by
  refine z_M.of (by decide) (Nat.le_of_ble_eq_true rfl) (fun p e s m below meth c C => ?_)
  refine z_sub [0] (lv1 := [(0, .ref (z_ad G 105))]) rfl ?_
  have hM0 := hM
  obtain ⟨⟨hP, hn, hu, hv, hw, hrc, htl⟩, hPs, hnP, huv, hw6, hrc8, htl2, hqt, hah⟩ := hM0
  have h0 : 0 < P := by omega
  have h12 : P ≤ 12 := by omega
  have h288 : n ≤ 288 := by omega
  refine z_iconst 0 C dX8_isTooFar_0 (nI 0) rfl ?_
  refine z_istore_n 1 C dX8_isTooFar_1 [(1, .int (nI 0)), (0, .ref (z_ad G 105))] (by decide) rfl ?_
  refine z_sub [1, 0] (lv1 := [(0, .ref (z_ad G 105)), (1, .int (nI 0))]) rfl ?_
  refine z_cv (lv1 := [(0, .ref (z_ad G 105)), (1, .int (nI 0))]) (st1 := []) (σ1 := σ) rfl rfl rfl ?_
  refine z_lp1 (fun (k : Nat) => k ≤ 24 ∧ z_tg (σ.2 109) k = false) (fun (k : Nat) => 24 - k) (fun (k : Nat) => [(0, .ref (z_ad G 105)), (1, .int (nI k))]) (fun (k : Nat) => σ) (fun k hi_2 ih_2 => ?_) 0 (⟨by omega, rfl⟩)
  try dsimp only
  obtain ⟨hk, hj⟩ := hi_2
  refine z_iload_n 2 C dX8_isTooFar_2 1 rfl ?_
  refine z_bipush 3 C dX8_isTooFar_3 (nI 24) rfl ?_
  refine z_icmp_geN 5 C k 24 rfl rfl (by omega) (by omega) 32 dX8_isTooFar_5 (by decide) (fun c5 => ?_) (fun c5 => ?_)
  · skip
    have ek : k = 24 := by omega
    subst ek
    refine z_iconst 32 C dX8_isTooFar_32 (nI 0) rfl ?_
    refine z_zret 33 C (rfl) dX8_isTooFar_33 ?_
    exact ⟨z_ci (z_bo_f (by rw [hj]; decide)), rfl⟩
  · skip
    refine z_aload_n 8 C dX8_isTooFar_8 0 rfl ?_
    refine z_getf 9 C 105 z_dX8 (⟨rfl, rfl⟩) 5 (by decide) q971 (.ref (z_ad G 109)) rfl dX8_isTooFar_9 ?_
    refine z_iload_n 12 C dX8_isTooFar_12 1 rfl ?_
    refine z_laldN 13 C 109 (n := 24) (⟨rfl, rfl⟩) k rfl (by omega) (by decide) dX8_isTooFar_13 ?_
    refine z_callS 14 C (As := [.long (σ.2 109 k)]) (rest := []) (m_X8_size (σ.2 109 k)) k_X8_size q1113 ⟨rfl, rfl⟩ ⟨Nat.le_of_ble_eq_true rfl, Nat.le_of_ble_eq_true rfl⟩ rfl (Nat.le_of_ble_eq_true rfl) ⟨Nat.le_of_ble_eq_true rfl, Nat.le_of_ble_eq_true rfl⟩ rfl dX8_isTooFar_14 (z_k1 ?_)
    refine z_ldc2 17 C dX8_isTooFar_17 q1228 ?_
    refine z_lcmp_le 20 C 26 dX8_isTooFar_20 dX8_isTooFar_21 (by decide) (fun c20 => ?_) (fun c20 => ?_)
    · skip
      refine z_iincN 26 C 1 k [(1, .int (nI (k + 1))), (0, .ref (z_ad G 105))] rfl rfl (by decide) rfl dX8_isTooFar_26 ?_
      refine z_goto 29 C 2 dX8_isTooFar_29 (by decide) ?_
      refine z_sub [1, 0] (lv1 := [(0, .ref (z_ad G 105)), (1, .int (nI (k + 1)))]) rfl ?_
      refine z_cv (lv1 := [(0, .ref (z_ad G 105)), (1, .int (nI (k + 1)))]) (st1 := []) (σ1 := σ) rfl rfl rfl ?_
      exact ih_2 (k + 1) (⟨by omega, by rw [z_tg, hj, Bool.false_or]; exact decide_eq_false (Int64.not_lt.mpr c20)⟩) (by omega)
    · skip
      refine z_iconst 24 C dX8_isTooFar_24 (nI 1) rfl ?_
      refine z_zret 25 C (rfl) dX8_isTooFar_25 ?_
      exact ⟨z_ci (z_bo_t (z_tg_t c5 (Int64.not_le.mp c20))), rfl⟩
