/-! THE REFERENCE: texts. The cells that its reading writes -/
def z_yU (σ : z_St) (pl fa : Int32) : z_St := (fun a => if a = 105 then (fun k => if k = 24 then pl else if k = 25 then fa else σ.1 105 k) else σ.1 a, σ.2)
section ZYU
variable {G : z_Gl} {σ : z_St} {pl fa x y : Int32} {f : Nat → Int32} {X : Nat → Int32} {Y : Nat → Int64}
theorem z_yU_gpl : (z_fl G 105 ((z_yU σ pl fa).1 105) ((z_yU σ pl fa).2 105) 8)[24]? = some (.int pl) := rfl
theorem z_yU_gfa : (z_fl G 105 ((z_yU σ pl fa).1 105) ((z_yU σ pl fa).2 105) 8)[25]? = some (.int fa) := rfl
theorem z_yU_hpl : 24 < (z_fl G 105 X Y 8).length ∧ (z_fl G 105 X Y 8).set 24 (.int x) = z_fl G 105 (upd X 24 x) Y 8 := ⟨Nat.le_of_ble_eq_true rfl, rfl⟩
theorem z_yU_hfa : 25 < (z_fl G 105 X Y 8).length ∧ (z_fl G 105 X Y 8).set 25 (.int x) = z_fl G 105 (upd X 25 x) Y 8 := ⟨Nat.le_of_ble_eq_true rfl, rfl⟩
theorem z_yU_ppl : z_ui (z_yU σ pl fa) 105 24 x = z_yU σ x fa := by
  unfold z_ui z_yU
  refine Prod.ext ?_ rfl
  funext a
  by_cases h : a = 105
  · subst h
    funext k
    simp only [if_true, upd]
    by_cases h2 : k = 24
    · subst h2; simp
    · simp [h2]
  · simp [h]
theorem z_yU_pfa : z_ui (z_yU σ pl fa) 105 25 x = z_yU σ pl x := by
  unfold z_ui z_yU
  refine Prod.ext ?_ rfl
  funext a
  by_cases h : a = 105
  · subst h
    funext k
    simp only [if_true, upd]
    by_cases h2 : k = 25
    · subst h2; simp
    · simp [h2]
  · simp [h]
theorem z_yU_I : z_uI (z_yU σ pl fa) 119 f = z_yU (z_uI σ 119 f) pl fa := by
  unfold z_uI z_yU
  refine Prod.ext ?_ rfl
  funext a
  by_cases h : a = 105
  · subst h; simp
  · by_cases h2 : a = 119
    · subst h2; simp
    · simp [h, h2]
theorem z_yU_e : z_ui (z_ui (z_yU σ pl fa) 105 28 x) 105 29 y = z_yU (z_ui (z_ui σ 105 28 x) 105 29 y) pl fa := by
  unfold z_ui z_yU
  refine Prod.ext ?_ rfl
  funext a
  by_cases h : a = 105
  · subst h
    funext k
    simp only [if_true, upd]
    by_cases h4 : k = 24
    · subst h4; simp
    · by_cases h5 : k = 25
      · subst h5; simp
      · simp [h4, h5]
  · simp [h]
theorem z_yU_s : z_ui (z_ui (z_yU σ pl fa) 105 2 x) 105 1 y = z_yU (z_ui (z_ui σ 105 2 x) 105 1 y) pl fa := by
  unfold z_ui z_yU
  refine Prod.ext ?_ rfl
  funext a
  by_cases h : a = 105
  · subst h
    funext k
    simp only [if_true, upd]
    by_cases h4 : k = 24
    · subst h4; simp
    · by_cases h5 : k = 25
      · subst h5; simp
      · simp [h4, h5]
  · simp [h]
theorem z_yU_self : z_yU σ (σ.1 105 24) (σ.1 105 25) = σ := by
  unfold z_yU
  refine Prod.ext ?_ rfl
  funext a
  by_cases h : a = 105
  · subst h
    funext k
    by_cases h4 : k = 24
    · subst h4; simp
    · by_cases h5 : k = 25
      · subst h5; simp
      · simp [h4, h5]
  · simp [h]
theorem z_mi.yU {P n u v w rc tl : Nat} (h : z_mi σ P n u v w rc tl) : z_mi (z_yU σ pl fa) P n u v w rc tl := h
end ZYU
theorem zm_nn {f : Nat} (h : f < 2 ^ 31) : (0 : Int32) ≤ nI f := by
  rw [z_nn32, nI_toInt h]; omega
theorem zm_nv (x y : Int32) : x * nI 10 + (y - nI 48) = nI 10 * x + y - nI 48 := by
  rw [Int32.mul_comm, Int32.sub_eq_add_neg, Int32.sub_eq_add_neg, Int32.add_assoc]
/-- a number that must be one of steps -/
def zm_nst (ch : Nat → Int32) (L c : Nat) : Nat ⊕ (Nat × Int32) :=
  if zt_nd ch L 5 (zt_c1 ch L c) = 0 then .inl (zt_c1 ch L c)
  else if zt_ok (zt_vl ch L c (zt_nd ch L 5 (zt_c1 ch L c))) then .inr (zt_c1 ch L c + zt_nd ch L 5 (zt_c1 ch L c), zt_vl ch L c (zt_nd ch L 5 (zt_c1 ch L c)))
  else .inl c
theorem zm_nst_0 {ch : Nat → Int32} {L c c1 : Nat} (h1 : zt_c1 ch L c = c1) (h : ¬ zt_dg (zt_at ch L c1)) : zm_nst ch L c = .inl c1 := by
  have e : zt_nd ch L 5 c1 = 0 := zt_nd_eq (j := 0) (fun i hi => absurd hi (Nat.not_lt_zero i)) (by omega) (Or.inr h)
  unfold zm_nst
  rw [h1, e, if_pos rfl]
theorem zm_nst_1 {ch : Nat → Int32} {L c c1 j : Nat} {v : Int32} (h1 : zt_c1 ch L c = c1) (hj : 0 < j) (h : zt_nd ch L 5 c1 = j) (hv : zt_vl ch L c j = v) (ho : ¬ zt_ok v) : zm_nst ch L c = .inl c := by
  unfold zm_nst
  rw [h1, h, hv, if_neg (by omega), if_neg ho]
theorem zm_nst_2 {ch : Nat → Int32} {L c c1 j : Nat} {v : Int32} (h1 : zt_c1 ch L c = c1) (hj : 0 < j) (h : zt_nd ch L 5 c1 = j) (hv : zt_vl ch L c j = v) (ho : zt_ok v) : zm_nst ch L c = .inr (c1 + j, v) := by
  unfold zm_nst
  rw [h1, h, hv, if_neg (by omega), if_pos ho]
theorem zm_no {v : Int32} (h : v < nI 2 ∨ nI 12 < v) : ¬ zt_ok v := by
  intro z
  rcases z with z | z | z | z | z | z <;> (rw [z] at h; exact absurd h (by decide))
theorem zm_ok_in {v : Int32} (h : zt_ok v) : ¬ (v < nI 0 ∨ nI 12 < v) := by
  rcases h with z | z | z | z | z | z <;> (rw [z]; decide)
theorem zm_stp (ch : Nat → Int32) (L c : Nat) : zt_stp ch L c = match zm_nst ch L c with
    | .inl f => .inl f
    | .inr (c1, v1) => .inr (c1, nI 110, v1, nI 0, nI 0) := by
  unfold zt_stp zt_num zm_nst
  by_cases h0 : zt_nd ch L 5 (zt_c1 ch L c) = 0
  · simp only [if_pos h0]
  · simp only [if_neg h0]
    by_cases hk : zt_ok (zt_vl ch L c (zt_nd ch L 5 (zt_c1 ch L c)))
    · have hn := zm_ok_in hk
      simp only [if_neg hn, if_pos hk]
    · simp only [if_neg hk]
      by_cases h1 : zt_vl ch L c (zt_nd ch L 5 (zt_c1 ch L c)) < nI 0 ∨ nI 12 < zt_vl ch L c (zt_nd ch L 5 (zt_c1 ch L c))
      · simp only [if_pos h1]
      · simp only [if_neg h1, if_neg hk]
theorem zm_nst_rng {ch : Nat → Int32} {L c c1 : Nat} {v : Int32} (h : zm_nst ch L c = .inr (c1, v)) : c < c1 ∧ c1 ≤ L ∧ zt_ok v := by
  have hs := zm_stp ch L c
  rw [h] at hs
  have r := zt_stp_rng hs
  have hv := zt_stp_val hs
  refine ⟨r.1, r.2, ?_⟩
  rcases hv with q | q | q
  · exact q.2
  · exact absurd q.1 (by show ¬ nI 110 = nI 101; decide)
  · rcases q.1 with z | z
    · exact absurd z (by show ¬ nI 110 = nI 112; decide)
    · exact absurd z (by show ¬ nI 110 = nI 115; decide)
/-- an item obeyed by the reference -/
def zm_ob (σ : z_St) (x : zt_It) : z_St :=
  if x.1 = nI 110 then z_ui (z_ui σ 105 2 (nI 0)) 105 1 x.2.1
  else if x.1 = nI 101 then z_ui (z_ui σ 105 28 x.2.1) 105 29 x.2.2.1
  else z_uI σ 119 (fb_put (σ.1 119) (z_so (z_shI (σ.1 119) (24 * zt_t x.1)) x.2.2.1 (z_n x.2.1) (z_n x.2.2.2)) (24 * zt_t x.1) 24)
def zm_dob (d : Nat) (σ : z_St) (x : zt_It) : z_St := if d = 0 then σ else zm_ob σ x
theorem zm_dob_0 {d : Nat} {σ : z_St} {x : zt_It} (h : d = 0) : zm_dob d σ x = σ := if_pos h
theorem zm_dob_1 {d : Nat} {σ : z_St} {x : zt_It} (h : ¬ d = 0) : zm_dob d σ x = zm_ob σ x := if_neg h
theorem zm_ob_n {σ : z_St} {a b d : Int32} : zm_ob σ (nI 110, a, b, d) = z_ui (z_ui σ 105 2 (nI 0)) 105 1 a := if_pos rfl
theorem zm_ob_e {σ : z_St} {a b d : Int32} : zm_ob σ (nI 101, a, b, d) = z_ui (z_ui σ 105 28 a) 105 29 b := (if_neg (by show ¬ nI 101 = nI 110; decide)).trans (if_pos rfl)
theorem zm_ob_l {σ : z_St} {k b : Int32} {h f t : Nat} (hk : k = nI 112 ∨ k = nI 115) (ht : zt_t k = t) (hh : h ≤ 12) (hf : f ≤ 23) : zm_ob σ (k, nI h, b, nI f) = z_uI σ 119 (fb_put (σ.1 119) (z_so (z_shI (σ.1 119) (24 * t)) b h f) (24 * t) 24) := by
  have h1 : ¬ k = nI 110 := by rcases hk with z | z <;> (rw [z]; decide)
  have h2 : ¬ k = nI 101 := by rcases hk with z | z <;> (rw [z]; decide)
  have e : zm_ob σ (k, nI h, b, nI f) = z_uI σ 119 (fb_put (σ.1 119) (z_so (z_shI (σ.1 119) (24 * zt_t k)) b (z_n (nI h)) (z_n (nI f))) (24 * zt_t k) 24) := (if_neg h1).trans (if_neg h2)
  rw [e, ht, z_nk (by omega), z_nk (by omega)]
theorem zm_num_f {ch : Nat → Int32} {L c f : Nat} {lo hi : Int32} (hc : c ≤ L) (h : zt_num ch L lo hi c = .inl f) : f ≤ L := by
  have hl : zt_c1 ch L c ≤ L := by
    unfold zt_c1
    split
    · rename_i q
      exact zt_lt q (by decide)
    · exact hc
  unfold zt_num at h
  split at h
  · rw [← Sum.inl.inj h]; exact hl
  · split at h
    · rw [← Sum.inl.inj h]; exact hc
    · exact absurd h (by simp)
theorem dX8_isAt_0 : decode cX8_isAt 0 = .ok (.aload_n 0, 1) := by decide +kernel
theorem dX8_isAt_1 : decode cX8_isAt 1 = .ok (.getfield 293, 3) := by decide +kernel
theorem dX8_isAt_4 : decode cX8_isAt 4 = .ok (.aload_n 0, 1) := by decide +kernel
theorem dX8_isAt_5 : decode cX8_isAt 5 = .ok (.getfield 290, 3) := by decide +kernel
theorem dX8_isAt_8 : decode cX8_isAt 8 = .ok (.if_icmp .ge 20, 3) := by decide +kernel
theorem dX8_isAt_11 : decode cX8_isAt 11 = .ok (.aload_n 0, 1) := by decide +kernel
theorem dX8_isAt_12 : decode cX8_isAt 12 = .ok (.getfield 53, 3) := by decide +kernel
theorem dX8_isAt_15 : decode cX8_isAt 15 = .ok (.aload_n 0, 1) := by decide +kernel
theorem dX8_isAt_16 : decode cX8_isAt 16 = .ok (.getfield 293, 3) := by decide +kernel
theorem dX8_isAt_19 : decode cX8_isAt 19 = .ok (.caload, 1) := by decide +kernel
theorem dX8_isAt_20 : decode cX8_isAt 20 = .ok (.iload_n 1, 1) := by decide +kernel
theorem dX8_isAt_21 : decode cX8_isAt 21 = .ok (.if_icmp .ne 7, 3) := by decide +kernel
theorem dX8_isAt_24 : decode cX8_isAt 24 = .ok (.iconst 1, 1) := by decide +kernel
theorem dX8_isAt_25 : decode cX8_isAt 25 = .ok (.goto 4, 3) := by decide +kernel
theorem dX8_isAt_28 : decode cX8_isAt 28 = .ok (.iconst 0, 1) := by decide +kernel
theorem dX8_isAt_29 : decode cX8_isAt 29 = .ok (.ireturn, 1) := by decide +kernel
set_option maxRecDepth 100000 in
set_option maxHeartbeats 4000000 in
theorem m_X8_isAt {l : Launch} {G : z_Gl} {σ : z_St} (P n u v w rc tl : Nat) (hM : z_mi σ P n u v w rc tl) (ps : Nat) (hps : ps ≤ tl) (fa wd : Int32) (hwd : ¬ wd = -1) : z_M l G yX8_isAt cX8_isAt 2 (some .boolean) (z_rm 0 0) [.ref (z_ad G 105), .int wd] (z_yU σ (nI ps) fa) (z_p1 (.int (z_bo (zt_at (σ.1 118) tl ps = wd))) (z_yU σ (nI ps) fa)) := by
  refine z_M.of (by decide) (Nat.le_of_ble_eq_true rfl) (fun p e s m below meth c C => ?_)
  refine z_sub [0, 1] (lv1 := [(0, .ref (z_ad G 105)), (1, .int wd)]) rfl ?_
  have hM0 := hM
  obtain ⟨⟨hP, hn, hu, hv, hw, hrc, htl⟩, hPs, hnP, huv, hw6, hrc8, htl2, hqt, hah⟩ := hM0
  have h0 : 0 < P := by omega
  have h12 : P ≤ 12 := by omega
  have h288 : n ≤ 288 := by omega
  refine z_aload_n 0 C dX8_isAt_0 0 rfl ?_
  refine z_getf 1 C 105 z_dX8 (⟨rfl, rfl⟩) 24 (by decide) q990 (.int (nI ps)) z_yU_gpl dX8_isAt_1 ?_
  refine z_aload_n 4 C dX8_isAt_4 0 rfl ?_
  refine z_getf 5 C 105 z_dX8 (⟨rfl, rfl⟩) 22 (by decide) q988 (.int (nI tl)) (z_ci htl) dX8_isAt_5 ?_
  refine z_icmp_geN 8 C ps tl rfl rfl (by omega) (by omega) 28 dX8_isAt_8 (by decide) (fun c8 => ?_) (fun c8 => ?_)
  · skip
    refine z_iconst 28 C dX8_isAt_28 (nI 0) rfl ?_
    refine z_zret 29 C (rfl) dX8_isAt_29 ?_
    first | exact ⟨z_ci (z_bo_f (fun z => absurd (zt_lt z hwd) (Nat.not_lt.mpr c8))), rfl⟩ | exact ⟨z_ci (z_bo_f (fun z => c21 ((zt_at_lt c8).symm.trans z))), rfl⟩ | exact ⟨z_ci (z_bo_t ((zt_at_lt c8).trans c21)), rfl⟩
  · skip
    refine z_aload_n 11 C dX8_isAt_11 0 rfl ?_
    refine z_getf 12 C 105 z_dX8 (⟨rfl, rfl⟩) 23 (by decide) q989 (.ref (z_ad G 118)) rfl dX8_isAt_12 ?_
    refine z_aload_n 15 C dX8_isAt_15 0 rfl ?_
    refine z_getf 16 C 105 z_dX8 (⟨rfl, rfl⟩) 24 (by decide) q990 (.int (nI ps)) z_yU_gpl dX8_isAt_16 ?_
    refine z_caldN 19 C 118 (n := 200) (⟨rfl, rfl⟩) ps rfl (by omega) (by decide) dX8_isAt_19 ?_
    refine z_cv (st1 := [.int (σ.1 118 ps)]) rfl rfl rfl ?_
    refine z_iload_n 20 C dX8_isAt_20 1 rfl ?_
    refine z_icmp_ne 21 C 28 dX8_isAt_21 (by decide) (fun c21 => ?_) (fun c21 => ?_)
    · skip
      refine z_iconst 28 C dX8_isAt_28 (nI 0) rfl ?_
      refine z_zret 29 C (rfl) dX8_isAt_29 ?_
      first | exact ⟨z_ci (z_bo_f (fun z => absurd (zt_lt z hwd) (Nat.not_lt.mpr c8))), rfl⟩ | exact ⟨z_ci (z_bo_f (fun z => c21 ((zt_at_lt c8).symm.trans z))), rfl⟩ | exact ⟨z_ci (z_bo_t ((zt_at_lt c8).trans c21)), rfl⟩
    · skip
      refine z_iconst 24 C dX8_isAt_24 (nI 1) rfl ?_
      refine z_goto 25 C 29 dX8_isAt_25 (by decide) ?_
      refine z_zret 29 C (rfl) dX8_isAt_29 ?_
      first | exact ⟨z_ci (z_bo_f (fun z => absurd (zt_lt z hwd) (Nat.not_lt.mpr c8))), rfl⟩ | exact ⟨z_ci (z_bo_f (fun z => c21 ((zt_at_lt c8).symm.trans z))), rfl⟩ | exact ⟨z_ci (z_bo_t ((zt_at_lt c8).trans c21)), rfl⟩
theorem dX8_isDigit_0 : decode cX8_isDigit 0 = .ok (.aload_n 0, 1) := by decide +kernel
theorem dX8_isDigit_1 : decode cX8_isDigit 1 = .ok (.getfield 293, 3) := by decide +kernel
theorem dX8_isDigit_4 : decode cX8_isDigit 4 = .ok (.aload_n 0, 1) := by decide +kernel
theorem dX8_isDigit_5 : decode cX8_isDigit 5 = .ok (.getfield 290, 3) := by decide +kernel
theorem dX8_isDigit_8 : decode cX8_isDigit 8 = .ok (.if_icmp .ge 35, 3) := by decide +kernel
theorem dX8_isDigit_11 : decode cX8_isDigit 11 = .ok (.aload_n 0, 1) := by decide +kernel
theorem dX8_isDigit_12 : decode cX8_isDigit 12 = .ok (.getfield 53, 3) := by decide +kernel
theorem dX8_isDigit_15 : decode cX8_isDigit 15 = .ok (.aload_n 0, 1) := by decide +kernel
theorem dX8_isDigit_16 : decode cX8_isDigit 16 = .ok (.getfield 293, 3) := by decide +kernel
theorem dX8_isDigit_19 : decode cX8_isDigit 19 = .ok (.caload, 1) := by decide +kernel
theorem dX8_isDigit_20 : decode cX8_isDigit 20 = .ok (.bipush 48, 2) := by decide +kernel
theorem dX8_isDigit_22 : decode cX8_isDigit 22 = .ok (.if_icmp .lt 21, 3) := by decide +kernel
theorem dX8_isDigit_25 : decode cX8_isDigit 25 = .ok (.aload_n 0, 1) := by decide +kernel
theorem dX8_isDigit_26 : decode cX8_isDigit 26 = .ok (.getfield 53, 3) := by decide +kernel
theorem dX8_isDigit_29 : decode cX8_isDigit 29 = .ok (.aload_n 0, 1) := by decide +kernel
theorem dX8_isDigit_30 : decode cX8_isDigit 30 = .ok (.getfield 293, 3) := by decide +kernel
theorem dX8_isDigit_33 : decode cX8_isDigit 33 = .ok (.caload, 1) := by decide +kernel
theorem dX8_isDigit_34 : decode cX8_isDigit 34 = .ok (.bipush 57, 2) := by decide +kernel
theorem dX8_isDigit_36 : decode cX8_isDigit 36 = .ok (.if_icmp .gt 7, 3) := by decide +kernel
theorem dX8_isDigit_39 : decode cX8_isDigit 39 = .ok (.iconst 1, 1) := by decide +kernel
theorem dX8_isDigit_40 : decode cX8_isDigit 40 = .ok (.goto 4, 3) := by decide +kernel
theorem dX8_isDigit_43 : decode cX8_isDigit 43 = .ok (.iconst 0, 1) := by decide +kernel
theorem dX8_isDigit_44 : decode cX8_isDigit 44 = .ok (.ireturn, 1) := by decide +kernel
set_option maxRecDepth 100000 in
set_option maxHeartbeats 4000000 in
theorem m_X8_isDigit {l : Launch} {G : z_Gl} {σ : z_St} (P n u v w rc tl : Nat) (hM : z_mi σ P n u v w rc tl) (ps : Nat) (hps : ps ≤ tl) (fa : Int32) : z_M l G yX8_isDigit cX8_isDigit 1 (some .boolean) (z_rm 0 0) [.ref (z_ad G 105)] (z_yU σ (nI ps) fa) (z_p1 (.int (z_bo (zt_dg (zt_at (σ.1 118) tl ps)))) (z_yU σ (nI ps) fa)) := by
  refine z_M.of (by decide) (Nat.le_of_ble_eq_true rfl) (fun p e s m below meth c C => ?_)
  refine z_sub [0] (lv1 := [(0, .ref (z_ad G 105))]) rfl ?_
  have hM0 := hM
  obtain ⟨⟨hP, hn, hu, hv, hw, hrc, htl⟩, hPs, hnP, huv, hw6, hrc8, htl2, hqt, hah⟩ := hM0
  have h0 : 0 < P := by omega
  have h12 : P ≤ 12 := by omega
  have h288 : n ≤ 288 := by omega
  refine z_aload_n 0 C dX8_isDigit_0 0 rfl ?_
  refine z_getf 1 C 105 z_dX8 (⟨rfl, rfl⟩) 24 (by decide) q990 (.int (nI ps)) z_yU_gpl dX8_isDigit_1 ?_
  refine z_aload_n 4 C dX8_isDigit_4 0 rfl ?_
  refine z_getf 5 C 105 z_dX8 (⟨rfl, rfl⟩) 22 (by decide) q988 (.int (nI tl)) (z_ci htl) dX8_isDigit_5 ?_
  refine z_icmp_geN 8 C ps tl rfl rfl (by omega) (by omega) 43 dX8_isDigit_8 (by decide) (fun c8 => ?_) (fun c8 => ?_)
  · skip
    refine z_iconst 43 C dX8_isDigit_43 (nI 0) rfl ?_
    refine z_zret 44 C (rfl) dX8_isDigit_44 ?_
    first | exact ⟨z_ci (z_bo_f (fun z => absurd (zt_dg_lt z) (Nat.not_lt.mpr c8))), rfl⟩ | exact ⟨z_ci (z_bo_f (fun z => z (by rw [zt_at_lt c8]; exact Or.inl c22))), rfl⟩ | exact ⟨z_ci (z_bo_f (fun z => z (by rw [zt_at_lt c8]; exact Or.inr c36))), rfl⟩ | exact ⟨z_ci (z_bo_t (by rw [zt_at_lt c8]; exact fun z => z.elim c22 c36)), rfl⟩
  · skip
    refine z_aload_n 11 C dX8_isDigit_11 0 rfl ?_
    refine z_getf 12 C 105 z_dX8 (⟨rfl, rfl⟩) 23 (by decide) q989 (.ref (z_ad G 118)) rfl dX8_isDigit_12 ?_
    refine z_aload_n 15 C dX8_isDigit_15 0 rfl ?_
    refine z_getf 16 C 105 z_dX8 (⟨rfl, rfl⟩) 24 (by decide) q990 (.int (nI ps)) z_yU_gpl dX8_isDigit_16 ?_
    refine z_caldN 19 C 118 (n := 200) (⟨rfl, rfl⟩) ps rfl (by omega) (by decide) dX8_isDigit_19 ?_
    refine z_cv (st1 := [.int (σ.1 118 ps)]) rfl rfl rfl ?_
    refine z_bipush 20 C dX8_isDigit_20 (nI 48) rfl ?_
    refine z_icmp_lt 22 C 43 dX8_isDigit_22 (by decide) (fun c22 => ?_) (fun c22 => ?_)
    · skip
      refine z_iconst 43 C dX8_isDigit_43 (nI 0) rfl ?_
      refine z_zret 44 C (rfl) dX8_isDigit_44 ?_
      first | exact ⟨z_ci (z_bo_f (fun z => absurd (zt_dg_lt z) (Nat.not_lt.mpr c8))), rfl⟩ | exact ⟨z_ci (z_bo_f (fun z => z (by rw [zt_at_lt c8]; exact Or.inl c22))), rfl⟩ | exact ⟨z_ci (z_bo_f (fun z => z (by rw [zt_at_lt c8]; exact Or.inr c36))), rfl⟩ | exact ⟨z_ci (z_bo_t (by rw [zt_at_lt c8]; exact fun z => z.elim c22 c36)), rfl⟩
    · skip
      refine z_aload_n 25 C dX8_isDigit_25 0 rfl ?_
      refine z_getf 26 C 105 z_dX8 (⟨rfl, rfl⟩) 23 (by decide) q989 (.ref (z_ad G 118)) rfl dX8_isDigit_26 ?_
      refine z_aload_n 29 C dX8_isDigit_29 0 rfl ?_
      refine z_getf 30 C 105 z_dX8 (⟨rfl, rfl⟩) 24 (by decide) q990 (.int (nI ps)) z_yU_gpl dX8_isDigit_30 ?_
      refine z_caldN 33 C 118 (n := 200) (⟨rfl, rfl⟩) ps rfl (by omega) (by decide) dX8_isDigit_33 ?_
      refine z_cv (st1 := [.int (σ.1 118 ps)]) rfl rfl rfl ?_
      refine z_bipush 34 C dX8_isDigit_34 (nI 57) rfl ?_
      refine z_icmp_gt 36 C 43 dX8_isDigit_36 (by decide) (fun c36 => ?_) (fun c36 => ?_)
      · skip
        refine z_iconst 43 C dX8_isDigit_43 (nI 0) rfl ?_
        refine z_zret 44 C (rfl) dX8_isDigit_44 ?_
        first | exact ⟨z_ci (z_bo_f (fun z => absurd (zt_dg_lt z) (Nat.not_lt.mpr c8))), rfl⟩ | exact ⟨z_ci (z_bo_f (fun z => z (by rw [zt_at_lt c8]; exact Or.inl c22))), rfl⟩ | exact ⟨z_ci (z_bo_f (fun z => z (by rw [zt_at_lt c8]; exact Or.inr c36))), rfl⟩ | exact ⟨z_ci (z_bo_t (by rw [zt_at_lt c8]; exact fun z => z.elim c22 c36)), rfl⟩
      · skip
        refine z_iconst 39 C dX8_isDigit_39 (nI 1) rfl ?_
        refine z_goto 40 C 44 dX8_isDigit_40 (by decide) ?_
        refine z_zret 44 C (rfl) dX8_isDigit_44 ?_
        first | exact ⟨z_ci (z_bo_f (fun z => absurd (zt_dg_lt z) (Nat.not_lt.mpr c8))), rfl⟩ | exact ⟨z_ci (z_bo_f (fun z => z (by rw [zt_at_lt c8]; exact Or.inl c22))), rfl⟩ | exact ⟨z_ci (z_bo_f (fun z => z (by rw [zt_at_lt c8]; exact Or.inr c36))), rfl⟩ | exact ⟨z_ci (z_bo_t (by rw [zt_at_lt c8]; exact fun z => z.elim c22 c36)), rfl⟩
theorem dX8_fail_0 : decode cX8_fail 0 = .ok (.aload_n 0, 1) := by decide +kernel
theorem dX8_fail_1 : decode cX8_fail 1 = .ok (.aload_n 0, 1) := by decide +kernel
theorem dX8_fail_2 : decode cX8_fail 2 = .ok (.getfield 296, 3) := by decide +kernel
theorem dX8_fail_5 : decode cX8_fail 5 = .ok (.ifCond .ge 7, 3) := by decide +kernel
theorem dX8_fail_8 : decode cX8_fail 8 = .ok (.iload_n 1, 1) := by decide +kernel
theorem dX8_fail_9 : decode cX8_fail 9 = .ok (.goto 7, 3) := by decide +kernel
theorem dX8_fail_16 : decode cX8_fail 16 = .ok (.putfield 296, 3) := by decide +kernel
theorem dX8_fail_19 : decode cX8_fail 19 = .ok (.return_, 1) := by decide +kernel
set_option maxRecDepth 100000 in
set_option maxHeartbeats 4000000 in
theorem m_X8_fail {l : Launch} {G : z_Gl} {σ : z_St} (pl f : Int32) : z_M l G yX8_fail cX8_fail 2 none (z_rm 0 0) [.ref (z_ad G 105), .int f] (z_yU σ pl (-1)) (z_p0 (z_yU σ pl f)) := by
  refine z_M.of (by decide) (Nat.le_of_ble_eq_true rfl) (fun p e s m below meth c C => ?_)
  refine z_sub [0, 1] (lv1 := [(0, .ref (z_ad G 105)), (1, .int f)]) rfl ?_
  refine z_aload_n 0 C dX8_fail_0 0 rfl ?_
  refine z_aload_n 1 C dX8_fail_1 0 rfl ?_
  refine z_getf 2 C 105 z_dX8 (⟨rfl, rfl⟩) 25 (by decide) q991 (.int (-1)) z_yU_gfa dX8_fail_2 ?_
  refine z_if_ge 5 C 12 dX8_fail_5 (by decide) (fun c5 => ?_) (fun c5 => ?_)
  · skip
    exact absurd c5 (by decide)
  · skip
    refine z_iload_n 8 C dX8_fail_8 1 rfl ?_
    refine z_goto 9 C 16 dX8_fail_9 (by decide) ?_
    refine z_puti 16 C 105 z_dX8 (⟨rfl, rfl⟩) 25 (by decide) q991 rfl (rfl) rfl z_yU_hfa dX8_fail_16 ?_
    refine z_cv (σ1 := z_yU σ pl f) rfl rfl z_yU_pfa ?_
    refine z_vret 19 C dX8_fail_19 ?_
    exact ⟨rfl, rfl⟩
theorem dX8_fail_12 : decode cX8_fail 12 = .ok (.aload_n 0, 1) := by decide +kernel
theorem dX8_fail_13 : decode cX8_fail 13 = .ok (.getfield 296, 3) := by decide +kernel
set_option maxRecDepth 100000 in
set_option maxHeartbeats 4000000 in
theorem m_X8_fail_k {l : Launch} {G : z_Gl} {σ : z_St} (pl f : Int32) (g : Nat) (hg : g < 2 ^ 31) : z_M l G yX8_fail cX8_fail 2 none (z_rm 0 0) [.ref (z_ad G 105), .int f] (z_yU σ pl (nI g)) (z_p0 (z_yU σ pl (nI g))) := by
  refine z_M.of (by decide) (Nat.le_of_ble_eq_true rfl) (fun p e s m below meth c C => ?_)
  refine z_sub [0, 1] (lv1 := [(0, .ref (z_ad G 105)), (1, .int f)]) rfl ?_
  refine z_aload_n 0 C dX8_fail_0 0 rfl ?_
  refine z_aload_n 1 C dX8_fail_1 0 rfl ?_
  refine z_getf 2 C 105 z_dX8 (⟨rfl, rfl⟩) 25 (by decide) q991 (.int (nI g)) z_yU_gfa dX8_fail_2 ?_
  refine z_if_ge 5 C 12 dX8_fail_5 (by decide) (fun c5 => ?_) (fun c5 => ?_)
  · skip
    refine z_aload_n 12 C dX8_fail_12 0 rfl ?_
    refine z_getf 13 C 105 z_dX8 (⟨rfl, rfl⟩) 25 (by decide) q991 (.int (nI g)) z_yU_gfa dX8_fail_13 ?_
    refine z_puti 16 C 105 z_dX8 (⟨rfl, rfl⟩) 25 (by decide) q991 rfl (rfl) rfl z_yU_hfa dX8_fail_16 ?_
    refine z_cv (σ1 := z_yU σ pl (nI g)) rfl rfl z_yU_pfa ?_
    refine z_vret 19 C dX8_fail_19 ?_
    exact ⟨rfl, rfl⟩
  · skip
    exact absurd (zm_nn hg) c5
theorem dX8_expect_0 : decode cX8_expect 0 = .ok (.aload_n 0, 1) := by decide +kernel
theorem dX8_expect_1 : decode cX8_expect 1 = .ok (.iload_n 1, 1) := by decide +kernel
theorem dX8_expect_2 : decode cX8_expect 2 = .ok (.invokevirtual 299, 3) := by decide +kernel
theorem dX8_expect_5 : decode cX8_expect 5 = .ok (.ifCond .eq 16, 3) := by decide +kernel
theorem dX8_expect_8 : decode cX8_expect 8 = .ok (.aload_n 0, 1) := by decide +kernel
theorem dX8_expect_9 : decode cX8_expect 9 = .ok (.dup, 1) := by decide +kernel
theorem dX8_expect_10 : decode cX8_expect 10 = .ok (.getfield 293, 3) := by decide +kernel
theorem dX8_expect_13 : decode cX8_expect 13 = .ok (.iconst 1, 1) := by decide +kernel
theorem dX8_expect_14 : decode cX8_expect 14 = .ok (.iadd, 1) := by decide +kernel
theorem dX8_expect_15 : decode cX8_expect 15 = .ok (.putfield 293, 3) := by decide +kernel
theorem dX8_expect_18 : decode cX8_expect 18 = .ok (.goto 11, 3) := by decide +kernel
theorem dX8_expect_21 : decode cX8_expect 21 = .ok (.aload_n 0, 1) := by decide +kernel
theorem dX8_expect_22 : decode cX8_expect 22 = .ok (.aload_n 0, 1) := by decide +kernel
theorem dX8_expect_23 : decode cX8_expect 23 = .ok (.getfield 293, 3) := by decide +kernel
theorem dX8_expect_26 : decode cX8_expect 26 = .ok (.invokevirtual 303, 3) := by decide +kernel
theorem dX8_expect_29 : decode cX8_expect 29 = .ok (.return_, 1) := by decide +kernel
set_option maxRecDepth 100000 in
set_option maxHeartbeats 4000000 in
theorem m_X8_expect {l : Launch} {G : z_Gl} {σ : z_St} (P n u v w rc tl : Nat) (hM : z_mi σ P n u v w rc tl) (ps : Nat) (hps : ps ≤ tl) (wd : Int32) (hwd : ¬ wd = -1) : z_M l G yX8_expect cX8_expect 2 none (z_rm 1 21) [.ref (z_ad G 105), .int wd] (z_yU σ (nI ps) (-1)) (fun v_ σ1 => (¬ zt_at (σ.1 118) tl ps = wd ∧ v_ = none ∧ σ1 = z_yU σ (nI ps) (nI ps)) ∨ (zt_at (σ.1 118) tl ps = wd ∧ v_ = none ∧ σ1 = z_yU σ (nI (ps + 1)) (-1))) := by
  refine z_M.of (by decide) (Nat.le_of_ble_eq_true rfl) (fun p e s m below meth c C => ?_)
  refine z_sub [0, 1] (lv1 := [(0, .ref (z_ad G 105)), (1, .int wd)]) rfl ?_
  have hM0 := hM
  obtain ⟨⟨hP, hn, hu, hv, hw, hrc, htl⟩, hPs, hnP, huv, hw6, hrc8, htl2, hqt, hah⟩ := hM0
  have h0 : 0 < P := by omega
  have h12 : P ≤ 12 := by omega
  have h288 : n ≤ 288 := by omega
  refine z_aload_n 0 C dX8_expect_0 0 rfl ?_
  refine z_iload_n 1 C dX8_expect_1 1 rfl ?_
  refine z_callV 2 C 105 (⟨rfl, rfl⟩) rfl (As := [.int wd]) (rest := []) (@m_X8_isAt _ _ σ P n u v w rc tl hM ps (by omega) (-1) wd (hwd)) k_X8_isAt q1433 ⟨rfl, rfl⟩ ⟨Nat.le_of_ble_eq_true rfl, Nat.le_of_ble_eq_true rfl⟩ rfl (Nat.le_of_ble_eq_true rfl) ⟨Nat.le_of_ble_eq_true rfl, Nat.le_of_ble_eq_true rfl⟩ rfl dX8_expect_2 (z_k1 ?_)
  refine z_if_eqb 5 C 21 dX8_expect_5 (by decide) (fun c5 => ?_) (fun c5 => ?_)
  · skip
    refine z_aload_n 21 C dX8_expect_21 0 rfl ?_
    refine z_aload_n 22 C dX8_expect_22 0 rfl ?_
    refine z_getf 23 C 105 z_dX8 (⟨rfl, rfl⟩) 24 (by decide) q990 (.int (nI ps)) z_yU_gpl dX8_expect_23 ?_
    refine z_callV 26 C 105 (⟨rfl, rfl⟩) rfl (As := [.int (nI ps)]) (rest := []) (@m_X8_fail _ _ σ (nI ps) (nI ps)) k_X8_fail q1437 ⟨rfl, rfl⟩ ⟨Nat.le_of_ble_eq_true rfl, Nat.le_of_ble_eq_true rfl⟩ rfl (Nat.le_of_ble_eq_true rfl) ⟨Nat.le_of_ble_eq_true rfl, Nat.le_of_ble_eq_true rfl⟩ rfl dX8_expect_26 (z_k0 ?_)
    refine z_vret 29 C dX8_expect_29 ?_
    exact Or.inl ⟨c5, rfl, rfl⟩
  · skip
    refine z_aload_n 8 C dX8_expect_8 0 rfl ?_
    refine z_dup 9 C dX8_expect_9 rfl ?_
    refine z_getf 10 C 105 z_dX8 (⟨rfl, rfl⟩) 24 (by decide) q990 (.int (nI ps)) z_yU_gpl dX8_expect_10 ?_
    refine z_iconst 13 C dX8_expect_13 (nI 1) rfl ?_
    refine z_iaddN 14 C ps 1 rfl rfl dX8_expect_14 ?_
    refine z_puti 15 C 105 z_dX8 (⟨rfl, rfl⟩) 24 (by decide) q990 rfl (rfl) rfl z_yU_hpl dX8_expect_15 ?_
    refine z_cv (σ1 := z_yU σ (nI (ps + 1)) (-1)) rfl rfl z_yU_ppl ?_
    refine z_goto 18 C 29 dX8_expect_18 (by decide) ?_
    refine z_vret 29 C dX8_expect_29 ?_
    exact Or.inr ⟨c5, rfl, rfl⟩
theorem dX8_number_0 : decode cX8_number 0 = .ok (.aload_n 0, 1) := by decide +kernel
theorem dX8_number_1 : decode cX8_number 1 = .ok (.getfield 293, 3) := by decide +kernel
theorem dX8_number_4 : decode cX8_number 4 = .ok (.istore 4, 2) := by decide +kernel
theorem dX8_number_6 : decode cX8_number 6 = .ok (.aload_n 0, 1) := by decide +kernel
theorem dX8_number_7 : decode cX8_number 7 = .ok (.bipush 45, 2) := by decide +kernel
theorem dX8_number_9 : decode cX8_number 9 = .ok (.invokevirtual 299, 3) := by decide +kernel
theorem dX8_number_12 : decode cX8_number 12 = .ok (.istore 5, 2) := by decide +kernel
theorem dX8_number_14 : decode cX8_number 14 = .ok (.aload_n 0, 1) := by decide +kernel
theorem dX8_number_15 : decode cX8_number 15 = .ok (.dup, 1) := by decide +kernel
theorem dX8_number_16 : decode cX8_number 16 = .ok (.getfield 293, 3) := by decide +kernel
theorem dX8_number_19 : decode cX8_number 19 = .ok (.iload 5, 2) := by decide +kernel
theorem dX8_number_21 : decode cX8_number 21 = .ok (.ifCond .eq 7, 3) := by decide +kernel
theorem dX8_number_24 : decode cX8_number 24 = .ok (.iconst 1, 1) := by decide +kernel
theorem dX8_number_25 : decode cX8_number 25 = .ok (.goto 4, 3) := by decide +kernel
theorem dX8_number_28 : decode cX8_number 28 = .ok (.iconst 0, 1) := by decide +kernel
theorem dX8_number_29 : decode cX8_number 29 = .ok (.iadd, 1) := by decide +kernel
theorem dX8_number_30 : decode cX8_number 30 = .ok (.putfield 293, 3) := by decide +kernel
theorem dX8_number_33 : decode cX8_number 33 = .ok (.iconst 0, 1) := by decide +kernel
theorem dX8_number_34 : decode cX8_number 34 = .ok (.istore 6, 2) := by decide +kernel
theorem dX8_number_36 : decode cX8_number 36 = .ok (.iconst 0, 1) := by decide +kernel
theorem dX8_number_37 : decode cX8_number 37 = .ok (.istore 7, 2) := by decide +kernel
theorem dX8_number_39 : decode cX8_number 39 = .ok (.iload 6, 2) := by decide +kernel
theorem dX8_number_41 : decode cX8_number 41 = .ok (.iconst 5, 1) := by decide +kernel
theorem dX8_number_42 : decode cX8_number 42 = .ok (.if_icmp .ge 46, 3) := by decide +kernel
theorem dX8_number_45 : decode cX8_number 45 = .ok (.aload_n 0, 1) := by decide +kernel
theorem dX8_number_46 : decode cX8_number 46 = .ok (.invokevirtual 306, 3) := by decide +kernel
theorem dX8_number_49 : decode cX8_number 49 = .ok (.ifCond .eq 39, 3) := by decide +kernel
theorem dX8_number_52 : decode cX8_number 52 = .ok (.bipush 10, 2) := by decide +kernel
theorem dX8_number_54 : decode cX8_number 54 = .ok (.iload 7, 2) := by decide +kernel
theorem dX8_number_56 : decode cX8_number 56 = .ok (.imul, 1) := by decide +kernel
theorem dX8_number_57 : decode cX8_number 57 = .ok (.aload_n 0, 1) := by decide +kernel
theorem dX8_number_58 : decode cX8_number 58 = .ok (.getfield 53, 3) := by decide +kernel
theorem dX8_number_61 : decode cX8_number 61 = .ok (.aload_n 0, 1) := by decide +kernel
theorem dX8_number_62 : decode cX8_number 62 = .ok (.getfield 293, 3) := by decide +kernel
theorem dX8_number_65 : decode cX8_number 65 = .ok (.caload, 1) := by decide +kernel
theorem dX8_number_66 : decode cX8_number 66 = .ok (.iadd, 1) := by decide +kernel
theorem dX8_number_67 : decode cX8_number 67 = .ok (.bipush 48, 2) := by decide +kernel
theorem dX8_number_69 : decode cX8_number 69 = .ok (.isub, 1) := by decide +kernel
theorem dX8_number_70 : decode cX8_number 70 = .ok (.istore 7, 2) := by decide +kernel
theorem dX8_number_72 : decode cX8_number 72 = .ok (.aload_n 0, 1) := by decide +kernel
theorem dX8_number_73 : decode cX8_number 73 = .ok (.dup, 1) := by decide +kernel
theorem dX8_number_74 : decode cX8_number 74 = .ok (.getfield 293, 3) := by decide +kernel
theorem dX8_number_77 : decode cX8_number 77 = .ok (.iconst 1, 1) := by decide +kernel
theorem dX8_number_78 : decode cX8_number 78 = .ok (.iadd, 1) := by decide +kernel
theorem dX8_number_79 : decode cX8_number 79 = .ok (.putfield 293, 3) := by decide +kernel
theorem dX8_number_82 : decode cX8_number 82 = .ok (.iinc 6 1, 3) := by decide +kernel
theorem dX8_number_85 : decode cX8_number 85 = .ok (.goto (-46), 3) := by decide +kernel
theorem dX8_number_88 : decode cX8_number 88 = .ok (.iload 6, 2) := by decide +kernel
theorem dX8_number_90 : decode cX8_number 90 = .ok (.ifCond .ne 11, 3) := by decide +kernel
theorem dX8_number_93 : decode cX8_number 93 = .ok (.aload_n 0, 1) := by decide +kernel
theorem dX8_number_94 : decode cX8_number 94 = .ok (.aload_n 0, 1) := by decide +kernel
theorem dX8_number_95 : decode cX8_number 95 = .ok (.getfield 293, 3) := by decide +kernel
theorem dX8_number_98 : decode cX8_number 98 = .ok (.invokevirtual 303, 3) := by decide +kernel
theorem dX8_number_101 : decode cX8_number 101 = .ok (.iload 5, 2) := by decide +kernel
theorem dX8_number_103 : decode cX8_number 103 = .ok (.ifCond .eq 9, 3) := by decide +kernel
theorem dX8_number_106 : decode cX8_number 106 = .ok (.iload 7, 2) := by decide +kernel
theorem dX8_number_108 : decode cX8_number 108 = .ok (.ineg, 1) := by decide +kernel
theorem dX8_number_109 : decode cX8_number 109 = .ok (.goto 5, 3) := by decide +kernel
theorem dX8_number_112 : decode cX8_number 112 = .ok (.iload 7, 2) := by decide +kernel
theorem dX8_number_114 : decode cX8_number 114 = .ok (.istore 7, 2) := by decide +kernel
theorem dX8_number_116 : decode cX8_number 116 = .ok (.iload 7, 2) := by decide +kernel
theorem dX8_number_118 : decode cX8_number 118 = .ok (.i2l, 1) := by decide +kernel
theorem dX8_number_119 : decode cX8_number 119 = .ok (.iload_n 1, 1) := by decide +kernel
theorem dX8_number_120 : decode cX8_number 120 = .ok (.i2l, 1) := by decide +kernel
theorem dX8_number_121 : decode cX8_number 121 = .ok (.iload_n 2, 1) := by decide +kernel
theorem dX8_number_122 : decode cX8_number 122 = .ok (.i2l, 1) := by decide +kernel
theorem dX8_number_123 : decode cX8_number 123 = .ok (.invokestatic 68, 3) := by decide +kernel
theorem dX8_number_126 : decode cX8_number 126 = .ok (.ifCond .eq 15, 3) := by decide +kernel
theorem dX8_number_129 : decode cX8_number 129 = .ok (.iload_n 3, 1) := by decide +kernel
theorem dX8_number_130 : decode cX8_number 130 = .ok (.ifCond .eq 17, 3) := by decide +kernel
theorem dX8_number_141 : decode cX8_number 141 = .ok (.aload_n 0, 1) := by decide +kernel
theorem dX8_number_142 : decode cX8_number 142 = .ok (.iload 4, 2) := by decide +kernel
theorem dX8_number_144 : decode cX8_number 144 = .ok (.invokevirtual 303, 3) := by decide +kernel
theorem dX8_number_147 : decode cX8_number 147 = .ok (.iload 7, 2) := by decide +kernel
theorem dX8_number_149 : decode cX8_number 149 = .ok (.ireturn, 1) := by decide +kernel
set_option maxRecDepth 100000 in
set_option maxHeartbeats 4000000 in
theorem m_X8_number {l : Launch} {G : z_Gl} {σ : z_St} (P n u v w rc tl : Nat) (hM : z_mi σ P n u v w rc tl) (ps : Nat) (hps : ps ≤ tl) (lo hi : Int32) : z_M l G yX8_number cX8_number 8 (some .int) (z_rm 1 25) [.ref (z_ad G 105), .int lo, .int hi, .int (nI 0)] (z_yU σ (nI ps) (-1)) (fun v_ σ1 => (∃ (f : Nat) (a b : Int32), zt_num (σ.1 118) tl lo hi ps = .inl f ∧ f ≤ tl ∧ v_ = some (.int b) ∧ σ1 = z_yU σ a (nI f)) ∨ (∃ (c1 : Nat) (x : Int32), zt_num (σ.1 118) tl lo hi ps = .inr (c1, x) ∧ v_ = some (.int x) ∧ σ1 = z_yU σ (nI c1) (-1))) := by
  refine z_M.of (by decide) (Nat.le_of_ble_eq_true rfl) (fun p e s m below meth c C => ?_)
  refine z_sub [0, 1, 2, 3] (lv1 := [(0, .ref (z_ad G 105)), (1, .int lo), (2, .int hi), (3, .int (nI 0))]) rfl ?_
  have hM0 := hM
  obtain ⟨⟨hP, hn, hu, hv, hw, hrc, htl⟩, hPs, hnP, huv, hw6, hrc8, htl2, hqt, hah⟩ := hM0
  have h0 : 0 < P := by omega
  have h12 : P ≤ 12 := by omega
  have h288 : n ≤ 288 := by omega
  refine z_aload_n 0 C dX8_number_0 0 rfl ?_
  refine z_getf 1 C 105 z_dX8 (⟨rfl, rfl⟩) 24 (by decide) q990 (.int (nI ps)) z_yU_gpl dX8_number_1 ?_
  refine z_istore 4 C dX8_number_4 [(4, .int (nI ps)), (0, .ref (z_ad G 105)), (1, .int lo), (2, .int hi), (3, .int (nI 0))] (by decide) rfl ?_
  refine z_aload_n 6 C dX8_number_6 1 rfl ?_
  refine z_bipush 7 C dX8_number_7 (nI 45) rfl ?_
  refine z_callV 9 C 105 (⟨rfl, rfl⟩) rfl (As := [.int (nI 45)]) (rest := []) (@m_X8_isAt _ _ σ P n u v w rc tl hM ps (by omega) (-1) (nI 45) (by decide)) k_X8_isAt q1433 ⟨rfl, rfl⟩ ⟨Nat.le_of_ble_eq_true rfl, Nat.le_of_ble_eq_true rfl⟩ rfl (Nat.le_of_ble_eq_true rfl) ⟨Nat.le_of_ble_eq_true rfl, Nat.le_of_ble_eq_true rfl⟩ rfl dX8_number_9 (z_k1 ?_)
  refine z_istore 12 C dX8_number_12 [(5, .int (z_bo (zt_at (σ.1 118) tl ps = (nI 45)))), (4, .int (nI ps)), (0, .ref (z_ad G 105)), (1, .int lo), (2, .int hi), (3, .int (nI 0))] (by decide) rfl ?_
  refine z_aload_n 14 C dX8_number_14 2 rfl ?_
  refine z_dup 15 C dX8_number_15 rfl ?_
  refine z_getf 16 C 105 z_dX8 (⟨rfl, rfl⟩) 24 (by decide) q990 (.int (nI ps)) z_yU_gpl dX8_number_16 ?_
  refine z_iload 19 C dX8_number_19 0 rfl ?_
  refine z_if_eqb 21 C 28 dX8_number_21 (by decide) (fun c21 => ?_) (fun c21 => ?_)
  · skip
    refine z_cv (lv1 := [(5, .int (nI 0)), (4, .int (nI ps)), (0, .ref (z_ad G 105)), (1, .int lo), (2, .int hi), (3, .int (nI 0))]) (st1 := [.int (nI ps), .ref (z_ad G 105)]) (σ1 := z_yU σ (nI ps) (-1)) (by rw [← z_bo_f c21] <;> rfl) rfl rfl ?_
    refine z_iconst 28 C dX8_number_28 (nI 0) rfl ?_
    refine z_iaddN 29 C ps 0 rfl rfl dX8_number_29 ?_
    refine z_cv (lv1 := [(5, .int (nI 0)), (4, .int (nI ps)), (0, .ref (z_ad G 105)), (1, .int lo), (2, .int hi), (3, .int (nI 0))]) (st1 := [.int (nI ps), .ref (z_ad G 105)]) (σ1 := z_yU σ (nI ps) (-1)) rfl rfl rfl ?_
    refine z_puti 30 C 105 z_dX8 (⟨rfl, rfl⟩) 24 (by decide) q990 rfl (rfl) rfl z_yU_hpl dX8_number_30 ?_
    refine z_cv (σ1 := z_yU σ (nI ps) (-1)) rfl rfl z_yU_ppl ?_
    refine z_iconst 33 C dX8_number_33 (nI 0) rfl ?_
    refine z_istore 34 C dX8_number_34 [(6, .int (nI 0)), (5, .int (nI 0)), (4, .int (nI ps)), (0, .ref (z_ad G 105)), (1, .int lo), (2, .int hi), (3, .int (nI 0))] (by decide) rfl ?_
    refine z_iconst 36 C dX8_number_36 (nI 0) rfl ?_
    refine z_istore 37 C dX8_number_37 [(7, .int (nI 0)), (6, .int (nI 0)), (5, .int (nI 0)), (4, .int (nI ps)), (0, .ref (z_ad G 105)), (1, .int lo), (2, .int hi), (3, .int (nI 0))] (by decide) rfl ?_
    refine z_sub [4, 5, 6, 7, 3, 2, 1, 0] (lv1 := [(0, .ref (z_ad G 105)), (1, .int lo), (2, .int hi), (3, .int (nI 0)), (4, .int (nI ps)), (5, .int (nI 0)), (6, .int (nI 0)), (7, .int (nI 0))]) rfl ?_
    refine z_cv (lv1 := [(0, .ref (z_ad G 105)), (1, .int lo), (2, .int hi), (3, .int (nI 0)), (4, .int (nI ps)), (5, .int (nI 0)), (6, .int (nI 0)), (7, .int (zt_nv (σ.1 118) (ps) 0))]) (st1 := []) (σ1 := z_yU σ (nI (ps + 0)) (-1)) rfl rfl rfl ?_
    refine z_lp1 (fun (j : Nat) => j ≤ 5 ∧ ps + j ≤ tl ∧ ∀ i, i < j → zt_dg (zt_at (σ.1 118) tl (ps + i))) (fun (j : Nat) => 5 - j) (fun (j : Nat) => [(0, .ref (z_ad G 105)), (1, .int lo), (2, .int hi), (3, .int (nI 0)), (4, .int (nI ps)), (5, .int (nI 0)), (6, .int (nI j)), (7, .int (zt_nv (σ.1 118) (ps) j))]) (fun (j : Nat) => z_yU σ (nI (ps + j)) (-1)) (fun j hi_39 ih_39 => ?_) 0 (⟨by omega, by omega, fun i h => absurd h (Nat.not_lt_zero i)⟩)
    try dsimp only
    obtain ⟨hj5, hjt, hdg⟩ := hi_39
    refine z_iload 39 C dX8_number_39 6 rfl ?_
    refine z_iconst 41 C dX8_number_41 (nI 5) rfl ?_
    refine z_icmp_geN 42 C j 5 rfl rfl (by omega) (by omega) 88 dX8_number_42 (by decide) (fun c42 => ?_) (fun c42 => ?_)
    · skip
      have ej : j = 5 := by omega
      subst ej
      refine z_iload 88 C dX8_number_88 6 rfl ?_
      refine z_if_ne 90 C 101 dX8_number_90 (by decide) (fun c90 => ?_) (fun c90 => ?_)
      · skip
        refine z_iload 101 C dX8_number_101 5 rfl ?_
        refine z_if_eq 103 C 112 dX8_number_103 (by decide) (fun c103 => ?_) (fun c103 => ?_)
        · skip
          refine z_iload 112 C dX8_number_112 7 rfl ?_
          refine z_istore 114 C dX8_number_114 [(7, .int (zt_nv (σ.1 118) (ps) 5)), (0, .ref (z_ad G 105)), (1, .int lo), (2, .int hi), (3, .int (nI 0)), (4, .int (nI ps)), (5, .int (nI 0)), (6, .int (nI 5))] (by decide) rfl ?_
          refine z_iload 116 C dX8_number_116 0 rfl ?_
          refine z_i2l 118 C dX8_number_118 ?_
          refine z_iload_n 119 C dX8_number_119 2 rfl ?_
          refine z_i2l 120 C dX8_number_120 ?_
          refine z_iload_n 121 C dX8_number_121 3 rfl ?_
          refine z_i2l 122 C dX8_number_122 ?_
          refine z_callS 123 C (As := [.long (Int32.toInt64 (zt_nv (σ.1 118) (ps) 5)), .long (Int32.toInt64 lo), .long (Int32.toInt64 hi)]) (rest := []) (m_X8_in_i (σ := z_yU σ (nI (ps + 5)) (-1)) (zt_nv (σ.1 118) (ps) 5) lo hi (rfl) (rfl)) k_X8_in q1071 ⟨rfl, rfl⟩ ⟨Nat.le_of_ble_eq_true rfl, Nat.le_of_ble_eq_true rfl⟩ rfl (Nat.le_of_ble_eq_true rfl) ⟨Nat.le_of_ble_eq_true rfl, Nat.le_of_ble_eq_true rfl⟩ rfl dX8_number_123 (z_k1 ?_)
          refine z_if_eqb 126 C 141 dX8_number_126 (by decide) (fun c126 => ?_) (fun c126 => ?_)
          · skip
            replace c126 := Classical.not_not.mp c126
            refine z_aload_n 141 C dX8_number_141 1 rfl ?_
            refine z_iload 142 C dX8_number_142 5 rfl ?_
            refine z_callV 144 C 105 (⟨rfl, rfl⟩) rfl (As := [.int (nI ps)]) (rest := []) (@m_X8_fail _ _ σ (nI (ps + 5)) (nI ps)) k_X8_fail q1437 ⟨rfl, rfl⟩ ⟨Nat.le_of_ble_eq_true rfl, Nat.le_of_ble_eq_true rfl⟩ rfl (Nat.le_of_ble_eq_true rfl) ⟨Nat.le_of_ble_eq_true rfl, Nat.le_of_ble_eq_true rfl⟩ rfl dX8_number_144 (z_k0 ?_)
            refine z_iload 147 C dX8_number_147 0 rfl ?_
            refine z_iret 149 C dX8_number_149 ?_
            exact Or.inl ⟨_, _, _, zt_num_1 (zt_c1_n c21) (by omega) (zt_nd_eq hdg (by omega) (Or.inl rfl)) (zt_vl_n c21) c126, by omega, rfl, rfl⟩
          · skip
            refine z_iload_n 129 C dX8_number_129 4 rfl ?_
            refine z_if_eq 130 C 147 dX8_number_130 (by decide) (fun c130 => ?_) (fun c130 => ?_)
            · skip
              refine z_iload 147 C dX8_number_147 0 rfl ?_
              refine z_iret 149 C dX8_number_149 ?_
              exact Or.inr ⟨_, _, zt_num_2 (zt_c1_n c21) (by omega) (zt_nd_eq hdg (by omega) (Or.inl rfl)) (zt_vl_n c21) c126, rfl, rfl⟩
            · skip
              exact absurd c130 (by decide)
        · skip
          exact absurd c103 (by decide)
      · skip
        exact absurd c90 (by decide)
    · skip
      refine z_aload_n 45 C dX8_number_45 0 rfl ?_
      refine z_callV 46 C 105 (⟨rfl, rfl⟩) rfl (As := []) (rest := []) (@m_X8_isDigit _ _ σ P n u v w rc tl hM (ps + j) (by omega) (-1)) k_X8_isDigit q1445 ⟨rfl, rfl⟩ ⟨Nat.le_of_ble_eq_true rfl, Nat.le_of_ble_eq_true rfl⟩ rfl (Nat.le_of_ble_eq_true rfl) ⟨Nat.le_of_ble_eq_true rfl, Nat.le_of_ble_eq_true rfl⟩ rfl dX8_number_46 (z_k1 ?_)
      refine z_if_eqb 49 C 88 dX8_number_49 (by decide) (fun c49 => ?_) (fun c49 => ?_)
      · skip
        refine z_iload 88 C dX8_number_88 6 rfl ?_
        refine z_if_ne 90 C 101 dX8_number_90 (by decide) (fun c90 => ?_) (fun c90 => ?_)
        · skip
          refine z_iload 101 C dX8_number_101 5 rfl ?_
          refine z_if_eq 103 C 112 dX8_number_103 (by decide) (fun c103 => ?_) (fun c103 => ?_)
          · skip
            refine z_iload 112 C dX8_number_112 7 rfl ?_
            refine z_istore 114 C dX8_number_114 [(7, .int (zt_nv (σ.1 118) (ps) j)), (0, .ref (z_ad G 105)), (1, .int lo), (2, .int hi), (3, .int (nI 0)), (4, .int (nI ps)), (5, .int (nI 0)), (6, .int (nI j))] (by decide) rfl ?_
            refine z_iload 116 C dX8_number_116 0 rfl ?_
            refine z_i2l 118 C dX8_number_118 ?_
            refine z_iload_n 119 C dX8_number_119 2 rfl ?_
            refine z_i2l 120 C dX8_number_120 ?_
            refine z_iload_n 121 C dX8_number_121 3 rfl ?_
            refine z_i2l 122 C dX8_number_122 ?_
            refine z_callS 123 C (As := [.long (Int32.toInt64 (zt_nv (σ.1 118) (ps) j)), .long (Int32.toInt64 lo), .long (Int32.toInt64 hi)]) (rest := []) (m_X8_in_i (σ := z_yU σ (nI (ps + j)) (-1)) (zt_nv (σ.1 118) (ps) j) lo hi (rfl) (rfl)) k_X8_in q1071 ⟨rfl, rfl⟩ ⟨Nat.le_of_ble_eq_true rfl, Nat.le_of_ble_eq_true rfl⟩ rfl (Nat.le_of_ble_eq_true rfl) ⟨Nat.le_of_ble_eq_true rfl, Nat.le_of_ble_eq_true rfl⟩ rfl dX8_number_123 (z_k1 ?_)
            refine z_if_eqb 126 C 141 dX8_number_126 (by decide) (fun c126 => ?_) (fun c126 => ?_)
            · skip
              replace c126 := Classical.not_not.mp c126
              refine z_aload_n 141 C dX8_number_141 1 rfl ?_
              refine z_iload 142 C dX8_number_142 5 rfl ?_
              refine z_callV 144 C 105 (⟨rfl, rfl⟩) rfl (As := [.int (nI ps)]) (rest := []) (@m_X8_fail _ _ σ (nI (ps + j)) (nI ps)) k_X8_fail q1437 ⟨rfl, rfl⟩ ⟨Nat.le_of_ble_eq_true rfl, Nat.le_of_ble_eq_true rfl⟩ rfl (Nat.le_of_ble_eq_true rfl) ⟨Nat.le_of_ble_eq_true rfl, Nat.le_of_ble_eq_true rfl⟩ rfl dX8_number_144 (z_k0 ?_)
              refine z_iload 147 C dX8_number_147 0 rfl ?_
              refine z_iret 149 C dX8_number_149 ?_
              exact Or.inl ⟨_, _, _, zt_num_1 (zt_c1_n c21) (Nat.pos_of_ne_zero (fun z => c90 ((z_nI0 (by omega)).mpr z))) (zt_nd_eq hdg (by omega) (Or.inr c49)) (zt_vl_n c21) c126, by omega, rfl, rfl⟩
            · skip
              refine z_iload_n 129 C dX8_number_129 4 rfl ?_
              refine z_if_eq 130 C 147 dX8_number_130 (by decide) (fun c130 => ?_) (fun c130 => ?_)
              · skip
                refine z_iload 147 C dX8_number_147 0 rfl ?_
                refine z_iret 149 C dX8_number_149 ?_
                exact Or.inr ⟨_, _, zt_num_2 (zt_c1_n c21) (Nat.pos_of_ne_zero (fun z => c90 ((z_nI0 (by omega)).mpr z))) (zt_nd_eq hdg (by omega) (Or.inr c49)) (zt_vl_n c21) c126, rfl, rfl⟩
              · skip
                exact absurd c130 (by decide)
          · skip
            exact absurd c103 (by decide)
        · skip
          have ej : j = 0 := (z_nI0 (by omega)).mp c90
          subst ej
          refine z_aload_n 93 C dX8_number_93 0 rfl ?_
          refine z_aload_n 94 C dX8_number_94 0 rfl ?_
          refine z_getf 95 C 105 z_dX8 (⟨rfl, rfl⟩) 24 (by decide) q990 (.int (nI (ps + 0))) z_yU_gpl dX8_number_95 ?_
          refine z_callV 98 C 105 (⟨rfl, rfl⟩) rfl (As := [.int (nI (ps + 0))]) (rest := []) (@m_X8_fail _ _ σ (nI (ps + 0)) (nI (ps + 0))) k_X8_fail q1437 ⟨rfl, rfl⟩ ⟨Nat.le_of_ble_eq_true rfl, Nat.le_of_ble_eq_true rfl⟩ rfl (Nat.le_of_ble_eq_true rfl) ⟨Nat.le_of_ble_eq_true rfl, Nat.le_of_ble_eq_true rfl⟩ rfl dX8_number_98 (z_k0 ?_)
          refine z_iload 101 C dX8_number_101 5 rfl ?_
          refine z_if_eq 103 C 112 dX8_number_103 (by decide) (fun c103 => ?_) (fun c103 => ?_)
          · skip
            refine z_iload 112 C dX8_number_112 7 rfl ?_
            refine z_istore 114 C dX8_number_114 [(7, .int (zt_nv (σ.1 118) (ps) 0)), (0, .ref (z_ad G 105)), (1, .int lo), (2, .int hi), (3, .int (nI 0)), (4, .int (nI ps)), (5, .int (nI 0)), (6, .int (nI 0))] (by decide) rfl ?_
            refine z_iload 116 C dX8_number_116 0 rfl ?_
            refine z_i2l 118 C dX8_number_118 ?_
            refine z_iload_n 119 C dX8_number_119 2 rfl ?_
            refine z_i2l 120 C dX8_number_120 ?_
            refine z_iload_n 121 C dX8_number_121 3 rfl ?_
            refine z_i2l 122 C dX8_number_122 ?_
            refine z_callS 123 C (As := [.long (Int32.toInt64 (zt_nv (σ.1 118) (ps) 0)), .long (Int32.toInt64 lo), .long (Int32.toInt64 hi)]) (rest := []) (m_X8_in_i (σ := z_yU σ (nI (ps + 0)) (nI (ps + 0))) (zt_nv (σ.1 118) (ps) 0) lo hi (rfl) (rfl)) k_X8_in q1071 ⟨rfl, rfl⟩ ⟨Nat.le_of_ble_eq_true rfl, Nat.le_of_ble_eq_true rfl⟩ rfl (Nat.le_of_ble_eq_true rfl) ⟨Nat.le_of_ble_eq_true rfl, Nat.le_of_ble_eq_true rfl⟩ rfl dX8_number_123 (z_k1 ?_)
            refine z_if_eqb 126 C 141 dX8_number_126 (by decide) (fun c126 => ?_) (fun c126 => ?_)
            · skip
              replace c126 := Classical.not_not.mp c126
              refine z_aload_n 141 C dX8_number_141 1 rfl ?_
              refine z_iload 142 C dX8_number_142 5 rfl ?_
              refine z_callV 144 C 105 (⟨rfl, rfl⟩) rfl (As := [.int (nI ps)]) (rest := []) (@m_X8_fail_k _ _ σ (nI (ps + 0)) (nI ps) (ps + 0) (by omega)) k_X8_fail q1437 ⟨rfl, rfl⟩ ⟨Nat.le_of_ble_eq_true rfl, Nat.le_of_ble_eq_true rfl⟩ rfl (Nat.le_of_ble_eq_true rfl) ⟨Nat.le_of_ble_eq_true rfl, Nat.le_of_ble_eq_true rfl⟩ rfl dX8_number_144 (z_k0 ?_)
              refine z_iload 147 C dX8_number_147 0 rfl ?_
              refine z_iret 149 C dX8_number_149 ?_
              exact Or.inl ⟨_, _, _, zt_num_0 (zt_c1_n c21) c49, by omega, rfl, rfl⟩
            · skip
              refine z_iload_n 129 C dX8_number_129 4 rfl ?_
              refine z_if_eq 130 C 147 dX8_number_130 (by decide) (fun c130 => ?_) (fun c130 => ?_)
              · skip
                refine z_iload 147 C dX8_number_147 0 rfl ?_
                refine z_iret 149 C dX8_number_149 ?_
                exact Or.inl ⟨_, _, _, zt_num_0 (zt_c1_n c21) c49, by omega, rfl, rfl⟩
              · skip
                exact absurd c130 (by decide)
          · skip
            exact absurd c103 (by decide)
      · skip
        have hlt49 := zt_dg_lt c49
        refine z_bipush 52 C dX8_number_52 (nI 10) rfl ?_
        refine z_iload 54 C dX8_number_54 7 rfl ?_
        refine z_imul 56 C dX8_number_56 ?_
        refine z_aload_n 57 C dX8_number_57 0 rfl ?_
        refine z_getf 58 C 105 z_dX8 (⟨rfl, rfl⟩) 23 (by decide) q989 (.ref (z_ad G 118)) rfl dX8_number_58 ?_
        refine z_aload_n 61 C dX8_number_61 0 rfl ?_
        refine z_getf 62 C 105 z_dX8 (⟨rfl, rfl⟩) 24 (by decide) q990 (.int (nI (ps + j))) z_yU_gpl dX8_number_62 ?_
        refine z_caldN 65 C 118 (n := 200) (⟨rfl, rfl⟩) (ps + j) rfl (by omega) (by decide) dX8_number_65 ?_
        refine z_cv (st1 := [.int (σ.1 118 (ps + j)), .int ((nI 10) * (zt_nv (σ.1 118) (ps) j))]) rfl rfl rfl ?_
        refine z_iadd 66 C dX8_number_66 ?_
        refine z_bipush 67 C dX8_number_67 (nI 48) rfl ?_
        refine z_isub 69 C dX8_number_69 ?_
        refine z_cv (lv1 := [(0, .ref (z_ad G 105)), (1, .int lo), (2, .int hi), (3, .int (nI 0)), (4, .int (nI ps)), (5, .int (nI 0)), (6, .int (nI j)), (7, .int (zt_nv (σ.1 118) (ps) j))]) (st1 := [.int (zt_nv (σ.1 118) (ps) (j + 1))]) (σ1 := z_yU σ (nI (ps + j)) (-1)) rfl (by rw [show zt_nv (σ.1 118) (ps) (j + 1) = zt_nv (σ.1 118) (ps) j * nI 10 + ((σ.1 118) (ps + j) - nI 48) from rfl, zm_nv]) rfl ?_
        refine z_istore 70 C dX8_number_70 [(7, .int (zt_nv (σ.1 118) (ps) (j + 1))), (0, .ref (z_ad G 105)), (1, .int lo), (2, .int hi), (3, .int (nI 0)), (4, .int (nI ps)), (5, .int (nI 0)), (6, .int (nI j))] (by decide) rfl ?_
        refine z_aload_n 72 C dX8_number_72 1 rfl ?_
        refine z_dup 73 C dX8_number_73 rfl ?_
        refine z_getf 74 C 105 z_dX8 (⟨rfl, rfl⟩) 24 (by decide) q990 (.int (nI (ps + j))) z_yU_gpl dX8_number_74 ?_
        refine z_iconst 77 C dX8_number_77 (nI 1) rfl ?_
        refine z_iaddN 78 C (ps + j) 1 rfl rfl dX8_number_78 ?_
        refine z_puti 79 C 105 z_dX8 (⟨rfl, rfl⟩) 24 (by decide) q990 rfl (rfl) rfl z_yU_hpl dX8_number_79 ?_
        refine z_cv (σ1 := z_yU σ (nI ((ps + j) + 1)) (-1)) rfl rfl z_yU_ppl ?_
        refine z_iincN 82 C 7 j [(6, .int (nI (j + 1))), (7, .int (zt_nv (σ.1 118) (ps) (j + 1))), (0, .ref (z_ad G 105)), (1, .int lo), (2, .int hi), (3, .int (nI 0)), (4, .int (nI ps)), (5, .int (nI 0))] rfl rfl (by decide) rfl dX8_number_82 ?_
        refine z_goto 85 C 39 dX8_number_85 (by decide) ?_
        refine z_sub [2, 3, 4, 5, 6, 7, 0, 1] (lv1 := [(0, .ref (z_ad G 105)), (1, .int lo), (2, .int hi), (3, .int (nI 0)), (4, .int (nI ps)), (5, .int (nI 0)), (6, .int (nI (j + 1))), (7, .int (zt_nv (σ.1 118) (ps) (j + 1)))]) rfl ?_
        refine z_cv (lv1 := [(0, .ref (z_ad G 105)), (1, .int lo), (2, .int hi), (3, .int (nI 0)), (4, .int (nI ps)), (5, .int (nI 0)), (6, .int (nI (j + 1))), (7, .int (zt_nv (σ.1 118) (ps) (j + 1)))]) (st1 := []) (σ1 := z_yU σ (nI (ps + (j + 1))) (-1)) rfl rfl rfl ?_
        exact ih_39 (j + 1) (⟨by omega, by omega, lt_s hdg c49⟩) (by omega)
  · skip
    have hlt := zt_lt c21 (by decide)
    refine z_cv (lv1 := [(5, .int (nI 1)), (4, .int (nI ps)), (0, .ref (z_ad G 105)), (1, .int lo), (2, .int hi), (3, .int (nI 0))]) (st1 := [.int (nI ps), .ref (z_ad G 105)]) (σ1 := z_yU σ (nI ps) (-1)) (by rw [← z_bo_t c21] <;> rfl) rfl rfl ?_
    refine z_iconst 24 C dX8_number_24 (nI 1) rfl ?_
    refine z_goto 25 C 29 dX8_number_25 (by decide) ?_
    refine z_iaddN 29 C ps 1 rfl rfl dX8_number_29 ?_
    refine z_puti 30 C 105 z_dX8 (⟨rfl, rfl⟩) 24 (by decide) q990 rfl (rfl) rfl z_yU_hpl dX8_number_30 ?_
    refine z_cv (σ1 := z_yU σ (nI (ps + 1)) (-1)) rfl rfl z_yU_ppl ?_
    refine z_iconst 33 C dX8_number_33 (nI 0) rfl ?_
    refine z_istore 34 C dX8_number_34 [(6, .int (nI 0)), (5, .int (nI 1)), (4, .int (nI ps)), (0, .ref (z_ad G 105)), (1, .int lo), (2, .int hi), (3, .int (nI 0))] (by decide) rfl ?_
    refine z_iconst 36 C dX8_number_36 (nI 0) rfl ?_
    refine z_istore 37 C dX8_number_37 [(7, .int (nI 0)), (6, .int (nI 0)), (5, .int (nI 1)), (4, .int (nI ps)), (0, .ref (z_ad G 105)), (1, .int lo), (2, .int hi), (3, .int (nI 0))] (by decide) rfl ?_
    refine z_sub [4, 5, 6, 7, 3, 2, 1, 0] (lv1 := [(0, .ref (z_ad G 105)), (1, .int lo), (2, .int hi), (3, .int (nI 0)), (4, .int (nI ps)), (5, .int (nI 1)), (6, .int (nI 0)), (7, .int (nI 0))]) rfl ?_
    refine z_cv (lv1 := [(0, .ref (z_ad G 105)), (1, .int lo), (2, .int hi), (3, .int (nI 0)), (4, .int (nI ps)), (5, .int (nI 1)), (6, .int (nI 0)), (7, .int (zt_nv (σ.1 118) (ps + 1) 0))]) (st1 := []) (σ1 := z_yU σ (nI (ps + 1 + 0)) (-1)) rfl rfl rfl ?_
    refine z_lp1 (fun (j : Nat) => j ≤ 5 ∧ ps + 1 + j ≤ tl ∧ ∀ i, i < j → zt_dg (zt_at (σ.1 118) tl (ps + 1 + i))) (fun (j : Nat) => 5 - j) (fun (j : Nat) => [(0, .ref (z_ad G 105)), (1, .int lo), (2, .int hi), (3, .int (nI 0)), (4, .int (nI ps)), (5, .int (nI 1)), (6, .int (nI j)), (7, .int (zt_nv (σ.1 118) (ps + 1) j))]) (fun (j : Nat) => z_yU σ (nI (ps + 1 + j)) (-1)) (fun j hi_39 ih_39 => ?_) 0 (⟨by omega, by omega, fun i h => absurd h (Nat.not_lt_zero i)⟩)
    try dsimp only
    obtain ⟨hj5, hjt, hdg⟩ := hi_39
    refine z_iload 39 C dX8_number_39 6 rfl ?_
    refine z_iconst 41 C dX8_number_41 (nI 5) rfl ?_
    refine z_icmp_geN 42 C j 5 rfl rfl (by omega) (by omega) 88 dX8_number_42 (by decide) (fun c42 => ?_) (fun c42 => ?_)
    · skip
      have ej : j = 5 := by omega
      subst ej
      refine z_iload 88 C dX8_number_88 6 rfl ?_
      refine z_if_ne 90 C 101 dX8_number_90 (by decide) (fun c90 => ?_) (fun c90 => ?_)
      · skip
        refine z_iload 101 C dX8_number_101 5 rfl ?_
        refine z_if_eq 103 C 112 dX8_number_103 (by decide) (fun c103 => ?_) (fun c103 => ?_)
        · skip
          exact absurd c103 (by decide)
        · skip
          refine z_iload 106 C dX8_number_106 7 rfl ?_
          refine z_ineg 108 C dX8_number_108 ?_
          refine z_goto 109 C 114 dX8_number_109 (by decide) ?_
          refine z_istore 114 C dX8_number_114 [(7, .int (-(zt_nv (σ.1 118) (ps + 1) 5))), (0, .ref (z_ad G 105)), (1, .int lo), (2, .int hi), (3, .int (nI 0)), (4, .int (nI ps)), (5, .int (nI 1)), (6, .int (nI 5))] (by decide) rfl ?_
          refine z_iload 116 C dX8_number_116 0 rfl ?_
          refine z_i2l 118 C dX8_number_118 ?_
          refine z_iload_n 119 C dX8_number_119 2 rfl ?_
          refine z_i2l 120 C dX8_number_120 ?_
          refine z_iload_n 121 C dX8_number_121 3 rfl ?_
          refine z_i2l 122 C dX8_number_122 ?_
          refine z_callS 123 C (As := [.long (Int32.toInt64 (-(zt_nv (σ.1 118) (ps + 1) 5))), .long (Int32.toInt64 lo), .long (Int32.toInt64 hi)]) (rest := []) (m_X8_in_i (σ := z_yU σ (nI (ps + 1 + 5)) (-1)) (-(zt_nv (σ.1 118) (ps + 1) 5)) lo hi (rfl) (rfl)) k_X8_in q1071 ⟨rfl, rfl⟩ ⟨Nat.le_of_ble_eq_true rfl, Nat.le_of_ble_eq_true rfl⟩ rfl (Nat.le_of_ble_eq_true rfl) ⟨Nat.le_of_ble_eq_true rfl, Nat.le_of_ble_eq_true rfl⟩ rfl dX8_number_123 (z_k1 ?_)
          refine z_if_eqb 126 C 141 dX8_number_126 (by decide) (fun c126 => ?_) (fun c126 => ?_)
          · skip
            replace c126 := Classical.not_not.mp c126
            refine z_aload_n 141 C dX8_number_141 1 rfl ?_
            refine z_iload 142 C dX8_number_142 5 rfl ?_
            refine z_callV 144 C 105 (⟨rfl, rfl⟩) rfl (As := [.int (nI ps)]) (rest := []) (@m_X8_fail _ _ σ (nI (ps + 1 + 5)) (nI ps)) k_X8_fail q1437 ⟨rfl, rfl⟩ ⟨Nat.le_of_ble_eq_true rfl, Nat.le_of_ble_eq_true rfl⟩ rfl (Nat.le_of_ble_eq_true rfl) ⟨Nat.le_of_ble_eq_true rfl, Nat.le_of_ble_eq_true rfl⟩ rfl dX8_number_144 (z_k0 ?_)
            refine z_iload 147 C dX8_number_147 0 rfl ?_
            refine z_iret 149 C dX8_number_149 ?_
            exact Or.inl ⟨_, _, _, zt_num_1 (zt_c1_p c21) (by omega) (zt_nd_eq hdg (by omega) (Or.inl rfl)) (zt_vl_p c21) c126, by omega, rfl, rfl⟩
          · skip
            refine z_iload_n 129 C dX8_number_129 4 rfl ?_
            refine z_if_eq 130 C 147 dX8_number_130 (by decide) (fun c130 => ?_) (fun c130 => ?_)
            · skip
              refine z_iload 147 C dX8_number_147 0 rfl ?_
              refine z_iret 149 C dX8_number_149 ?_
              exact Or.inr ⟨_, _, zt_num_2 (zt_c1_p c21) (by omega) (zt_nd_eq hdg (by omega) (Or.inl rfl)) (zt_vl_p c21) c126, rfl, rfl⟩
            · skip
              exact absurd c130 (by decide)
      · skip
        exact absurd c90 (by decide)
    · skip
      refine z_aload_n 45 C dX8_number_45 0 rfl ?_
      refine z_callV 46 C 105 (⟨rfl, rfl⟩) rfl (As := []) (rest := []) (@m_X8_isDigit _ _ σ P n u v w rc tl hM (ps + 1 + j) (by omega) (-1)) k_X8_isDigit q1445 ⟨rfl, rfl⟩ ⟨Nat.le_of_ble_eq_true rfl, Nat.le_of_ble_eq_true rfl⟩ rfl (Nat.le_of_ble_eq_true rfl) ⟨Nat.le_of_ble_eq_true rfl, Nat.le_of_ble_eq_true rfl⟩ rfl dX8_number_46 (z_k1 ?_)
      refine z_if_eqb 49 C 88 dX8_number_49 (by decide) (fun c49 => ?_) (fun c49 => ?_)
      · skip
        refine z_iload 88 C dX8_number_88 6 rfl ?_
        refine z_if_ne 90 C 101 dX8_number_90 (by decide) (fun c90 => ?_) (fun c90 => ?_)
        · skip
          refine z_iload 101 C dX8_number_101 5 rfl ?_
          refine z_if_eq 103 C 112 dX8_number_103 (by decide) (fun c103 => ?_) (fun c103 => ?_)
          · skip
            exact absurd c103 (by decide)
          · skip
            refine z_iload 106 C dX8_number_106 7 rfl ?_
            refine z_ineg 108 C dX8_number_108 ?_
            refine z_goto 109 C 114 dX8_number_109 (by decide) ?_
            refine z_istore 114 C dX8_number_114 [(7, .int (-(zt_nv (σ.1 118) (ps + 1) j))), (0, .ref (z_ad G 105)), (1, .int lo), (2, .int hi), (3, .int (nI 0)), (4, .int (nI ps)), (5, .int (nI 1)), (6, .int (nI j))] (by decide) rfl ?_
            refine z_iload 116 C dX8_number_116 0 rfl ?_
            refine z_i2l 118 C dX8_number_118 ?_
            refine z_iload_n 119 C dX8_number_119 2 rfl ?_
            refine z_i2l 120 C dX8_number_120 ?_
            refine z_iload_n 121 C dX8_number_121 3 rfl ?_
            refine z_i2l 122 C dX8_number_122 ?_
            refine z_callS 123 C (As := [.long (Int32.toInt64 (-(zt_nv (σ.1 118) (ps + 1) j))), .long (Int32.toInt64 lo), .long (Int32.toInt64 hi)]) (rest := []) (m_X8_in_i (σ := z_yU σ (nI (ps + 1 + j)) (-1)) (-(zt_nv (σ.1 118) (ps + 1) j)) lo hi (rfl) (rfl)) k_X8_in q1071 ⟨rfl, rfl⟩ ⟨Nat.le_of_ble_eq_true rfl, Nat.le_of_ble_eq_true rfl⟩ rfl (Nat.le_of_ble_eq_true rfl) ⟨Nat.le_of_ble_eq_true rfl, Nat.le_of_ble_eq_true rfl⟩ rfl dX8_number_123 (z_k1 ?_)
            refine z_if_eqb 126 C 141 dX8_number_126 (by decide) (fun c126 => ?_) (fun c126 => ?_)
            · skip
              replace c126 := Classical.not_not.mp c126
              refine z_aload_n 141 C dX8_number_141 1 rfl ?_
              refine z_iload 142 C dX8_number_142 5 rfl ?_
              refine z_callV 144 C 105 (⟨rfl, rfl⟩) rfl (As := [.int (nI ps)]) (rest := []) (@m_X8_fail _ _ σ (nI (ps + 1 + j)) (nI ps)) k_X8_fail q1437 ⟨rfl, rfl⟩ ⟨Nat.le_of_ble_eq_true rfl, Nat.le_of_ble_eq_true rfl⟩ rfl (Nat.le_of_ble_eq_true rfl) ⟨Nat.le_of_ble_eq_true rfl, Nat.le_of_ble_eq_true rfl⟩ rfl dX8_number_144 (z_k0 ?_)
              refine z_iload 147 C dX8_number_147 0 rfl ?_
              refine z_iret 149 C dX8_number_149 ?_
              exact Or.inl ⟨_, _, _, zt_num_1 (zt_c1_p c21) (Nat.pos_of_ne_zero (fun z => c90 ((z_nI0 (by omega)).mpr z))) (zt_nd_eq hdg (by omega) (Or.inr c49)) (zt_vl_p c21) c126, by omega, rfl, rfl⟩
            · skip
              refine z_iload_n 129 C dX8_number_129 4 rfl ?_
              refine z_if_eq 130 C 147 dX8_number_130 (by decide) (fun c130 => ?_) (fun c130 => ?_)
              · skip
                refine z_iload 147 C dX8_number_147 0 rfl ?_
                refine z_iret 149 C dX8_number_149 ?_
                exact Or.inr ⟨_, _, zt_num_2 (zt_c1_p c21) (Nat.pos_of_ne_zero (fun z => c90 ((z_nI0 (by omega)).mpr z))) (zt_nd_eq hdg (by omega) (Or.inr c49)) (zt_vl_p c21) c126, rfl, rfl⟩
              · skip
                exact absurd c130 (by decide)
        · skip
          have ej : j = 0 := (z_nI0 (by omega)).mp c90
          subst ej
          refine z_aload_n 93 C dX8_number_93 0 rfl ?_
          refine z_aload_n 94 C dX8_number_94 0 rfl ?_
          refine z_getf 95 C 105 z_dX8 (⟨rfl, rfl⟩) 24 (by decide) q990 (.int (nI (ps + 1 + 0))) z_yU_gpl dX8_number_95 ?_
          refine z_callV 98 C 105 (⟨rfl, rfl⟩) rfl (As := [.int (nI (ps + 1 + 0))]) (rest := []) (@m_X8_fail _ _ σ (nI (ps + 1 + 0)) (nI (ps + 1 + 0))) k_X8_fail q1437 ⟨rfl, rfl⟩ ⟨Nat.le_of_ble_eq_true rfl, Nat.le_of_ble_eq_true rfl⟩ rfl (Nat.le_of_ble_eq_true rfl) ⟨Nat.le_of_ble_eq_true rfl, Nat.le_of_ble_eq_true rfl⟩ rfl dX8_number_98 (z_k0 ?_)
          refine z_iload 101 C dX8_number_101 5 rfl ?_
          refine z_if_eq 103 C 112 dX8_number_103 (by decide) (fun c103 => ?_) (fun c103 => ?_)
          · skip
            exact absurd c103 (by decide)
          · skip
            refine z_iload 106 C dX8_number_106 7 rfl ?_
            refine z_ineg 108 C dX8_number_108 ?_
            refine z_goto 109 C 114 dX8_number_109 (by decide) ?_
            refine z_istore 114 C dX8_number_114 [(7, .int (-(zt_nv (σ.1 118) (ps + 1) 0))), (0, .ref (z_ad G 105)), (1, .int lo), (2, .int hi), (3, .int (nI 0)), (4, .int (nI ps)), (5, .int (nI 1)), (6, .int (nI 0))] (by decide) rfl ?_
            refine z_iload 116 C dX8_number_116 0 rfl ?_
            refine z_i2l 118 C dX8_number_118 ?_
            refine z_iload_n 119 C dX8_number_119 2 rfl ?_
            refine z_i2l 120 C dX8_number_120 ?_
            refine z_iload_n 121 C dX8_number_121 3 rfl ?_
            refine z_i2l 122 C dX8_number_122 ?_
            refine z_callS 123 C (As := [.long (Int32.toInt64 (-(zt_nv (σ.1 118) (ps + 1) 0))), .long (Int32.toInt64 lo), .long (Int32.toInt64 hi)]) (rest := []) (m_X8_in_i (σ := z_yU σ (nI (ps + 1 + 0)) (nI (ps + 1 + 0))) (-(zt_nv (σ.1 118) (ps + 1) 0)) lo hi (rfl) (rfl)) k_X8_in q1071 ⟨rfl, rfl⟩ ⟨Nat.le_of_ble_eq_true rfl, Nat.le_of_ble_eq_true rfl⟩ rfl (Nat.le_of_ble_eq_true rfl) ⟨Nat.le_of_ble_eq_true rfl, Nat.le_of_ble_eq_true rfl⟩ rfl dX8_number_123 (z_k1 ?_)
            refine z_if_eqb 126 C 141 dX8_number_126 (by decide) (fun c126 => ?_) (fun c126 => ?_)
            · skip
              replace c126 := Classical.not_not.mp c126
              refine z_aload_n 141 C dX8_number_141 1 rfl ?_
              refine z_iload 142 C dX8_number_142 5 rfl ?_
              refine z_callV 144 C 105 (⟨rfl, rfl⟩) rfl (As := [.int (nI ps)]) (rest := []) (@m_X8_fail_k _ _ σ (nI (ps + 1 + 0)) (nI ps) (ps + 1 + 0) (by omega)) k_X8_fail q1437 ⟨rfl, rfl⟩ ⟨Nat.le_of_ble_eq_true rfl, Nat.le_of_ble_eq_true rfl⟩ rfl (Nat.le_of_ble_eq_true rfl) ⟨Nat.le_of_ble_eq_true rfl, Nat.le_of_ble_eq_true rfl⟩ rfl dX8_number_144 (z_k0 ?_)
              refine z_iload 147 C dX8_number_147 0 rfl ?_
              refine z_iret 149 C dX8_number_149 ?_
              exact Or.inl ⟨_, _, _, zt_num_0 (zt_c1_p c21) c49, by omega, rfl, rfl⟩
            · skip
              refine z_iload_n 129 C dX8_number_129 4 rfl ?_
              refine z_if_eq 130 C 147 dX8_number_130 (by decide) (fun c130 => ?_) (fun c130 => ?_)
              · skip
                refine z_iload 147 C dX8_number_147 0 rfl ?_
                refine z_iret 149 C dX8_number_149 ?_
                exact Or.inl ⟨_, _, _, zt_num_0 (zt_c1_p c21) c49, by omega, rfl, rfl⟩
              · skip
                exact absurd c130 (by decide)
      · skip
        have hlt49 := zt_dg_lt c49
        refine z_bipush 52 C dX8_number_52 (nI 10) rfl ?_
        refine z_iload 54 C dX8_number_54 7 rfl ?_
        refine z_imul 56 C dX8_number_56 ?_
        refine z_aload_n 57 C dX8_number_57 0 rfl ?_
        refine z_getf 58 C 105 z_dX8 (⟨rfl, rfl⟩) 23 (by decide) q989 (.ref (z_ad G 118)) rfl dX8_number_58 ?_
        refine z_aload_n 61 C dX8_number_61 0 rfl ?_
        refine z_getf 62 C 105 z_dX8 (⟨rfl, rfl⟩) 24 (by decide) q990 (.int (nI (ps + 1 + j))) z_yU_gpl dX8_number_62 ?_
        refine z_caldN 65 C 118 (n := 200) (⟨rfl, rfl⟩) (ps + 1 + j) rfl (by omega) (by decide) dX8_number_65 ?_
        refine z_cv (st1 := [.int (σ.1 118 (ps + 1 + j)), .int ((nI 10) * (zt_nv (σ.1 118) (ps + 1) j))]) rfl rfl rfl ?_
        refine z_iadd 66 C dX8_number_66 ?_
        refine z_bipush 67 C dX8_number_67 (nI 48) rfl ?_
        refine z_isub 69 C dX8_number_69 ?_
        refine z_cv (lv1 := [(0, .ref (z_ad G 105)), (1, .int lo), (2, .int hi), (3, .int (nI 0)), (4, .int (nI ps)), (5, .int (nI 1)), (6, .int (nI j)), (7, .int (zt_nv (σ.1 118) (ps + 1) j))]) (st1 := [.int (zt_nv (σ.1 118) (ps + 1) (j + 1))]) (σ1 := z_yU σ (nI (ps + 1 + j)) (-1)) rfl (by rw [show zt_nv (σ.1 118) (ps + 1) (j + 1) = zt_nv (σ.1 118) (ps + 1) j * nI 10 + ((σ.1 118) (ps + 1 + j) - nI 48) from rfl, zm_nv]) rfl ?_
        refine z_istore 70 C dX8_number_70 [(7, .int (zt_nv (σ.1 118) (ps + 1) (j + 1))), (0, .ref (z_ad G 105)), (1, .int lo), (2, .int hi), (3, .int (nI 0)), (4, .int (nI ps)), (5, .int (nI 1)), (6, .int (nI j))] (by decide) rfl ?_
        refine z_aload_n 72 C dX8_number_72 1 rfl ?_
        refine z_dup 73 C dX8_number_73 rfl ?_
        refine z_getf 74 C 105 z_dX8 (⟨rfl, rfl⟩) 24 (by decide) q990 (.int (nI (ps + 1 + j))) z_yU_gpl dX8_number_74 ?_
        refine z_iconst 77 C dX8_number_77 (nI 1) rfl ?_
        refine z_iaddN 78 C (ps + 1 + j) 1 rfl rfl dX8_number_78 ?_
        refine z_puti 79 C 105 z_dX8 (⟨rfl, rfl⟩) 24 (by decide) q990 rfl (rfl) rfl z_yU_hpl dX8_number_79 ?_
        refine z_cv (σ1 := z_yU σ (nI ((ps + 1 + j) + 1)) (-1)) rfl rfl z_yU_ppl ?_
        refine z_iincN 82 C 7 j [(6, .int (nI (j + 1))), (7, .int (zt_nv (σ.1 118) (ps + 1) (j + 1))), (0, .ref (z_ad G 105)), (1, .int lo), (2, .int hi), (3, .int (nI 0)), (4, .int (nI ps)), (5, .int (nI 1))] rfl rfl (by decide) rfl dX8_number_82 ?_
        refine z_goto 85 C 39 dX8_number_85 (by decide) ?_
        refine z_sub [2, 3, 4, 5, 6, 7, 0, 1] (lv1 := [(0, .ref (z_ad G 105)), (1, .int lo), (2, .int hi), (3, .int (nI 0)), (4, .int (nI ps)), (5, .int (nI 1)), (6, .int (nI (j + 1))), (7, .int (zt_nv (σ.1 118) (ps + 1) (j + 1)))]) rfl ?_
        refine z_cv (lv1 := [(0, .ref (z_ad G 105)), (1, .int lo), (2, .int hi), (3, .int (nI 0)), (4, .int (nI ps)), (5, .int (nI 1)), (6, .int (nI (j + 1))), (7, .int (zt_nv (σ.1 118) (ps + 1) (j + 1)))]) (st1 := []) (σ1 := z_yU σ (nI (ps + 1 + (j + 1))) (-1)) rfl rfl rfl ?_
        exact ih_39 (j + 1) (⟨by omega, by omega, lt_s hdg c49⟩) (by omega)
theorem dX8_number_133 : decode cX8_number 133 = .ok (.iload 7, 2) := by decide +kernel
theorem dX8_number_135 : decode cX8_number 135 = .ok (.invokestatic 83, 3) := by decide +kernel
theorem dX8_number_138 : decode cX8_number 138 = .ok (.ifCond .ne 9, 3) := by decide +kernel
set_option maxRecDepth 100000 in
set_option maxHeartbeats 4000000 in
theorem m_X8_number_s {l : Launch} {G : z_Gl} {σ : z_St} (P n u v w rc tl : Nat) (hM : z_mi σ P n u v w rc tl) (ps : Nat) (hps : ps ≤ tl) : z_M l G yX8_number cX8_number 8 (some .int) (z_rm 1 25) [.ref (z_ad G 105), .int (nI 2), .int (nI 12), .int (nI 1)] (z_yU σ (nI ps) (-1)) (fun v_ σ1 => (∃ (f : Nat) (a b : Int32), zm_nst (σ.1 118) tl ps = .inl f ∧ f ≤ tl ∧ v_ = some (.int b) ∧ σ1 = z_yU σ a (nI f)) ∨ (∃ (c1 : Nat) (x : Int32), zm_nst (σ.1 118) tl ps = .inr (c1, x) ∧ v_ = some (.int x) ∧ σ1 = z_yU σ (nI c1) (-1))) := by
  refine z_M.of (by decide) (Nat.le_of_ble_eq_true rfl) (fun p e s m below meth c C => ?_)
  refine z_sub [0, 1, 2, 3] (lv1 := [(0, .ref (z_ad G 105)), (1, .int (nI 2)), (2, .int (nI 12)), (3, .int (nI 1))]) rfl ?_
  have hM0 := hM
  obtain ⟨⟨hP, hn, hu, hv, hw, hrc, htl⟩, hPs, hnP, huv, hw6, hrc8, htl2, hqt, hah⟩ := hM0
  have h0 : 0 < P := by omega
  have h12 : P ≤ 12 := by omega
  have h288 : n ≤ 288 := by omega
  refine z_aload_n 0 C dX8_number_0 0 rfl ?_
  refine z_getf 1 C 105 z_dX8 (⟨rfl, rfl⟩) 24 (by decide) q990 (.int (nI ps)) z_yU_gpl dX8_number_1 ?_
  refine z_istore 4 C dX8_number_4 [(4, .int (nI ps)), (0, .ref (z_ad G 105)), (1, .int (nI 2)), (2, .int (nI 12)), (3, .int (nI 1))] (by decide) rfl ?_
  refine z_aload_n 6 C dX8_number_6 1 rfl ?_
  refine z_bipush 7 C dX8_number_7 (nI 45) rfl ?_
  refine z_callV 9 C 105 (⟨rfl, rfl⟩) rfl (As := [.int (nI 45)]) (rest := []) (@m_X8_isAt _ _ σ P n u v w rc tl hM ps (by omega) (-1) (nI 45) (by decide)) k_X8_isAt q1433 ⟨rfl, rfl⟩ ⟨Nat.le_of_ble_eq_true rfl, Nat.le_of_ble_eq_true rfl⟩ rfl (Nat.le_of_ble_eq_true rfl) ⟨Nat.le_of_ble_eq_true rfl, Nat.le_of_ble_eq_true rfl⟩ rfl dX8_number_9 (z_k1 ?_)
  refine z_istore 12 C dX8_number_12 [(5, .int (z_bo (zt_at (σ.1 118) tl ps = (nI 45)))), (4, .int (nI ps)), (0, .ref (z_ad G 105)), (1, .int (nI 2)), (2, .int (nI 12)), (3, .int (nI 1))] (by decide) rfl ?_
  refine z_aload_n 14 C dX8_number_14 2 rfl ?_
  refine z_dup 15 C dX8_number_15 rfl ?_
  refine z_getf 16 C 105 z_dX8 (⟨rfl, rfl⟩) 24 (by decide) q990 (.int (nI ps)) z_yU_gpl dX8_number_16 ?_
  refine z_iload 19 C dX8_number_19 0 rfl ?_
  refine z_if_eqb 21 C 28 dX8_number_21 (by decide) (fun c21 => ?_) (fun c21 => ?_)
  · skip
    refine z_cv (lv1 := [(5, .int (nI 0)), (4, .int (nI ps)), (0, .ref (z_ad G 105)), (1, .int (nI 2)), (2, .int (nI 12)), (3, .int (nI 1))]) (st1 := [.int (nI ps), .ref (z_ad G 105)]) (σ1 := z_yU σ (nI ps) (-1)) (by rw [← z_bo_f c21] <;> rfl) rfl rfl ?_
    refine z_iconst 28 C dX8_number_28 (nI 0) rfl ?_
    refine z_iaddN 29 C ps 0 rfl rfl dX8_number_29 ?_
    refine z_cv (lv1 := [(5, .int (nI 0)), (4, .int (nI ps)), (0, .ref (z_ad G 105)), (1, .int (nI 2)), (2, .int (nI 12)), (3, .int (nI 1))]) (st1 := [.int (nI ps), .ref (z_ad G 105)]) (σ1 := z_yU σ (nI ps) (-1)) rfl rfl rfl ?_
    refine z_puti 30 C 105 z_dX8 (⟨rfl, rfl⟩) 24 (by decide) q990 rfl (rfl) rfl z_yU_hpl dX8_number_30 ?_
    refine z_cv (σ1 := z_yU σ (nI ps) (-1)) rfl rfl z_yU_ppl ?_
    refine z_iconst 33 C dX8_number_33 (nI 0) rfl ?_
    refine z_istore 34 C dX8_number_34 [(6, .int (nI 0)), (5, .int (nI 0)), (4, .int (nI ps)), (0, .ref (z_ad G 105)), (1, .int (nI 2)), (2, .int (nI 12)), (3, .int (nI 1))] (by decide) rfl ?_
    refine z_iconst 36 C dX8_number_36 (nI 0) rfl ?_
    refine z_istore 37 C dX8_number_37 [(7, .int (nI 0)), (6, .int (nI 0)), (5, .int (nI 0)), (4, .int (nI ps)), (0, .ref (z_ad G 105)), (1, .int (nI 2)), (2, .int (nI 12)), (3, .int (nI 1))] (by decide) rfl ?_
    refine z_sub [4, 5, 6, 7, 3, 2, 1, 0] (lv1 := [(0, .ref (z_ad G 105)), (1, .int (nI 2)), (2, .int (nI 12)), (3, .int (nI 1)), (4, .int (nI ps)), (5, .int (nI 0)), (6, .int (nI 0)), (7, .int (nI 0))]) rfl ?_
    refine z_cv (lv1 := [(0, .ref (z_ad G 105)), (1, .int (nI 2)), (2, .int (nI 12)), (3, .int (nI 1)), (4, .int (nI ps)), (5, .int (nI 0)), (6, .int (nI 0)), (7, .int (zt_nv (σ.1 118) (ps) 0))]) (st1 := []) (σ1 := z_yU σ (nI (ps + 0)) (-1)) rfl rfl rfl ?_
    refine z_lp1 (fun (j : Nat) => j ≤ 5 ∧ ps + j ≤ tl ∧ ∀ i, i < j → zt_dg (zt_at (σ.1 118) tl (ps + i))) (fun (j : Nat) => 5 - j) (fun (j : Nat) => [(0, .ref (z_ad G 105)), (1, .int (nI 2)), (2, .int (nI 12)), (3, .int (nI 1)), (4, .int (nI ps)), (5, .int (nI 0)), (6, .int (nI j)), (7, .int (zt_nv (σ.1 118) (ps) j))]) (fun (j : Nat) => z_yU σ (nI (ps + j)) (-1)) (fun j hi_39 ih_39 => ?_) 0 (⟨by omega, by omega, fun i h => absurd h (Nat.not_lt_zero i)⟩)
    try dsimp only
    obtain ⟨hj5, hjt, hdg⟩ := hi_39
    refine z_iload 39 C dX8_number_39 6 rfl ?_
    refine z_iconst 41 C dX8_number_41 (nI 5) rfl ?_
    refine z_icmp_geN 42 C j 5 rfl rfl (by omega) (by omega) 88 dX8_number_42 (by decide) (fun c42 => ?_) (fun c42 => ?_)
    · skip
      have ej : j = 5 := by omega
      subst ej
      refine z_iload 88 C dX8_number_88 6 rfl ?_
      refine z_if_ne 90 C 101 dX8_number_90 (by decide) (fun c90 => ?_) (fun c90 => ?_)
      · skip
        refine z_iload 101 C dX8_number_101 5 rfl ?_
        refine z_if_eq 103 C 112 dX8_number_103 (by decide) (fun c103 => ?_) (fun c103 => ?_)
        · skip
          refine z_iload 112 C dX8_number_112 7 rfl ?_
          refine z_istore 114 C dX8_number_114 [(7, .int (zt_nv (σ.1 118) (ps) 5)), (0, .ref (z_ad G 105)), (1, .int (nI 2)), (2, .int (nI 12)), (3, .int (nI 1)), (4, .int (nI ps)), (5, .int (nI 0)), (6, .int (nI 5))] (by decide) rfl ?_
          refine z_iload 116 C dX8_number_116 0 rfl ?_
          refine z_i2l 118 C dX8_number_118 ?_
          refine z_iload_n 119 C dX8_number_119 2 rfl ?_
          refine z_i2l 120 C dX8_number_120 ?_
          refine z_iload_n 121 C dX8_number_121 3 rfl ?_
          refine z_i2l 122 C dX8_number_122 ?_
          refine z_callS 123 C (As := [.long (Int32.toInt64 (zt_nv (σ.1 118) (ps) 5)), .long (Int32.toInt64 (nI 2)), .long (Int32.toInt64 (nI 12))]) (rest := []) (m_X8_in_i (σ := z_yU σ (nI (ps + 5)) (-1)) (zt_nv (σ.1 118) (ps) 5) (nI 2) (nI 12) (rfl) (rfl)) k_X8_in q1071 ⟨rfl, rfl⟩ ⟨Nat.le_of_ble_eq_true rfl, Nat.le_of_ble_eq_true rfl⟩ rfl (Nat.le_of_ble_eq_true rfl) ⟨Nat.le_of_ble_eq_true rfl, Nat.le_of_ble_eq_true rfl⟩ rfl dX8_number_123 (z_k1 ?_)
          refine z_if_eqb 126 C 141 dX8_number_126 (by decide) (fun c126 => ?_) (fun c126 => ?_)
          · skip
            replace c126 := Classical.not_not.mp c126
            refine z_aload_n 141 C dX8_number_141 1 rfl ?_
            refine z_iload 142 C dX8_number_142 5 rfl ?_
            refine z_callV 144 C 105 (⟨rfl, rfl⟩) rfl (As := [.int (nI ps)]) (rest := []) (@m_X8_fail _ _ σ (nI (ps + 5)) (nI ps)) k_X8_fail q1437 ⟨rfl, rfl⟩ ⟨Nat.le_of_ble_eq_true rfl, Nat.le_of_ble_eq_true rfl⟩ rfl (Nat.le_of_ble_eq_true rfl) ⟨Nat.le_of_ble_eq_true rfl, Nat.le_of_ble_eq_true rfl⟩ rfl dX8_number_144 (z_k0 ?_)
            refine z_iload 147 C dX8_number_147 0 rfl ?_
            refine z_iret 149 C dX8_number_149 ?_
            exact Or.inl ⟨_, _, _, zm_nst_1 (zt_c1_n c21) (by omega) (zt_nd_eq hdg (by omega) (Or.inl rfl)) (zt_vl_n c21) (zm_no c126), by omega, rfl, rfl⟩
          · skip
            refine z_iload_n 129 C dX8_number_129 4 rfl ?_
            refine z_if_eq 130 C 147 dX8_number_130 (by decide) (fun c130 => ?_) (fun c130 => ?_)
            · skip
              exact absurd c130 (by decide)
            · skip
              refine z_iload 133 C dX8_number_133 0 rfl ?_
              refine z_callS 135 C (As := [.int (zt_nv (σ.1 118) (ps) 5)]) (rest := []) (m_X8_isSteps (σ := z_yU σ (nI (ps + 5)) (-1)) (zt_nv (σ.1 118) (ps) 5)) k_X8_isSteps q1061 ⟨rfl, rfl⟩ ⟨Nat.le_of_ble_eq_true rfl, Nat.le_of_ble_eq_true rfl⟩ rfl (Nat.le_of_ble_eq_true rfl) ⟨Nat.le_of_ble_eq_true rfl, Nat.le_of_ble_eq_true rfl⟩ rfl dX8_number_135 (z_k1 ?_)
              refine z_if_neb 138 C 147 dX8_number_138 (by decide) (fun c138 => ?_) (fun c138 => ?_)
              · skip
                refine z_iload 147 C dX8_number_147 0 rfl ?_
                refine z_iret 149 C dX8_number_149 ?_
                exact Or.inr ⟨_, _, zm_nst_2 (zt_c1_n c21) (by omega) (zt_nd_eq hdg (by omega) (Or.inl rfl)) (zt_vl_n c21) c138, rfl, rfl⟩
              · skip
                refine z_aload_n 141 C dX8_number_141 1 rfl ?_
                refine z_iload 142 C dX8_number_142 5 rfl ?_
                refine z_callV 144 C 105 (⟨rfl, rfl⟩) rfl (As := [.int (nI ps)]) (rest := []) (@m_X8_fail _ _ σ (nI (ps + 5)) (nI ps)) k_X8_fail q1437 ⟨rfl, rfl⟩ ⟨Nat.le_of_ble_eq_true rfl, Nat.le_of_ble_eq_true rfl⟩ rfl (Nat.le_of_ble_eq_true rfl) ⟨Nat.le_of_ble_eq_true rfl, Nat.le_of_ble_eq_true rfl⟩ rfl dX8_number_144 (z_k0 ?_)
                refine z_iload 147 C dX8_number_147 0 rfl ?_
                refine z_iret 149 C dX8_number_149 ?_
                exact Or.inl ⟨_, _, _, zm_nst_1 (zt_c1_n c21) (by omega) (zt_nd_eq hdg (by omega) (Or.inl rfl)) (zt_vl_n c21) c138, by omega, rfl, rfl⟩
        · skip
          exact absurd c103 (by decide)
      · skip
        exact absurd c90 (by decide)
    · skip
      refine z_aload_n 45 C dX8_number_45 0 rfl ?_
      refine z_callV 46 C 105 (⟨rfl, rfl⟩) rfl (As := []) (rest := []) (@m_X8_isDigit _ _ σ P n u v w rc tl hM (ps + j) (by omega) (-1)) k_X8_isDigit q1445 ⟨rfl, rfl⟩ ⟨Nat.le_of_ble_eq_true rfl, Nat.le_of_ble_eq_true rfl⟩ rfl (Nat.le_of_ble_eq_true rfl) ⟨Nat.le_of_ble_eq_true rfl, Nat.le_of_ble_eq_true rfl⟩ rfl dX8_number_46 (z_k1 ?_)
      refine z_if_eqb 49 C 88 dX8_number_49 (by decide) (fun c49 => ?_) (fun c49 => ?_)
      · skip
        refine z_iload 88 C dX8_number_88 6 rfl ?_
        refine z_if_ne 90 C 101 dX8_number_90 (by decide) (fun c90 => ?_) (fun c90 => ?_)
        · skip
          refine z_iload 101 C dX8_number_101 5 rfl ?_
          refine z_if_eq 103 C 112 dX8_number_103 (by decide) (fun c103 => ?_) (fun c103 => ?_)
          · skip
            refine z_iload 112 C dX8_number_112 7 rfl ?_
            refine z_istore 114 C dX8_number_114 [(7, .int (zt_nv (σ.1 118) (ps) j)), (0, .ref (z_ad G 105)), (1, .int (nI 2)), (2, .int (nI 12)), (3, .int (nI 1)), (4, .int (nI ps)), (5, .int (nI 0)), (6, .int (nI j))] (by decide) rfl ?_
            refine z_iload 116 C dX8_number_116 0 rfl ?_
            refine z_i2l 118 C dX8_number_118 ?_
            refine z_iload_n 119 C dX8_number_119 2 rfl ?_
            refine z_i2l 120 C dX8_number_120 ?_
            refine z_iload_n 121 C dX8_number_121 3 rfl ?_
            refine z_i2l 122 C dX8_number_122 ?_
            refine z_callS 123 C (As := [.long (Int32.toInt64 (zt_nv (σ.1 118) (ps) j)), .long (Int32.toInt64 (nI 2)), .long (Int32.toInt64 (nI 12))]) (rest := []) (m_X8_in_i (σ := z_yU σ (nI (ps + j)) (-1)) (zt_nv (σ.1 118) (ps) j) (nI 2) (nI 12) (rfl) (rfl)) k_X8_in q1071 ⟨rfl, rfl⟩ ⟨Nat.le_of_ble_eq_true rfl, Nat.le_of_ble_eq_true rfl⟩ rfl (Nat.le_of_ble_eq_true rfl) ⟨Nat.le_of_ble_eq_true rfl, Nat.le_of_ble_eq_true rfl⟩ rfl dX8_number_123 (z_k1 ?_)
            refine z_if_eqb 126 C 141 dX8_number_126 (by decide) (fun c126 => ?_) (fun c126 => ?_)
            · skip
              replace c126 := Classical.not_not.mp c126
              refine z_aload_n 141 C dX8_number_141 1 rfl ?_
              refine z_iload 142 C dX8_number_142 5 rfl ?_
              refine z_callV 144 C 105 (⟨rfl, rfl⟩) rfl (As := [.int (nI ps)]) (rest := []) (@m_X8_fail _ _ σ (nI (ps + j)) (nI ps)) k_X8_fail q1437 ⟨rfl, rfl⟩ ⟨Nat.le_of_ble_eq_true rfl, Nat.le_of_ble_eq_true rfl⟩ rfl (Nat.le_of_ble_eq_true rfl) ⟨Nat.le_of_ble_eq_true rfl, Nat.le_of_ble_eq_true rfl⟩ rfl dX8_number_144 (z_k0 ?_)
              refine z_iload 147 C dX8_number_147 0 rfl ?_
              refine z_iret 149 C dX8_number_149 ?_
              exact Or.inl ⟨_, _, _, zm_nst_1 (zt_c1_n c21) (Nat.pos_of_ne_zero (fun z => c90 ((z_nI0 (by omega)).mpr z))) (zt_nd_eq hdg (by omega) (Or.inr c49)) (zt_vl_n c21) (zm_no c126), by omega, rfl, rfl⟩
            · skip
              refine z_iload_n 129 C dX8_number_129 4 rfl ?_
              refine z_if_eq 130 C 147 dX8_number_130 (by decide) (fun c130 => ?_) (fun c130 => ?_)
              · skip
                exact absurd c130 (by decide)
              · skip
                refine z_iload 133 C dX8_number_133 0 rfl ?_
                refine z_callS 135 C (As := [.int (zt_nv (σ.1 118) (ps) j)]) (rest := []) (m_X8_isSteps (σ := z_yU σ (nI (ps + j)) (-1)) (zt_nv (σ.1 118) (ps) j)) k_X8_isSteps q1061 ⟨rfl, rfl⟩ ⟨Nat.le_of_ble_eq_true rfl, Nat.le_of_ble_eq_true rfl⟩ rfl (Nat.le_of_ble_eq_true rfl) ⟨Nat.le_of_ble_eq_true rfl, Nat.le_of_ble_eq_true rfl⟩ rfl dX8_number_135 (z_k1 ?_)
                refine z_if_neb 138 C 147 dX8_number_138 (by decide) (fun c138 => ?_) (fun c138 => ?_)
                · skip
                  refine z_iload 147 C dX8_number_147 0 rfl ?_
                  refine z_iret 149 C dX8_number_149 ?_
                  exact Or.inr ⟨_, _, zm_nst_2 (zt_c1_n c21) (Nat.pos_of_ne_zero (fun z => c90 ((z_nI0 (by omega)).mpr z))) (zt_nd_eq hdg (by omega) (Or.inr c49)) (zt_vl_n c21) c138, rfl, rfl⟩
                · skip
                  refine z_aload_n 141 C dX8_number_141 1 rfl ?_
                  refine z_iload 142 C dX8_number_142 5 rfl ?_
                  refine z_callV 144 C 105 (⟨rfl, rfl⟩) rfl (As := [.int (nI ps)]) (rest := []) (@m_X8_fail _ _ σ (nI (ps + j)) (nI ps)) k_X8_fail q1437 ⟨rfl, rfl⟩ ⟨Nat.le_of_ble_eq_true rfl, Nat.le_of_ble_eq_true rfl⟩ rfl (Nat.le_of_ble_eq_true rfl) ⟨Nat.le_of_ble_eq_true rfl, Nat.le_of_ble_eq_true rfl⟩ rfl dX8_number_144 (z_k0 ?_)
                  refine z_iload 147 C dX8_number_147 0 rfl ?_
                  refine z_iret 149 C dX8_number_149 ?_
                  exact Or.inl ⟨_, _, _, zm_nst_1 (zt_c1_n c21) (Nat.pos_of_ne_zero (fun z => c90 ((z_nI0 (by omega)).mpr z))) (zt_nd_eq hdg (by omega) (Or.inr c49)) (zt_vl_n c21) c138, by omega, rfl, rfl⟩
          · skip
            exact absurd c103 (by decide)
        · skip
          have ej : j = 0 := (z_nI0 (by omega)).mp c90
          subst ej
          refine z_aload_n 93 C dX8_number_93 0 rfl ?_
          refine z_aload_n 94 C dX8_number_94 0 rfl ?_
          refine z_getf 95 C 105 z_dX8 (⟨rfl, rfl⟩) 24 (by decide) q990 (.int (nI (ps + 0))) z_yU_gpl dX8_number_95 ?_
          refine z_callV 98 C 105 (⟨rfl, rfl⟩) rfl (As := [.int (nI (ps + 0))]) (rest := []) (@m_X8_fail _ _ σ (nI (ps + 0)) (nI (ps + 0))) k_X8_fail q1437 ⟨rfl, rfl⟩ ⟨Nat.le_of_ble_eq_true rfl, Nat.le_of_ble_eq_true rfl⟩ rfl (Nat.le_of_ble_eq_true rfl) ⟨Nat.le_of_ble_eq_true rfl, Nat.le_of_ble_eq_true rfl⟩ rfl dX8_number_98 (z_k0 ?_)
          refine z_iload 101 C dX8_number_101 5 rfl ?_
          refine z_if_eq 103 C 112 dX8_number_103 (by decide) (fun c103 => ?_) (fun c103 => ?_)
          · skip
            refine z_iload 112 C dX8_number_112 7 rfl ?_
            refine z_istore 114 C dX8_number_114 [(7, .int (zt_nv (σ.1 118) (ps) 0)), (0, .ref (z_ad G 105)), (1, .int (nI 2)), (2, .int (nI 12)), (3, .int (nI 1)), (4, .int (nI ps)), (5, .int (nI 0)), (6, .int (nI 0))] (by decide) rfl ?_
            refine z_iload 116 C dX8_number_116 0 rfl ?_
            refine z_i2l 118 C dX8_number_118 ?_
            refine z_iload_n 119 C dX8_number_119 2 rfl ?_
            refine z_i2l 120 C dX8_number_120 ?_
            refine z_iload_n 121 C dX8_number_121 3 rfl ?_
            refine z_i2l 122 C dX8_number_122 ?_
            refine z_callS 123 C (As := [.long (Int32.toInt64 (zt_nv (σ.1 118) (ps) 0)), .long (Int32.toInt64 (nI 2)), .long (Int32.toInt64 (nI 12))]) (rest := []) (m_X8_in_i (σ := z_yU σ (nI (ps + 0)) (nI (ps + 0))) (zt_nv (σ.1 118) (ps) 0) (nI 2) (nI 12) (rfl) (rfl)) k_X8_in q1071 ⟨rfl, rfl⟩ ⟨Nat.le_of_ble_eq_true rfl, Nat.le_of_ble_eq_true rfl⟩ rfl (Nat.le_of_ble_eq_true rfl) ⟨Nat.le_of_ble_eq_true rfl, Nat.le_of_ble_eq_true rfl⟩ rfl dX8_number_123 (z_k1 ?_)
            refine z_if_eqb 126 C 141 dX8_number_126 (by decide) (fun c126 => ?_) (fun c126 => ?_)
            · skip
              replace c126 := Classical.not_not.mp c126
              refine z_aload_n 141 C dX8_number_141 1 rfl ?_
              refine z_iload 142 C dX8_number_142 5 rfl ?_
              refine z_callV 144 C 105 (⟨rfl, rfl⟩) rfl (As := [.int (nI ps)]) (rest := []) (@m_X8_fail_k _ _ σ (nI (ps + 0)) (nI ps) (ps + 0) (by omega)) k_X8_fail q1437 ⟨rfl, rfl⟩ ⟨Nat.le_of_ble_eq_true rfl, Nat.le_of_ble_eq_true rfl⟩ rfl (Nat.le_of_ble_eq_true rfl) ⟨Nat.le_of_ble_eq_true rfl, Nat.le_of_ble_eq_true rfl⟩ rfl dX8_number_144 (z_k0 ?_)
              refine z_iload 147 C dX8_number_147 0 rfl ?_
              refine z_iret 149 C dX8_number_149 ?_
              exact Or.inl ⟨_, _, _, zm_nst_0 (zt_c1_n c21) c49, by omega, rfl, rfl⟩
            · skip
              refine z_iload_n 129 C dX8_number_129 4 rfl ?_
              refine z_if_eq 130 C 147 dX8_number_130 (by decide) (fun c130 => ?_) (fun c130 => ?_)
              · skip
                exact absurd c130 (by decide)
              · skip
                refine z_iload 133 C dX8_number_133 0 rfl ?_
                refine z_callS 135 C (As := [.int (zt_nv (σ.1 118) (ps) 0)]) (rest := []) (m_X8_isSteps (σ := z_yU σ (nI (ps + 0)) (nI (ps + 0))) (zt_nv (σ.1 118) (ps) 0)) k_X8_isSteps q1061 ⟨rfl, rfl⟩ ⟨Nat.le_of_ble_eq_true rfl, Nat.le_of_ble_eq_true rfl⟩ rfl (Nat.le_of_ble_eq_true rfl) ⟨Nat.le_of_ble_eq_true rfl, Nat.le_of_ble_eq_true rfl⟩ rfl dX8_number_135 (z_k1 ?_)
                refine z_if_neb 138 C 147 dX8_number_138 (by decide) (fun c138 => ?_) (fun c138 => ?_)
                · skip
                  refine z_iload 147 C dX8_number_147 0 rfl ?_
                  refine z_iret 149 C dX8_number_149 ?_
                  exact Or.inl ⟨_, _, _, zm_nst_0 (zt_c1_n c21) c49, by omega, rfl, rfl⟩
                · skip
                  refine z_aload_n 141 C dX8_number_141 1 rfl ?_
                  refine z_iload 142 C dX8_number_142 5 rfl ?_
                  refine z_callV 144 C 105 (⟨rfl, rfl⟩) rfl (As := [.int (nI ps)]) (rest := []) (@m_X8_fail_k _ _ σ (nI (ps + 0)) (nI ps) (ps + 0) (by omega)) k_X8_fail q1437 ⟨rfl, rfl⟩ ⟨Nat.le_of_ble_eq_true rfl, Nat.le_of_ble_eq_true rfl⟩ rfl (Nat.le_of_ble_eq_true rfl) ⟨Nat.le_of_ble_eq_true rfl, Nat.le_of_ble_eq_true rfl⟩ rfl dX8_number_144 (z_k0 ?_)
                  refine z_iload 147 C dX8_number_147 0 rfl ?_
                  refine z_iret 149 C dX8_number_149 ?_
                  exact Or.inl ⟨_, _, _, zm_nst_0 (zt_c1_n c21) c49, by omega, rfl, rfl⟩
          · skip
            exact absurd c103 (by decide)
      · skip
        have hlt49 := zt_dg_lt c49
        refine z_bipush 52 C dX8_number_52 (nI 10) rfl ?_
        refine z_iload 54 C dX8_number_54 7 rfl ?_
        refine z_imul 56 C dX8_number_56 ?_
        refine z_aload_n 57 C dX8_number_57 0 rfl ?_
        refine z_getf 58 C 105 z_dX8 (⟨rfl, rfl⟩) 23 (by decide) q989 (.ref (z_ad G 118)) rfl dX8_number_58 ?_
        refine z_aload_n 61 C dX8_number_61 0 rfl ?_
        refine z_getf 62 C 105 z_dX8 (⟨rfl, rfl⟩) 24 (by decide) q990 (.int (nI (ps + j))) z_yU_gpl dX8_number_62 ?_
        refine z_caldN 65 C 118 (n := 200) (⟨rfl, rfl⟩) (ps + j) rfl (by omega) (by decide) dX8_number_65 ?_
        refine z_cv (st1 := [.int (σ.1 118 (ps + j)), .int ((nI 10) * (zt_nv (σ.1 118) (ps) j))]) rfl rfl rfl ?_
        refine z_iadd 66 C dX8_number_66 ?_
        refine z_bipush 67 C dX8_number_67 (nI 48) rfl ?_
        refine z_isub 69 C dX8_number_69 ?_
        refine z_cv (lv1 := [(0, .ref (z_ad G 105)), (1, .int (nI 2)), (2, .int (nI 12)), (3, .int (nI 1)), (4, .int (nI ps)), (5, .int (nI 0)), (6, .int (nI j)), (7, .int (zt_nv (σ.1 118) (ps) j))]) (st1 := [.int (zt_nv (σ.1 118) (ps) (j + 1))]) (σ1 := z_yU σ (nI (ps + j)) (-1)) rfl (by rw [show zt_nv (σ.1 118) (ps) (j + 1) = zt_nv (σ.1 118) (ps) j * nI 10 + ((σ.1 118) (ps + j) - nI 48) from rfl, zm_nv]) rfl ?_
        refine z_istore 70 C dX8_number_70 [(7, .int (zt_nv (σ.1 118) (ps) (j + 1))), (0, .ref (z_ad G 105)), (1, .int (nI 2)), (2, .int (nI 12)), (3, .int (nI 1)), (4, .int (nI ps)), (5, .int (nI 0)), (6, .int (nI j))] (by decide) rfl ?_
        refine z_aload_n 72 C dX8_number_72 1 rfl ?_
        refine z_dup 73 C dX8_number_73 rfl ?_
        refine z_getf 74 C 105 z_dX8 (⟨rfl, rfl⟩) 24 (by decide) q990 (.int (nI (ps + j))) z_yU_gpl dX8_number_74 ?_
        refine z_iconst 77 C dX8_number_77 (nI 1) rfl ?_
        refine z_iaddN 78 C (ps + j) 1 rfl rfl dX8_number_78 ?_
        refine z_puti 79 C 105 z_dX8 (⟨rfl, rfl⟩) 24 (by decide) q990 rfl (rfl) rfl z_yU_hpl dX8_number_79 ?_
        refine z_cv (σ1 := z_yU σ (nI ((ps + j) + 1)) (-1)) rfl rfl z_yU_ppl ?_
        refine z_iincN 82 C 7 j [(6, .int (nI (j + 1))), (7, .int (zt_nv (σ.1 118) (ps) (j + 1))), (0, .ref (z_ad G 105)), (1, .int (nI 2)), (2, .int (nI 12)), (3, .int (nI 1)), (4, .int (nI ps)), (5, .int (nI 0))] rfl rfl (by decide) rfl dX8_number_82 ?_
        refine z_goto 85 C 39 dX8_number_85 (by decide) ?_
        refine z_sub [2, 3, 4, 5, 6, 7, 0, 1] (lv1 := [(0, .ref (z_ad G 105)), (1, .int (nI 2)), (2, .int (nI 12)), (3, .int (nI 1)), (4, .int (nI ps)), (5, .int (nI 0)), (6, .int (nI (j + 1))), (7, .int (zt_nv (σ.1 118) (ps) (j + 1)))]) rfl ?_
        refine z_cv (lv1 := [(0, .ref (z_ad G 105)), (1, .int (nI 2)), (2, .int (nI 12)), (3, .int (nI 1)), (4, .int (nI ps)), (5, .int (nI 0)), (6, .int (nI (j + 1))), (7, .int (zt_nv (σ.1 118) (ps) (j + 1)))]) (st1 := []) (σ1 := z_yU σ (nI (ps + (j + 1))) (-1)) rfl rfl rfl ?_
        exact ih_39 (j + 1) (⟨by omega, by omega, lt_s hdg c49⟩) (by omega)
  · skip
    have hlt := zt_lt c21 (by decide)
    refine z_cv (lv1 := [(5, .int (nI 1)), (4, .int (nI ps)), (0, .ref (z_ad G 105)), (1, .int (nI 2)), (2, .int (nI 12)), (3, .int (nI 1))]) (st1 := [.int (nI ps), .ref (z_ad G 105)]) (σ1 := z_yU σ (nI ps) (-1)) (by rw [← z_bo_t c21] <;> rfl) rfl rfl ?_
    refine z_iconst 24 C dX8_number_24 (nI 1) rfl ?_
    refine z_goto 25 C 29 dX8_number_25 (by decide) ?_
    refine z_iaddN 29 C ps 1 rfl rfl dX8_number_29 ?_
    refine z_puti 30 C 105 z_dX8 (⟨rfl, rfl⟩) 24 (by decide) q990 rfl (rfl) rfl z_yU_hpl dX8_number_30 ?_
    refine z_cv (σ1 := z_yU σ (nI (ps + 1)) (-1)) rfl rfl z_yU_ppl ?_
    refine z_iconst 33 C dX8_number_33 (nI 0) rfl ?_
    refine z_istore 34 C dX8_number_34 [(6, .int (nI 0)), (5, .int (nI 1)), (4, .int (nI ps)), (0, .ref (z_ad G 105)), (1, .int (nI 2)), (2, .int (nI 12)), (3, .int (nI 1))] (by decide) rfl ?_
    refine z_iconst 36 C dX8_number_36 (nI 0) rfl ?_
    refine z_istore 37 C dX8_number_37 [(7, .int (nI 0)), (6, .int (nI 0)), (5, .int (nI 1)), (4, .int (nI ps)), (0, .ref (z_ad G 105)), (1, .int (nI 2)), (2, .int (nI 12)), (3, .int (nI 1))] (by decide) rfl ?_
    refine z_sub [4, 5, 6, 7, 3, 2, 1, 0] (lv1 := [(0, .ref (z_ad G 105)), (1, .int (nI 2)), (2, .int (nI 12)), (3, .int (nI 1)), (4, .int (nI ps)), (5, .int (nI 1)), (6, .int (nI 0)), (7, .int (nI 0))]) rfl ?_
    refine z_cv (lv1 := [(0, .ref (z_ad G 105)), (1, .int (nI 2)), (2, .int (nI 12)), (3, .int (nI 1)), (4, .int (nI ps)), (5, .int (nI 1)), (6, .int (nI 0)), (7, .int (zt_nv (σ.1 118) (ps + 1) 0))]) (st1 := []) (σ1 := z_yU σ (nI (ps + 1 + 0)) (-1)) rfl rfl rfl ?_
    refine z_lp1 (fun (j : Nat) => j ≤ 5 ∧ ps + 1 + j ≤ tl ∧ ∀ i, i < j → zt_dg (zt_at (σ.1 118) tl (ps + 1 + i))) (fun (j : Nat) => 5 - j) (fun (j : Nat) => [(0, .ref (z_ad G 105)), (1, .int (nI 2)), (2, .int (nI 12)), (3, .int (nI 1)), (4, .int (nI ps)), (5, .int (nI 1)), (6, .int (nI j)), (7, .int (zt_nv (σ.1 118) (ps + 1) j))]) (fun (j : Nat) => z_yU σ (nI (ps + 1 + j)) (-1)) (fun j hi_39 ih_39 => ?_) 0 (⟨by omega, by omega, fun i h => absurd h (Nat.not_lt_zero i)⟩)
    try dsimp only
    obtain ⟨hj5, hjt, hdg⟩ := hi_39
    refine z_iload 39 C dX8_number_39 6 rfl ?_
    refine z_iconst 41 C dX8_number_41 (nI 5) rfl ?_
    refine z_icmp_geN 42 C j 5 rfl rfl (by omega) (by omega) 88 dX8_number_42 (by decide) (fun c42 => ?_) (fun c42 => ?_)
    · skip
      have ej : j = 5 := by omega
      subst ej
      refine z_iload 88 C dX8_number_88 6 rfl ?_
      refine z_if_ne 90 C 101 dX8_number_90 (by decide) (fun c90 => ?_) (fun c90 => ?_)
      · skip
        refine z_iload 101 C dX8_number_101 5 rfl ?_
        refine z_if_eq 103 C 112 dX8_number_103 (by decide) (fun c103 => ?_) (fun c103 => ?_)
        · skip
          exact absurd c103 (by decide)
        · skip
          refine z_iload 106 C dX8_number_106 7 rfl ?_
          refine z_ineg 108 C dX8_number_108 ?_
          refine z_goto 109 C 114 dX8_number_109 (by decide) ?_
          refine z_istore 114 C dX8_number_114 [(7, .int (-(zt_nv (σ.1 118) (ps + 1) 5))), (0, .ref (z_ad G 105)), (1, .int (nI 2)), (2, .int (nI 12)), (3, .int (nI 1)), (4, .int (nI ps)), (5, .int (nI 1)), (6, .int (nI 5))] (by decide) rfl ?_
          refine z_iload 116 C dX8_number_116 0 rfl ?_
          refine z_i2l 118 C dX8_number_118 ?_
          refine z_iload_n 119 C dX8_number_119 2 rfl ?_
          refine z_i2l 120 C dX8_number_120 ?_
          refine z_iload_n 121 C dX8_number_121 3 rfl ?_
          refine z_i2l 122 C dX8_number_122 ?_
          refine z_callS 123 C (As := [.long (Int32.toInt64 (-(zt_nv (σ.1 118) (ps + 1) 5))), .long (Int32.toInt64 (nI 2)), .long (Int32.toInt64 (nI 12))]) (rest := []) (m_X8_in_i (σ := z_yU σ (nI (ps + 1 + 5)) (-1)) (-(zt_nv (σ.1 118) (ps + 1) 5)) (nI 2) (nI 12) (rfl) (rfl)) k_X8_in q1071 ⟨rfl, rfl⟩ ⟨Nat.le_of_ble_eq_true rfl, Nat.le_of_ble_eq_true rfl⟩ rfl (Nat.le_of_ble_eq_true rfl) ⟨Nat.le_of_ble_eq_true rfl, Nat.le_of_ble_eq_true rfl⟩ rfl dX8_number_123 (z_k1 ?_)
          refine z_if_eqb 126 C 141 dX8_number_126 (by decide) (fun c126 => ?_) (fun c126 => ?_)
          · skip
            replace c126 := Classical.not_not.mp c126
            refine z_aload_n 141 C dX8_number_141 1 rfl ?_
            refine z_iload 142 C dX8_number_142 5 rfl ?_
            refine z_callV 144 C 105 (⟨rfl, rfl⟩) rfl (As := [.int (nI ps)]) (rest := []) (@m_X8_fail _ _ σ (nI (ps + 1 + 5)) (nI ps)) k_X8_fail q1437 ⟨rfl, rfl⟩ ⟨Nat.le_of_ble_eq_true rfl, Nat.le_of_ble_eq_true rfl⟩ rfl (Nat.le_of_ble_eq_true rfl) ⟨Nat.le_of_ble_eq_true rfl, Nat.le_of_ble_eq_true rfl⟩ rfl dX8_number_144 (z_k0 ?_)
            refine z_iload 147 C dX8_number_147 0 rfl ?_
            refine z_iret 149 C dX8_number_149 ?_
            exact Or.inl ⟨_, _, _, zm_nst_1 (zt_c1_p c21) (by omega) (zt_nd_eq hdg (by omega) (Or.inl rfl)) (zt_vl_p c21) (zm_no c126), by omega, rfl, rfl⟩
          · skip
            refine z_iload_n 129 C dX8_number_129 4 rfl ?_
            refine z_if_eq 130 C 147 dX8_number_130 (by decide) (fun c130 => ?_) (fun c130 => ?_)
            · skip
              exact absurd c130 (by decide)
            · skip
              refine z_iload 133 C dX8_number_133 0 rfl ?_
              refine z_callS 135 C (As := [.int (-(zt_nv (σ.1 118) (ps + 1) 5))]) (rest := []) (m_X8_isSteps (σ := z_yU σ (nI (ps + 1 + 5)) (-1)) (-(zt_nv (σ.1 118) (ps + 1) 5))) k_X8_isSteps q1061 ⟨rfl, rfl⟩ ⟨Nat.le_of_ble_eq_true rfl, Nat.le_of_ble_eq_true rfl⟩ rfl (Nat.le_of_ble_eq_true rfl) ⟨Nat.le_of_ble_eq_true rfl, Nat.le_of_ble_eq_true rfl⟩ rfl dX8_number_135 (z_k1 ?_)
              refine z_if_neb 138 C 147 dX8_number_138 (by decide) (fun c138 => ?_) (fun c138 => ?_)
              · skip
                refine z_iload 147 C dX8_number_147 0 rfl ?_
                refine z_iret 149 C dX8_number_149 ?_
                exact Or.inr ⟨_, _, zm_nst_2 (zt_c1_p c21) (by omega) (zt_nd_eq hdg (by omega) (Or.inl rfl)) (zt_vl_p c21) c138, rfl, rfl⟩
              · skip
                refine z_aload_n 141 C dX8_number_141 1 rfl ?_
                refine z_iload 142 C dX8_number_142 5 rfl ?_
                refine z_callV 144 C 105 (⟨rfl, rfl⟩) rfl (As := [.int (nI ps)]) (rest := []) (@m_X8_fail _ _ σ (nI (ps + 1 + 5)) (nI ps)) k_X8_fail q1437 ⟨rfl, rfl⟩ ⟨Nat.le_of_ble_eq_true rfl, Nat.le_of_ble_eq_true rfl⟩ rfl (Nat.le_of_ble_eq_true rfl) ⟨Nat.le_of_ble_eq_true rfl, Nat.le_of_ble_eq_true rfl⟩ rfl dX8_number_144 (z_k0 ?_)
                refine z_iload 147 C dX8_number_147 0 rfl ?_
                refine z_iret 149 C dX8_number_149 ?_
                exact Or.inl ⟨_, _, _, zm_nst_1 (zt_c1_p c21) (by omega) (zt_nd_eq hdg (by omega) (Or.inl rfl)) (zt_vl_p c21) c138, by omega, rfl, rfl⟩
      · skip
        exact absurd c90 (by decide)
    · skip
      refine z_aload_n 45 C dX8_number_45 0 rfl ?_
      refine z_callV 46 C 105 (⟨rfl, rfl⟩) rfl (As := []) (rest := []) (@m_X8_isDigit _ _ σ P n u v w rc tl hM (ps + 1 + j) (by omega) (-1)) k_X8_isDigit q1445 ⟨rfl, rfl⟩ ⟨Nat.le_of_ble_eq_true rfl, Nat.le_of_ble_eq_true rfl⟩ rfl (Nat.le_of_ble_eq_true rfl) ⟨Nat.le_of_ble_eq_true rfl, Nat.le_of_ble_eq_true rfl⟩ rfl dX8_number_46 (z_k1 ?_)
      refine z_if_eqb 49 C 88 dX8_number_49 (by decide) (fun c49 => ?_) (fun c49 => ?_)
      · skip
        refine z_iload 88 C dX8_number_88 6 rfl ?_
        refine z_if_ne 90 C 101 dX8_number_90 (by decide) (fun c90 => ?_) (fun c90 => ?_)
        · skip
          refine z_iload 101 C dX8_number_101 5 rfl ?_
          refine z_if_eq 103 C 112 dX8_number_103 (by decide) (fun c103 => ?_) (fun c103 => ?_)
          · skip
            exact absurd c103 (by decide)
          · skip
            refine z_iload 106 C dX8_number_106 7 rfl ?_
            refine z_ineg 108 C dX8_number_108 ?_
            refine z_goto 109 C 114 dX8_number_109 (by decide) ?_
            refine z_istore 114 C dX8_number_114 [(7, .int (-(zt_nv (σ.1 118) (ps + 1) j))), (0, .ref (z_ad G 105)), (1, .int (nI 2)), (2, .int (nI 12)), (3, .int (nI 1)), (4, .int (nI ps)), (5, .int (nI 1)), (6, .int (nI j))] (by decide) rfl ?_
            refine z_iload 116 C dX8_number_116 0 rfl ?_
            refine z_i2l 118 C dX8_number_118 ?_
            refine z_iload_n 119 C dX8_number_119 2 rfl ?_
            refine z_i2l 120 C dX8_number_120 ?_
            refine z_iload_n 121 C dX8_number_121 3 rfl ?_
            refine z_i2l 122 C dX8_number_122 ?_
            refine z_callS 123 C (As := [.long (Int32.toInt64 (-(zt_nv (σ.1 118) (ps + 1) j))), .long (Int32.toInt64 (nI 2)), .long (Int32.toInt64 (nI 12))]) (rest := []) (m_X8_in_i (σ := z_yU σ (nI (ps + 1 + j)) (-1)) (-(zt_nv (σ.1 118) (ps + 1) j)) (nI 2) (nI 12) (rfl) (rfl)) k_X8_in q1071 ⟨rfl, rfl⟩ ⟨Nat.le_of_ble_eq_true rfl, Nat.le_of_ble_eq_true rfl⟩ rfl (Nat.le_of_ble_eq_true rfl) ⟨Nat.le_of_ble_eq_true rfl, Nat.le_of_ble_eq_true rfl⟩ rfl dX8_number_123 (z_k1 ?_)
            refine z_if_eqb 126 C 141 dX8_number_126 (by decide) (fun c126 => ?_) (fun c126 => ?_)
            · skip
              replace c126 := Classical.not_not.mp c126
              refine z_aload_n 141 C dX8_number_141 1 rfl ?_
              refine z_iload 142 C dX8_number_142 5 rfl ?_
              refine z_callV 144 C 105 (⟨rfl, rfl⟩) rfl (As := [.int (nI ps)]) (rest := []) (@m_X8_fail _ _ σ (nI (ps + 1 + j)) (nI ps)) k_X8_fail q1437 ⟨rfl, rfl⟩ ⟨Nat.le_of_ble_eq_true rfl, Nat.le_of_ble_eq_true rfl⟩ rfl (Nat.le_of_ble_eq_true rfl) ⟨Nat.le_of_ble_eq_true rfl, Nat.le_of_ble_eq_true rfl⟩ rfl dX8_number_144 (z_k0 ?_)
              refine z_iload 147 C dX8_number_147 0 rfl ?_
              refine z_iret 149 C dX8_number_149 ?_
              exact Or.inl ⟨_, _, _, zm_nst_1 (zt_c1_p c21) (Nat.pos_of_ne_zero (fun z => c90 ((z_nI0 (by omega)).mpr z))) (zt_nd_eq hdg (by omega) (Or.inr c49)) (zt_vl_p c21) (zm_no c126), by omega, rfl, rfl⟩
            · skip
              refine z_iload_n 129 C dX8_number_129 4 rfl ?_
              refine z_if_eq 130 C 147 dX8_number_130 (by decide) (fun c130 => ?_) (fun c130 => ?_)
              · skip
                exact absurd c130 (by decide)
              · skip
                refine z_iload 133 C dX8_number_133 0 rfl ?_
                refine z_callS 135 C (As := [.int (-(zt_nv (σ.1 118) (ps + 1) j))]) (rest := []) (m_X8_isSteps (σ := z_yU σ (nI (ps + 1 + j)) (-1)) (-(zt_nv (σ.1 118) (ps + 1) j))) k_X8_isSteps q1061 ⟨rfl, rfl⟩ ⟨Nat.le_of_ble_eq_true rfl, Nat.le_of_ble_eq_true rfl⟩ rfl (Nat.le_of_ble_eq_true rfl) ⟨Nat.le_of_ble_eq_true rfl, Nat.le_of_ble_eq_true rfl⟩ rfl dX8_number_135 (z_k1 ?_)
                refine z_if_neb 138 C 147 dX8_number_138 (by decide) (fun c138 => ?_) (fun c138 => ?_)
                · skip
                  refine z_iload 147 C dX8_number_147 0 rfl ?_
                  refine z_iret 149 C dX8_number_149 ?_
                  exact Or.inr ⟨_, _, zm_nst_2 (zt_c1_p c21) (Nat.pos_of_ne_zero (fun z => c90 ((z_nI0 (by omega)).mpr z))) (zt_nd_eq hdg (by omega) (Or.inr c49)) (zt_vl_p c21) c138, rfl, rfl⟩
                · skip
                  refine z_aload_n 141 C dX8_number_141 1 rfl ?_
                  refine z_iload 142 C dX8_number_142 5 rfl ?_
                  refine z_callV 144 C 105 (⟨rfl, rfl⟩) rfl (As := [.int (nI ps)]) (rest := []) (@m_X8_fail _ _ σ (nI (ps + 1 + j)) (nI ps)) k_X8_fail q1437 ⟨rfl, rfl⟩ ⟨Nat.le_of_ble_eq_true rfl, Nat.le_of_ble_eq_true rfl⟩ rfl (Nat.le_of_ble_eq_true rfl) ⟨Nat.le_of_ble_eq_true rfl, Nat.le_of_ble_eq_true rfl⟩ rfl dX8_number_144 (z_k0 ?_)
                  refine z_iload 147 C dX8_number_147 0 rfl ?_
                  refine z_iret 149 C dX8_number_149 ?_
                  exact Or.inl ⟨_, _, _, zm_nst_1 (zt_c1_p c21) (Nat.pos_of_ne_zero (fun z => c90 ((z_nI0 (by omega)).mpr z))) (zt_nd_eq hdg (by omega) (Or.inr c49)) (zt_vl_p c21) c138, by omega, rfl, rfl⟩
        · skip
          have ej : j = 0 := (z_nI0 (by omega)).mp c90
          subst ej
          refine z_aload_n 93 C dX8_number_93 0 rfl ?_
          refine z_aload_n 94 C dX8_number_94 0 rfl ?_
          refine z_getf 95 C 105 z_dX8 (⟨rfl, rfl⟩) 24 (by decide) q990 (.int (nI (ps + 1 + 0))) z_yU_gpl dX8_number_95 ?_
          refine z_callV 98 C 105 (⟨rfl, rfl⟩) rfl (As := [.int (nI (ps + 1 + 0))]) (rest := []) (@m_X8_fail _ _ σ (nI (ps + 1 + 0)) (nI (ps + 1 + 0))) k_X8_fail q1437 ⟨rfl, rfl⟩ ⟨Nat.le_of_ble_eq_true rfl, Nat.le_of_ble_eq_true rfl⟩ rfl (Nat.le_of_ble_eq_true rfl) ⟨Nat.le_of_ble_eq_true rfl, Nat.le_of_ble_eq_true rfl⟩ rfl dX8_number_98 (z_k0 ?_)
          refine z_iload 101 C dX8_number_101 5 rfl ?_
          refine z_if_eq 103 C 112 dX8_number_103 (by decide) (fun c103 => ?_) (fun c103 => ?_)
          · skip
            exact absurd c103 (by decide)
          · skip
            refine z_iload 106 C dX8_number_106 7 rfl ?_
            refine z_ineg 108 C dX8_number_108 ?_
            refine z_goto 109 C 114 dX8_number_109 (by decide) ?_
            refine z_istore 114 C dX8_number_114 [(7, .int (-(zt_nv (σ.1 118) (ps + 1) 0))), (0, .ref (z_ad G 105)), (1, .int (nI 2)), (2, .int (nI 12)), (3, .int (nI 1)), (4, .int (nI ps)), (5, .int (nI 1)), (6, .int (nI 0))] (by decide) rfl ?_
            refine z_iload 116 C dX8_number_116 0 rfl ?_
            refine z_i2l 118 C dX8_number_118 ?_
            refine z_iload_n 119 C dX8_number_119 2 rfl ?_
            refine z_i2l 120 C dX8_number_120 ?_
            refine z_iload_n 121 C dX8_number_121 3 rfl ?_
            refine z_i2l 122 C dX8_number_122 ?_
            refine z_callS 123 C (As := [.long (Int32.toInt64 (-(zt_nv (σ.1 118) (ps + 1) 0))), .long (Int32.toInt64 (nI 2)), .long (Int32.toInt64 (nI 12))]) (rest := []) (m_X8_in_i (σ := z_yU σ (nI (ps + 1 + 0)) (nI (ps + 1 + 0))) (-(zt_nv (σ.1 118) (ps + 1) 0)) (nI 2) (nI 12) (rfl) (rfl)) k_X8_in q1071 ⟨rfl, rfl⟩ ⟨Nat.le_of_ble_eq_true rfl, Nat.le_of_ble_eq_true rfl⟩ rfl (Nat.le_of_ble_eq_true rfl) ⟨Nat.le_of_ble_eq_true rfl, Nat.le_of_ble_eq_true rfl⟩ rfl dX8_number_123 (z_k1 ?_)
            refine z_if_eqb 126 C 141 dX8_number_126 (by decide) (fun c126 => ?_) (fun c126 => ?_)
            · skip
              replace c126 := Classical.not_not.mp c126
              refine z_aload_n 141 C dX8_number_141 1 rfl ?_
              refine z_iload 142 C dX8_number_142 5 rfl ?_
              refine z_callV 144 C 105 (⟨rfl, rfl⟩) rfl (As := [.int (nI ps)]) (rest := []) (@m_X8_fail_k _ _ σ (nI (ps + 1 + 0)) (nI ps) (ps + 1 + 0) (by omega)) k_X8_fail q1437 ⟨rfl, rfl⟩ ⟨Nat.le_of_ble_eq_true rfl, Nat.le_of_ble_eq_true rfl⟩ rfl (Nat.le_of_ble_eq_true rfl) ⟨Nat.le_of_ble_eq_true rfl, Nat.le_of_ble_eq_true rfl⟩ rfl dX8_number_144 (z_k0 ?_)
              refine z_iload 147 C dX8_number_147 0 rfl ?_
              refine z_iret 149 C dX8_number_149 ?_
              exact Or.inl ⟨_, _, _, zm_nst_0 (zt_c1_p c21) c49, by omega, rfl, rfl⟩
            · skip
              refine z_iload_n 129 C dX8_number_129 4 rfl ?_
              refine z_if_eq 130 C 147 dX8_number_130 (by decide) (fun c130 => ?_) (fun c130 => ?_)
              · skip
                exact absurd c130 (by decide)
              · skip
                refine z_iload 133 C dX8_number_133 0 rfl ?_
                refine z_callS 135 C (As := [.int (-(zt_nv (σ.1 118) (ps + 1) 0))]) (rest := []) (m_X8_isSteps (σ := z_yU σ (nI (ps + 1 + 0)) (nI (ps + 1 + 0))) (-(zt_nv (σ.1 118) (ps + 1) 0))) k_X8_isSteps q1061 ⟨rfl, rfl⟩ ⟨Nat.le_of_ble_eq_true rfl, Nat.le_of_ble_eq_true rfl⟩ rfl (Nat.le_of_ble_eq_true rfl) ⟨Nat.le_of_ble_eq_true rfl, Nat.le_of_ble_eq_true rfl⟩ rfl dX8_number_135 (z_k1 ?_)
                refine z_if_neb 138 C 147 dX8_number_138 (by decide) (fun c138 => ?_) (fun c138 => ?_)
                · skip
                  refine z_iload 147 C dX8_number_147 0 rfl ?_
                  refine z_iret 149 C dX8_number_149 ?_
                  exact Or.inl ⟨_, _, _, zm_nst_0 (zt_c1_p c21) c49, by omega, rfl, rfl⟩
                · skip
                  refine z_aload_n 141 C dX8_number_141 1 rfl ?_
                  refine z_iload 142 C dX8_number_142 5 rfl ?_
                  refine z_callV 144 C 105 (⟨rfl, rfl⟩) rfl (As := [.int (nI ps)]) (rest := []) (@m_X8_fail_k _ _ σ (nI (ps + 1 + 0)) (nI ps) (ps + 1 + 0) (by omega)) k_X8_fail q1437 ⟨rfl, rfl⟩ ⟨Nat.le_of_ble_eq_true rfl, Nat.le_of_ble_eq_true rfl⟩ rfl (Nat.le_of_ble_eq_true rfl) ⟨Nat.le_of_ble_eq_true rfl, Nat.le_of_ble_eq_true rfl⟩ rfl dX8_number_144 (z_k0 ?_)
                  refine z_iload 147 C dX8_number_147 0 rfl ?_
                  refine z_iret 149 C dX8_number_149 ?_
                  exact Or.inl ⟨_, _, _, zm_nst_0 (zt_c1_p c21) c49, by omega, rfl, rfl⟩
      · skip
        have hlt49 := zt_dg_lt c49
        refine z_bipush 52 C dX8_number_52 (nI 10) rfl ?_
        refine z_iload 54 C dX8_number_54 7 rfl ?_
        refine z_imul 56 C dX8_number_56 ?_
        refine z_aload_n 57 C dX8_number_57 0 rfl ?_
        refine z_getf 58 C 105 z_dX8 (⟨rfl, rfl⟩) 23 (by decide) q989 (.ref (z_ad G 118)) rfl dX8_number_58 ?_
        refine z_aload_n 61 C dX8_number_61 0 rfl ?_
        refine z_getf 62 C 105 z_dX8 (⟨rfl, rfl⟩) 24 (by decide) q990 (.int (nI (ps + 1 + j))) z_yU_gpl dX8_number_62 ?_
        refine z_caldN 65 C 118 (n := 200) (⟨rfl, rfl⟩) (ps + 1 + j) rfl (by omega) (by decide) dX8_number_65 ?_
        refine z_cv (st1 := [.int (σ.1 118 (ps + 1 + j)), .int ((nI 10) * (zt_nv (σ.1 118) (ps + 1) j))]) rfl rfl rfl ?_
        refine z_iadd 66 C dX8_number_66 ?_
        refine z_bipush 67 C dX8_number_67 (nI 48) rfl ?_
        refine z_isub 69 C dX8_number_69 ?_
        refine z_cv (lv1 := [(0, .ref (z_ad G 105)), (1, .int (nI 2)), (2, .int (nI 12)), (3, .int (nI 1)), (4, .int (nI ps)), (5, .int (nI 1)), (6, .int (nI j)), (7, .int (zt_nv (σ.1 118) (ps + 1) j))]) (st1 := [.int (zt_nv (σ.1 118) (ps + 1) (j + 1))]) (σ1 := z_yU σ (nI (ps + 1 + j)) (-1)) rfl (by rw [show zt_nv (σ.1 118) (ps + 1) (j + 1) = zt_nv (σ.1 118) (ps + 1) j * nI 10 + ((σ.1 118) (ps + 1 + j) - nI 48) from rfl, zm_nv]) rfl ?_
        refine z_istore 70 C dX8_number_70 [(7, .int (zt_nv (σ.1 118) (ps + 1) (j + 1))), (0, .ref (z_ad G 105)), (1, .int (nI 2)), (2, .int (nI 12)), (3, .int (nI 1)), (4, .int (nI ps)), (5, .int (nI 1)), (6, .int (nI j))] (by decide) rfl ?_
        refine z_aload_n 72 C dX8_number_72 1 rfl ?_
        refine z_dup 73 C dX8_number_73 rfl ?_
        refine z_getf 74 C 105 z_dX8 (⟨rfl, rfl⟩) 24 (by decide) q990 (.int (nI (ps + 1 + j))) z_yU_gpl dX8_number_74 ?_
        refine z_iconst 77 C dX8_number_77 (nI 1) rfl ?_
        refine z_iaddN 78 C (ps + 1 + j) 1 rfl rfl dX8_number_78 ?_
        refine z_puti 79 C 105 z_dX8 (⟨rfl, rfl⟩) 24 (by decide) q990 rfl (rfl) rfl z_yU_hpl dX8_number_79 ?_
        refine z_cv (σ1 := z_yU σ (nI ((ps + 1 + j) + 1)) (-1)) rfl rfl z_yU_ppl ?_
        refine z_iincN 82 C 7 j [(6, .int (nI (j + 1))), (7, .int (zt_nv (σ.1 118) (ps + 1) (j + 1))), (0, .ref (z_ad G 105)), (1, .int (nI 2)), (2, .int (nI 12)), (3, .int (nI 1)), (4, .int (nI ps)), (5, .int (nI 1))] rfl rfl (by decide) rfl dX8_number_82 ?_
        refine z_goto 85 C 39 dX8_number_85 (by decide) ?_
        refine z_sub [2, 3, 4, 5, 6, 7, 0, 1] (lv1 := [(0, .ref (z_ad G 105)), (1, .int (nI 2)), (2, .int (nI 12)), (3, .int (nI 1)), (4, .int (nI ps)), (5, .int (nI 1)), (6, .int (nI (j + 1))), (7, .int (zt_nv (σ.1 118) (ps + 1) (j + 1)))]) rfl ?_
        refine z_cv (lv1 := [(0, .ref (z_ad G 105)), (1, .int (nI 2)), (2, .int (nI 12)), (3, .int (nI 1)), (4, .int (nI ps)), (5, .int (nI 1)), (6, .int (nI (j + 1))), (7, .int (zt_nv (σ.1 118) (ps + 1) (j + 1)))]) (st1 := []) (σ1 := z_yU σ (nI (ps + 1 + (j + 1))) (-1)) rfl rfl rfl ?_
        exact ih_39 (j + 1) (⟨by omega, by omega, lt_s hdg c49⟩) (by omega)
theorem zm_r0 {k t : Nat} (h : k ≤ t) (ht : t < 2 ^ 31) : ¬ (nI k < nI 0 ∨ nI t < nI k) := by
  intro z
  rcases z with z | z
  · rw [Int32.lt_iff_toInt_lt, nI_toInt (by omega), nI_toInt (by decide)] at z; omega
  · rw [Int32.lt_iff_toInt_lt, nI_toInt (by omega), nI_toInt (by omega)] at z; omega
theorem m_X8_addLobes_v {l : Launch} {G : z_Gl} {σ : z_St} (P n u v w rc tl : Nat) (hM : z_mi σ P n u v w rc tl) (t h f : Nat) (b : Int32) (ht : t < 2) (hh : h ≤ 12) (hf : f ≤ 23) (hb : ¬ (b < (-1000) ∨ nI 1000 < b)) : z_M l G yX8_addLobes cX8_addLobes 9 (some .int) (z_rm 2 45) [.ref (z_ad G 105), .int (nI t), .int (nI h), .int b, .int (nI f)] σ (z_p1 (.int (z_bo (z_chg (z_so (z_shI (σ.1 119) (24 * t)) b h f) (z_shI (σ.1 119) (24 * t)) 24))) (z_uI σ 119 (fb_put (σ.1 119) (z_so (z_shI (σ.1 119) (24 * t)) b h f) (24 * t) 24))) := by
  have q := m_X8_addLobes (l := l) (G := G) (σ := σ) P n u v w rc tl hM t (nI h) b (nI f) ht
  rw [if_neg (zm_r0 hh (by decide)), if_neg (zm_r0 hh (by decide)), if_neg hb, if_neg hb, if_neg (zm_r0 hf (by decide)), if_neg (zm_r0 hf (by decide)), z_nk (k := h) (by omega), z_nk (k := f) (by omega)] at q
  exact q
theorem m_X8_setEccentricity_v {l : Launch} {G : z_Gl} {σ : z_St} (P n u v w rc tl : Nat) (hM : z_mi σ P n u v w rc tl) (x y : Int32) (hx : ¬ (x < (-5000) ∨ nI 5000 < x)) (hy : ¬ (y < (-5000) ∨ nI 5000 < y)) : z_M l G yX8_setEccentricity cX8_setEccentricity 4 (some .int) (z_rm 1 25) [.ref (z_ad G 105), .int x, .int y] σ (z_p1 (.int (z_bo (¬ x = σ.1 105 28 ∨ ¬ y = σ.1 105 29))) (z_ui (z_ui σ 105 28 x) 105 29 y)) := by
  have q := m_X8_setEccentricity (l := l) (G := G) (σ := σ) P n u v w rc tl hM x y
  rw [if_neg hx, if_neg hx, if_neg hy, if_neg hy] at q
  exact q
theorem m_X8_setSteps_v {l : Launch} {G : z_Gl} {σ : z_St} (P n u v w rc tl : Nat) (hM : z_mi σ P n u v w rc tl) (x : Int32) (hx : zt_ok x) : z_M l G yX8_setSteps cX8_setSteps 3 (some .int) (z_rm 1 20) [.ref (z_ad G 105), .int x] σ (z_p1 (.int (nI n)) (z_ui (z_ui σ 105 2 (nI 0)) 105 1 x)) := by
  have q := m_X8_setSteps (l := l) (G := G) (σ := σ) P n u v w rc tl hM x
  rw [if_neg (fun z => z hx), if_neg (fun z => z hx)] at q
  exact q
theorem dX8_readLobes_0 : decode cX8_readLobes 0 = .ok (.aload_n 0, 1) := by decide +kernel
theorem dX8_readLobes_1 : decode cX8_readLobes 1 = .ok (.iconst 0, 1) := by decide +kernel
theorem dX8_readLobes_2 : decode cX8_readLobes 2 = .ok (.bipush 12, 2) := by decide +kernel
theorem dX8_readLobes_4 : decode cX8_readLobes 4 = .ok (.iconst 0, 1) := by decide +kernel
theorem dX8_readLobes_5 : decode cX8_readLobes 5 = .ok (.invokevirtual 309, 3) := by decide +kernel
theorem dX8_readLobes_8 : decode cX8_readLobes 8 = .ok (.istore_n 2, 1) := by decide +kernel
theorem dX8_readLobes_9 : decode cX8_readLobes 9 = .ok (.aload_n 0, 1) := by decide +kernel
theorem dX8_readLobes_10 : decode cX8_readLobes 10 = .ok (.getfield 296, 3) := by decide +kernel
theorem dX8_readLobes_13 : decode cX8_readLobes 13 = .ok (.ifCond .ge 9, 3) := by decide +kernel
theorem dX8_readLobes_16 : decode cX8_readLobes 16 = .ok (.aload_n 0, 1) := by decide +kernel
theorem dX8_readLobes_17 : decode cX8_readLobes 17 = .ok (.bipush 97, 2) := by decide +kernel
theorem dX8_readLobes_19 : decode cX8_readLobes 19 = .ok (.invokevirtual 313, 3) := by decide +kernel
theorem dX8_readLobes_22 : decode cX8_readLobes 22 = .ok (.aload_n 0, 1) := by decide +kernel
theorem dX8_readLobes_23 : decode cX8_readLobes 23 = .ok (.getfield 296, 3) := by decide +kernel
theorem dX8_readLobes_26 : decode cX8_readLobes 26 = .ok (.ifCond .ge 17, 3) := by decide +kernel
theorem dX8_readLobes_29 : decode cX8_readLobes 29 = .ok (.aload_n 0, 1) := by decide +kernel
theorem dX8_readLobes_30 : decode cX8_readLobes 30 = .ok (.sipush (-1000), 3) := by decide +kernel
theorem dX8_readLobes_33 : decode cX8_readLobes 33 = .ok (.sipush 1000, 3) := by decide +kernel
theorem dX8_readLobes_36 : decode cX8_readLobes 36 = .ok (.iconst 0, 1) := by decide +kernel
theorem dX8_readLobes_37 : decode cX8_readLobes 37 = .ok (.invokevirtual 309, 3) := by decide +kernel
theorem dX8_readLobes_40 : decode cX8_readLobes 40 = .ok (.goto 4, 3) := by decide +kernel
theorem dX8_readLobes_43 : decode cX8_readLobes 43 = .ok (.iconst 0, 1) := by decide +kernel
theorem dX8_readLobes_44 : decode cX8_readLobes 44 = .ok (.istore_n 3, 1) := by decide +kernel
theorem dX8_readLobes_45 : decode cX8_readLobes 45 = .ok (.iconst 0, 1) := by decide +kernel
theorem dX8_readLobes_46 : decode cX8_readLobes 46 = .ok (.istore 4, 2) := by decide +kernel
theorem dX8_readLobes_48 : decode cX8_readLobes 48 = .ok (.aload_n 0, 1) := by decide +kernel
theorem dX8_readLobes_49 : decode cX8_readLobes 49 = .ok (.getfield 296, 3) := by decide +kernel
theorem dX8_readLobes_52 : decode cX8_readLobes 52 = .ok (.ifCond .ge 32, 3) := by decide +kernel
theorem dX8_readLobes_55 : decode cX8_readLobes 55 = .ok (.aload_n 0, 1) := by decide +kernel
theorem dX8_readLobes_56 : decode cX8_readLobes 56 = .ok (.bipush 102, 2) := by decide +kernel
theorem dX8_readLobes_58 : decode cX8_readLobes 58 = .ok (.invokevirtual 299, 3) := by decide +kernel
theorem dX8_readLobes_61 : decode cX8_readLobes 61 = .ok (.ifCond .eq 23, 3) := by decide +kernel
theorem dX8_readLobes_64 : decode cX8_readLobes 64 = .ok (.aload_n 0, 1) := by decide +kernel
theorem dX8_readLobes_65 : decode cX8_readLobes 65 = .ok (.dup, 1) := by decide +kernel
theorem dX8_readLobes_66 : decode cX8_readLobes 66 = .ok (.getfield 293, 3) := by decide +kernel
theorem dX8_readLobes_69 : decode cX8_readLobes 69 = .ok (.iconst 1, 1) := by decide +kernel
theorem dX8_readLobes_70 : decode cX8_readLobes 70 = .ok (.iadd, 1) := by decide +kernel
theorem dX8_readLobes_71 : decode cX8_readLobes 71 = .ok (.putfield 293, 3) := by decide +kernel
theorem dX8_readLobes_74 : decode cX8_readLobes 74 = .ok (.aload_n 0, 1) := by decide +kernel
theorem dX8_readLobes_75 : decode cX8_readLobes 75 = .ok (.iconst 0, 1) := by decide +kernel
theorem dX8_readLobes_76 : decode cX8_readLobes 76 = .ok (.bipush 23, 2) := by decide +kernel
theorem dX8_readLobes_78 : decode cX8_readLobes 78 = .ok (.iconst 0, 1) := by decide +kernel
theorem dX8_readLobes_79 : decode cX8_readLobes 79 = .ok (.invokevirtual 309, 3) := by decide +kernel
theorem dX8_readLobes_82 : decode cX8_readLobes 82 = .ok (.istore 4, 2) := by decide +kernel
theorem dX8_readLobes_84 : decode cX8_readLobes 84 = .ok (.aload_n 0, 1) := by decide +kernel
theorem dX8_readLobes_85 : decode cX8_readLobes 85 = .ok (.getfield 317, 3) := by decide +kernel
theorem dX8_readLobes_88 : decode cX8_readLobes 88 = .ok (.ifCond .eq 13, 3) := by decide +kernel
theorem dX8_readLobes_91 : decode cX8_readLobes 91 = .ok (.aload_n 0, 1) := by decide +kernel
theorem dX8_readLobes_92 : decode cX8_readLobes 92 = .ok (.iload_n 1, 1) := by decide +kernel
theorem dX8_readLobes_93 : decode cX8_readLobes 93 = .ok (.iload_n 2, 1) := by decide +kernel
theorem dX8_readLobes_94 : decode cX8_readLobes 94 = .ok (.iload_n 3, 1) := by decide +kernel
theorem dX8_readLobes_95 : decode cX8_readLobes 95 = .ok (.iload 4, 2) := by decide +kernel
theorem dX8_readLobes_97 : decode cX8_readLobes 97 = .ok (.invokevirtual 321, 3) := by decide +kernel
theorem dX8_readLobes_100 : decode cX8_readLobes 100 = .ok (.pop, 1) := by decide +kernel
theorem dX8_readLobes_101 : decode cX8_readLobes 101 = .ok (.return_, 1) := by decide +kernel
set_option maxRecDepth 100000 in
set_option maxHeartbeats 4000000 in
theorem m_X8_readLobes {l : Launch} {G : z_Gl} {σ : z_St} (P n u v w rc tl : Nat) (hM : z_mi σ P n u v w rc tl) (ps : Nat) (hps : ps ≤ tl) (t : Nat) (kd : Int32) (ht2 : t < 2) (hk : kd = nI 112 ∨ kd = nI 115) (ht : zt_t kd = t) (d : Nat) (hd2 : d < 2) (hd : σ.1 105 26 = nI d) (hdn : d = 0 ∨ ∃ yy, zt_lobes (σ.1 118) tl kd ps = .inr yy) : z_M l G yX8_readLobes cX8_readLobes 5 none (z_rm 3 73) [.ref (z_ad G 105), .int (nI t)] (z_yU σ (nI ps) (-1)) (fun v_ σ1 => (∃ (f : Nat) (a : Int32), zt_lobes (σ.1 118) tl kd ps = .inl f ∧ f ≤ tl ∧ v_ = none ∧ σ1 = z_yU σ a (nI f)) ∨ (∃ (c1 : Nat) (i : zt_It), zt_lobes (σ.1 118) tl kd ps = .inr (c1, i) ∧ v_ = none ∧ σ1 = z_yU (zm_dob d σ i) (nI c1) (-1))) := by
  refine z_M.of (by decide) (Nat.le_of_ble_eq_true rfl) (fun p e s m below meth c C => ?_)
  refine z_sub [0, 1] (lv1 := [(0, .ref (z_ad G 105)), (1, .int (nI t))]) rfl ?_
  have hM0 := hM
  obtain ⟨⟨hP, hn, hu, hv, hw, hrc, htl⟩, hPs, hnP, huv, hw6, hrc8, htl2, hqt, hah⟩ := hM0
  have h0 : 0 < P := by omega
  have h12 : P ≤ 12 := by omega
  have h288 : n ≤ 288 := by omega
  refine z_aload_n 0 C dX8_readLobes_0 0 rfl ?_
  refine z_iconst 1 C dX8_readLobes_1 (nI 0) rfl ?_
  refine z_bipush 2 C dX8_readLobes_2 (nI 12) rfl ?_
  refine z_iconst 4 C dX8_readLobes_4 (nI 0) rfl ?_
  refine z_callV 5 C 105 (⟨rfl, rfl⟩) rfl (As := [.int (nI 0), .int (nI 12), .int (nI 0)]) (rest := []) (@m_X8_number _ _ σ P n u v w rc tl hM ps (by omega) (nI 0) (nI 12)) k_X8_number q1441 ⟨rfl, rfl⟩ ⟨Nat.le_of_ble_eq_true rfl, Nat.le_of_ble_eq_true rfl⟩ rfl (Nat.le_of_ble_eq_true rfl) ⟨Nat.le_of_ble_eq_true rfl, Nat.le_of_ble_eq_true rfl⟩ rfl dX8_readLobes_5 (fun v5 σ5 hv5 => ?_)
  rcases hv5 with ⟨f5, a5, b5, hm5, hf5, rfl, rfl⟩ | ⟨c5_, v5_, hm5, rfl, rfl⟩
  · skip
    refine z_cv (st1 := [.int b5]) rfl rfl rfl ?_
    refine z_istore_n 8 C dX8_readLobes_8 [(2, .int b5), (0, .ref (z_ad G 105)), (1, .int (nI t))] (by decide) rfl ?_
    refine z_aload_n 9 C dX8_readLobes_9 1 rfl ?_
    refine z_getf 10 C 105 z_dX8 (⟨rfl, rfl⟩) 25 (by decide) q991 (.int (nI f5)) z_yU_gfa dX8_readLobes_10 ?_
    refine z_if_ge 13 C 22 dX8_readLobes_13 (by decide) (fun c13 => ?_) (fun c13 => ?_)
    · skip
      refine z_aload_n 22 C dX8_readLobes_22 1 rfl ?_
      refine z_getf 23 C 105 z_dX8 (⟨rfl, rfl⟩) 25 (by decide) q991 (.int (nI f5)) z_yU_gfa dX8_readLobes_23 ?_
      refine z_if_ge 26 C 43 dX8_readLobes_26 (by decide) (fun c26 => ?_) (fun c26 => ?_)
      · skip
        refine z_iconst 43 C dX8_readLobes_43 (nI 0) rfl ?_
        refine z_istore_n 44 C dX8_readLobes_44 [(3, .int (nI 0)), (2, .int b5), (0, .ref (z_ad G 105)), (1, .int (nI t))] (by decide) rfl ?_
        refine z_iconst 45 C dX8_readLobes_45 (nI 0) rfl ?_
        refine z_istore 46 C dX8_readLobes_46 [(4, .int (nI 0)), (3, .int (nI 0)), (2, .int b5), (0, .ref (z_ad G 105)), (1, .int (nI t))] (by decide) rfl ?_
        refine z_aload_n 48 C dX8_readLobes_48 3 rfl ?_
        refine z_getf 49 C 105 z_dX8 (⟨rfl, rfl⟩) 25 (by decide) q991 (.int (nI f5)) z_yU_gfa dX8_readLobes_49 ?_
        refine z_if_ge 52 C 84 dX8_readLobes_52 (by decide) (fun c52 => ?_) (fun c52 => ?_)
        · skip
          refine z_aload_n 84 C dX8_readLobes_84 3 rfl ?_
          refine z_getf 85 C 105 z_dX8 (⟨rfl, rfl⟩) 26 (by decide) q992 (.int (nI d)) (z_ci hd) dX8_readLobes_85 ?_
          refine z_if_eq 88 C 101 dX8_readLobes_88 (by decide) (fun c88 => ?_) (fun c88 => ?_)
          · skip
            have hd0 : d = 0 := (z_nI0 (by omega)).mp c88
            refine z_vret 101 C dX8_readLobes_101 ?_
            exact Or.inl ⟨_, _, by simp only [zt_lobes, hm5, reduceIte] <;> rfl, by omega, rfl, rfl⟩
          · skip
            rcases hdn with h | ⟨yy, h⟩
            · exact absurd (show nI d = 0 by rw [h]; rfl) c88
            · have ee : zt_lobes (σ.1 118) tl kd ps = .inl (f5) := by simp only [zt_lobes, hm5, reduceIte] <;> rfl
              rw [ee] at h
              exact absurd h (by simp)
        · skip
          exact absurd (zm_nn (by omega)) c52
      · skip
        exact absurd (zm_nn (by omega)) c26
    · skip
      exact absurd (zm_nn (by omega)) c13
  · skip
    refine z_cv (st1 := [.int v5_]) rfl rfl rfl ?_
    have hr5 := zt_num_rng hm5
    refine z_istore_n 8 C dX8_readLobes_8 [(2, .int v5_), (0, .ref (z_ad G 105)), (1, .int (nI t))] (by decide) rfl ?_
    refine z_aload_n 9 C dX8_readLobes_9 1 rfl ?_
    refine z_getf 10 C 105 z_dX8 (⟨rfl, rfl⟩) 25 (by decide) q991 (.int (-1)) z_yU_gfa dX8_readLobes_10 ?_
    refine z_if_ge 13 C 22 dX8_readLobes_13 (by decide) (fun c13 => ?_) (fun c13 => ?_)
    · skip
      exact absurd c13 (by decide)
    · skip
      refine z_aload_n 16 C dX8_readLobes_16 1 rfl ?_
      refine z_bipush 17 C dX8_readLobes_17 (nI 97) rfl ?_
      refine z_callV 19 C 105 (⟨rfl, rfl⟩) rfl (As := [.int (nI 97)]) (rest := []) (@m_X8_expect _ _ σ P n u v w rc tl hM c5_ (by omega) (nI 97) (by decide)) k_X8_expect q1454 ⟨rfl, rfl⟩ ⟨Nat.le_of_ble_eq_true rfl, Nat.le_of_ble_eq_true rfl⟩ rfl (Nat.le_of_ble_eq_true rfl) ⟨Nat.le_of_ble_eq_true rfl, Nat.le_of_ble_eq_true rfl⟩ rfl dX8_readLobes_19 (fun v19 σ19 hv19 => ?_)
      rcases hv19 with ⟨ht19, rfl, rfl⟩ | ⟨ht19, rfl, rfl⟩
      · skip
        refine z_cv (st1 := []) rfl rfl rfl ?_
        refine z_aload_n 22 C dX8_readLobes_22 1 rfl ?_
        refine z_getf 23 C 105 z_dX8 (⟨rfl, rfl⟩) 25 (by decide) q991 (.int (nI c5_)) z_yU_gfa dX8_readLobes_23 ?_
        refine z_if_ge 26 C 43 dX8_readLobes_26 (by decide) (fun c26 => ?_) (fun c26 => ?_)
        · skip
          refine z_iconst 43 C dX8_readLobes_43 (nI 0) rfl ?_
          refine z_istore_n 44 C dX8_readLobes_44 [(3, .int (nI 0)), (2, .int v5_), (0, .ref (z_ad G 105)), (1, .int (nI t))] (by decide) rfl ?_
          refine z_iconst 45 C dX8_readLobes_45 (nI 0) rfl ?_
          refine z_istore 46 C dX8_readLobes_46 [(4, .int (nI 0)), (3, .int (nI 0)), (2, .int v5_), (0, .ref (z_ad G 105)), (1, .int (nI t))] (by decide) rfl ?_
          refine z_aload_n 48 C dX8_readLobes_48 3 rfl ?_
          refine z_getf 49 C 105 z_dX8 (⟨rfl, rfl⟩) 25 (by decide) q991 (.int (nI c5_)) z_yU_gfa dX8_readLobes_49 ?_
          refine z_if_ge 52 C 84 dX8_readLobes_52 (by decide) (fun c52 => ?_) (fun c52 => ?_)
          · skip
            refine z_aload_n 84 C dX8_readLobes_84 3 rfl ?_
            refine z_getf 85 C 105 z_dX8 (⟨rfl, rfl⟩) 26 (by decide) q992 (.int (nI d)) (z_ci hd) dX8_readLobes_85 ?_
            refine z_if_eq 88 C 101 dX8_readLobes_88 (by decide) (fun c88 => ?_) (fun c88 => ?_)
            · skip
              have hd0 : d = 0 := (z_nI0 (by omega)).mp c88
              refine z_vret 101 C dX8_readLobes_101 ?_
              exact Or.inl ⟨_, _, by simp only [zt_lobes, hm5, ht19, reduceIte] <;> rfl, by omega, rfl, rfl⟩
            · skip
              rcases hdn with h | ⟨yy, h⟩
              · exact absurd (show nI d = 0 by rw [h]; rfl) c88
              · have ee : zt_lobes (σ.1 118) tl kd ps = .inl (c5_) := by simp only [zt_lobes, hm5, ht19, reduceIte] <;> rfl
                rw [ee] at h
                exact absurd h (by simp)
          · skip
            exact absurd (zm_nn (by omega)) c52
        · skip
          exact absurd (zm_nn (by omega)) c26
      · skip
        refine z_cv (st1 := []) rfl rfl rfl ?_
        have hlt19 := zt_lt ht19 (by decide)
        refine z_aload_n 22 C dX8_readLobes_22 1 rfl ?_
        refine z_getf 23 C 105 z_dX8 (⟨rfl, rfl⟩) 25 (by decide) q991 (.int (-1)) z_yU_gfa dX8_readLobes_23 ?_
        refine z_if_ge 26 C 43 dX8_readLobes_26 (by decide) (fun c26 => ?_) (fun c26 => ?_)
        · skip
          exact absurd c26 (by decide)
        · skip
          refine z_aload_n 29 C dX8_readLobes_29 1 rfl ?_
          refine z_sipush 30 C dX8_readLobes_30 (-1000) rfl ?_
          refine z_sipush 33 C dX8_readLobes_33 (nI 1000) rfl ?_
          refine z_iconst 36 C dX8_readLobes_36 (nI 0) rfl ?_
          refine z_callV 37 C 105 (⟨rfl, rfl⟩) rfl (As := [.int (-1000), .int (nI 1000), .int (nI 0)]) (rest := []) (@m_X8_number _ _ σ P n u v w rc tl hM (c5_ + 1) (by omega) (-1000) (nI 1000)) k_X8_number q1441 ⟨rfl, rfl⟩ ⟨Nat.le_of_ble_eq_true rfl, Nat.le_of_ble_eq_true rfl⟩ rfl (Nat.le_of_ble_eq_true rfl) ⟨Nat.le_of_ble_eq_true rfl, Nat.le_of_ble_eq_true rfl⟩ rfl dX8_readLobes_37 (fun v37 σ37 hv37 => ?_)
          rcases hv37 with ⟨f37, a37, b37, hm37, hf37, rfl, rfl⟩ | ⟨c37_, v37_, hm37, rfl, rfl⟩
          · skip
            refine z_cv (st1 := [.int b37]) rfl rfl rfl ?_
            refine z_goto 40 C 44 dX8_readLobes_40 (by decide) ?_
            refine z_istore_n 44 C dX8_readLobes_44 [(3, .int b37), (2, .int v5_), (0, .ref (z_ad G 105)), (1, .int (nI t))] (by decide) rfl ?_
            refine z_iconst 45 C dX8_readLobes_45 (nI 0) rfl ?_
            refine z_istore 46 C dX8_readLobes_46 [(4, .int (nI 0)), (3, .int b37), (2, .int v5_), (0, .ref (z_ad G 105)), (1, .int (nI t))] (by decide) rfl ?_
            refine z_aload_n 48 C dX8_readLobes_48 3 rfl ?_
            refine z_getf 49 C 105 z_dX8 (⟨rfl, rfl⟩) 25 (by decide) q991 (.int (nI f37)) z_yU_gfa dX8_readLobes_49 ?_
            refine z_if_ge 52 C 84 dX8_readLobes_52 (by decide) (fun c52 => ?_) (fun c52 => ?_)
            · skip
              refine z_aload_n 84 C dX8_readLobes_84 3 rfl ?_
              refine z_getf 85 C 105 z_dX8 (⟨rfl, rfl⟩) 26 (by decide) q992 (.int (nI d)) (z_ci hd) dX8_readLobes_85 ?_
              refine z_if_eq 88 C 101 dX8_readLobes_88 (by decide) (fun c88 => ?_) (fun c88 => ?_)
              · skip
                have hd0 : d = 0 := (z_nI0 (by omega)).mp c88
                refine z_vret 101 C dX8_readLobes_101 ?_
                exact Or.inl ⟨_, _, by simp only [zt_lobes, hm5, ht19, hm37, reduceIte] <;> rfl, by omega, rfl, rfl⟩
              · skip
                rcases hdn with h | ⟨yy, h⟩
                · exact absurd (show nI d = 0 by rw [h]; rfl) c88
                · have ee : zt_lobes (σ.1 118) tl kd ps = .inl (f37) := by simp only [zt_lobes, hm5, ht19, hm37, reduceIte] <;> rfl
                  rw [ee] at h
                  exact absurd h (by simp)
            · skip
              exact absurd (zm_nn (by omega)) c52
          · skip
            refine z_cv (st1 := [.int v37_]) rfl rfl rfl ?_
            have hr37 := zt_num_rng hm37
            refine z_goto 40 C 44 dX8_readLobes_40 (by decide) ?_
            refine z_istore_n 44 C dX8_readLobes_44 [(3, .int v37_), (2, .int v5_), (0, .ref (z_ad G 105)), (1, .int (nI t))] (by decide) rfl ?_
            refine z_iconst 45 C dX8_readLobes_45 (nI 0) rfl ?_
            refine z_istore 46 C dX8_readLobes_46 [(4, .int (nI 0)), (3, .int v37_), (2, .int v5_), (0, .ref (z_ad G 105)), (1, .int (nI t))] (by decide) rfl ?_
            refine z_aload_n 48 C dX8_readLobes_48 3 rfl ?_
            refine z_getf 49 C 105 z_dX8 (⟨rfl, rfl⟩) 25 (by decide) q991 (.int (-1)) z_yU_gfa dX8_readLobes_49 ?_
            refine z_if_ge 52 C 84 dX8_readLobes_52 (by decide) (fun c52 => ?_) (fun c52 => ?_)
            · skip
              exact absurd c52 (by decide)
            · skip
              refine z_aload_n 55 C dX8_readLobes_55 3 rfl ?_
              refine z_bipush 56 C dX8_readLobes_56 (nI 102) rfl ?_
              refine z_callV 58 C 105 (⟨rfl, rfl⟩) rfl (As := [.int (nI 102)]) (rest := []) (@m_X8_isAt _ _ σ P n u v w rc tl hM c37_ (by omega) (-1) (nI 102) (by decide)) k_X8_isAt q1433 ⟨rfl, rfl⟩ ⟨Nat.le_of_ble_eq_true rfl, Nat.le_of_ble_eq_true rfl⟩ rfl (Nat.le_of_ble_eq_true rfl) ⟨Nat.le_of_ble_eq_true rfl, Nat.le_of_ble_eq_true rfl⟩ rfl dX8_readLobes_58 (z_k1 ?_)
              refine z_if_eqb 61 C 84 dX8_readLobes_61 (by decide) (fun c61 => ?_) (fun c61 => ?_)
              · skip
                refine z_aload_n 84 C dX8_readLobes_84 3 rfl ?_
                refine z_getf 85 C 105 z_dX8 (⟨rfl, rfl⟩) 26 (by decide) q992 (.int (nI d)) (z_ci hd) dX8_readLobes_85 ?_
                refine z_if_eq 88 C 101 dX8_readLobes_88 (by decide) (fun c88 => ?_) (fun c88 => ?_)
                · skip
                  have hd0 : d = 0 := (z_nI0 (by omega)).mp c88
                  refine z_vret 101 C dX8_readLobes_101 ?_
                  refine Or.inr ⟨_, _, by simp only [zt_lobes, hm5, ht19, hm37, c61, reduceIte] <;> rfl, rfl, ?_⟩
                  rw [zm_dob_0 hd0]
                · skip
                  have hd0 : ¬ d = 0 := fun z => c88 (by rw [z]; rfl)
                  refine z_aload_n 91 C dX8_readLobes_91 3 rfl ?_
                  refine z_iload_n 92 C dX8_readLobes_92 4 rfl ?_
                  refine z_iload_n 93 C dX8_readLobes_93 2 rfl ?_
                  refine z_iload_n 94 C dX8_readLobes_94 1 rfl ?_
                  refine z_iload 95 C dX8_readLobes_95 0 rfl ?_
                  obtain ⟨h1_, hh1_, rfl⟩ := z_in0 (by decide) hr5.2.2
                  have hb_ := hr37.2.2
                  refine z_callV 97 C 105 (⟨rfl, rfl⟩) rfl (As := [.int (nI t), .int (nI h1_), .int v37_, .int (nI 0)]) (rest := []) (@m_X8_addLobes_v _ _ (z_yU σ (nI c37_) (-1)) P n u v w rc tl hM.yU t h1_ 0 v37_ (by omega) (by omega) (by omega) hb_) k_X8_addLobes q1468 ⟨rfl, rfl⟩ ⟨Nat.le_of_ble_eq_true rfl, Nat.le_of_ble_eq_true rfl⟩ rfl (Nat.le_of_ble_eq_true rfl) ⟨Nat.le_of_ble_eq_true rfl, Nat.le_of_ble_eq_true rfl⟩ rfl dX8_readLobes_97 (z_k1 ?_)
                  refine z_cv (σ1 := z_yU (z_uI σ 119 (fb_put (σ.1 119) (z_so (z_shI (σ.1 119) (24 * t)) v37_ h1_ 0) (24 * t) 24)) (nI c37_) (-1)) rfl rfl (by exact z_yU_I) ?_
                  refine z_pop 100 C dX8_readLobes_100 rfl ?_
                  refine z_vret 101 C dX8_readLobes_101 ?_
                  refine Or.inr ⟨_, _, by simp only [zt_lobes, hm5, ht19, hm37, c61, reduceIte] <;> rfl, rfl, ?_⟩
                  rw [zm_dob_1 hd0, zm_ob_l hk ht (by omega) (by omega)]
              · skip
                have hlt61 := zt_lt c61 (by decide)
                refine z_aload_n 64 C dX8_readLobes_64 3 rfl ?_
                refine z_dup 65 C dX8_readLobes_65 rfl ?_
                refine z_getf 66 C 105 z_dX8 (⟨rfl, rfl⟩) 24 (by decide) q990 (.int (nI c37_)) z_yU_gpl dX8_readLobes_66 ?_
                refine z_iconst 69 C dX8_readLobes_69 (nI 1) rfl ?_
                refine z_iaddN 70 C c37_ 1 rfl rfl dX8_readLobes_70 ?_
                refine z_puti 71 C 105 z_dX8 (⟨rfl, rfl⟩) 24 (by decide) q990 rfl (rfl) rfl z_yU_hpl dX8_readLobes_71 ?_
                refine z_cv (σ1 := z_yU σ (nI (c37_ + 1)) (-1)) rfl rfl z_yU_ppl ?_
                refine z_aload_n 74 C dX8_readLobes_74 3 rfl ?_
                refine z_iconst 75 C dX8_readLobes_75 (nI 0) rfl ?_
                refine z_bipush 76 C dX8_readLobes_76 (nI 23) rfl ?_
                refine z_iconst 78 C dX8_readLobes_78 (nI 0) rfl ?_
                refine z_callV 79 C 105 (⟨rfl, rfl⟩) rfl (As := [.int (nI 0), .int (nI 23), .int (nI 0)]) (rest := []) (@m_X8_number _ _ σ P n u v w rc tl hM (c37_ + 1) (by omega) (nI 0) (nI 23)) k_X8_number q1441 ⟨rfl, rfl⟩ ⟨Nat.le_of_ble_eq_true rfl, Nat.le_of_ble_eq_true rfl⟩ rfl (Nat.le_of_ble_eq_true rfl) ⟨Nat.le_of_ble_eq_true rfl, Nat.le_of_ble_eq_true rfl⟩ rfl dX8_readLobes_79 (fun v79 σ79 hv79 => ?_)
                rcases hv79 with ⟨f79, a79, b79, hm79, hf79, rfl, rfl⟩ | ⟨c79_, v79_, hm79, rfl, rfl⟩
                · skip
                  refine z_cv (st1 := [.int b79]) rfl rfl rfl ?_
                  refine z_istore 82 C dX8_readLobes_82 [(4, .int b79), (3, .int v37_), (2, .int v5_), (0, .ref (z_ad G 105)), (1, .int (nI t))] (by decide) rfl ?_
                  refine z_aload_n 84 C dX8_readLobes_84 3 rfl ?_
                  refine z_getf 85 C 105 z_dX8 (⟨rfl, rfl⟩) 26 (by decide) q992 (.int (nI d)) (z_ci hd) dX8_readLobes_85 ?_
                  refine z_if_eq 88 C 101 dX8_readLobes_88 (by decide) (fun c88 => ?_) (fun c88 => ?_)
                  · skip
                    have hd0 : d = 0 := (z_nI0 (by omega)).mp c88
                    refine z_vret 101 C dX8_readLobes_101 ?_
                    exact Or.inl ⟨_, _, by simp only [zt_lobes, hm5, ht19, hm37, c61, hm79, reduceIte] <;> rfl, by omega, rfl, rfl⟩
                  · skip
                    rcases hdn with h | ⟨yy, h⟩
                    · exact absurd (show nI d = 0 by rw [h]; rfl) c88
                    · have ee : zt_lobes (σ.1 118) tl kd ps = .inl (f79) := by simp only [zt_lobes, hm5, ht19, hm37, c61, hm79, reduceIte] <;> rfl
                      rw [ee] at h
                      exact absurd h (by simp)
                · skip
                  refine z_cv (st1 := [.int v79_]) rfl rfl rfl ?_
                  have hr79 := zt_num_rng hm79
                  refine z_istore 82 C dX8_readLobes_82 [(4, .int v79_), (3, .int v37_), (2, .int v5_), (0, .ref (z_ad G 105)), (1, .int (nI t))] (by decide) rfl ?_
                  refine z_aload_n 84 C dX8_readLobes_84 3 rfl ?_
                  refine z_getf 85 C 105 z_dX8 (⟨rfl, rfl⟩) 26 (by decide) q992 (.int (nI d)) (z_ci hd) dX8_readLobes_85 ?_
                  refine z_if_eq 88 C 101 dX8_readLobes_88 (by decide) (fun c88 => ?_) (fun c88 => ?_)
                  · skip
                    have hd0 : d = 0 := (z_nI0 (by omega)).mp c88
                    refine z_vret 101 C dX8_readLobes_101 ?_
                    refine Or.inr ⟨_, _, by simp only [zt_lobes, hm5, ht19, hm37, c61, hm79, reduceIte] <;> rfl, rfl, ?_⟩
                    rw [zm_dob_0 hd0]
                  · skip
                    have hd0 : ¬ d = 0 := fun z => c88 (by rw [z]; rfl)
                    refine z_aload_n 91 C dX8_readLobes_91 3 rfl ?_
                    refine z_iload_n 92 C dX8_readLobes_92 4 rfl ?_
                    refine z_iload_n 93 C dX8_readLobes_93 2 rfl ?_
                    refine z_iload_n 94 C dX8_readLobes_94 1 rfl ?_
                    refine z_iload 95 C dX8_readLobes_95 0 rfl ?_
                    obtain ⟨h1_, hh1_, rfl⟩ := z_in0 (by decide) hr5.2.2
                    obtain ⟨h3_, hh3_, rfl⟩ := z_in0 (by decide) hr79.2.2
                    have hb_ := hr37.2.2
                    refine z_callV 97 C 105 (⟨rfl, rfl⟩) rfl (As := [.int (nI t), .int (nI h1_), .int v37_, .int (nI h3_)]) (rest := []) (@m_X8_addLobes_v _ _ (z_yU σ (nI c79_) (-1)) P n u v w rc tl hM.yU t h1_ h3_ v37_ (by omega) (by omega) (by omega) hb_) k_X8_addLobes q1468 ⟨rfl, rfl⟩ ⟨Nat.le_of_ble_eq_true rfl, Nat.le_of_ble_eq_true rfl⟩ rfl (Nat.le_of_ble_eq_true rfl) ⟨Nat.le_of_ble_eq_true rfl, Nat.le_of_ble_eq_true rfl⟩ rfl dX8_readLobes_97 (z_k1 ?_)
                    refine z_cv (σ1 := z_yU (z_uI σ 119 (fb_put (σ.1 119) (z_so (z_shI (σ.1 119) (24 * t)) v37_ h1_ h3_) (24 * t) 24)) (nI c79_) (-1)) rfl rfl (by exact z_yU_I) ?_
                    refine z_pop 100 C dX8_readLobes_100 rfl ?_
                    refine z_vret 101 C dX8_readLobes_101 ?_
                    refine Or.inr ⟨_, _, by simp only [zt_lobes, hm5, ht19, hm37, c61, hm79, reduceIte] <;> rfl, rfl, ?_⟩
                    rw [zm_dob_1 hd0, zm_ob_l hk ht (by omega) (by omega)]
theorem dX8_readPlace_0 : decode cX8_readPlace 0 = .ok (.aload_n 0, 1) := by decide +kernel
theorem dX8_readPlace_1 : decode cX8_readPlace 1 = .ok (.sipush (-5000), 3) := by decide +kernel
theorem dX8_readPlace_4 : decode cX8_readPlace 4 = .ok (.sipush 5000, 3) := by decide +kernel
theorem dX8_readPlace_7 : decode cX8_readPlace 7 = .ok (.iconst 0, 1) := by decide +kernel
theorem dX8_readPlace_8 : decode cX8_readPlace 8 = .ok (.invokevirtual 309, 3) := by decide +kernel
theorem dX8_readPlace_11 : decode cX8_readPlace 11 = .ok (.istore_n 1, 1) := by decide +kernel
theorem dX8_readPlace_12 : decode cX8_readPlace 12 = .ok (.aload_n 0, 1) := by decide +kernel
theorem dX8_readPlace_13 : decode cX8_readPlace 13 = .ok (.getfield 296, 3) := by decide +kernel
theorem dX8_readPlace_16 : decode cX8_readPlace 16 = .ok (.ifCond .ge 9, 3) := by decide +kernel
theorem dX8_readPlace_19 : decode cX8_readPlace 19 = .ok (.aload_n 0, 1) := by decide +kernel
theorem dX8_readPlace_20 : decode cX8_readPlace 20 = .ok (.bipush 44, 2) := by decide +kernel
theorem dX8_readPlace_22 : decode cX8_readPlace 22 = .ok (.invokevirtual 313, 3) := by decide +kernel
theorem dX8_readPlace_25 : decode cX8_readPlace 25 = .ok (.aload_n 0, 1) := by decide +kernel
theorem dX8_readPlace_26 : decode cX8_readPlace 26 = .ok (.getfield 296, 3) := by decide +kernel
theorem dX8_readPlace_29 : decode cX8_readPlace 29 = .ok (.ifCond .ge 17, 3) := by decide +kernel
theorem dX8_readPlace_32 : decode cX8_readPlace 32 = .ok (.aload_n 0, 1) := by decide +kernel
theorem dX8_readPlace_33 : decode cX8_readPlace 33 = .ok (.sipush (-5000), 3) := by decide +kernel
theorem dX8_readPlace_36 : decode cX8_readPlace 36 = .ok (.sipush 5000, 3) := by decide +kernel
theorem dX8_readPlace_39 : decode cX8_readPlace 39 = .ok (.iconst 0, 1) := by decide +kernel
theorem dX8_readPlace_40 : decode cX8_readPlace 40 = .ok (.invokevirtual 309, 3) := by decide +kernel
theorem dX8_readPlace_43 : decode cX8_readPlace 43 = .ok (.goto 4, 3) := by decide +kernel
theorem dX8_readPlace_46 : decode cX8_readPlace 46 = .ok (.iconst 0, 1) := by decide +kernel
theorem dX8_readPlace_47 : decode cX8_readPlace 47 = .ok (.istore_n 2, 1) := by decide +kernel
theorem dX8_readPlace_48 : decode cX8_readPlace 48 = .ok (.aload_n 0, 1) := by decide +kernel
theorem dX8_readPlace_49 : decode cX8_readPlace 49 = .ok (.getfield 317, 3) := by decide +kernel
theorem dX8_readPlace_52 : decode cX8_readPlace 52 = .ok (.ifCond .eq 10, 3) := by decide +kernel
theorem dX8_readPlace_55 : decode cX8_readPlace 55 = .ok (.aload_n 0, 1) := by decide +kernel
theorem dX8_readPlace_56 : decode cX8_readPlace 56 = .ok (.iload_n 1, 1) := by decide +kernel
theorem dX8_readPlace_57 : decode cX8_readPlace 57 = .ok (.iload_n 2, 1) := by decide +kernel
theorem dX8_readPlace_58 : decode cX8_readPlace 58 = .ok (.invokevirtual 325, 3) := by decide +kernel
theorem dX8_readPlace_61 : decode cX8_readPlace 61 = .ok (.pop, 1) := by decide +kernel
theorem dX8_readPlace_62 : decode cX8_readPlace 62 = .ok (.return_, 1) := by decide +kernel
set_option maxRecDepth 100000 in
set_option maxHeartbeats 4000000 in
theorem m_X8_readPlace {l : Launch} {G : z_Gl} {σ : z_St} (P n u v w rc tl : Nat) (hM : z_mi σ P n u v w rc tl) (ps : Nat) (hps : ps ≤ tl) (d : Nat) (hd2 : d < 2) (hd : σ.1 105 26 = nI d) (hdn : d = 0 ∨ ∃ yy, zt_ecc (σ.1 118) tl ps = .inr yy) : z_M l G yX8_readPlace cX8_readPlace 3 none (z_rm 2 52) [.ref (z_ad G 105)] (z_yU σ (nI ps) (-1)) (fun v_ σ1 => (∃ (f : Nat) (a : Int32), zt_ecc (σ.1 118) tl ps = .inl f ∧ f ≤ tl ∧ v_ = none ∧ σ1 = z_yU σ a (nI f)) ∨ (∃ (c1 : Nat) (i : zt_It), zt_ecc (σ.1 118) tl ps = .inr (c1, i) ∧ v_ = none ∧ σ1 = z_yU (zm_dob d σ i) (nI c1) (-1))) := by
  refine z_M.of (by decide) (Nat.le_of_ble_eq_true rfl) (fun p e s m below meth c C => ?_)
  refine z_sub [0] (lv1 := [(0, .ref (z_ad G 105))]) rfl ?_
  have hM0 := hM
  obtain ⟨⟨hP, hn, hu, hv, hw, hrc, htl⟩, hPs, hnP, huv, hw6, hrc8, htl2, hqt, hah⟩ := hM0
  have h0 : 0 < P := by omega
  have h12 : P ≤ 12 := by omega
  have h288 : n ≤ 288 := by omega
  refine z_aload_n 0 C dX8_readPlace_0 0 rfl ?_
  refine z_sipush 1 C dX8_readPlace_1 (-5000) rfl ?_
  refine z_sipush 4 C dX8_readPlace_4 (nI 5000) rfl ?_
  refine z_iconst 7 C dX8_readPlace_7 (nI 0) rfl ?_
  refine z_callV 8 C 105 (⟨rfl, rfl⟩) rfl (As := [.int (-5000), .int (nI 5000), .int (nI 0)]) (rest := []) (@m_X8_number _ _ σ P n u v w rc tl hM ps (by omega) (-5000) (nI 5000)) k_X8_number q1441 ⟨rfl, rfl⟩ ⟨Nat.le_of_ble_eq_true rfl, Nat.le_of_ble_eq_true rfl⟩ rfl (Nat.le_of_ble_eq_true rfl) ⟨Nat.le_of_ble_eq_true rfl, Nat.le_of_ble_eq_true rfl⟩ rfl dX8_readPlace_8 (fun v8 σ8 hv8 => ?_)
  rcases hv8 with ⟨f8, a8, b8, hm8, hf8, rfl, rfl⟩ | ⟨c8_, v8_, hm8, rfl, rfl⟩
  · skip
    refine z_cv (st1 := [.int b8]) rfl rfl rfl ?_
    refine z_istore_n 11 C dX8_readPlace_11 [(1, .int b8), (0, .ref (z_ad G 105))] (by decide) rfl ?_
    refine z_aload_n 12 C dX8_readPlace_12 1 rfl ?_
    refine z_getf 13 C 105 z_dX8 (⟨rfl, rfl⟩) 25 (by decide) q991 (.int (nI f8)) z_yU_gfa dX8_readPlace_13 ?_
    refine z_if_ge 16 C 25 dX8_readPlace_16 (by decide) (fun c16 => ?_) (fun c16 => ?_)
    · skip
      refine z_aload_n 25 C dX8_readPlace_25 1 rfl ?_
      refine z_getf 26 C 105 z_dX8 (⟨rfl, rfl⟩) 25 (by decide) q991 (.int (nI f8)) z_yU_gfa dX8_readPlace_26 ?_
      refine z_if_ge 29 C 46 dX8_readPlace_29 (by decide) (fun c29 => ?_) (fun c29 => ?_)
      · skip
        refine z_iconst 46 C dX8_readPlace_46 (nI 0) rfl ?_
        refine z_istore_n 47 C dX8_readPlace_47 [(2, .int (nI 0)), (1, .int b8), (0, .ref (z_ad G 105))] (by decide) rfl ?_
        refine z_aload_n 48 C dX8_readPlace_48 2 rfl ?_
        refine z_getf 49 C 105 z_dX8 (⟨rfl, rfl⟩) 26 (by decide) q992 (.int (nI d)) (z_ci hd) dX8_readPlace_49 ?_
        refine z_if_eq 52 C 62 dX8_readPlace_52 (by decide) (fun c52 => ?_) (fun c52 => ?_)
        · skip
          have hd0 : d = 0 := (z_nI0 (by omega)).mp c52
          refine z_vret 62 C dX8_readPlace_62 ?_
          exact Or.inl ⟨_, _, by simp only [zt_ecc, hm8, reduceIte] <;> rfl, by omega, rfl, rfl⟩
        · skip
          rcases hdn with h | ⟨yy, h⟩
          · exact absurd (show nI d = 0 by rw [h]; rfl) c52
          · have ee : zt_ecc (σ.1 118) tl ps = .inl (f8) := by simp only [zt_ecc, hm8, reduceIte] <;> rfl
            rw [ee] at h
            exact absurd h (by simp)
      · skip
        exact absurd (zm_nn (by omega)) c29
    · skip
      exact absurd (zm_nn (by omega)) c16
  · skip
    refine z_cv (st1 := [.int v8_]) rfl rfl rfl ?_
    have hr8 := zt_num_rng hm8
    refine z_istore_n 11 C dX8_readPlace_11 [(1, .int v8_), (0, .ref (z_ad G 105))] (by decide) rfl ?_
    refine z_aload_n 12 C dX8_readPlace_12 1 rfl ?_
    refine z_getf 13 C 105 z_dX8 (⟨rfl, rfl⟩) 25 (by decide) q991 (.int (-1)) z_yU_gfa dX8_readPlace_13 ?_
    refine z_if_ge 16 C 25 dX8_readPlace_16 (by decide) (fun c16 => ?_) (fun c16 => ?_)
    · skip
      exact absurd c16 (by decide)
    · skip
      refine z_aload_n 19 C dX8_readPlace_19 1 rfl ?_
      refine z_bipush 20 C dX8_readPlace_20 (nI 44) rfl ?_
      refine z_callV 22 C 105 (⟨rfl, rfl⟩) rfl (As := [.int (nI 44)]) (rest := []) (@m_X8_expect _ _ σ P n u v w rc tl hM c8_ (by omega) (nI 44) (by decide)) k_X8_expect q1454 ⟨rfl, rfl⟩ ⟨Nat.le_of_ble_eq_true rfl, Nat.le_of_ble_eq_true rfl⟩ rfl (Nat.le_of_ble_eq_true rfl) ⟨Nat.le_of_ble_eq_true rfl, Nat.le_of_ble_eq_true rfl⟩ rfl dX8_readPlace_22 (fun v22 σ22 hv22 => ?_)
      rcases hv22 with ⟨ht22, rfl, rfl⟩ | ⟨ht22, rfl, rfl⟩
      · skip
        refine z_cv (st1 := []) rfl rfl rfl ?_
        refine z_aload_n 25 C dX8_readPlace_25 1 rfl ?_
        refine z_getf 26 C 105 z_dX8 (⟨rfl, rfl⟩) 25 (by decide) q991 (.int (nI c8_)) z_yU_gfa dX8_readPlace_26 ?_
        refine z_if_ge 29 C 46 dX8_readPlace_29 (by decide) (fun c29 => ?_) (fun c29 => ?_)
        · skip
          refine z_iconst 46 C dX8_readPlace_46 (nI 0) rfl ?_
          refine z_istore_n 47 C dX8_readPlace_47 [(2, .int (nI 0)), (1, .int v8_), (0, .ref (z_ad G 105))] (by decide) rfl ?_
          refine z_aload_n 48 C dX8_readPlace_48 2 rfl ?_
          refine z_getf 49 C 105 z_dX8 (⟨rfl, rfl⟩) 26 (by decide) q992 (.int (nI d)) (z_ci hd) dX8_readPlace_49 ?_
          refine z_if_eq 52 C 62 dX8_readPlace_52 (by decide) (fun c52 => ?_) (fun c52 => ?_)
          · skip
            have hd0 : d = 0 := (z_nI0 (by omega)).mp c52
            refine z_vret 62 C dX8_readPlace_62 ?_
            exact Or.inl ⟨_, _, by simp only [zt_ecc, hm8, ht22, reduceIte] <;> rfl, by omega, rfl, rfl⟩
          · skip
            rcases hdn with h | ⟨yy, h⟩
            · exact absurd (show nI d = 0 by rw [h]; rfl) c52
            · have ee : zt_ecc (σ.1 118) tl ps = .inl (c8_) := by simp only [zt_ecc, hm8, ht22, reduceIte] <;> rfl
              rw [ee] at h
              exact absurd h (by simp)
        · skip
          exact absurd (zm_nn (by omega)) c29
      · skip
        refine z_cv (st1 := []) rfl rfl rfl ?_
        have hlt22 := zt_lt ht22 (by decide)
        refine z_aload_n 25 C dX8_readPlace_25 1 rfl ?_
        refine z_getf 26 C 105 z_dX8 (⟨rfl, rfl⟩) 25 (by decide) q991 (.int (-1)) z_yU_gfa dX8_readPlace_26 ?_
        refine z_if_ge 29 C 46 dX8_readPlace_29 (by decide) (fun c29 => ?_) (fun c29 => ?_)
        · skip
          exact absurd c29 (by decide)
        · skip
          refine z_aload_n 32 C dX8_readPlace_32 1 rfl ?_
          refine z_sipush 33 C dX8_readPlace_33 (-5000) rfl ?_
          refine z_sipush 36 C dX8_readPlace_36 (nI 5000) rfl ?_
          refine z_iconst 39 C dX8_readPlace_39 (nI 0) rfl ?_
          refine z_callV 40 C 105 (⟨rfl, rfl⟩) rfl (As := [.int (-5000), .int (nI 5000), .int (nI 0)]) (rest := []) (@m_X8_number _ _ σ P n u v w rc tl hM (c8_ + 1) (by omega) (-5000) (nI 5000)) k_X8_number q1441 ⟨rfl, rfl⟩ ⟨Nat.le_of_ble_eq_true rfl, Nat.le_of_ble_eq_true rfl⟩ rfl (Nat.le_of_ble_eq_true rfl) ⟨Nat.le_of_ble_eq_true rfl, Nat.le_of_ble_eq_true rfl⟩ rfl dX8_readPlace_40 (fun v40 σ40 hv40 => ?_)
          rcases hv40 with ⟨f40, a40, b40, hm40, hf40, rfl, rfl⟩ | ⟨c40_, v40_, hm40, rfl, rfl⟩
          · skip
            refine z_cv (st1 := [.int b40]) rfl rfl rfl ?_
            refine z_goto 43 C 47 dX8_readPlace_43 (by decide) ?_
            refine z_istore_n 47 C dX8_readPlace_47 [(2, .int b40), (1, .int v8_), (0, .ref (z_ad G 105))] (by decide) rfl ?_
            refine z_aload_n 48 C dX8_readPlace_48 2 rfl ?_
            refine z_getf 49 C 105 z_dX8 (⟨rfl, rfl⟩) 26 (by decide) q992 (.int (nI d)) (z_ci hd) dX8_readPlace_49 ?_
            refine z_if_eq 52 C 62 dX8_readPlace_52 (by decide) (fun c52 => ?_) (fun c52 => ?_)
            · skip
              have hd0 : d = 0 := (z_nI0 (by omega)).mp c52
              refine z_vret 62 C dX8_readPlace_62 ?_
              exact Or.inl ⟨_, _, by simp only [zt_ecc, hm8, ht22, hm40, reduceIte] <;> rfl, by omega, rfl, rfl⟩
            · skip
              rcases hdn with h | ⟨yy, h⟩
              · exact absurd (show nI d = 0 by rw [h]; rfl) c52
              · have ee : zt_ecc (σ.1 118) tl ps = .inl (f40) := by simp only [zt_ecc, hm8, ht22, hm40, reduceIte] <;> rfl
                rw [ee] at h
                exact absurd h (by simp)
          · skip
            refine z_cv (st1 := [.int v40_]) rfl rfl rfl ?_
            have hr40 := zt_num_rng hm40
            refine z_goto 43 C 47 dX8_readPlace_43 (by decide) ?_
            refine z_istore_n 47 C dX8_readPlace_47 [(2, .int v40_), (1, .int v8_), (0, .ref (z_ad G 105))] (by decide) rfl ?_
            refine z_aload_n 48 C dX8_readPlace_48 2 rfl ?_
            refine z_getf 49 C 105 z_dX8 (⟨rfl, rfl⟩) 26 (by decide) q992 (.int (nI d)) (z_ci hd) dX8_readPlace_49 ?_
            refine z_if_eq 52 C 62 dX8_readPlace_52 (by decide) (fun c52 => ?_) (fun c52 => ?_)
            · skip
              have hd0 : d = 0 := (z_nI0 (by omega)).mp c52
              refine z_vret 62 C dX8_readPlace_62 ?_
              refine Or.inr ⟨_, _, by simp only [zt_ecc, hm8, ht22, hm40, reduceIte] <;> rfl, rfl, ?_⟩
              rw [zm_dob_0 hd0]
            · skip
              have hd0 : ¬ d = 0 := fun z => c52 (by rw [z]; rfl)
              refine z_aload_n 55 C dX8_readPlace_55 2 rfl ?_
              refine z_iload_n 56 C dX8_readPlace_56 1 rfl ?_
              refine z_iload_n 57 C dX8_readPlace_57 0 rfl ?_
              have hx_ := hr8.2.2
              have hy_ := hr40.2.2
              refine z_callV 58 C 105 (⟨rfl, rfl⟩) rfl (As := [.int v8_, .int v40_]) (rest := []) (@m_X8_setEccentricity_v _ _ (z_yU σ (nI c40_) (-1)) P n u v w rc tl hM.yU v8_ v40_ hx_ hy_) k_X8_setEccentricity q1458 ⟨rfl, rfl⟩ ⟨Nat.le_of_ble_eq_true rfl, Nat.le_of_ble_eq_true rfl⟩ rfl (Nat.le_of_ble_eq_true rfl) ⟨Nat.le_of_ble_eq_true rfl, Nat.le_of_ble_eq_true rfl⟩ rfl dX8_readPlace_58 (z_k1 ?_)
              refine z_cv (σ1 := z_yU (z_ui (z_ui σ 105 28 v8_) 105 29 v40_) (nI c40_) (-1)) rfl rfl (by exact z_yU_e) ?_
              refine z_pop 61 C dX8_readPlace_61 rfl ?_
              refine z_vret 62 C dX8_readPlace_62 ?_
              refine Or.inr ⟨_, _, by simp only [zt_ecc, hm8, ht22, hm40, reduceIte] <;> rfl, rfl, ?_⟩
              rw [zm_dob_1 hd0, zm_ob_e]
theorem dX8_readItem_0 : decode cX8_readItem 0 = .ok (.aload_n 0, 1) := by decide +kernel
theorem dX8_readItem_1 : decode cX8_readItem 1 = .ok (.bipush 115, 2) := by decide +kernel
theorem dX8_readItem_3 : decode cX8_readItem 3 = .ok (.invokevirtual 299, 3) := by decide +kernel
theorem dX8_readItem_6 : decode cX8_readItem 6 = .ok (.istore_n 1, 1) := by decide +kernel
theorem dX8_readItem_7 : decode cX8_readItem 7 = .ok (.aload_n 0, 1) := by decide +kernel
theorem dX8_readItem_8 : decode cX8_readItem 8 = .ok (.bipush 110, 2) := by decide +kernel
theorem dX8_readItem_10 : decode cX8_readItem 10 = .ok (.invokevirtual 299, 3) := by decide +kernel
theorem dX8_readItem_13 : decode cX8_readItem 13 = .ok (.istore_n 2, 1) := by decide +kernel
theorem dX8_readItem_14 : decode cX8_readItem 14 = .ok (.aload_n 0, 1) := by decide +kernel
theorem dX8_readItem_15 : decode cX8_readItem 15 = .ok (.bipush 112, 2) := by decide +kernel
theorem dX8_readItem_17 : decode cX8_readItem 17 = .ok (.invokevirtual 299, 3) := by decide +kernel
theorem dX8_readItem_20 : decode cX8_readItem 20 = .ok (.ifCond .ne 20, 3) := by decide +kernel
theorem dX8_readItem_23 : decode cX8_readItem 23 = .ok (.iload_n 1, 1) := by decide +kernel
theorem dX8_readItem_24 : decode cX8_readItem 24 = .ok (.ifCond .ne 16, 3) := by decide +kernel
theorem dX8_readItem_27 : decode cX8_readItem 27 = .ok (.aload_n 0, 1) := by decide +kernel
theorem dX8_readItem_28 : decode cX8_readItem 28 = .ok (.bipush 101, 2) := by decide +kernel
theorem dX8_readItem_30 : decode cX8_readItem 30 = .ok (.invokevirtual 299, 3) := by decide +kernel
theorem dX8_readItem_33 : decode cX8_readItem 33 = .ok (.ifCond .ne 7, 3) := by decide +kernel
theorem dX8_readItem_36 : decode cX8_readItem 36 = .ok (.iload_n 2, 1) := by decide +kernel
theorem dX8_readItem_37 : decode cX8_readItem 37 = .ok (.ifCond .eq 7, 3) := by decide +kernel
theorem dX8_readItem_40 : decode cX8_readItem 40 = .ok (.iconst 1, 1) := by decide +kernel
theorem dX8_readItem_41 : decode cX8_readItem 41 = .ok (.goto 4, 3) := by decide +kernel
theorem dX8_readItem_44 : decode cX8_readItem 44 = .ok (.iconst 0, 1) := by decide +kernel
theorem dX8_readItem_45 : decode cX8_readItem 45 = .ok (.istore_n 3, 1) := by decide +kernel
theorem dX8_readItem_46 : decode cX8_readItem 46 = .ok (.aload_n 0, 1) := by decide +kernel
theorem dX8_readItem_47 : decode cX8_readItem 47 = .ok (.bipush 101, 2) := by decide +kernel
theorem dX8_readItem_49 : decode cX8_readItem 49 = .ok (.invokevirtual 299, 3) := by decide +kernel
theorem dX8_readItem_52 : decode cX8_readItem 52 = .ok (.istore 4, 2) := by decide +kernel
theorem dX8_readItem_54 : decode cX8_readItem 54 = .ok (.iload_n 3, 1) := by decide +kernel
theorem dX8_readItem_55 : decode cX8_readItem 55 = .ok (.ifCond .ne 12, 3) := by decide +kernel
theorem dX8_readItem_58 : decode cX8_readItem 58 = .ok (.aload_n 0, 1) := by decide +kernel
theorem dX8_readItem_59 : decode cX8_readItem 59 = .ok (.aload_n 0, 1) := by decide +kernel
theorem dX8_readItem_60 : decode cX8_readItem 60 = .ok (.getfield 293, 3) := by decide +kernel
theorem dX8_readItem_63 : decode cX8_readItem 63 = .ok (.invokevirtual 303, 3) := by decide +kernel
theorem dX8_readItem_66 : decode cX8_readItem 66 = .ok (.return_, 1) := by decide +kernel
theorem dX8_readItem_67 : decode cX8_readItem 67 = .ok (.aload_n 0, 1) := by decide +kernel
theorem dX8_readItem_68 : decode cX8_readItem 68 = .ok (.dup, 1) := by decide +kernel
theorem dX8_readItem_69 : decode cX8_readItem 69 = .ok (.getfield 293, 3) := by decide +kernel
theorem dX8_readItem_72 : decode cX8_readItem 72 = .ok (.iconst 1, 1) := by decide +kernel
theorem dX8_readItem_73 : decode cX8_readItem 73 = .ok (.iadd, 1) := by decide +kernel
theorem dX8_readItem_74 : decode cX8_readItem 74 = .ok (.putfield 293, 3) := by decide +kernel
theorem dX8_readItem_77 : decode cX8_readItem 77 = .ok (.iload_n 2, 1) := by decide +kernel
theorem dX8_readItem_78 : decode cX8_readItem 78 = .ok (.ifCond .eq 30, 3) := by decide +kernel
theorem dX8_readItem_81 : decode cX8_readItem 81 = .ok (.aload_n 0, 1) := by decide +kernel
theorem dX8_readItem_82 : decode cX8_readItem 82 = .ok (.iconst 2, 1) := by decide +kernel
theorem dX8_readItem_83 : decode cX8_readItem 83 = .ok (.bipush 12, 2) := by decide +kernel
theorem dX8_readItem_85 : decode cX8_readItem 85 = .ok (.iconst 1, 1) := by decide +kernel
theorem dX8_readItem_86 : decode cX8_readItem 86 = .ok (.invokevirtual 309, 3) := by decide +kernel
theorem dX8_readItem_89 : decode cX8_readItem 89 = .ok (.istore 5, 2) := by decide +kernel
theorem dX8_readItem_91 : decode cX8_readItem 91 = .ok (.aload_n 0, 1) := by decide +kernel
theorem dX8_readItem_92 : decode cX8_readItem 92 = .ok (.getfield 317, 3) := by decide +kernel
theorem dX8_readItem_95 : decode cX8_readItem 95 = .ok (.ifCond .eq 10, 3) := by decide +kernel
theorem dX8_readItem_98 : decode cX8_readItem 98 = .ok (.aload_n 0, 1) := by decide +kernel
theorem dX8_readItem_99 : decode cX8_readItem 99 = .ok (.iload 5, 2) := by decide +kernel
theorem dX8_readItem_101 : decode cX8_readItem 101 = .ok (.invokevirtual 328, 3) := by decide +kernel
theorem dX8_readItem_104 : decode cX8_readItem 104 = .ok (.pop, 1) := by decide +kernel
theorem dX8_readItem_105 : decode cX8_readItem 105 = .ok (.goto 20, 3) := by decide +kernel
theorem dX8_readItem_108 : decode cX8_readItem 108 = .ok (.iload 4, 2) := by decide +kernel
theorem dX8_readItem_110 : decode cX8_readItem 110 = .ok (.ifCond .eq 10, 3) := by decide +kernel
theorem dX8_readItem_113 : decode cX8_readItem 113 = .ok (.aload_n 0, 1) := by decide +kernel
theorem dX8_readItem_114 : decode cX8_readItem 114 = .ok (.invokevirtual 331, 3) := by decide +kernel
theorem dX8_readItem_117 : decode cX8_readItem 117 = .ok (.goto 8, 3) := by decide +kernel
theorem dX8_readItem_120 : decode cX8_readItem 120 = .ok (.aload_n 0, 1) := by decide +kernel
theorem dX8_readItem_121 : decode cX8_readItem 121 = .ok (.iload_n 1, 1) := by decide +kernel
theorem dX8_readItem_122 : decode cX8_readItem 122 = .ok (.invokevirtual 334, 3) := by decide +kernel
theorem dX8_readItem_125 : decode cX8_readItem 125 = .ok (.return_, 1) := by decide +kernel
set_option maxRecDepth 100000 in
set_option maxHeartbeats 4000000 in
theorem m_X8_readItem {l : Launch} {G : z_Gl} {σ : z_St} (P n u v w rc tl : Nat) (hM : z_mi σ P n u v w rc tl) (ps : Nat) (hps : ps ≤ tl) (d : Nat) (hd2 : d < 2) (hd : σ.1 105 26 = nI d) (hdn : d = 0 ∨ ∃ yy, zt_item (σ.1 118) tl ps = .inr yy) : z_M l G yX8_readItem cX8_readItem 6 none (z_rm 4 97) [.ref (z_ad G 105)] (z_yU σ (nI ps) (-1)) (fun v_ σ1 => (∃ (f : Nat) (a : Int32), zt_item (σ.1 118) tl ps = .inl f ∧ f ≤ tl ∧ v_ = none ∧ σ1 = z_yU σ a (nI f)) ∨ (∃ (c1 : Nat) (i : zt_It), zt_item (σ.1 118) tl ps = .inr (c1, i) ∧ v_ = none ∧ σ1 = z_yU (zm_dob d σ i) (nI c1) (-1))) := by
  refine z_M.of (by decide) (Nat.le_of_ble_eq_true rfl) (fun p e s m below meth c C => ?_)
  refine z_sub [0] (lv1 := [(0, .ref (z_ad G 105))]) rfl ?_
  have hM0 := hM
  obtain ⟨⟨hP, hn, hu, hv, hw, hrc, htl⟩, hPs, hnP, huv, hw6, hrc8, htl2, hqt, hah⟩ := hM0
  have h0 : 0 < P := by omega
  have h12 : P ≤ 12 := by omega
  have h288 : n ≤ 288 := by omega
  refine z_aload_n 0 C dX8_readItem_0 0 rfl ?_
  refine z_bipush 1 C dX8_readItem_1 (nI 115) rfl ?_
  refine z_callV 3 C 105 (⟨rfl, rfl⟩) rfl (As := [.int (nI 115)]) (rest := []) (@m_X8_isAt _ _ σ P n u v w rc tl hM ps (by omega) (-1) (nI 115) (by decide)) k_X8_isAt q1433 ⟨rfl, rfl⟩ ⟨Nat.le_of_ble_eq_true rfl, Nat.le_of_ble_eq_true rfl⟩ rfl (Nat.le_of_ble_eq_true rfl) ⟨Nat.le_of_ble_eq_true rfl, Nat.le_of_ble_eq_true rfl⟩ rfl dX8_readItem_3 (z_k1 ?_)
  refine z_istore_n 6 C dX8_readItem_6 [(1, .int (z_bo (zt_at (σ.1 118) tl ps = (nI 115)))), (0, .ref (z_ad G 105))] (by decide) rfl ?_
  refine z_aload_n 7 C dX8_readItem_7 1 rfl ?_
  refine z_bipush 8 C dX8_readItem_8 (nI 110) rfl ?_
  refine z_callV 10 C 105 (⟨rfl, rfl⟩) rfl (As := [.int (nI 110)]) (rest := []) (@m_X8_isAt _ _ σ P n u v w rc tl hM ps (by omega) (-1) (nI 110) (by decide)) k_X8_isAt q1433 ⟨rfl, rfl⟩ ⟨Nat.le_of_ble_eq_true rfl, Nat.le_of_ble_eq_true rfl⟩ rfl (Nat.le_of_ble_eq_true rfl) ⟨Nat.le_of_ble_eq_true rfl, Nat.le_of_ble_eq_true rfl⟩ rfl dX8_readItem_10 (z_k1 ?_)
  refine z_istore_n 13 C dX8_readItem_13 [(2, .int (z_bo (zt_at (σ.1 118) tl ps = (nI 110)))), (1, .int (z_bo (zt_at (σ.1 118) tl ps = (nI 115)))), (0, .ref (z_ad G 105))] (by decide) rfl ?_
  refine z_aload_n 14 C dX8_readItem_14 2 rfl ?_
  refine z_bipush 15 C dX8_readItem_15 (nI 112) rfl ?_
  refine z_callV 17 C 105 (⟨rfl, rfl⟩) rfl (As := [.int (nI 112)]) (rest := []) (@m_X8_isAt _ _ σ P n u v w rc tl hM ps (by omega) (-1) (nI 112) (by decide)) k_X8_isAt q1433 ⟨rfl, rfl⟩ ⟨Nat.le_of_ble_eq_true rfl, Nat.le_of_ble_eq_true rfl⟩ rfl (Nat.le_of_ble_eq_true rfl) ⟨Nat.le_of_ble_eq_true rfl, Nat.le_of_ble_eq_true rfl⟩ rfl dX8_readItem_17 (z_k1 ?_)
  refine z_if_neb 20 C 40 dX8_readItem_20 (by decide) (fun c20 => ?_) (fun c20 => ?_)
  · skip
    have hlt := zt_lt c20 (by decide)
    refine z_iconst 40 C dX8_readItem_40 (nI 1) rfl ?_
    refine z_goto 41 C 45 dX8_readItem_41 (by decide) ?_
    refine z_istore_n 45 C dX8_readItem_45 [(3, .int (nI 1)), (2, .int (z_bo (zt_at (σ.1 118) tl ps = (nI 110)))), (1, .int (z_bo (zt_at (σ.1 118) tl ps = (nI 115)))), (0, .ref (z_ad G 105))] (by decide) rfl ?_
    refine z_aload_n 46 C dX8_readItem_46 3 rfl ?_
    refine z_bipush 47 C dX8_readItem_47 (nI 101) rfl ?_
    refine z_callV 49 C 105 (⟨rfl, rfl⟩) rfl (As := [.int (nI 101)]) (rest := []) (@m_X8_isAt _ _ σ P n u v w rc tl hM ps (by omega) (-1) (nI 101) (by decide)) k_X8_isAt q1433 ⟨rfl, rfl⟩ ⟨Nat.le_of_ble_eq_true rfl, Nat.le_of_ble_eq_true rfl⟩ rfl (Nat.le_of_ble_eq_true rfl) ⟨Nat.le_of_ble_eq_true rfl, Nat.le_of_ble_eq_true rfl⟩ rfl dX8_readItem_49 (z_k1 ?_)
    refine z_istore 52 C dX8_readItem_52 [(4, .int (z_bo (zt_at (σ.1 118) tl ps = (nI 101)))), (3, .int (nI 1)), (2, .int (z_bo (zt_at (σ.1 118) tl ps = (nI 110)))), (1, .int (z_bo (zt_at (σ.1 118) tl ps = (nI 115)))), (0, .ref (z_ad G 105))] (by decide) rfl ?_
    refine z_iload_n 54 C dX8_readItem_54 1 rfl ?_
    refine z_if_ne 55 C 67 dX8_readItem_55 (by decide) (fun c55 => ?_) (fun c55 => ?_)
    · skip
      refine z_aload_n 67 C dX8_readItem_67 4 rfl ?_
      refine z_dup 68 C dX8_readItem_68 rfl ?_
      refine z_getf 69 C 105 z_dX8 (⟨rfl, rfl⟩) 24 (by decide) q990 (.int (nI ps)) z_yU_gpl dX8_readItem_69 ?_
      refine z_iconst 72 C dX8_readItem_72 (nI 1) rfl ?_
      refine z_iaddN 73 C ps 1 rfl rfl dX8_readItem_73 ?_
      refine z_puti 74 C 105 z_dX8 (⟨rfl, rfl⟩) 24 (by decide) q990 rfl (rfl) rfl z_yU_hpl dX8_readItem_74 ?_
      refine z_cv (σ1 := z_yU σ (nI (ps + 1)) (-1)) rfl rfl z_yU_ppl ?_
      refine z_iload_n 77 C dX8_readItem_77 2 rfl ?_
      refine z_if_eqb 78 C 108 dX8_readItem_78 (by decide) (fun c78 => ?_) (fun c78 => ?_)
      · skip
        refine z_iload 108 C dX8_readItem_108 0 rfl ?_
        refine z_if_eqb 110 C 120 dX8_readItem_110 (by decide) (fun c110 => ?_) (fun c110 => ?_)
        · skip
          have hit : zt_item (σ.1 118) tl ps = zt_lobes (σ.1 118) tl (zt_at (σ.1 118) tl ps) (ps + 1) := by unfold zt_item; rw [if_pos (Or.inl c20)]
          refine z_aload_n 120 C dX8_readItem_120 4 rfl ?_
          refine z_iload_n 121 C dX8_readItem_121 3 rfl ?_
          refine z_cv (lv1 := [(4, .int (z_bo (zt_at (σ.1 118) tl ps = (nI 101)))), (3, .int (nI 1)), (2, .int (z_bo (zt_at (σ.1 118) tl ps = (nI 110)))), (1, .int (z_bo (zt_at (σ.1 118) tl ps = (nI 115)))), (0, .ref (z_ad G 105))]) (st1 := [.int (nI 0), .ref (z_ad G 105)]) (σ1 := z_yU σ (nI (ps + 1)) (-1)) rfl (by rw [← z_bo_f (fun z => absurd (c20.symm.trans z) (by decide))] <;> rfl) rfl ?_
          refine z_callV 122 C 105 (⟨rfl, rfl⟩) rfl (As := [.int (nI 0)]) (rest := []) (@m_X8_readLobes _ _ σ P n u v w rc tl hM (ps + 1) (by omega) 0 (zt_at (σ.1 118) tl ps) (by omega) (Or.inl c20) (if_neg (fun z => absurd (c20.symm.trans z) (by decide))) d hd2 hd (by rw [← hit]; exact hdn)) k_X8_readLobes q1464 ⟨rfl, rfl⟩ ⟨Nat.le_of_ble_eq_true rfl, Nat.le_of_ble_eq_true rfl⟩ rfl (Nat.le_of_ble_eq_true rfl) ⟨Nat.le_of_ble_eq_true rfl, Nat.le_of_ble_eq_true rfl⟩ rfl dX8_readItem_122 (fun v122 σ122 hv122 => ?_)
          rcases hv122 with ⟨f122, a122, hm122, hf122, rfl, rfl⟩ | ⟨c122_, i122, hm122, rfl, rfl⟩
          · skip
            refine z_cv (st1 := []) rfl rfl rfl ?_
            refine z_vret 125 C dX8_readItem_125 ?_
            exact Or.inl ⟨_, _, by rw [hit]; exact hm122, by omega, rfl, rfl⟩
          · skip
            refine z_cv (st1 := []) rfl rfl rfl ?_
            refine z_vret 125 C dX8_readItem_125 ?_
            exact Or.inr ⟨_, _, by rw [hit]; exact hm122, rfl, rfl⟩
        · skip
          exact absurd (c20.symm.trans c110) (by decide)
      · skip
        exact absurd (c20.symm.trans c78) (by decide)
    · skip
      exact absurd c55 (by decide)
  · skip
    refine z_iload_n 23 C dX8_readItem_23 1 rfl ?_
    refine z_if_neb 24 C 40 dX8_readItem_24 (by decide) (fun c24 => ?_) (fun c24 => ?_)
    · skip
      have hlt := zt_lt c24 (by decide)
      refine z_iconst 40 C dX8_readItem_40 (nI 1) rfl ?_
      refine z_goto 41 C 45 dX8_readItem_41 (by decide) ?_
      refine z_istore_n 45 C dX8_readItem_45 [(3, .int (nI 1)), (2, .int (z_bo (zt_at (σ.1 118) tl ps = (nI 110)))), (1, .int (z_bo (zt_at (σ.1 118) tl ps = (nI 115)))), (0, .ref (z_ad G 105))] (by decide) rfl ?_
      refine z_aload_n 46 C dX8_readItem_46 3 rfl ?_
      refine z_bipush 47 C dX8_readItem_47 (nI 101) rfl ?_
      refine z_callV 49 C 105 (⟨rfl, rfl⟩) rfl (As := [.int (nI 101)]) (rest := []) (@m_X8_isAt _ _ σ P n u v w rc tl hM ps (by omega) (-1) (nI 101) (by decide)) k_X8_isAt q1433 ⟨rfl, rfl⟩ ⟨Nat.le_of_ble_eq_true rfl, Nat.le_of_ble_eq_true rfl⟩ rfl (Nat.le_of_ble_eq_true rfl) ⟨Nat.le_of_ble_eq_true rfl, Nat.le_of_ble_eq_true rfl⟩ rfl dX8_readItem_49 (z_k1 ?_)
      refine z_istore 52 C dX8_readItem_52 [(4, .int (z_bo (zt_at (σ.1 118) tl ps = (nI 101)))), (3, .int (nI 1)), (2, .int (z_bo (zt_at (σ.1 118) tl ps = (nI 110)))), (1, .int (z_bo (zt_at (σ.1 118) tl ps = (nI 115)))), (0, .ref (z_ad G 105))] (by decide) rfl ?_
      refine z_iload_n 54 C dX8_readItem_54 1 rfl ?_
      refine z_if_ne 55 C 67 dX8_readItem_55 (by decide) (fun c55 => ?_) (fun c55 => ?_)
      · skip
        refine z_aload_n 67 C dX8_readItem_67 4 rfl ?_
        refine z_dup 68 C dX8_readItem_68 rfl ?_
        refine z_getf 69 C 105 z_dX8 (⟨rfl, rfl⟩) 24 (by decide) q990 (.int (nI ps)) z_yU_gpl dX8_readItem_69 ?_
        refine z_iconst 72 C dX8_readItem_72 (nI 1) rfl ?_
        refine z_iaddN 73 C ps 1 rfl rfl dX8_readItem_73 ?_
        refine z_puti 74 C 105 z_dX8 (⟨rfl, rfl⟩) 24 (by decide) q990 rfl (rfl) rfl z_yU_hpl dX8_readItem_74 ?_
        refine z_cv (σ1 := z_yU σ (nI (ps + 1)) (-1)) rfl rfl z_yU_ppl ?_
        refine z_iload_n 77 C dX8_readItem_77 2 rfl ?_
        refine z_if_eqb 78 C 108 dX8_readItem_78 (by decide) (fun c78 => ?_) (fun c78 => ?_)
        · skip
          refine z_iload 108 C dX8_readItem_108 0 rfl ?_
          refine z_if_eqb 110 C 120 dX8_readItem_110 (by decide) (fun c110 => ?_) (fun c110 => ?_)
          · skip
            have hit : zt_item (σ.1 118) tl ps = zt_lobes (σ.1 118) tl (zt_at (σ.1 118) tl ps) (ps + 1) := by unfold zt_item; rw [if_pos (Or.inr c24)]
            refine z_aload_n 120 C dX8_readItem_120 4 rfl ?_
            refine z_iload_n 121 C dX8_readItem_121 3 rfl ?_
            refine z_cv (lv1 := [(4, .int (z_bo (zt_at (σ.1 118) tl ps = (nI 101)))), (3, .int (nI 1)), (2, .int (z_bo (zt_at (σ.1 118) tl ps = (nI 110)))), (1, .int (z_bo (zt_at (σ.1 118) tl ps = (nI 115)))), (0, .ref (z_ad G 105))]) (st1 := [.int (nI 1), .ref (z_ad G 105)]) (σ1 := z_yU σ (nI (ps + 1)) (-1)) rfl (by rw [← z_bo_t c24] <;> rfl) rfl ?_
            refine z_callV 122 C 105 (⟨rfl, rfl⟩) rfl (As := [.int (nI 1)]) (rest := []) (@m_X8_readLobes _ _ σ P n u v w rc tl hM (ps + 1) (by omega) 1 (zt_at (σ.1 118) tl ps) (by omega) (Or.inr c24) (if_pos c24) d hd2 hd (by rw [← hit]; exact hdn)) k_X8_readLobes q1464 ⟨rfl, rfl⟩ ⟨Nat.le_of_ble_eq_true rfl, Nat.le_of_ble_eq_true rfl⟩ rfl (Nat.le_of_ble_eq_true rfl) ⟨Nat.le_of_ble_eq_true rfl, Nat.le_of_ble_eq_true rfl⟩ rfl dX8_readItem_122 (fun v122 σ122 hv122 => ?_)
            rcases hv122 with ⟨f122, a122, hm122, hf122, rfl, rfl⟩ | ⟨c122_, i122, hm122, rfl, rfl⟩
            · skip
              refine z_cv (st1 := []) rfl rfl rfl ?_
              refine z_vret 125 C dX8_readItem_125 ?_
              exact Or.inl ⟨_, _, by rw [hit]; exact hm122, by omega, rfl, rfl⟩
            · skip
              refine z_cv (st1 := []) rfl rfl rfl ?_
              refine z_vret 125 C dX8_readItem_125 ?_
              exact Or.inr ⟨_, _, by rw [hit]; exact hm122, rfl, rfl⟩
          · skip
            exact absurd (c24.symm.trans c110) (by decide)
        · skip
          exact absurd (c24.symm.trans c78) (by decide)
      · skip
        exact absurd c55 (by decide)
    · skip
      refine z_aload_n 27 C dX8_readItem_27 2 rfl ?_
      refine z_bipush 28 C dX8_readItem_28 (nI 101) rfl ?_
      refine z_callV 30 C 105 (⟨rfl, rfl⟩) rfl (As := [.int (nI 101)]) (rest := []) (@m_X8_isAt _ _ σ P n u v w rc tl hM ps (by omega) (-1) (nI 101) (by decide)) k_X8_isAt q1433 ⟨rfl, rfl⟩ ⟨Nat.le_of_ble_eq_true rfl, Nat.le_of_ble_eq_true rfl⟩ rfl (Nat.le_of_ble_eq_true rfl) ⟨Nat.le_of_ble_eq_true rfl, Nat.le_of_ble_eq_true rfl⟩ rfl dX8_readItem_30 (z_k1 ?_)
      refine z_if_neb 33 C 40 dX8_readItem_33 (by decide) (fun c33 => ?_) (fun c33 => ?_)
      · skip
        have hlt := zt_lt c33 (by decide)
        refine z_iconst 40 C dX8_readItem_40 (nI 1) rfl ?_
        refine z_goto 41 C 45 dX8_readItem_41 (by decide) ?_
        refine z_istore_n 45 C dX8_readItem_45 [(3, .int (nI 1)), (2, .int (z_bo (zt_at (σ.1 118) tl ps = (nI 110)))), (1, .int (z_bo (zt_at (σ.1 118) tl ps = (nI 115)))), (0, .ref (z_ad G 105))] (by decide) rfl ?_
        refine z_aload_n 46 C dX8_readItem_46 3 rfl ?_
        refine z_bipush 47 C dX8_readItem_47 (nI 101) rfl ?_
        refine z_callV 49 C 105 (⟨rfl, rfl⟩) rfl (As := [.int (nI 101)]) (rest := []) (@m_X8_isAt _ _ σ P n u v w rc tl hM ps (by omega) (-1) (nI 101) (by decide)) k_X8_isAt q1433 ⟨rfl, rfl⟩ ⟨Nat.le_of_ble_eq_true rfl, Nat.le_of_ble_eq_true rfl⟩ rfl (Nat.le_of_ble_eq_true rfl) ⟨Nat.le_of_ble_eq_true rfl, Nat.le_of_ble_eq_true rfl⟩ rfl dX8_readItem_49 (z_k1 ?_)
        refine z_istore 52 C dX8_readItem_52 [(4, .int (z_bo (zt_at (σ.1 118) tl ps = (nI 101)))), (3, .int (nI 1)), (2, .int (z_bo (zt_at (σ.1 118) tl ps = (nI 110)))), (1, .int (z_bo (zt_at (σ.1 118) tl ps = (nI 115)))), (0, .ref (z_ad G 105))] (by decide) rfl ?_
        refine z_iload_n 54 C dX8_readItem_54 1 rfl ?_
        refine z_if_ne 55 C 67 dX8_readItem_55 (by decide) (fun c55 => ?_) (fun c55 => ?_)
        · skip
          refine z_aload_n 67 C dX8_readItem_67 4 rfl ?_
          refine z_dup 68 C dX8_readItem_68 rfl ?_
          refine z_getf 69 C 105 z_dX8 (⟨rfl, rfl⟩) 24 (by decide) q990 (.int (nI ps)) z_yU_gpl dX8_readItem_69 ?_
          refine z_iconst 72 C dX8_readItem_72 (nI 1) rfl ?_
          refine z_iaddN 73 C ps 1 rfl rfl dX8_readItem_73 ?_
          refine z_puti 74 C 105 z_dX8 (⟨rfl, rfl⟩) 24 (by decide) q990 rfl (rfl) rfl z_yU_hpl dX8_readItem_74 ?_
          refine z_cv (σ1 := z_yU σ (nI (ps + 1)) (-1)) rfl rfl z_yU_ppl ?_
          refine z_iload_n 77 C dX8_readItem_77 2 rfl ?_
          refine z_if_eqb 78 C 108 dX8_readItem_78 (by decide) (fun c78 => ?_) (fun c78 => ?_)
          · skip
            refine z_iload 108 C dX8_readItem_108 0 rfl ?_
            refine z_if_eqb 110 C 120 dX8_readItem_110 (by decide) (fun c110 => ?_) (fun c110 => ?_)
            · skip
              exact absurd c33 c110
            · skip
              have hit : zt_item (σ.1 118) tl ps = zt_ecc (σ.1 118) tl (ps + 1) := by unfold zt_item; rw [if_neg (fun z => z.elim c20 c24), if_pos c33]
              refine z_aload_n 113 C dX8_readItem_113 4 rfl ?_
              refine z_callV 114 C 105 (⟨rfl, rfl⟩) rfl (As := []) (rest := []) (@m_X8_readPlace _ _ σ P n u v w rc tl hM (ps + 1) (by omega) d hd2 hd (by rw [← hit]; exact hdn)) k_X8_readPlace q1450 ⟨rfl, rfl⟩ ⟨Nat.le_of_ble_eq_true rfl, Nat.le_of_ble_eq_true rfl⟩ rfl (Nat.le_of_ble_eq_true rfl) ⟨Nat.le_of_ble_eq_true rfl, Nat.le_of_ble_eq_true rfl⟩ rfl dX8_readItem_114 (fun v114 σ114 hv114 => ?_)
              rcases hv114 with ⟨f114, a114, hm114, hf114, rfl, rfl⟩ | ⟨c114_, i114, hm114, rfl, rfl⟩
              · skip
                refine z_cv (st1 := []) rfl rfl rfl ?_
                refine z_goto 117 C 125 dX8_readItem_117 (by decide) ?_
                refine z_vret 125 C dX8_readItem_125 ?_
                exact Or.inl ⟨_, _, by rw [hit]; exact hm114, by omega, rfl, rfl⟩
              · skip
                refine z_cv (st1 := []) rfl rfl rfl ?_
                refine z_goto 117 C 125 dX8_readItem_117 (by decide) ?_
                refine z_vret 125 C dX8_readItem_125 ?_
                exact Or.inr ⟨_, _, by rw [hit]; exact hm114, rfl, rfl⟩
          · skip
            exact absurd (c33.symm.trans c78) (by decide)
        · skip
          exact absurd c55 (by decide)
      · skip
        refine z_iload_n 36 C dX8_readItem_36 0 rfl ?_
        refine z_if_eqb 37 C 44 dX8_readItem_37 (by decide) (fun c37 => ?_) (fun c37 => ?_)
        · skip
          refine z_iconst 44 C dX8_readItem_44 (nI 0) rfl ?_
          refine z_istore_n 45 C dX8_readItem_45 [(3, .int (nI 0)), (2, .int (z_bo (zt_at (σ.1 118) tl ps = (nI 110)))), (1, .int (z_bo (zt_at (σ.1 118) tl ps = (nI 115)))), (0, .ref (z_ad G 105))] (by decide) rfl ?_
          refine z_aload_n 46 C dX8_readItem_46 3 rfl ?_
          refine z_bipush 47 C dX8_readItem_47 (nI 101) rfl ?_
          refine z_callV 49 C 105 (⟨rfl, rfl⟩) rfl (As := [.int (nI 101)]) (rest := []) (@m_X8_isAt _ _ σ P n u v w rc tl hM ps (by omega) (-1) (nI 101) (by decide)) k_X8_isAt q1433 ⟨rfl, rfl⟩ ⟨Nat.le_of_ble_eq_true rfl, Nat.le_of_ble_eq_true rfl⟩ rfl (Nat.le_of_ble_eq_true rfl) ⟨Nat.le_of_ble_eq_true rfl, Nat.le_of_ble_eq_true rfl⟩ rfl dX8_readItem_49 (z_k1 ?_)
          refine z_istore 52 C dX8_readItem_52 [(4, .int (z_bo (zt_at (σ.1 118) tl ps = (nI 101)))), (3, .int (nI 0)), (2, .int (z_bo (zt_at (σ.1 118) tl ps = (nI 110)))), (1, .int (z_bo (zt_at (σ.1 118) tl ps = (nI 115)))), (0, .ref (z_ad G 105))] (by decide) rfl ?_
          refine z_iload_n 54 C dX8_readItem_54 1 rfl ?_
          refine z_if_ne 55 C 67 dX8_readItem_55 (by decide) (fun c55 => ?_) (fun c55 => ?_)
          · skip
            exact absurd c55 (by decide)
          · skip
            refine z_aload_n 58 C dX8_readItem_58 4 rfl ?_
            refine z_aload_n 59 C dX8_readItem_59 4 rfl ?_
            refine z_getf 60 C 105 z_dX8 (⟨rfl, rfl⟩) 24 (by decide) q990 (.int (nI ps)) z_yU_gpl dX8_readItem_60 ?_
            refine z_callV 63 C 105 (⟨rfl, rfl⟩) rfl (As := [.int (nI ps)]) (rest := []) (@m_X8_fail _ _ σ (nI ps) (nI ps)) k_X8_fail q1437 ⟨rfl, rfl⟩ ⟨Nat.le_of_ble_eq_true rfl, Nat.le_of_ble_eq_true rfl⟩ rfl (Nat.le_of_ble_eq_true rfl) ⟨Nat.le_of_ble_eq_true rfl, Nat.le_of_ble_eq_true rfl⟩ rfl dX8_readItem_63 (z_k0 ?_)
            refine z_vret 66 C dX8_readItem_66 ?_
            exact Or.inl ⟨_, _, by unfold zt_item; rw [if_neg (fun z => z.elim c20 c24), if_neg c33, if_neg c37], hps, rfl, rfl⟩
        · skip
          have hlt := zt_lt c37 (by decide)
          refine z_iconst 40 C dX8_readItem_40 (nI 1) rfl ?_
          refine z_goto 41 C 45 dX8_readItem_41 (by decide) ?_
          refine z_istore_n 45 C dX8_readItem_45 [(3, .int (nI 1)), (2, .int (z_bo (zt_at (σ.1 118) tl ps = (nI 110)))), (1, .int (z_bo (zt_at (σ.1 118) tl ps = (nI 115)))), (0, .ref (z_ad G 105))] (by decide) rfl ?_
          refine z_aload_n 46 C dX8_readItem_46 3 rfl ?_
          refine z_bipush 47 C dX8_readItem_47 (nI 101) rfl ?_
          refine z_callV 49 C 105 (⟨rfl, rfl⟩) rfl (As := [.int (nI 101)]) (rest := []) (@m_X8_isAt _ _ σ P n u v w rc tl hM ps (by omega) (-1) (nI 101) (by decide)) k_X8_isAt q1433 ⟨rfl, rfl⟩ ⟨Nat.le_of_ble_eq_true rfl, Nat.le_of_ble_eq_true rfl⟩ rfl (Nat.le_of_ble_eq_true rfl) ⟨Nat.le_of_ble_eq_true rfl, Nat.le_of_ble_eq_true rfl⟩ rfl dX8_readItem_49 (z_k1 ?_)
          refine z_istore 52 C dX8_readItem_52 [(4, .int (z_bo (zt_at (σ.1 118) tl ps = (nI 101)))), (3, .int (nI 1)), (2, .int (z_bo (zt_at (σ.1 118) tl ps = (nI 110)))), (1, .int (z_bo (zt_at (σ.1 118) tl ps = (nI 115)))), (0, .ref (z_ad G 105))] (by decide) rfl ?_
          refine z_iload_n 54 C dX8_readItem_54 1 rfl ?_
          refine z_if_ne 55 C 67 dX8_readItem_55 (by decide) (fun c55 => ?_) (fun c55 => ?_)
          · skip
            refine z_aload_n 67 C dX8_readItem_67 4 rfl ?_
            refine z_dup 68 C dX8_readItem_68 rfl ?_
            refine z_getf 69 C 105 z_dX8 (⟨rfl, rfl⟩) 24 (by decide) q990 (.int (nI ps)) z_yU_gpl dX8_readItem_69 ?_
            refine z_iconst 72 C dX8_readItem_72 (nI 1) rfl ?_
            refine z_iaddN 73 C ps 1 rfl rfl dX8_readItem_73 ?_
            refine z_puti 74 C 105 z_dX8 (⟨rfl, rfl⟩) 24 (by decide) q990 rfl (rfl) rfl z_yU_hpl dX8_readItem_74 ?_
            refine z_cv (σ1 := z_yU σ (nI (ps + 1)) (-1)) rfl rfl z_yU_ppl ?_
            refine z_iload_n 77 C dX8_readItem_77 2 rfl ?_
            refine z_if_eqb 78 C 108 dX8_readItem_78 (by decide) (fun c78 => ?_) (fun c78 => ?_)
            · skip
              exact absurd c37 c78
            · skip
              have hit : zt_item (σ.1 118) tl ps = zt_stp (σ.1 118) tl (ps + 1) := by unfold zt_item; rw [if_neg (fun z => z.elim c20 c24), if_neg c33, if_pos c37]
              refine z_aload_n 81 C dX8_readItem_81 4 rfl ?_
              refine z_iconst 82 C dX8_readItem_82 (nI 2) rfl ?_
              refine z_bipush 83 C dX8_readItem_83 (nI 12) rfl ?_
              refine z_iconst 85 C dX8_readItem_85 (nI 1) rfl ?_
              refine z_callV 86 C 105 (⟨rfl, rfl⟩) rfl (As := [.int (nI 2), .int (nI 12), .int (nI 1)]) (rest := []) (@m_X8_number_s _ _ σ P n u v w rc tl hM (ps + 1) (by omega)) k_X8_number q1441 ⟨rfl, rfl⟩ ⟨Nat.le_of_ble_eq_true rfl, Nat.le_of_ble_eq_true rfl⟩ rfl (Nat.le_of_ble_eq_true rfl) ⟨Nat.le_of_ble_eq_true rfl, Nat.le_of_ble_eq_true rfl⟩ rfl dX8_readItem_86 (fun v86 σ86 hv86 => ?_)
              rcases hv86 with ⟨f86, a86, b86, hm86, hf86, rfl, rfl⟩ | ⟨c86_, v86_, hm86, rfl, rfl⟩
              · skip
                refine z_cv (st1 := [.int b86]) rfl rfl rfl ?_
                refine z_istore 89 C dX8_readItem_89 [(5, .int b86), (4, .int (z_bo (zt_at (σ.1 118) tl ps = (nI 101)))), (3, .int (nI 1)), (2, .int (z_bo (zt_at (σ.1 118) tl ps = (nI 110)))), (1, .int (z_bo (zt_at (σ.1 118) tl ps = (nI 115)))), (0, .ref (z_ad G 105))] (by decide) rfl ?_
                refine z_aload_n 91 C dX8_readItem_91 5 rfl ?_
                refine z_getf 92 C 105 z_dX8 (⟨rfl, rfl⟩) 26 (by decide) q992 (.int (nI d)) (z_ci hd) dX8_readItem_92 ?_
                refine z_if_eq 95 C 105 dX8_readItem_95 (by decide) (fun c95 => ?_) (fun c95 => ?_)
                · skip
                  have hd0 : d = 0 := (z_nI0 (by omega)).mp c95
                  refine z_goto 105 C 125 dX8_readItem_105 (by decide) ?_
                  refine z_vret 125 C dX8_readItem_125 ?_
                  exact Or.inl ⟨_, _, by rw [hit, zm_stp, hm86], by omega, rfl, rfl⟩
                · skip
                  rcases hdn with h | ⟨yy, h⟩
                  · exact absurd (show nI d = 0 by rw [h]; rfl) c95
                  · rw [hit, zm_stp, hm86] at h
                    exact absurd h (by simp)
              · skip
                refine z_cv (st1 := [.int v86_]) rfl rfl rfl ?_
                have hr86 := zm_nst_rng hm86
                refine z_istore 89 C dX8_readItem_89 [(5, .int v86_), (4, .int (z_bo (zt_at (σ.1 118) tl ps = (nI 101)))), (3, .int (nI 1)), (2, .int (z_bo (zt_at (σ.1 118) tl ps = (nI 110)))), (1, .int (z_bo (zt_at (σ.1 118) tl ps = (nI 115)))), (0, .ref (z_ad G 105))] (by decide) rfl ?_
                refine z_aload_n 91 C dX8_readItem_91 5 rfl ?_
                refine z_getf 92 C 105 z_dX8 (⟨rfl, rfl⟩) 26 (by decide) q992 (.int (nI d)) (z_ci hd) dX8_readItem_92 ?_
                refine z_if_eq 95 C 105 dX8_readItem_95 (by decide) (fun c95 => ?_) (fun c95 => ?_)
                · skip
                  have hd0 : d = 0 := (z_nI0 (by omega)).mp c95
                  refine z_goto 105 C 125 dX8_readItem_105 (by decide) ?_
                  refine z_vret 125 C dX8_readItem_125 ?_
                  refine Or.inr ⟨_, _, by rw [hit, zm_stp, hm86], rfl, ?_⟩
                  rw [zm_dob_0 hd0]
                · skip
                  have hd0 : ¬ d = 0 := fun z => c95 (by rw [z]; rfl)
                  have hx_ := hr86.2.2
                  refine z_aload_n 98 C dX8_readItem_98 5 rfl ?_
                  refine z_iload 99 C dX8_readItem_99 0 rfl ?_
                  refine z_callV 101 C 105 (⟨rfl, rfl⟩) rfl (As := [.int v86_]) (rest := []) (@m_X8_setSteps_v _ _ (z_yU σ (nI c86_) (-1)) P n u v w rc tl hM.yU v86_ hx_) k_X8_setSteps q1449 ⟨rfl, rfl⟩ ⟨Nat.le_of_ble_eq_true rfl, Nat.le_of_ble_eq_true rfl⟩ rfl (Nat.le_of_ble_eq_true rfl) ⟨Nat.le_of_ble_eq_true rfl, Nat.le_of_ble_eq_true rfl⟩ rfl dX8_readItem_101 (z_k1 ?_)
                  refine z_cv (σ1 := z_yU (z_ui (z_ui σ 105 2 (nI 0)) 105 1 v86_) (nI c86_) (-1)) rfl rfl (by exact z_yU_s) ?_
                  refine z_pop 104 C dX8_readItem_104 rfl ?_
                  refine z_goto 105 C 125 dX8_readItem_105 (by decide) ?_
                  refine z_vret 125 C dX8_readItem_125 ?_
                  refine Or.inr ⟨_, _, by rw [hit, zm_stp, hm86], rfl, ?_⟩
                  rw [zm_dob_1 hd0, zm_ob_n]
          · skip
            exact absurd c55 (by decide)
def zm_obs (σ : z_St) (l : List zt_It) : z_St := l.foldl zm_ob σ
theorem zm_obs_s {σ : z_St} {l : List zt_It} {i : zt_It} : zm_obs σ (l ++ [i]) = zm_ob (zm_obs σ l) i := by simp [zm_obs, List.foldl_append]
theorem zm_dob_ch {d : Nat} {τ : z_St} {i : zt_It} : (zm_dob d τ i).1 118 = τ.1 118 := by
  unfold zm_dob
  split
  · rfl
  · unfold zm_ob
    split
    · rfl
    · split <;> rfl
theorem zm_dob_26 {d : Nat} {τ : z_St} {i : zt_It} : (zm_dob d τ i).1 105 26 = τ.1 105 26 := by
  unfold zm_dob
  split
  · rfl
  · unfold zm_ob
    split
    · rfl
    · split <;> rfl
theorem z_mi.dob {d : Nat} {τ : z_St} {i : zt_It} {P n u v w rc tl : Nat} (h : z_mi τ P n u v w rc tl) (hv : zt_val i) : ∃ P2 n2, z_mi (zm_dob d τ i) P2 n2 u v w rc tl := by
  unfold zm_dob
  split
  · exact ⟨P, n, h⟩
  · unfold zm_ob
    obtain ⟨⟨h1, h2, h3, h4, h5, h6, h7⟩, h8, h9, h10, h11, h12, h13, h14, h15⟩ := h
    split
    · rename_i q
      have hk : zt_ok i.2.1 := by
        rcases hv with z | z | z
        · exact z.2
        · exact absurd (q.symm.trans z.1) (by decide)
        · rcases z.1 with z | z
          · exact absurd (q.symm.trans z) (by decide)
          · exact absurd (q.symm.trans z) (by decide)
      have hP : ∃ P2 : Nat, i.2.1 = nI P2 ∧ (P2 = 2 ∨ P2 = 3 ∨ P2 = 4 ∨ P2 = 6 ∨ P2 = 8 ∨ P2 = 12) := by
        rcases hk with z | z | z | z | z | z <;> exact ⟨_, z, by decide⟩
      obtain ⟨P2, e, hP2⟩ := hP
      exact ⟨P2, 0, ⟨e, rfl, h3, h4, h5, h6, h7⟩, hP2, Nat.zero_le _, h10, h11, h12, h13, h14, h15⟩
    · split
      · exact ⟨P, n, ⟨h1, h2, h3, h4, h5, h6, h7⟩, h8, h9, h10, h11, h12, h13, h14, h15⟩
      · exact ⟨P, n, ⟨h1, h2, h3, h4, h5, h6, h7⟩, h8, h9, h10, h11, h12, h13, h14, h15⟩
/-- where all goes well, each item does -/
theorem zm_all_i {ch : Nat → Int32} {tl rd qs : Nat} {pre its : List zt_It} (hal : zt_all ch tl (tl + 1) 0 = .inr its) (h : zt_all ch tl (tl + 1) 0 = zt_app pre (zt_all ch tl (tl + 1 - rd) qs)) (hr : rd ≤ tl) : ∃ yy, zt_item ch tl qs = .inr yy := by
  cases hi : zt_item ch tl qs with
  | inl f =>
    have := zt_l28 h hr hi
    rw [hal] at this
    exact absurd this (by simp)
  | inr y => exact ⟨y, rfl⟩
theorem dX8_readAll_0 : decode cX8_readAll 0 = .ok (.aload_n 0, 1) := by decide +kernel
theorem dX8_readAll_1 : decode cX8_readAll 1 = .ok (.iload_n 1, 1) := by decide +kernel
theorem dX8_readAll_2 : decode cX8_readAll 2 = .ok (.putfield 317, 3) := by decide +kernel
theorem dX8_readAll_5 : decode cX8_readAll 5 = .ok (.aload_n 0, 1) := by decide +kernel
theorem dX8_readAll_6 : decode cX8_readAll 6 = .ok (.iconst 0, 1) := by decide +kernel
theorem dX8_readAll_7 : decode cX8_readAll 7 = .ok (.putfield 293, 3) := by decide +kernel
theorem dX8_readAll_10 : decode cX8_readAll 10 = .ok (.aload_n 0, 1) := by decide +kernel
theorem dX8_readAll_11 : decode cX8_readAll 11 = .ok (.iconst (-1), 1) := by decide +kernel
theorem dX8_readAll_12 : decode cX8_readAll 12 = .ok (.putfield 296, 3) := by decide +kernel
theorem dX8_readAll_15 : decode cX8_readAll 15 = .ok (.iconst 0, 1) := by decide +kernel
theorem dX8_readAll_16 : decode cX8_readAll 16 = .ok (.istore_n 2, 1) := by decide +kernel
theorem dX8_readAll_17 : decode cX8_readAll 17 = .ok (.iconst 1, 1) := by decide +kernel
theorem dX8_readAll_18 : decode cX8_readAll 18 = .ok (.istore_n 3, 1) := by decide +kernel
theorem dX8_readAll_19 : decode cX8_readAll 19 = .ok (.iload_n 3, 1) := by decide +kernel
theorem dX8_readAll_20 : decode cX8_readAll 20 = .ok (.ifCond .eq 60, 3) := by decide +kernel
theorem dX8_readAll_23 : decode cX8_readAll 23 = .ok (.aload_n 0, 1) := by decide +kernel
theorem dX8_readAll_24 : decode cX8_readAll 24 = .ok (.invokevirtual 338, 3) := by decide +kernel
theorem dX8_readAll_27 : decode cX8_readAll 27 = .ok (.iinc 2 1, 3) := by decide +kernel
theorem dX8_readAll_30 : decode cX8_readAll 30 = .ok (.aload_n 0, 1) := by decide +kernel
theorem dX8_readAll_31 : decode cX8_readAll 31 = .ok (.getfield 296, 3) := by decide +kernel
theorem dX8_readAll_34 : decode cX8_readAll 34 = .ok (.ifCond .ge 18, 3) := by decide +kernel
theorem dX8_readAll_37 : decode cX8_readAll 37 = .ok (.aload_n 0, 1) := by decide +kernel
theorem dX8_readAll_38 : decode cX8_readAll 38 = .ok (.getfield 293, 3) := by decide +kernel
theorem dX8_readAll_41 : decode cX8_readAll 41 = .ok (.aload_n 0, 1) := by decide +kernel
theorem dX8_readAll_42 : decode cX8_readAll 42 = .ok (.getfield 290, 3) := by decide +kernel
theorem dX8_readAll_45 : decode cX8_readAll 45 = .ok (.if_icmp .ge 7, 3) := by decide +kernel
theorem dX8_readAll_48 : decode cX8_readAll 48 = .ok (.iconst 1, 1) := by decide +kernel
theorem dX8_readAll_49 : decode cX8_readAll 49 = .ok (.goto 4, 3) := by decide +kernel
theorem dX8_readAll_52 : decode cX8_readAll 52 = .ok (.iconst 0, 1) := by decide +kernel
theorem dX8_readAll_53 : decode cX8_readAll 53 = .ok (.istore_n 3, 1) := by decide +kernel
theorem dX8_readAll_54 : decode cX8_readAll 54 = .ok (.iload_n 3, 1) := by decide +kernel
theorem dX8_readAll_55 : decode cX8_readAll 55 = .ok (.ifCond .eq (-36), 3) := by decide +kernel
theorem dX8_readAll_58 : decode cX8_readAll 58 = .ok (.aload_n 0, 1) := by decide +kernel
theorem dX8_readAll_59 : decode cX8_readAll 59 = .ok (.bipush 59, 2) := by decide +kernel
theorem dX8_readAll_61 : decode cX8_readAll 61 = .ok (.invokevirtual 313, 3) := by decide +kernel
theorem dX8_readAll_64 : decode cX8_readAll 64 = .ok (.aload_n 0, 1) := by decide +kernel
theorem dX8_readAll_65 : decode cX8_readAll 65 = .ok (.getfield 296, 3) := by decide +kernel
theorem dX8_readAll_68 : decode cX8_readAll 68 = .ok (.ifCond .ge 7, 3) := by decide +kernel
theorem dX8_readAll_71 : decode cX8_readAll 71 = .ok (.iconst 1, 1) := by decide +kernel
theorem dX8_readAll_72 : decode cX8_readAll 72 = .ok (.goto 4, 3) := by decide +kernel
theorem dX8_readAll_75 : decode cX8_readAll 75 = .ok (.iconst 0, 1) := by decide +kernel
theorem dX8_readAll_76 : decode cX8_readAll 76 = .ok (.istore_n 3, 1) := by decide +kernel
theorem dX8_readAll_77 : decode cX8_readAll 77 = .ok (.goto (-58), 3) := by decide +kernel
theorem dX8_readAll_80 : decode cX8_readAll 80 = .ok (.iload_n 2, 1) := by decide +kernel
theorem dX8_readAll_81 : decode cX8_readAll 81 = .ok (.ireturn, 1) := by decide +kernel
set_option maxRecDepth 100000 in
set_option maxHeartbeats 4000000 in
theorem m_X8_readAll {l : Launch} {G : z_Gl} {σ : z_St} (P n u v w rc tl : Nat) (hM : z_mi σ P n u v w rc tl) : z_M l G yX8_readAll cX8_readAll 4 (some .int) (z_rm 5 122) [.ref (z_ad G 105), .int (nI 0)] σ (fun v_ σ1 => (∃ (f : Nat) (a b : Int32), zt_all (σ.1 118) tl (tl + 1) 0 = .inl f ∧ f ≤ tl ∧ v_ = some (.int b) ∧ σ1 = z_yU (z_ui σ 105 26 (nI 0)) a (nI f)) ∨ (∃ (its : List zt_It) (a : Int32), zt_all (σ.1 118) tl (tl + 1) 0 = .inr its ∧ v_ = some (.int (nI its.length)) ∧ σ1 = z_yU (z_ui σ 105 26 (nI 0)) a (-1))) := by
  refine z_M.of (by decide) (Nat.le_of_ble_eq_true rfl) (fun p e s m below meth c C => ?_)
  refine z_sub [0, 1] (lv1 := [(0, .ref (z_ad G 105)), (1, .int (nI 0))]) rfl ?_
  have hM0 := hM
  obtain ⟨⟨hP, hn, hu, hv, hw, hrc, htl⟩, hPs, hnP, huv, hw6, hrc8, htl2, hqt, hah⟩ := hM0
  have h0 : 0 < P := by omega
  have h12 : P ≤ 12 := by omega
  have h288 : n ≤ 288 := by omega
  have hMs : z_mi (z_ui σ 105 26 (nI 0)) P n u v w rc tl := hM
  refine z_aload_n 0 C dX8_readAll_0 0 rfl ?_
  refine z_iload_n 1 C dX8_readAll_1 1 rfl ?_
  refine z_puti 2 C 105 z_dX8 (⟨rfl, rfl⟩) 26 (by decide) q992 rfl (rfl) rfl ⟨Nat.le_of_ble_eq_true rfl, rfl⟩ dX8_readAll_2 ?_
  refine z_cv (lv1 := [(0, .ref (z_ad G 105)), (1, .int (nI 0))]) (st1 := []) (σ1 := z_yU (z_ui σ 105 26 (nI 0)) ((z_ui σ 105 26 (nI 0)).1 105 24) ((z_ui σ 105 26 (nI 0)).1 105 25)) rfl rfl z_yU_self.symm ?_
  refine z_aload_n 5 C dX8_readAll_5 0 rfl ?_
  refine z_iconst 6 C dX8_readAll_6 (nI 0) rfl ?_
  refine z_puti 7 C 105 z_dX8 (⟨rfl, rfl⟩) 24 (by decide) q990 rfl (rfl) rfl z_yU_hpl dX8_readAll_7 ?_
  refine z_cv (σ1 := z_yU (z_ui σ 105 26 (nI 0)) (nI 0) ((z_ui σ 105 26 (nI 0)).1 105 25)) rfl rfl z_yU_ppl ?_
  refine z_aload_n 10 C dX8_readAll_10 0 rfl ?_
  refine z_iconst 11 C dX8_readAll_11 (-1) rfl ?_
  refine z_puti 12 C 105 z_dX8 (⟨rfl, rfl⟩) 25 (by decide) q991 rfl (rfl) rfl z_yU_hfa dX8_readAll_12 ?_
  refine z_cv (σ1 := z_yU (z_ui σ 105 26 (nI 0)) (nI 0) (-1)) rfl rfl z_yU_pfa ?_
  refine z_iconst 15 C dX8_readAll_15 (nI 0) rfl ?_
  refine z_istore_n 16 C dX8_readAll_16 [(2, .int (nI 0)), (0, .ref (z_ad G 105)), (1, .int (nI 0))] (by decide) rfl ?_
  refine z_iconst 17 C dX8_readAll_17 (nI 1) rfl ?_
  refine z_istore_n 18 C dX8_readAll_18 [(3, .int (nI 1)), (2, .int (nI 0)), (0, .ref (z_ad G 105)), (1, .int (nI 0))] (by decide) rfl ?_
  refine z_sub [2, 3, 1, 0] (lv1 := [(0, .ref (z_ad G 105)), (1, .int (nI 0)), (2, .int (nI 0)), (3, .int (nI 1))]) rfl ?_
  refine z_cv (lv1 := [(0, .ref (z_ad G 105)), (1, .int (nI 0)), (2, .int (nI 0)), (3, .int (nI 1))]) (st1 := []) (σ1 := z_yU (z_ui σ 105 26 (nI 0)) (nI 0) (-1)) rfl rfl rfl ?_
  refine z_lp5 (fun (rd : Nat) (qs : Nat) (τ : z_St) (P1 : Nat) (n1 : Nat) => qs ≤ tl ∧ 3 * rd ≤ qs ∧ rd ≤ tl ∧ z_mi τ P1 n1 u v w rc tl ∧ τ.1 118 = σ.1 118 ∧ τ.1 105 26 = nI 0 ∧ ∃ pre : List zt_It, pre.length = rd ∧ zt_all (σ.1 118) tl (tl + 1) 0 = zt_app pre (zt_all (σ.1 118) tl (tl + 1 - rd) qs) ∧ τ = (z_ui σ 105 26 (nI 0))) (fun (rd : Nat) (qs : Nat) (τ : z_St) (P1 : Nat) (n1 : Nat) => tl + 1 - rd) (fun (rd : Nat) (qs : Nat) (τ : z_St) (P1 : Nat) (n1 : Nat) => [(0, .ref (z_ad G 105)), (1, .int (nI 0)), (2, .int (nI rd)), (3, .int (nI 1))]) (fun (rd : Nat) (qs : Nat) (τ : z_St) (P1 : Nat) (n1 : Nat) => z_yU τ (nI qs) (-1)) (fun rd qs τ P1 n1 hi_19 ih_19 => ?_) 0 0 (z_ui σ 105 26 (nI 0)) P n (⟨by omega, by omega, by omega, hMs, rfl, rfl, [], rfl, by cases h : zt_all (σ.1 118) tl (tl + 1) 0 with | inl f => simp only [zt_app, Nat.sub_zero, h] | inr r => simp only [zt_app, Nat.sub_zero, h, List.nil_append], rfl⟩)
  try dsimp only
  obtain ⟨hqs, h3q, hrd, hM1, hch, h26, pre, hpl, happ, hta⟩ := hi_19
  refine z_iload_n 19 C dX8_readAll_19 3 rfl ?_
  refine z_if_eq 20 C 80 dX8_readAll_20 (by decide) (fun c20 => ?_) (fun c20 => ?_)
  · skip
    exact absurd c20 (by decide)
  · skip
    refine z_aload_n 23 C dX8_readAll_23 0 rfl ?_
    refine z_callV 24 C 105 (⟨rfl, rfl⟩) rfl (As := []) (rest := []) (@m_X8_readItem _ _ τ P1 n1 u v w rc tl hM1 qs (by omega) 0 (by decide) h26 (Or.inl rfl)) k_X8_readItem q1429 ⟨rfl, rfl⟩ ⟨Nat.le_of_ble_eq_true rfl, Nat.le_of_ble_eq_true rfl⟩ rfl (Nat.le_of_ble_eq_true rfl) ⟨Nat.le_of_ble_eq_true rfl, Nat.le_of_ble_eq_true rfl⟩ rfl dX8_readAll_24 (fun v24 σ24 hv24 => ?_)
    rcases hv24 with ⟨f24, a24, hm24, hf24, rfl, rfl⟩ | ⟨c24_, i24, hm24, rfl, rfl⟩
    · skip
      refine z_cv (st1 := []) rfl rfl rfl ?_
      rw [hch] at hm24
      refine z_iincN 27 C 2 rd [(2, .int (nI (rd + 1))), (0, .ref (z_ad G 105)), (1, .int (nI 0)), (3, .int (nI 1))] rfl rfl (by decide) rfl dX8_readAll_27 ?_
      refine z_aload_n 30 C dX8_readAll_30 1 rfl ?_
      refine z_getf 31 C 105 z_dX8 (⟨rfl, rfl⟩) 25 (by decide) q991 (.int (nI f24)) z_yU_gfa dX8_readAll_31 ?_
      refine z_if_ge 34 C 52 dX8_readAll_34 (by decide) (fun c34 => ?_) (fun c34 => ?_)
      · skip
        refine z_iconst 52 C dX8_readAll_52 (nI 0) rfl ?_
        refine z_istore_n 53 C dX8_readAll_53 [(3, .int (nI 0)), (2, .int (nI (rd + 1))), (0, .ref (z_ad G 105)), (1, .int (nI 0))] (by decide) rfl ?_
        refine z_iload_n 54 C dX8_readAll_54 0 rfl ?_
        refine z_if_eq 55 C 19 dX8_readAll_55 (by decide) (fun c55 => ?_) (fun c55 => ?_)
        · skip
          refine z_iload_n 19 C dX8_readAll_19 0 rfl ?_
          refine z_if_eq 20 C 80 dX8_readAll_20 (by decide) (fun c20 => ?_) (fun c20 => ?_)
          · skip
            refine z_iload_n 80 C dX8_readAll_80 1 rfl ?_
            refine z_iret 81 C dX8_readAll_81 ?_
            exact Or.inl ⟨_, _, _, zt_l28 happ (by omega) hm24, hf24, rfl, by rw [hta]⟩
          · skip
            exact absurd c20 (by decide)
        · skip
          exact absurd c55 (by decide)
      · skip
        exact absurd (zm_nn (by omega)) c34
    · skip
      refine z_cv (st1 := []) rfl rfl rfl ?_
      rw [hch] at hm24
      have hr24 := zt_item_rng hm24
      obtain ⟨P2, n2, hM2⟩ := hM1.dob (d := 0) (zt_item_val hm24)
      have htlT := hM2.1.2.2.2.2.2.2
      refine z_iincN 27 C 2 rd [(2, .int (nI (rd + 1))), (0, .ref (z_ad G 105)), (1, .int (nI 0)), (3, .int (nI 1))] rfl rfl (by decide) rfl dX8_readAll_27 ?_
      refine z_aload_n 30 C dX8_readAll_30 1 rfl ?_
      refine z_getf 31 C 105 z_dX8 (⟨rfl, rfl⟩) 25 (by decide) q991 (.int (-1)) z_yU_gfa dX8_readAll_31 ?_
      refine z_if_ge 34 C 52 dX8_readAll_34 (by decide) (fun c34 => ?_) (fun c34 => ?_)
      · skip
        exact absurd c34 (by decide)
      · skip
        refine z_aload_n 37 C dX8_readAll_37 1 rfl ?_
        refine z_getf 38 C 105 z_dX8 (⟨rfl, rfl⟩) 24 (by decide) q990 (.int (nI c24_)) z_yU_gpl dX8_readAll_38 ?_
        refine z_aload_n 41 C dX8_readAll_41 1 rfl ?_
        refine z_getf 42 C 105 z_dX8 (⟨rfl, rfl⟩) 22 (by decide) q988 (.int (nI tl)) (z_ci htlT) dX8_readAll_42 ?_
        refine z_icmp_geN 45 C c24_ tl rfl rfl (by omega) (by omega) 52 dX8_readAll_45 (by decide) (fun c45 => ?_) (fun c45 => ?_)
        · skip
          refine z_iconst 52 C dX8_readAll_52 (nI 0) rfl ?_
          refine z_istore_n 53 C dX8_readAll_53 [(3, .int (nI 0)), (2, .int (nI (rd + 1))), (0, .ref (z_ad G 105)), (1, .int (nI 0))] (by decide) rfl ?_
          refine z_iload_n 54 C dX8_readAll_54 0 rfl ?_
          refine z_if_eq 55 C 19 dX8_readAll_55 (by decide) (fun c55 => ?_) (fun c55 => ?_)
          · skip
            refine z_iload_n 19 C dX8_readAll_19 0 rfl ?_
            refine z_if_eq 20 C 80 dX8_readAll_20 (by decide) (fun c20 => ?_) (fun c20 => ?_)
            · skip
              refine z_iload_n 80 C dX8_readAll_80 1 rfl ?_
              refine z_iret 81 C dX8_readAll_81 ?_
              exact Or.inr ⟨_, _, zt_l41 happ (by omega) hm24 (by omega), by rw [List.length_append, hpl]; rfl, by rw [zm_dob_0 rfl, hta]⟩
            · skip
              exact absurd c20 (by decide)
          · skip
            exact absurd c55 (by decide)
        · skip
          refine z_iconst 48 C dX8_readAll_48 (nI 1) rfl ?_
          refine z_goto 49 C 53 dX8_readAll_49 (by decide) ?_
          refine z_istore_n 53 C dX8_readAll_53 [(3, .int (nI 1)), (2, .int (nI (rd + 1))), (0, .ref (z_ad G 105)), (1, .int (nI 0))] (by decide) rfl ?_
          refine z_iload_n 54 C dX8_readAll_54 0 rfl ?_
          refine z_if_eq 55 C 19 dX8_readAll_55 (by decide) (fun c55 => ?_) (fun c55 => ?_)
          · skip
            exact absurd c55 (by decide)
          · skip
            refine z_aload_n 58 C dX8_readAll_58 2 rfl ?_
            refine z_bipush 59 C dX8_readAll_59 (nI 59) rfl ?_
            refine z_callV 61 C 105 (⟨rfl, rfl⟩) rfl (As := [.int (nI 59)]) (rest := []) (@m_X8_expect _ _ (zm_dob 0 τ i24) P2 n2 u v w rc tl hM2 c24_ (by omega) (nI 59) (by decide)) k_X8_expect q1454 ⟨rfl, rfl⟩ ⟨Nat.le_of_ble_eq_true rfl, Nat.le_of_ble_eq_true rfl⟩ rfl (Nat.le_of_ble_eq_true rfl) ⟨Nat.le_of_ble_eq_true rfl, Nat.le_of_ble_eq_true rfl⟩ rfl dX8_readAll_61 (fun v61 σ61 hv61 => ?_)
            rcases hv61 with ⟨ht61, rfl, rfl⟩ | ⟨ht61, rfl, rfl⟩
            · skip
              refine z_cv (st1 := []) rfl rfl rfl ?_
              rw [zm_dob_ch, hch] at ht61
              refine z_aload_n 64 C dX8_readAll_64 2 rfl ?_
              refine z_getf 65 C 105 z_dX8 (⟨rfl, rfl⟩) 25 (by decide) q991 (.int (nI c24_)) z_yU_gfa dX8_readAll_65 ?_
              refine z_if_ge 68 C 75 dX8_readAll_68 (by decide) (fun c68 => ?_) (fun c68 => ?_)
              · skip
                refine z_iconst 75 C dX8_readAll_75 (nI 0) rfl ?_
                refine z_istore_n 76 C dX8_readAll_76 [(3, .int (nI 0)), (2, .int (nI (rd + 1))), (0, .ref (z_ad G 105)), (1, .int (nI 0))] (by decide) rfl ?_
                refine z_goto 77 C 19 dX8_readAll_77 (by decide) ?_
                refine z_iload_n 19 C dX8_readAll_19 0 rfl ?_
                refine z_if_eq 20 C 80 dX8_readAll_20 (by decide) (fun c20 => ?_) (fun c20 => ?_)
                · skip
                  refine z_iload_n 80 C dX8_readAll_80 1 rfl ?_
                  refine z_iret 81 C dX8_readAll_81 ?_
                  exact Or.inl ⟨_, _, _, zt_l52 happ (by omega) hm24 (by omega) ht61, by omega, rfl, by rw [zm_dob_0 rfl, hta]⟩
                · skip
                  exact absurd c20 (by decide)
              · skip
                exact absurd (zm_nn (by omega)) c68
            · skip
              refine z_cv (st1 := []) rfl rfl rfl ?_
              have hlt61 := zt_lt ht61 (by decide)
              rw [zm_dob_ch, hch] at ht61
              refine z_aload_n 64 C dX8_readAll_64 2 rfl ?_
              refine z_getf 65 C 105 z_dX8 (⟨rfl, rfl⟩) 25 (by decide) q991 (.int (-1)) z_yU_gfa dX8_readAll_65 ?_
              refine z_if_ge 68 C 75 dX8_readAll_68 (by decide) (fun c68 => ?_) (fun c68 => ?_)
              · skip
                exact absurd c68 (by decide)
              · skip
                refine z_iconst 71 C dX8_readAll_71 (nI 1) rfl ?_
                refine z_goto 72 C 76 dX8_readAll_72 (by decide) ?_
                refine z_istore_n 76 C dX8_readAll_76 [(3, .int (nI 1)), (2, .int (nI (rd + 1))), (0, .ref (z_ad G 105)), (1, .int (nI 0))] (by decide) rfl ?_
                refine z_goto 77 C 19 dX8_readAll_77 (by decide) ?_
                refine z_sub [2, 3, 1, 0] (lv1 := [(0, .ref (z_ad G 105)), (1, .int (nI 0)), (2, .int (nI (rd + 1))), (3, .int (nI 1))]) rfl ?_
                refine z_cv (lv1 := [(0, .ref (z_ad G 105)), (1, .int (nI 0)), (2, .int (nI (rd + 1))), (3, .int (nI 1))]) (st1 := []) (σ1 := z_yU (zm_dob 0 τ i24) (nI (c24_ + 1)) (-1)) rfl rfl rfl ?_
                exact ih_19 (rd + 1) (c24_ + 1) (zm_dob 0 τ i24) P2 n2 (⟨by omega, by omega, by omega, hM2, zm_dob_ch.trans hch, zm_dob_26.trans h26, pre ++ [i24], by rw [List.length_append, hpl]; rfl, zt_lnx happ (by omega) hm24 (by omega) ht61, by rw [zm_dob_0 rfl, hta]⟩) (by omega)
set_option maxRecDepth 100000 in
set_option maxHeartbeats 4000000 in
theorem m_X8_readAll_d {l : Launch} {G : z_Gl} {σ : z_St} (P n u v w rc tl : Nat) (hM : z_mi σ P n u v w rc tl) (its : List zt_It) (hal : zt_all (σ.1 118) tl (tl + 1) 0 = .inr its) : z_M l G yX8_readAll cX8_readAll 4 (some .int) (z_rm 5 122) [.ref (z_ad G 105), .int (nI 1)] σ (fun v_ σ1 => ∃ a : Int32, v_ = some (.int (nI its.length)) ∧ σ1 = z_yU (zm_obs (z_ui σ 105 26 (nI 1)) its) a (-1)) := by
  refine z_M.of (by decide) (Nat.le_of_ble_eq_true rfl) (fun p e s m below meth c C => ?_)
  refine z_sub [0, 1] (lv1 := [(0, .ref (z_ad G 105)), (1, .int (nI 1))]) rfl ?_
  have hM0 := hM
  obtain ⟨⟨hP, hn, hu, hv, hw, hrc, htl⟩, hPs, hnP, huv, hw6, hrc8, htl2, hqt, hah⟩ := hM0
  have h0 : 0 < P := by omega
  have h12 : P ≤ 12 := by omega
  have h288 : n ≤ 288 := by omega
  have hMs : z_mi (z_ui σ 105 26 (nI 1)) P n u v w rc tl := hM
  refine z_aload_n 0 C dX8_readAll_0 0 rfl ?_
  refine z_iload_n 1 C dX8_readAll_1 1 rfl ?_
  refine z_puti 2 C 105 z_dX8 (⟨rfl, rfl⟩) 26 (by decide) q992 rfl (rfl) rfl ⟨Nat.le_of_ble_eq_true rfl, rfl⟩ dX8_readAll_2 ?_
  refine z_cv (lv1 := [(0, .ref (z_ad G 105)), (1, .int (nI 1))]) (st1 := []) (σ1 := z_yU (z_ui σ 105 26 (nI 1)) ((z_ui σ 105 26 (nI 1)).1 105 24) ((z_ui σ 105 26 (nI 1)).1 105 25)) rfl rfl z_yU_self.symm ?_
  refine z_aload_n 5 C dX8_readAll_5 0 rfl ?_
  refine z_iconst 6 C dX8_readAll_6 (nI 0) rfl ?_
  refine z_puti 7 C 105 z_dX8 (⟨rfl, rfl⟩) 24 (by decide) q990 rfl (rfl) rfl z_yU_hpl dX8_readAll_7 ?_
  refine z_cv (σ1 := z_yU (z_ui σ 105 26 (nI 1)) (nI 0) ((z_ui σ 105 26 (nI 1)).1 105 25)) rfl rfl z_yU_ppl ?_
  refine z_aload_n 10 C dX8_readAll_10 0 rfl ?_
  refine z_iconst 11 C dX8_readAll_11 (-1) rfl ?_
  refine z_puti 12 C 105 z_dX8 (⟨rfl, rfl⟩) 25 (by decide) q991 rfl (rfl) rfl z_yU_hfa dX8_readAll_12 ?_
  refine z_cv (σ1 := z_yU (z_ui σ 105 26 (nI 1)) (nI 0) (-1)) rfl rfl z_yU_pfa ?_
  refine z_iconst 15 C dX8_readAll_15 (nI 0) rfl ?_
  refine z_istore_n 16 C dX8_readAll_16 [(2, .int (nI 0)), (0, .ref (z_ad G 105)), (1, .int (nI 1))] (by decide) rfl ?_
  refine z_iconst 17 C dX8_readAll_17 (nI 1) rfl ?_
  refine z_istore_n 18 C dX8_readAll_18 [(3, .int (nI 1)), (2, .int (nI 0)), (0, .ref (z_ad G 105)), (1, .int (nI 1))] (by decide) rfl ?_
  refine z_sub [2, 3, 1, 0] (lv1 := [(0, .ref (z_ad G 105)), (1, .int (nI 1)), (2, .int (nI 0)), (3, .int (nI 1))]) rfl ?_
  refine z_cv (lv1 := [(0, .ref (z_ad G 105)), (1, .int (nI 1)), (2, .int (nI 0)), (3, .int (nI 1))]) (st1 := []) (σ1 := z_yU (z_ui σ 105 26 (nI 1)) (nI 0) (-1)) rfl rfl rfl ?_
  refine z_lp5 (fun (rd : Nat) (qs : Nat) (τ : z_St) (P1 : Nat) (n1 : Nat) => qs ≤ tl ∧ 3 * rd ≤ qs ∧ rd ≤ tl ∧ z_mi τ P1 n1 u v w rc tl ∧ τ.1 118 = σ.1 118 ∧ τ.1 105 26 = nI 1 ∧ ∃ pre : List zt_It, pre.length = rd ∧ zt_all (σ.1 118) tl (tl + 1) 0 = zt_app pre (zt_all (σ.1 118) tl (tl + 1 - rd) qs) ∧ τ = (zm_obs (z_ui σ 105 26 (nI 1)) pre)) (fun (rd : Nat) (qs : Nat) (τ : z_St) (P1 : Nat) (n1 : Nat) => tl + 1 - rd) (fun (rd : Nat) (qs : Nat) (τ : z_St) (P1 : Nat) (n1 : Nat) => [(0, .ref (z_ad G 105)), (1, .int (nI 1)), (2, .int (nI rd)), (3, .int (nI 1))]) (fun (rd : Nat) (qs : Nat) (τ : z_St) (P1 : Nat) (n1 : Nat) => z_yU τ (nI qs) (-1)) (fun rd qs τ P1 n1 hi_19 ih_19 => ?_) 0 0 (z_ui σ 105 26 (nI 1)) P n (⟨by omega, by omega, by omega, hMs, rfl, rfl, [], rfl, by cases h : zt_all (σ.1 118) tl (tl + 1) 0 with | inl f => simp only [zt_app, Nat.sub_zero, h] | inr r => simp only [zt_app, Nat.sub_zero, h, List.nil_append], rfl⟩)
  try dsimp only
  obtain ⟨hqs, h3q, hrd, hM1, hch, h26, pre, hpl, happ, hta⟩ := hi_19
  refine z_iload_n 19 C dX8_readAll_19 3 rfl ?_
  refine z_if_eq 20 C 80 dX8_readAll_20 (by decide) (fun c20 => ?_) (fun c20 => ?_)
  · skip
    exact absurd c20 (by decide)
  · skip
    refine z_aload_n 23 C dX8_readAll_23 0 rfl ?_
    refine z_callV 24 C 105 (⟨rfl, rfl⟩) rfl (As := []) (rest := []) (@m_X8_readItem _ _ τ P1 n1 u v w rc tl hM1 qs (by omega) 1 (by decide) h26 (by rw [hch]; exact Or.inr (zm_all_i hal happ (by omega)))) k_X8_readItem q1429 ⟨rfl, rfl⟩ ⟨Nat.le_of_ble_eq_true rfl, Nat.le_of_ble_eq_true rfl⟩ rfl (Nat.le_of_ble_eq_true rfl) ⟨Nat.le_of_ble_eq_true rfl, Nat.le_of_ble_eq_true rfl⟩ rfl dX8_readAll_24 (fun v24 σ24 hv24 => ?_)
    rcases hv24 with ⟨f24, a24, hm24, hf24, rfl, rfl⟩ | ⟨c24_, i24, hm24, rfl, rfl⟩
    · skip
      refine z_cv (st1 := []) rfl rfl rfl ?_
      rw [hch] at hm24
      obtain ⟨yy, hyy⟩ := zm_all_i hal happ (by omega)
      rw [hyy] at hm24
      exact absurd hm24 (by simp)
    · skip
      refine z_cv (st1 := []) rfl rfl rfl ?_
      rw [hch] at hm24
      have hr24 := zt_item_rng hm24
      obtain ⟨P2, n2, hM2⟩ := hM1.dob (d := 1) (zt_item_val hm24)
      have htlT := hM2.1.2.2.2.2.2.2
      refine z_iincN 27 C 2 rd [(2, .int (nI (rd + 1))), (0, .ref (z_ad G 105)), (1, .int (nI 1)), (3, .int (nI 1))] rfl rfl (by decide) rfl dX8_readAll_27 ?_
      refine z_aload_n 30 C dX8_readAll_30 1 rfl ?_
      refine z_getf 31 C 105 z_dX8 (⟨rfl, rfl⟩) 25 (by decide) q991 (.int (-1)) z_yU_gfa dX8_readAll_31 ?_
      refine z_if_ge 34 C 52 dX8_readAll_34 (by decide) (fun c34 => ?_) (fun c34 => ?_)
      · skip
        exact absurd c34 (by decide)
      · skip
        refine z_aload_n 37 C dX8_readAll_37 1 rfl ?_
        refine z_getf 38 C 105 z_dX8 (⟨rfl, rfl⟩) 24 (by decide) q990 (.int (nI c24_)) z_yU_gpl dX8_readAll_38 ?_
        refine z_aload_n 41 C dX8_readAll_41 1 rfl ?_
        refine z_getf 42 C 105 z_dX8 (⟨rfl, rfl⟩) 22 (by decide) q988 (.int (nI tl)) (z_ci htlT) dX8_readAll_42 ?_
        refine z_icmp_geN 45 C c24_ tl rfl rfl (by omega) (by omega) 52 dX8_readAll_45 (by decide) (fun c45 => ?_) (fun c45 => ?_)
        · skip
          refine z_iconst 52 C dX8_readAll_52 (nI 0) rfl ?_
          refine z_istore_n 53 C dX8_readAll_53 [(3, .int (nI 0)), (2, .int (nI (rd + 1))), (0, .ref (z_ad G 105)), (1, .int (nI 1))] (by decide) rfl ?_
          refine z_iload_n 54 C dX8_readAll_54 0 rfl ?_
          refine z_if_eq 55 C 19 dX8_readAll_55 (by decide) (fun c55 => ?_) (fun c55 => ?_)
          · skip
            refine z_iload_n 19 C dX8_readAll_19 0 rfl ?_
            refine z_if_eq 20 C 80 dX8_readAll_20 (by decide) (fun c20 => ?_) (fun c20 => ?_)
            · skip
              refine z_iload_n 80 C dX8_readAll_80 1 rfl ?_
              refine z_iret 81 C dX8_readAll_81 ?_
              have ei : its = pre ++ [i24] := Sum.inr.inj (hal.symm.trans (zt_l41 happ (by omega) hm24 (by omega)))
              exact ⟨_, by rw [ei, List.length_append, hpl]; rfl, by rw [zm_dob_1 (by decide), hta, ei, zm_obs_s]⟩
            · skip
              exact absurd c20 (by decide)
          · skip
            exact absurd c55 (by decide)
        · skip
          refine z_iconst 48 C dX8_readAll_48 (nI 1) rfl ?_
          refine z_goto 49 C 53 dX8_readAll_49 (by decide) ?_
          refine z_istore_n 53 C dX8_readAll_53 [(3, .int (nI 1)), (2, .int (nI (rd + 1))), (0, .ref (z_ad G 105)), (1, .int (nI 1))] (by decide) rfl ?_
          refine z_iload_n 54 C dX8_readAll_54 0 rfl ?_
          refine z_if_eq 55 C 19 dX8_readAll_55 (by decide) (fun c55 => ?_) (fun c55 => ?_)
          · skip
            exact absurd c55 (by decide)
          · skip
            refine z_aload_n 58 C dX8_readAll_58 2 rfl ?_
            refine z_bipush 59 C dX8_readAll_59 (nI 59) rfl ?_
            refine z_callV 61 C 105 (⟨rfl, rfl⟩) rfl (As := [.int (nI 59)]) (rest := []) (@m_X8_expect _ _ (zm_dob 1 τ i24) P2 n2 u v w rc tl hM2 c24_ (by omega) (nI 59) (by decide)) k_X8_expect q1454 ⟨rfl, rfl⟩ ⟨Nat.le_of_ble_eq_true rfl, Nat.le_of_ble_eq_true rfl⟩ rfl (Nat.le_of_ble_eq_true rfl) ⟨Nat.le_of_ble_eq_true rfl, Nat.le_of_ble_eq_true rfl⟩ rfl dX8_readAll_61 (fun v61 σ61 hv61 => ?_)
            rcases hv61 with ⟨ht61, rfl, rfl⟩ | ⟨ht61, rfl, rfl⟩
            · skip
              refine z_cv (st1 := []) rfl rfl rfl ?_
              rw [zm_dob_ch, hch] at ht61
              have ew := zt_l52 happ (by omega) hm24 (by omega) ht61
              rw [hal] at ew
              exact absurd ew (by simp)
            · skip
              refine z_cv (st1 := []) rfl rfl rfl ?_
              have hlt61 := zt_lt ht61 (by decide)
              rw [zm_dob_ch, hch] at ht61
              refine z_aload_n 64 C dX8_readAll_64 2 rfl ?_
              refine z_getf 65 C 105 z_dX8 (⟨rfl, rfl⟩) 25 (by decide) q991 (.int (-1)) z_yU_gfa dX8_readAll_65 ?_
              refine z_if_ge 68 C 75 dX8_readAll_68 (by decide) (fun c68 => ?_) (fun c68 => ?_)
              · skip
                exact absurd c68 (by decide)
              · skip
                refine z_iconst 71 C dX8_readAll_71 (nI 1) rfl ?_
                refine z_goto 72 C 76 dX8_readAll_72 (by decide) ?_
                refine z_istore_n 76 C dX8_readAll_76 [(3, .int (nI 1)), (2, .int (nI (rd + 1))), (0, .ref (z_ad G 105)), (1, .int (nI 1))] (by decide) rfl ?_
                refine z_goto 77 C 19 dX8_readAll_77 (by decide) ?_
                refine z_sub [2, 3, 1, 0] (lv1 := [(0, .ref (z_ad G 105)), (1, .int (nI 1)), (2, .int (nI (rd + 1))), (3, .int (nI 1))]) rfl ?_
                refine z_cv (lv1 := [(0, .ref (z_ad G 105)), (1, .int (nI 1)), (2, .int (nI (rd + 1))), (3, .int (nI 1))]) (st1 := []) (σ1 := z_yU (zm_dob 1 τ i24) (nI (c24_ + 1)) (-1)) rfl rfl rfl ?_
                exact ih_19 (rd + 1) (c24_ + 1) (zm_dob 1 τ i24) P2 n2 (⟨by omega, by omega, by omega, hM2, zm_dob_ch.trans hch, zm_dob_26.trans h26, pre ++ [i24], by rw [List.length_append, hpl]; rfl, zt_lnx happ (by omega) hm24 (by omega) ht61, by rw [zm_dob_1 (by decide), hta, zm_obs_s]⟩) (by omega)
/-- all but what the reference's reading of texts leaves anywhere -/
def zm_tx (σ τ : z_St) : Prop := (∀ a, ¬ a = 105 → τ.1 a = σ.1 a) ∧ (∀ k, ¬ (24 ≤ k ∧ k ≤ 26) → τ.1 105 k = σ.1 105 k) ∧ τ.2 = σ.2
def zm_rst (σ : z_St) : z_St := z_ui (z_ui (z_uI σ 119 (z_fil (fun _ => nI 0) (σ.1 119) 48)) 105 28 (nI 0)) 105 29 (nI 0)
theorem zm_tx.refl (σ : z_St) : zm_tx σ σ := ⟨fun _ _ => rfl, fun _ _ => rfl, rfl⟩
theorem zm_tx.trans {σ τ ρ : z_St} (h : zm_tx σ τ) (g : zm_tx τ ρ) : zm_tx σ ρ := ⟨fun a ha => (g.1 a ha).trans (h.1 a ha), fun k hk => (g.2.1 k hk).trans (h.2.1 k hk), g.2.2.trans h.2.2⟩
theorem zm_tx.y (σ : z_St) (pl fa : Int32) : zm_tx σ (z_yU σ pl fa) := by
  refine ⟨fun a ha => by simp [z_yU, ha], fun k hk => ?_, rfl⟩
  have h4 : ¬ k = 24 := by omega
  have h5 : ¬ k = 25 := by omega
  simp [z_yU, h4, h5]
theorem zm_tx.d (σ : z_St) (x : Int32) : zm_tx σ (z_ui σ 105 26 x) := by
  refine ⟨fun a ha => by simp [z_ui, ha], fun k hk => ?_, rfl⟩
  have h4 : ¬ k = 26 := by omega
  simp [z_ui, upd, h4]
theorem zm_tx.ui {σ τ : z_St} (h : zm_tx σ τ) (f : Nat) (x : Int32) : zm_tx (z_ui σ 105 f x) (z_ui τ 105 f x) := by
  refine ⟨fun a ha => by simp [z_ui, ha, h.1 a ha], fun k hk => ?_, h.2.2⟩
  have := h.2.1 k hk
  simp [z_ui, upd, this]
theorem zm_tx.uI {σ τ : z_St} (h : zm_tx σ τ) (f : Nat → Int32) : zm_tx (z_uI σ 119 f) (z_uI τ 119 f) := by
  refine ⟨fun a ha => ?_, fun k hk => by simpa [z_uI] using h.2.1 k hk, h.2.2⟩
  by_cases q : a = 119
  · subst q; simp [z_uI]
  · simp [z_uI, q, h.1 a ha]
theorem zm_tx.ob {σ τ : z_St} (h : zm_tx σ τ) (x : zt_It) : zm_tx (zm_ob σ x) (zm_ob τ x) := by
  unfold zm_ob
  split
  · exact (h.ui 2 _).ui 1 _
  · split
    · exact (h.ui 28 _).ui 29 _
    · rw [h.1 119 (by decide)]
      exact h.uI _
theorem zm_tx.obs (l : List zt_It) : ∀ {σ τ : z_St}, zm_tx σ τ → zm_tx (zm_obs σ l) (zm_obs τ l) := by
  induction l with
  | nil => exact fun h => h
  | cons x l ih => exact fun h => ih (h.ob x)
theorem zm_tx.rst {σ τ : z_St} (h : zm_tx σ τ) : zm_tx (zm_rst σ) (zm_rst τ) := by
  unfold zm_rst
  rw [h.1 119 (by decide)]
  exact ((h.uI _).ui 28 _).ui 29 _
theorem dX8_readText_0 : decode cX8_readText 0 = .ok (.aload_n 0, 1) := by decide +kernel
theorem dX8_readText_1 : decode cX8_readText 1 = .ok (.iconst 0, 1) := by decide +kernel
theorem dX8_readText_2 : decode cX8_readText 2 = .ok (.invokevirtual 341, 3) := by decide +kernel
theorem dX8_readText_5 : decode cX8_readText 5 = .ok (.pop, 1) := by decide +kernel
theorem dX8_readText_6 : decode cX8_readText 6 = .ok (.aload_n 0, 1) := by decide +kernel
theorem dX8_readText_7 : decode cX8_readText 7 = .ok (.getfield 296, 3) := by decide +kernel
theorem dX8_readText_10 : decode cX8_readText 10 = .ok (.ifCond .lt 11, 3) := by decide +kernel
theorem dX8_readText_13 : decode cX8_readText 13 = .ok (.bipush (-100), 2) := by decide +kernel
theorem dX8_readText_15 : decode cX8_readText 15 = .ok (.aload_n 0, 1) := by decide +kernel
theorem dX8_readText_16 : decode cX8_readText 16 = .ok (.getfield 296, 3) := by decide +kernel
theorem dX8_readText_19 : decode cX8_readText 19 = .ok (.isub, 1) := by decide +kernel
theorem dX8_readText_20 : decode cX8_readText 20 = .ok (.ireturn, 1) := by decide +kernel
theorem dX8_readText_21 : decode cX8_readText 21 = .ok (.iconst 0, 1) := by decide +kernel
theorem dX8_readText_22 : decode cX8_readText 22 = .ok (.istore_n 1, 1) := by decide +kernel
theorem dX8_readText_23 : decode cX8_readText 23 = .ok (.iload_n 1, 1) := by decide +kernel
theorem dX8_readText_24 : decode cX8_readText 24 = .ok (.bipush 48, 2) := by decide +kernel
theorem dX8_readText_26 : decode cX8_readText 26 = .ok (.if_icmp .ge 16, 3) := by decide +kernel
theorem dX8_readText_29 : decode cX8_readText 29 = .ok (.aload_n 0, 1) := by decide +kernel
theorem dX8_readText_30 : decode cX8_readText 30 = .ok (.getfield 57, 3) := by decide +kernel
theorem dX8_readText_33 : decode cX8_readText 33 = .ok (.iload_n 1, 1) := by decide +kernel
theorem dX8_readText_34 : decode cX8_readText 34 = .ok (.iconst 0, 1) := by decide +kernel
theorem dX8_readText_35 : decode cX8_readText 35 = .ok (.iastore, 1) := by decide +kernel
theorem dX8_readText_36 : decode cX8_readText 36 = .ok (.iinc 1 1, 3) := by decide +kernel
theorem dX8_readText_39 : decode cX8_readText 39 = .ok (.goto (-16), 3) := by decide +kernel
theorem dX8_readText_42 : decode cX8_readText 42 = .ok (.aload_n 0, 1) := by decide +kernel
theorem dX8_readText_43 : decode cX8_readText 43 = .ok (.iconst 0, 1) := by decide +kernel
theorem dX8_readText_44 : decode cX8_readText 44 = .ok (.putfield 344, 3) := by decide +kernel
theorem dX8_readText_47 : decode cX8_readText 47 = .ok (.aload_n 0, 1) := by decide +kernel
theorem dX8_readText_48 : decode cX8_readText 48 = .ok (.iconst 0, 1) := by decide +kernel
theorem dX8_readText_49 : decode cX8_readText 49 = .ok (.putfield 347, 3) := by decide +kernel
theorem dX8_readText_52 : decode cX8_readText 52 = .ok (.aload_n 0, 1) := by decide +kernel
theorem dX8_readText_53 : decode cX8_readText 53 = .ok (.iconst 1, 1) := by decide +kernel
theorem dX8_readText_54 : decode cX8_readText 54 = .ok (.invokevirtual 341, 3) := by decide +kernel
theorem dX8_readText_57 : decode cX8_readText 57 = .ok (.ireturn, 1) := by decide +kernel
set_option maxRecDepth 100000 in
set_option maxHeartbeats 4000000 in
theorem m_X8_readText {l : Launch} {G : z_Gl} {σ : z_St} (P n u v w rc tl : Nat) (hM : z_mi σ P n u v w rc tl) : z_M l G yX8_readText cX8_readText 2 (some .int) (z_rm 6 145) [.ref (z_ad G 105)] σ (fun v_ σ1 => (∃ f : Nat, zt_all (σ.1 118) tl (tl + 1) 0 = .inl f ∧ f ≤ tl ∧ v_ = some (.int ((-100) - nI f)) ∧ zm_tx σ σ1) ∨ (∃ its : List zt_It, zt_all (σ.1 118) tl (tl + 1) 0 = .inr its ∧ v_ = some (.int (nI its.length)) ∧ zm_tx (zm_obs (zm_rst σ) its) σ1)) := by
  refine z_M.of (by decide) (Nat.le_of_ble_eq_true rfl) (fun p e s m below meth c C => ?_)
  refine z_sub [0] (lv1 := [(0, .ref (z_ad G 105))]) rfl ?_
  have hM0 := hM
  obtain ⟨⟨hP, hn, hu, hv, hw, hrc, htl⟩, hPs, hnP, huv, hw6, hrc8, htl2, hqt, hah⟩ := hM0
  have h0 : 0 < P := by omega
  have h12 : P ≤ 12 := by omega
  have h288 : n ≤ 288 := by omega
  refine z_aload_n 0 C dX8_readText_0 0 rfl ?_
  refine z_iconst 1 C dX8_readText_1 (nI 0) rfl ?_
  refine z_callV 2 C 105 (⟨rfl, rfl⟩) rfl (As := [.int (nI 0)]) (rest := []) (m_X8_readAll P n u v w rc tl hM) k_X8_readAll q1425 ⟨rfl, rfl⟩ ⟨Nat.le_of_ble_eq_true rfl, Nat.le_of_ble_eq_true rfl⟩ rfl (Nat.le_of_ble_eq_true rfl) ⟨Nat.le_of_ble_eq_true rfl, Nat.le_of_ble_eq_true rfl⟩ rfl dX8_readText_2 (fun v2 σ2 hv2 => ?_)
  rcases hv2 with ⟨f2, a2, b2, hm2, hf2, rfl, rfl⟩ | ⟨its, a2, hm2, rfl, rfl⟩
  · skip
    refine z_cv (st1 := [.int b2]) rfl rfl rfl ?_
    refine z_pop 5 C dX8_readText_5 rfl ?_
    refine z_aload_n 6 C dX8_readText_6 0 rfl ?_
    refine z_getf 7 C 105 z_dX8 (⟨rfl, rfl⟩) 25 (by decide) q991 (.int (nI f2)) rfl dX8_readText_7 ?_
    refine z_if_lt 10 C 21 dX8_readText_10 (by decide) (fun c10 => ?_) (fun c10 => ?_)
    · skip
      exact absurd c10 (Int32.not_lt.mpr (zm_nn (by omega)))
    · skip
      refine z_bipush 13 C dX8_readText_13 (-100) rfl ?_
      refine z_aload_n 15 C dX8_readText_15 0 rfl ?_
      refine z_getf 16 C 105 z_dX8 (⟨rfl, rfl⟩) 25 (by decide) q991 (.int (nI f2)) rfl dX8_readText_16 ?_
      refine z_isub 19 C dX8_readText_19 ?_
      refine z_iret 20 C dX8_readText_20 ?_
      exact Or.inl ⟨f2, hm2, hf2, rfl, (zm_tx.d σ _).trans (zm_tx.y _ _ _)⟩
  · skip
    refine z_cv (st1 := [.int (nI its.length)]) rfl rfl rfl ?_
    refine z_pop 5 C dX8_readText_5 rfl ?_
    refine z_aload_n 6 C dX8_readText_6 0 rfl ?_
    refine z_getf 7 C 105 z_dX8 (⟨rfl, rfl⟩) 25 (by decide) q991 (.int (-1)) rfl dX8_readText_7 ?_
    refine z_if_lt 10 C 21 dX8_readText_10 (by decide) (fun c10 => ?_) (fun c10 => ?_)
    · skip
      refine z_iconst 21 C dX8_readText_21 (nI 0) rfl ?_
      refine z_istore_n 22 C dX8_readText_22 [(1, .int (nI 0)), (0, .ref (z_ad G 105))] (by decide) rfl ?_
      refine z_sub [1, 0] (lv1 := [(0, .ref (z_ad G 105)), (1, .int (nI 0))]) rfl ?_
      refine z_cv (lv1 := [(0, .ref (z_ad G 105)), (1, .int (nI 0))]) (st1 := []) (σ1 := z_uI (z_yU (z_ui σ 105 26 (nI 0)) a2 (-1)) 119 (z_fil (fun _ => nI 0) (σ.1 119) 0)) rfl rfl (by rw [z_fil_0]; exact (z_uI_same (z_yU (z_ui σ 105 26 (nI 0)) a2 (-1)) 119).symm) ?_
      refine z_lp1 (fun (k : Nat) => k ≤ 48) (fun (k : Nat) => 48 - k) (fun (k : Nat) => [(0, .ref (z_ad G 105)), (1, .int (nI k))]) (fun (k : Nat) => z_uI (z_yU (z_ui σ 105 26 (nI 0)) a2 (-1)) 119 (z_fil (fun _ => nI 0) (σ.1 119) k)) (fun k hi_23 ih_23 => ?_) 0 (by omega)
      try dsimp only
      refine z_iload_n 23 C dX8_readText_23 1 rfl ?_
      refine z_bipush 24 C dX8_readText_24 (nI 48) rfl ?_
      refine z_icmp_geN 26 C k 48 rfl rfl (by omega) (by omega) 42 dX8_readText_26 (by decide) (fun c26 => ?_) (fun c26 => ?_)
      · skip
        have ek : k = 48 := by omega
        subst ek
        refine z_aload_n 42 C dX8_readText_42 0 rfl ?_
        refine z_iconst 43 C dX8_readText_43 (nI 0) rfl ?_
        refine z_puti 44 C 105 z_dX8 (⟨rfl, rfl⟩) 28 (by decide) q994 rfl (rfl) rfl ⟨Nat.le_of_ble_eq_true rfl, rfl⟩ dX8_readText_44 ?_
        refine z_aload_n 47 C dX8_readText_47 0 rfl ?_
        refine z_iconst 48 C dX8_readText_48 (nI 0) rfl ?_
        refine z_puti 49 C 105 z_dX8 (⟨rfl, rfl⟩) 29 (by decide) q995 rfl (rfl) rfl ⟨Nat.le_of_ble_eq_true rfl, rfl⟩ dX8_readText_49 ?_
        refine z_aload_n 52 C dX8_readText_52 0 rfl ?_
        refine z_iconst 53 C dX8_readText_53 (nI 1) rfl ?_
        refine z_callV 54 C 105 (⟨rfl, rfl⟩) rfl (As := [.int (nI 1)]) (rest := []) (m_X8_readAll_d (σ := z_ui (z_ui (z_uI (z_yU (z_ui σ 105 26 (nI 0)) a2 (-1)) 119 (z_fil (fun _ => nI 0) (σ.1 119) 48)) 105 28 (nI 0)) 105 29 (nI 0)) P n u v w rc tl (show z_mi _ P n u v w rc tl from hM) its hm2) k_X8_readAll q1425 ⟨rfl, rfl⟩ ⟨Nat.le_of_ble_eq_true rfl, Nat.le_of_ble_eq_true rfl⟩ rfl (Nat.le_of_ble_eq_true rfl) ⟨Nat.le_of_ble_eq_true rfl, Nat.le_of_ble_eq_true rfl⟩ rfl dX8_readText_54 (fun v54 σ54 hv54 => ?_)
        rcases hv54 with ⟨a53, rfl, rfl⟩
        · skip
          refine z_cv (st1 := [.int (nI its.length)]) rfl rfl rfl ?_
          refine z_iret 57 C dX8_readText_57 ?_
          exact Or.inr ⟨its, hm2, rfl, (zm_tx.obs its ((((zm_tx.d σ _).trans (zm_tx.y _ _ _)).rst).trans (zm_tx.d _ _))).trans (zm_tx.y _ _ _)⟩
      · skip
        refine z_aload_n 29 C dX8_readText_29 0 rfl ?_
        refine z_getf 30 C 105 z_dX8 (⟨rfl, rfl⟩) 27 (by decide) q993 (.ref (z_ad G 119)) rfl dX8_readText_30 ?_
        refine z_iload_n 33 C dX8_readText_33 1 rfl ?_
        refine z_iconst 34 C dX8_readText_34 (nI 0) rfl ?_
        refine z_iastN 35 C 119 (n := 48) (⟨rfl, rfl⟩) k rfl (by omega) (by decide) dX8_readText_35 ?_
        refine z_iincN 36 C 1 k [(1, .int (nI (k + 1))), (0, .ref (z_ad G 105))] rfl rfl (by decide) rfl dX8_readText_36 ?_
        refine z_goto 39 C 23 dX8_readText_39 (by decide) ?_
        refine z_sub [1, 0] (lv1 := [(0, .ref (z_ad G 105)), (1, .int (nI (k + 1)))]) rfl ?_
        refine z_cv (lv1 := [(0, .ref (z_ad G 105)), (1, .int (nI (k + 1)))]) (st1 := []) (σ1 := z_uI (z_yU (z_ui σ 105 26 (nI 0)) a2 (-1)) 119 (z_fil (fun _ => nI 0) (σ.1 119) (k + 1))) rfl rfl (z_filSI (z_yU (z_ui σ 105 26 (nI 0)) a2 (-1)) 119 k (fun _ => nI 0) (σ.1 119) rfl) ?_
        exact ih_23 (k + 1) (by omega) (by omega)
    · skip
      exact absurd (by decide) c10
