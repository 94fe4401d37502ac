/-! THE INSTRUMENT: what circles it fits -/
theorem z_fs_ag {d e : Nat → Int64} (v : Int64) : ∀ (n k : Nat), (∀ j, k ≤ j → j < k + n → d j = e j) → z_fs d v n k = z_fs e v n k
  | 0, _, _ => rfl
  | n + 1, k, h => by
    rw [z_fs, z_fs, h k (Nat.le_refl k) (by omega), z_fs_ag v n (k + 1) (fun j h1 h2 => h j (by omega) (by omega))]
theorem z_fs_24 {d e : Nat → Int64} (h : z_eq24 d e) (v : Int64) : z_fs d v 24 0 = z_fs e v 24 0 := z_fs_ag v 24 0 (fun j _ hj => h j (by omega))
theorem z_cn_ag {d e : Nat → Int64} {g t : Int64} : ∀ {n : Nat}, (∀ k, k < n → d k = e k) → z_cn g d t n = z_cn g e t n
  | 0, _ => rfl
  | n + 1, h => by rw [z_cn, z_cn, z_cn_ag (n := n) (fun k hk => h k (Nat.lt_succ_of_lt hk)), h n (Nat.lt_succ_self n)]
theorem z_ld_ag {d e : Nat → Int64} {g lo : Int64} {c : Nat} (h : z_eq24 d e) : ∀ {n : Nat}, n ≤ 24 → z_ld g lo d c n = z_ld g lo e c n
  | 0, _ => rfl
  | n + 1, hn => by
    rw [z_ld, z_ld, z_ld_ag h (n := n) (by omega), h n (by omega), z_cn_ag (n := 24) h]
/-- the rules that are there are rules -/
def z_ru (σ : z_St) (rc : Nat) : Prop := ∀ i, i < rc → ∃ a b mm : Nat, a ≤ b ∧ b ≤ 12 ∧ mm < 4 ∧ σ.1 45 i = nI a ∧ σ.1 46 i = nI b ∧ σ.1 47 i = nI mm
/-- all that keeps of some lobes is small enough -/
def z_kb (z : Nat → Int64) : Prop := ∀ a b, a ≤ b → b ≤ 12 → zs_hb (z_kl z a (b + 1 - a))
/-- the value of a rule -/
noncomputable def z_rv (f l m : Nat → Int32) (z : Nat → Int64) (i : Nat) : Int64 := z_tp (z_kl z (z_n (f i)) (z_n (l i) + 1 - z_n (f i))) (z_n (m i)) - z_bt (z_kl z (z_n (f i)) (z_n (l i) + 1 - z_n (f i))) (z_n (m i))
theorem z_rv_e {f l m : Nat → Int32} {z : Nat → Int64} {i a b mm : Nat} (ha : f i = nI a) (hb : l i = nI b) (hm : m i = nI mm) (h1 : a ≤ b) (h2 : b ≤ 12) (h3 : mm < 4) : z_rv f l m z i = z_tp (z_kl z a (b + 1 - a)) mm - z_bt (z_kl z a (b + 1 - a)) mm := by
  unfold z_rv
  rw [ha, hb, hm, z_nk (k := a) (by omega), z_nk (k := b) (by omega), z_nk (k := mm) (by omega)]
theorem z_inv.kp {σ τ : z_St} {P n o u v w rc tl : Nat} (h : z_inv σ P n o u v w rc tl) (k : z_kp σ τ) : z_inv τ P n o u v w rc tl := by
  have e : ∀ a, ¬ z_cc a → τ.1 a = σ.1 a := fun a ha => (k.2 a ha).1
  unfold z_inv at h ⊢
  rw [e 1 (by unfold z_cc; omega), e 8 (by unfold z_cc; omega), e 32 (by unfold z_cc; omega), e 44 (by unfold z_cc; omega), e 82 (by unfold z_cc; omega)]
  exact h
/-- the rules that are broken -/
noncomputable def z_vs (V : Nat → Int64) (lim : Nat → Int32) : Nat → Int32
  | 0 => nI 0
  | i + 1 => if (lim i).toInt64 * 1000000 < V i then z_vs V lim i ||| (nI 1 <<< (nI i &&& 31)) else z_vs V lim i
theorem z_vs_1 {V : Nat → Int64} {lim : Nat → Int32} {i : Nat} (h : ¬ V i ≤ (lim i).toInt64 * 1000000) : z_vs V lim (i + 1) = z_vs V lim i ||| (nI 1 <<< (nI i &&& 31)) := if_pos (Int64.not_le.mp h)
theorem z_vs_0 {V : Nat → Int64} {lim : Nat → Int32} {i : Nat} (h : V i ≤ (lim i).toInt64 * 1000000) : z_vs V lim (i + 1) = z_vs V lim i := if_neg (Int64.not_lt.mpr h)
theorem dX7_circleBy_0 : decode cX7_circleBy 0 = .ok (.aload_n 0, 1) := by decide +kernel
theorem dX7_circleBy_1 : decode cX7_circleBy 1 = .ok (.getfield 34, 3) := by decide +kernel
theorem dX7_circleBy_4 : decode cX7_circleBy 4 = .ok (.iload_n 1, 1) := by decide +kernel
theorem dX7_circleBy_5 : decode cX7_circleBy 5 = .ok (.aaload, 1) := by decide +kernel
theorem dX7_circleBy_6 : decode cX7_circleBy 6 = .ok (.astore_n 2, 1) := by decide +kernel
theorem dX7_circleBy_7 : decode cX7_circleBy 7 = .ok (.aload_n 2, 1) := by decide +kernel
theorem dX7_circleBy_8 : decode cX7_circleBy 8 = .ok (.aload_n 0, 1) := by decide +kernel
theorem dX7_circleBy_9 : decode cX7_circleBy 9 = .ok (.getfield 28, 3) := by decide +kernel
theorem dX7_circleBy_12 : decode cX7_circleBy 12 = .ok (.invokevirtual 140, 3) := by decide +kernel
theorem dX7_circleBy_15 : decode cX7_circleBy 15 = .ok (.iload_n 1, 1) := by decide +kernel
theorem dX7_circleBy_16 : decode cX7_circleBy 16 = .ok (.invokevirtual 345, 3) := by decide +kernel
theorem dX7_circleBy_19 : decode cX7_circleBy 19 = .ok (.aload_n 2, 1) := by decide +kernel
theorem dX7_circleBy_20 : decode cX7_circleBy 20 = .ok (.areturn, 1) := by decide +kernel
set_option maxRecDepth 100000 in
set_option maxHeartbeats 4000000 in
theorem m_X7_circleBy {l : Launch} {G : z_Gl} {σ : z_St} (P n o u v w rc tl : Nat) (hI : z_inv σ P n o u v w rc tl) (mm : Nat) (hmm : mm < 4) (hvc : z_vcs σ) (hp : zs_hb (σ.2 (10 + (o + u) % 21))) : z_M l G yX7_circleBy cX7_circleBy 3 (some (.object "RoundnessInstrument$Circle")) (z_rm 5 126) [.ref (z_ad G 0), .int (nI mm)] σ (fun v σ1 => v = some (.ref (z_ad G (89 + 4 * mm))) ∧ z_fit σ (89 + 4 * mm) (σ.2 (10 + (o + u) % 21)) mm σ1) := by
  refine z_M.of (by decide) (Nat.le_of_ble_eq_true rfl) (fun p e s m below meth c C => ?_)
  refine z_sub [0, 1] (lv1 := [(0, .ref (z_ad G 0)), (1, .int (nI mm))]) rfl ?_
  have hI0 := hI
  obtain ⟨⟨hP, hn, ho, hu, hv, hw, hrc, htl⟩, hPs, hnP, ho21, huv, hw6, hrc8, htl2⟩ := hI0
  have h0 : 0 < P := by omega
  have h12 : P ≤ 12 := by omega
  have h288 : n ≤ 288 := by omega
  refine z_aload_n 0 C dX7_circleBy_0 0 rfl ?_
  refine z_getf 1 C 0 z_dX7 (⟨rfl, rfl⟩) 3 (by decide) q342 (.ref (z_ad G 31)) rfl dX7_circleBy_1 ?_
  refine z_iload_n 4 C dX7_circleBy_4 1 rfl ?_
  refine z_aaldN 5 C 31 (n := 4) ⟨Or.inl rfl, rfl⟩ mm (89 + 4 * mm) rfl (by omega) (by decide) rfl dX7_circleBy_5 ?_
  refine z_astore_n 6 C dX7_circleBy_6 [(2, .ref (z_ad G (89 + 4 * mm))), (0, .ref (z_ad G 0)), (1, .int (nI mm))] (by decide) rfl ?_
  refine z_aload_n 7 C dX7_circleBy_7 0 rfl ?_
  refine z_aload_n 8 C dX7_circleBy_8 1 rfl ?_
  refine z_getf 9 C 0 z_dX7 (⟨rfl, rfl⟩) 2 (by decide) q341 (.ref (z_ad G 8)) rfl dX7_circleBy_9 ?_
  refine z_callVN 12 C 8 (⟨rfl, rfl⟩) rfl (As := []) (rest := [.ref (z_ad G (89 + 4 * mm))]) (m_X1_present o u ho hu (by omega) (by omega)) k_X1_present (List.mem_of_getElem? (i := 28) rfl) ⟨rfl, rfl⟩ ⟨Nat.le_of_ble_eq_true rfl, Nat.le_of_ble_eq_true rfl⟩ rfl (Nat.le_of_ble_eq_true rfl) ⟨Nat.le_of_ble_eq_true rfl, Nat.le_of_ble_eq_true rfl⟩ rfl dX7_circleBy_12 (z_k1 ?_)
  refine z_iload_n 15 C dX7_circleBy_15 2 rfl ?_
  refine z_callVN 16 C (89 + 4 * mm) (⟨(z_cC (z_iC_m _ (by omega))).1, by rw [(z_cC (z_iC_m _ (by omega))).2]; rfl⟩) rfl (As := [.ref (z_ad G (10 + (o + u) % 21)), .int (nI mm)]) (rest := []) (m_X0_fit_s (89 + 4 * mm) (z_iC_m _ hmm) (10 + (o + u) % 21) mm (z_rgK _ (by omega)) (by omega) (by omega) (by omega) (by omega) (hvc _ (z_iC_m _ hmm)) (hp)) k_X0_fit (List.mem_of_getElem? (i := 31) rfl) ⟨rfl, rfl⟩ ⟨Nat.le_of_ble_eq_true rfl, Nat.le_of_ble_eq_true rfl⟩ rfl (Nat.le_of_ble_eq_true rfl) ⟨Nat.le_of_ble_eq_true rfl, Nat.le_of_ble_eq_true rfl⟩ rfl dX7_circleBy_16 (fun v16 σ16 hv16 => ?_)
  rcases hv16 with ⟨rfl, hf16⟩
  · skip
    refine z_cv (st1 := []) rfl rfl rfl ?_
    refine z_aload_n 19 C dX7_circleBy_19 0 rfl ?_
    refine z_aret 20 (Or.inl ⟨_, rfl⟩) C dX7_circleBy_20 ?_
    exact ⟨rfl, hf16⟩
theorem dX7_centre_0 : decode cX7_centre 0 = .ok (.iload_n 1, 1) := by decide +kernel
theorem dX7_centre_1 : decode cX7_centre 1 = .ok (.invokestatic 191, 3) := by decide +kernel
theorem dX7_centre_4 : decode cX7_centre 4 = .ok (.ifCond .eq 7, 3) := by decide +kernel
theorem dX7_centre_7 : decode cX7_centre 7 = .ok (.ldc2_w 117, 3) := by decide +kernel
theorem dX7_centre_10 : decode cX7_centre 10 = .ok (.lreturn, 1) := by decide +kernel
theorem dX7_centre_11 : decode cX7_centre 11 = .ok (.aload_n 0, 1) := by decide +kernel
theorem dX7_centre_12 : decode cX7_centre 12 = .ok (.iload_n 1, 1) := by decide +kernel
theorem dX7_centre_13 : decode cX7_centre 13 = .ok (.invokevirtual 194, 3) := by decide +kernel
theorem dX7_centre_16 : decode cX7_centre 16 = .ok (.astore_n 3, 1) := by decide +kernel
theorem dX7_centre_17 : decode cX7_centre 17 = .ok (.iload_n 2, 1) := by decide +kernel
theorem dX7_centre_18 : decode cX7_centre 18 = .ok (.ifCond .eq 10, 3) := by decide +kernel
theorem dX7_centre_21 : decode cX7_centre 21 = .ok (.aload_n 3, 1) := by decide +kernel
theorem dX7_centre_22 : decode cX7_centre 22 = .ok (.getfield 198, 3) := by decide +kernel
theorem dX7_centre_25 : decode cX7_centre 25 = .ok (.goto 7, 3) := by decide +kernel
theorem dX7_centre_28 : decode cX7_centre 28 = .ok (.aload_n 3, 1) := by decide +kernel
theorem dX7_centre_29 : decode cX7_centre 29 = .ok (.getfield 202, 3) := by decide +kernel
theorem dX7_centre_32 : decode cX7_centre 32 = .ok (.lreturn, 1) := by decide +kernel
set_option maxRecDepth 100000 in
set_option maxHeartbeats 4000000 in
theorem m_X7_centre {l : Launch} {G : z_Gl} {σ : z_St} (P n o u v w rc tl : Nat) (hI : z_inv σ P n o u v w rc tl) (x : Int32) (t : Nat) (ht : t < 2) (hvc : z_vcs σ) (hp : zs_hb (σ.2 (10 + (o + u) % 21))) : z_M l G yX7_centre cX7_centre 4 (some .long) (z_rm 6 148) [.ref (z_ad G 0), .int x, .int (nI t)] σ (fun v σ1 => v = some (.long (if x < nI 0 ∨ nI 3 < x then (-9223372036854775808) else if t = 0 then z_cx (σ.2 (10 + (o + u) % 21)) (z_n x) else z_cy (σ.2 (10 + (o + u) % 21)) (z_n x))) ∧ z_kp σ σ1) := by
  refine z_M.of (by decide) (Nat.le_of_ble_eq_true rfl) (fun p e s m below meth c C => ?_)
  refine z_sub [0, 1, 2] (lv1 := [(0, .ref (z_ad G 0)), (1, .int x), (2, .int (nI t))]) rfl ?_
  have hI0 := hI
  obtain ⟨⟨hP, hn, ho, hu, hv, hw, hrc, htl⟩, hPs, hnP, ho21, huv, hw6, hrc8, htl2⟩ := hI0
  have h0 : 0 < P := by omega
  have h12 : P ≤ 12 := by omega
  have h288 : n ≤ 288 := by omega
  refine z_iload_n 0 C dX7_centre_0 1 rfl ?_
  refine z_callS 1 C (As := [.int x]) (rest := []) (m_X7_isNoMethod x) k_X7_isNoMethod q642 ⟨rfl, rfl⟩ ⟨Nat.le_of_ble_eq_true rfl, Nat.le_of_ble_eq_true rfl⟩ rfl (Nat.le_of_ble_eq_true rfl) ⟨Nat.le_of_ble_eq_true rfl, Nat.le_of_ble_eq_true rfl⟩ rfl dX7_centre_1 (z_k1 ?_)
  refine z_if_eqb 4 C 11 dX7_centre_4 (by decide) (fun c4 => ?_) (fun c4 => ?_)
  · skip
    obtain ⟨a, ha, rfl⟩ := z_in0 (by decide) c4
    refine z_aload_n 11 C dX7_centre_11 0 rfl ?_
    refine z_iload_n 12 C dX7_centre_12 1 rfl ?_
    refine z_callV 13 C 0 (⟨rfl, rfl⟩) rfl (As := [.int (nI a)]) (rest := []) (m_X7_circleBy P n o u v w rc tl hI a (by omega) hvc hp) k_X7_circleBy q645 ⟨rfl, rfl⟩ ⟨Nat.le_of_ble_eq_true rfl, Nat.le_of_ble_eq_true rfl⟩ rfl (Nat.le_of_ble_eq_true rfl) ⟨Nat.le_of_ble_eq_true rfl, Nat.le_of_ble_eq_true rfl⟩ rfl dX7_centre_13 (fun v13 σ13 hv13 => ?_)
    rcases hv13 with ⟨rfl, hf⟩
    · skip
      refine z_cv (st1 := [.ref (z_ad G (89 + 4 * a))]) rfl rfl rfl ?_
      have hb : z_iC (89 + 4 * a) := z_iC_m _ (by omega)
      obtain ⟨nc1, pf1, dv1, nr1, hpf1, hdv1, hs1⟩ := id hf
      subst hs1
      refine z_astore_n 16 C dX7_centre_16 [(3, .ref (z_ad G (89 + 4 * a))), (0, .ref (z_ad G 0)), (1, .int (nI a)), (2, .int (nI t))] (by decide) rfl ?_
      refine z_iload_n 17 C dX7_centre_17 3 rfl ?_
      refine z_if_eq 18 C 28 dX7_centre_18 (by decide) (fun c18 => ?_) (fun c18 => ?_)
      · skip
        refine z_aload_n 28 C dX7_centre_28 0 rfl ?_
        refine z_getfN 29 C (89 + 4 * a) z_dX0 (z_cC (z_iC_m _ (by omega))) 5 (by decide) (List.mem_of_getElem? (i := 11) rfl) (.long (z_cx (σ.2 (10 + (o + u) % 21)) a)) (z_cl z_cU_x) dX7_centre_29 ?_
        refine z_lret 32 C dX7_centre_32 ?_
        first | exact ⟨z_cl (by rw [if_neg c4, if_pos ((z_nI0 (by omega)).mp c18), z_nk (k := a) (by omega)]), hf.kp (by omega) hb hvc⟩ | exact ⟨z_cl (by rw [if_neg c4, if_neg (fun z => c18 ((z_nI0 (by omega)).mpr z)), z_nk (k := a) (by omega)]), hf.kp (by omega) hb hvc⟩
      · skip
        refine z_aload_n 21 C dX7_centre_21 0 rfl ?_
        refine z_getfN 22 C (89 + 4 * a) z_dX0 (z_cC (z_iC_m _ (by omega))) 6 (by decide) (List.mem_of_getElem? (i := 12) rfl) (.long (z_cy (σ.2 (10 + (o + u) % 21)) a)) (z_cl z_cU_y) dX7_centre_22 ?_
        refine z_goto 25 C 32 dX7_centre_25 (by decide) ?_
        refine z_lret 32 C dX7_centre_32 ?_
        first | exact ⟨z_cl (by rw [if_neg c4, if_pos ((z_nI0 (by omega)).mp c18), z_nk (k := a) (by omega)]), hf.kp (by omega) hb hvc⟩ | exact ⟨z_cl (by rw [if_neg c4, if_neg (fun z => c18 ((z_nI0 (by omega)).mpr z)), z_nk (k := a) (by omega)]), hf.kp (by omega) hb hvc⟩
  · skip
    refine z_ldc2 7 C dX7_centre_7 q475 ?_
    refine z_lret 10 C dX7_centre_10 ?_
    exact ⟨z_cl (by rw [if_pos c4]), z_kp.refl hvc⟩
theorem dX7_deviation_0 : decode cX7_deviation 0 = .ok (.iload_n 1, 1) := by decide +kernel
theorem dX7_deviation_1 : decode cX7_deviation 1 = .ok (.invokestatic 191, 3) := by decide +kernel
theorem dX7_deviation_4 : decode cX7_deviation 4 = .ok (.ifCond .ne 10, 3) := by decide +kernel
theorem dX7_deviation_7 : decode cX7_deviation 7 = .ok (.iload_n 2, 1) := by decide +kernel
theorem dX7_deviation_8 : decode cX7_deviation 8 = .ok (.invokestatic 108, 3) := by decide +kernel
theorem dX7_deviation_11 : decode cX7_deviation 11 = .ok (.ifCond .eq 7, 3) := by decide +kernel
theorem dX7_deviation_14 : decode cX7_deviation 14 = .ok (.ldc2_w 117, 3) := by decide +kernel
theorem dX7_deviation_17 : decode cX7_deviation 17 = .ok (.lreturn, 1) := by decide +kernel
theorem dX7_deviation_18 : decode cX7_deviation 18 = .ok (.aload_n 0, 1) := by decide +kernel
theorem dX7_deviation_19 : decode cX7_deviation 19 = .ok (.iload_n 1, 1) := by decide +kernel
theorem dX7_deviation_20 : decode cX7_deviation 20 = .ok (.invokevirtual 194, 3) := by decide +kernel
theorem dX7_deviation_23 : decode cX7_deviation 23 = .ok (.getfield 205, 3) := by decide +kernel
theorem dX7_deviation_26 : decode cX7_deviation 26 = .ok (.iload_n 2, 1) := by decide +kernel
theorem dX7_deviation_27 : decode cX7_deviation 27 = .ok (.laload, 1) := by decide +kernel
theorem dX7_deviation_28 : decode cX7_deviation 28 = .ok (.lreturn, 1) := by decide +kernel
set_option maxRecDepth 100000 in
set_option maxHeartbeats 4000000 in
theorem m_X7_deviation {l : Launch} {G : z_Gl} {σ : z_St} (P n o u v w rc tl : Nat) (hI : z_inv σ P n o u v w rc tl) (x : Int32) (y : Int32)  (hvc : z_vcs σ) (hp : zs_hb (σ.2 (10 + (o + u) % 21))) : z_M l G yX7_deviation cX7_deviation 3 (some .long) (z_rm 6 148) [.ref (z_ad G 0), .int x, .int y] σ (fun v σ1 => v = some (.long (if x < nI 0 ∨ nI 3 < x then (-9223372036854775808) else if y < nI 0 ∨ nI 23 < y then (-9223372036854775808) else z_cd (σ.2 (10 + (o + u) % 21)) (z_n x) (z_n y))) ∧ z_kp σ σ1) := by
  refine z_M.of (by decide) (Nat.le_of_ble_eq_true rfl) (fun p e s m below meth c C => ?_)
  refine z_sub [0, 1, 2] (lv1 := [(0, .ref (z_ad G 0)), (1, .int x), (2, .int y)]) rfl ?_
  have hI0 := hI
  obtain ⟨⟨hP, hn, ho, hu, hv, hw, hrc, htl⟩, hPs, hnP, ho21, huv, hw6, hrc8, htl2⟩ := hI0
  have h0 : 0 < P := by omega
  have h12 : P ≤ 12 := by omega
  have h288 : n ≤ 288 := by omega
  refine z_iload_n 0 C dX7_deviation_0 1 rfl ?_
  refine z_callS 1 C (As := [.int x]) (rest := []) (m_X7_isNoMethod x) k_X7_isNoMethod q642 ⟨rfl, rfl⟩ ⟨Nat.le_of_ble_eq_true rfl, Nat.le_of_ble_eq_true rfl⟩ rfl (Nat.le_of_ble_eq_true rfl) ⟨Nat.le_of_ble_eq_true rfl, Nat.le_of_ble_eq_true rfl⟩ rfl dX7_deviation_1 (z_k1 ?_)
  refine z_if_neb 4 C 14 dX7_deviation_4 (by decide) (fun c4 => ?_) (fun c4 => ?_)
  · skip
    refine z_ldc2 14 C dX7_deviation_14 q475 ?_
    refine z_lret 17 C dX7_deviation_17 ?_
    first | exact ⟨z_cl (by rw [if_pos c4]), z_kp.refl hvc⟩ | exact ⟨z_cl (by rw [if_neg c4, if_pos c11]), z_kp.refl hvc⟩
  · skip
    obtain ⟨a, ha, rfl⟩ := z_in0 (by decide) c4
    refine z_iload_n 7 C dX7_deviation_7 2 rfl ?_
    refine z_callS 8 C (As := [.int y]) (rest := []) (m_X7_isNoPosition y) k_X7_isNoPosition q445 ⟨rfl, rfl⟩ ⟨Nat.le_of_ble_eq_true rfl, Nat.le_of_ble_eq_true rfl⟩ rfl (Nat.le_of_ble_eq_true rfl) ⟨Nat.le_of_ble_eq_true rfl, Nat.le_of_ble_eq_true rfl⟩ rfl dX7_deviation_8 (z_k1 ?_)
    refine z_if_eqb 11 C 18 dX7_deviation_11 (by decide) (fun c11 => ?_) (fun c11 => ?_)
    · skip
      obtain ⟨d, hd, rfl⟩ := z_in0 (by decide) c11
      refine z_aload_n 18 C dX7_deviation_18 0 rfl ?_
      refine z_iload_n 19 C dX7_deviation_19 1 rfl ?_
      refine z_callV 20 C 0 (⟨rfl, rfl⟩) rfl (As := [.int (nI a)]) (rest := []) (m_X7_circleBy P n o u v w rc tl hI a (by omega) hvc hp) k_X7_circleBy q645 ⟨rfl, rfl⟩ ⟨Nat.le_of_ble_eq_true rfl, Nat.le_of_ble_eq_true rfl⟩ rfl (Nat.le_of_ble_eq_true rfl) ⟨Nat.le_of_ble_eq_true rfl, Nat.le_of_ble_eq_true rfl⟩ rfl dX7_deviation_20 (fun v20 σ20 hv20 => ?_)
      rcases hv20 with ⟨rfl, hf⟩
      · skip
        refine z_cv (st1 := [.ref (z_ad G (89 + 4 * a))]) rfl rfl rfl ?_
        have hb : z_iC (89 + 4 * a) := z_iC_m _ (by omega)
        obtain ⟨nc1, pf1, dv1, nr1, hpf1, hdv1, hs1⟩ := id hf
        subst hs1
        refine z_getfN 23 C (89 + 4 * a) z_dX0 (z_cC (z_iC_m _ (by omega))) 1 (by decide) (List.mem_of_getElem? (i := 10) rfl) (.ref (z_ad G ((89 + 4 * a) + 2))) rfl dX7_deviation_23 ?_
        refine z_iload_n 26 C dX7_deviation_26 2 rfl ?_
        refine z_laldN 27 C ((89 + 4 * a) + 2) (n := 24) (z_cV hb) d rfl (by omega) (by decide) dX7_deviation_27 ?_
        refine z_cv (st1 := [.long (dv1 d)]) rfl (by rw [z_cU_dv]) rfl ?_
        refine z_lret 28 C dX7_deviation_28 ?_
        exact ⟨z_cl (by rw [if_neg c4, if_neg c11, z_nk (k := a) (by omega), z_nk (k := d) (by omega), hdv1 d (by omega)]), hf.kp (by omega) hb hvc⟩
    · skip
      refine z_ldc2 14 C dX7_deviation_14 q475 ?_
      refine z_lret 17 C dX7_deviation_17 ?_
      first | exact ⟨z_cl (by rw [if_pos c4]), z_kp.refl hvc⟩ | exact ⟨z_cl (by rw [if_neg c4, if_pos c11]), z_kp.refl hvc⟩
theorem dX7_extreme_0 : decode cX7_extreme 0 = .ok (.iload_n 1, 1) := by decide +kernel
theorem dX7_extreme_1 : decode cX7_extreme 1 = .ok (.invokestatic 191, 3) := by decide +kernel
theorem dX7_extreme_4 : decode cX7_extreme 4 = .ok (.ifCond .eq 6, 3) := by decide +kernel
theorem dX7_extreme_7 : decode cX7_extreme 7 = .ok (.ldc 68, 2) := by decide +kernel
theorem dX7_extreme_9 : decode cX7_extreme 9 = .ok (.ireturn, 1) := by decide +kernel
theorem dX7_extreme_10 : decode cX7_extreme 10 = .ok (.aload_n 0, 1) := by decide +kernel
theorem dX7_extreme_11 : decode cX7_extreme 11 = .ok (.iload_n 1, 1) := by decide +kernel
theorem dX7_extreme_12 : decode cX7_extreme 12 = .ok (.invokevirtual 194, 3) := by decide +kernel
theorem dX7_extreme_15 : decode cX7_extreme 15 = .ok (.astore_n 3, 1) := by decide +kernel
theorem dX7_extreme_16 : decode cX7_extreme 16 = .ok (.aload_n 3, 1) := by decide +kernel
theorem dX7_extreme_17 : decode cX7_extreme 17 = .ok (.iload_n 2, 1) := by decide +kernel
theorem dX7_extreme_18 : decode cX7_extreme 18 = .ok (.ifCond .eq 10, 3) := by decide +kernel
theorem dX7_extreme_21 : decode cX7_extreme 21 = .ok (.aload_n 3, 1) := by decide +kernel
theorem dX7_extreme_22 : decode cX7_extreme 22 = .ok (.getfield 215, 3) := by decide +kernel
theorem dX7_extreme_25 : decode cX7_extreme 25 = .ok (.goto 7, 3) := by decide +kernel
theorem dX7_extreme_28 : decode cX7_extreme 28 = .ok (.aload_n 3, 1) := by decide +kernel
theorem dX7_extreme_29 : decode cX7_extreme 29 = .ok (.getfield 218, 3) := by decide +kernel
theorem dX7_extreme_32 : decode cX7_extreme 32 = .ok (.invokevirtual 221, 3) := by decide +kernel
theorem dX7_extreme_35 : decode cX7_extreme 35 = .ok (.ireturn, 1) := by decide +kernel
set_option maxRecDepth 100000 in
set_option maxHeartbeats 4000000 in
theorem m_X7_extreme {l : Launch} {G : z_Gl} {σ : z_St} (P n o u v w rc tl : Nat) (hI : z_inv σ P n o u v w rc tl) (x : Int32) (t : Nat) (ht : t < 2) (hvc : z_vcs σ) (hp : zs_hb (σ.2 (10 + (o + u) % 21))) : z_M l G yX7_extreme cX7_extreme 4 (some .int) (z_rm 6 148) [.ref (z_ad G 0), .int x, .int (nI t)] σ (fun v σ1 => v = some (.int (if x < nI 0 ∨ nI 3 < x then (-1000001) else if t = 0 then nI (z_fs (z_cd (σ.2 (10 + (o + u) % 21)) (z_n x)) (z_bt (σ.2 (10 + (o + u) % 21)) (z_n x)) 24 0) else nI (z_fs (z_cd (σ.2 (10 + (o + u) % 21)) (z_n x)) (z_tp (σ.2 (10 + (o + u) % 21)) (z_n x)) 24 0))) ∧ z_kp σ σ1) := by
  refine z_M.of (by decide) (Nat.le_of_ble_eq_true rfl) (fun p e s m below meth c C => ?_)
  refine z_sub [0, 1, 2] (lv1 := [(0, .ref (z_ad G 0)), (1, .int x), (2, .int (nI t))]) rfl ?_
  have hI0 := hI
  obtain ⟨⟨hP, hn, ho, hu, hv, hw, hrc, htl⟩, hPs, hnP, ho21, huv, hw6, hrc8, htl2⟩ := hI0
  have h0 : 0 < P := by omega
  have h12 : P ≤ 12 := by omega
  have h288 : n ≤ 288 := by omega
  refine z_iload_n 0 C dX7_extreme_0 1 rfl ?_
  refine z_callS 1 C (As := [.int x]) (rest := []) (m_X7_isNoMethod x) k_X7_isNoMethod q642 ⟨rfl, rfl⟩ ⟨Nat.le_of_ble_eq_true rfl, Nat.le_of_ble_eq_true rfl⟩ rfl (Nat.le_of_ble_eq_true rfl) ⟨Nat.le_of_ble_eq_true rfl, Nat.le_of_ble_eq_true rfl⟩ rfl dX7_extreme_1 (z_k1 ?_)
  refine z_if_eqb 4 C 10 dX7_extreme_4 (by decide) (fun c4 => ?_) (fun c4 => ?_)
  · skip
    obtain ⟨a, ha, rfl⟩ := z_in0 (by decide) c4
    refine z_aload_n 10 C dX7_extreme_10 0 rfl ?_
    refine z_iload_n 11 C dX7_extreme_11 1 rfl ?_
    refine z_callV 12 C 0 (⟨rfl, rfl⟩) rfl (As := [.int (nI a)]) (rest := []) (m_X7_circleBy P n o u v w rc tl hI a (by omega) hvc hp) k_X7_circleBy q645 ⟨rfl, rfl⟩ ⟨Nat.le_of_ble_eq_true rfl, Nat.le_of_ble_eq_true rfl⟩ rfl (Nat.le_of_ble_eq_true rfl) ⟨Nat.le_of_ble_eq_true rfl, Nat.le_of_ble_eq_true rfl⟩ rfl dX7_extreme_12 (fun v12 σ12 hv12 => ?_)
    rcases hv12 with ⟨rfl, hf⟩
    · skip
      refine z_cv (st1 := [.ref (z_ad G (89 + 4 * a))]) rfl rfl rfl ?_
      have hb : z_iC (89 + 4 * a) := z_iC_m _ (by omega)
      obtain ⟨nc1, pf1, dv1, nr1, hpf1, hdv1, hs1⟩ := id hf
      subst hs1
      refine z_astore_n 15 C dX7_extreme_15 [(3, .ref (z_ad G (89 + 4 * a))), (0, .ref (z_ad G 0)), (1, .int (nI a)), (2, .int (nI t))] (by decide) rfl ?_
      refine z_aload_n 16 C dX7_extreme_16 0 rfl ?_
      refine z_iload_n 17 C dX7_extreme_17 3 rfl ?_
      refine z_if_eq 18 C 28 dX7_extreme_18 (by decide) (fun c18 => ?_) (fun c18 => ?_)
      · skip
        refine z_aload_n 28 C dX7_extreme_28 0 rfl ?_
        refine z_getfN 29 C (89 + 4 * a) z_dX0 (z_cC (z_iC_m _ (by omega))) 8 (by decide) (List.mem_of_getElem? (i := 14) rfl) (.long (z_bt (σ.2 (10 + (o + u) % 21)) a)) (z_cl z_cU_l) dX7_extreme_29 ?_
        refine z_callVN 32 C (89 + 4 * a) (⟨(z_cC (z_iC_m _ (by omega))).1, by rw [(z_cC (z_iC_m _ (by omega))).2]; rfl⟩) rfl (As := [.long (z_bt (σ.2 (10 + (o + u) % 21)) a)]) (rest := []) (@m_X0_firstWith _ _ σ (89 + 4 * a) (hb) (nI a) nc1 (z_cx (σ.2 (10 + (o + u) % 21)) a) (z_cy (σ.2 (10 + (o + u) % 21)) a) (z_tp (σ.2 (10 + (o + u) % 21)) a) (z_bt (σ.2 (10 + (o + u) % 21)) a) pf1 dv1 nr1 (z_bt (σ.2 (10 + (o + u) % 21)) a)) k_X0_firstWith (List.mem_of_getElem? (i := 36) rfl) ⟨rfl, rfl⟩ ⟨Nat.le_of_ble_eq_true rfl, Nat.le_of_ble_eq_true rfl⟩ rfl (Nat.le_of_ble_eq_true rfl) ⟨Nat.le_of_ble_eq_true rfl, Nat.le_of_ble_eq_true rfl⟩ rfl dX7_extreme_32 (z_k1 ?_)
        refine z_iret 35 C dX7_extreme_35 ?_
        first | exact ⟨z_ci (by rw [if_neg c4, if_pos ((z_nI0 (by omega)).mp c18), z_nk (k := a) (by omega), z_fs_24 hdv1]), hf.kp (by omega) hb hvc⟩ | exact ⟨z_ci (by rw [if_neg c4, if_neg (fun z => c18 ((z_nI0 (by omega)).mpr z)), z_nk (k := a) (by omega), z_fs_24 hdv1]), hf.kp (by omega) hb hvc⟩
      · skip
        refine z_aload_n 21 C dX7_extreme_21 0 rfl ?_
        refine z_getfN 22 C (89 + 4 * a) z_dX0 (z_cC (z_iC_m _ (by omega))) 7 (by decide) (List.mem_of_getElem? (i := 13) rfl) (.long (z_tp (σ.2 (10 + (o + u) % 21)) a)) (z_cl z_cU_g) dX7_extreme_22 ?_
        refine z_goto 25 C 32 dX7_extreme_25 (by decide) ?_
        refine z_callVN 32 C (89 + 4 * a) (⟨(z_cC (z_iC_m _ (by omega))).1, by rw [(z_cC (z_iC_m _ (by omega))).2]; rfl⟩) rfl (As := [.long (z_tp (σ.2 (10 + (o + u) % 21)) a)]) (rest := []) (@m_X0_firstWith _ _ σ (89 + 4 * a) (hb) (nI a) nc1 (z_cx (σ.2 (10 + (o + u) % 21)) a) (z_cy (σ.2 (10 + (o + u) % 21)) a) (z_tp (σ.2 (10 + (o + u) % 21)) a) (z_bt (σ.2 (10 + (o + u) % 21)) a) pf1 dv1 nr1 (z_tp (σ.2 (10 + (o + u) % 21)) a)) k_X0_firstWith (List.mem_of_getElem? (i := 36) rfl) ⟨rfl, rfl⟩ ⟨Nat.le_of_ble_eq_true rfl, Nat.le_of_ble_eq_true rfl⟩ rfl (Nat.le_of_ble_eq_true rfl) ⟨Nat.le_of_ble_eq_true rfl, Nat.le_of_ble_eq_true rfl⟩ rfl dX7_extreme_32 (z_k1 ?_)
        refine z_iret 35 C dX7_extreme_35 ?_
        first | exact ⟨z_ci (by rw [if_neg c4, if_pos ((z_nI0 (by omega)).mp c18), z_nk (k := a) (by omega), z_fs_24 hdv1]), hf.kp (by omega) hb hvc⟩ | exact ⟨z_ci (by rw [if_neg c4, if_neg (fun z => c18 ((z_nI0 (by omega)).mpr z)), z_nk (k := a) (by omega), z_fs_24 hdv1]), hf.kp (by omega) hb hvc⟩
  · skip
    refine z_ldc 7 C dX7_extreme_7 q371 ?_
    refine z_iret 9 C dX7_extreme_9 ?_
    exact ⟨z_ci (by rw [if_pos c4]), z_kp.refl hvc⟩
theorem dX7_materialAt_0 : decode cX7_materialAt 0 = .ok (.iload_n 1, 1) := by decide +kernel
theorem dX7_materialAt_1 : decode cX7_materialAt 1 = .ok (.invokestatic 191, 3) := by decide +kernel
theorem dX7_materialAt_4 : decode cX7_materialAt 4 = .ok (.ifCond .ne 9, 3) := by decide +kernel
theorem dX7_materialAt_7 : decode cX7_materialAt 7 = .ok (.lload_n 2, 1) := by decide +kernel
theorem dX7_materialAt_8 : decode cX7_materialAt 8 = .ok (.lconst 0, 1) := by decide +kernel
theorem dX7_materialAt_9 : decode cX7_materialAt 9 = .ok (.lcmp, 1) := by decide +kernel
theorem dX7_materialAt_10 : decode cX7_materialAt 10 = .ok (.ifCond .ge 6, 3) := by decide +kernel
theorem dX7_materialAt_13 : decode cX7_materialAt 13 = .ok (.ldc 68, 2) := by decide +kernel
theorem dX7_materialAt_15 : decode cX7_materialAt 15 = .ok (.ireturn, 1) := by decide +kernel
theorem dX7_materialAt_16 : decode cX7_materialAt 16 = .ok (.aload_n 0, 1) := by decide +kernel
theorem dX7_materialAt_17 : decode cX7_materialAt 17 = .ok (.iload_n 1, 1) := by decide +kernel
theorem dX7_materialAt_18 : decode cX7_materialAt 18 = .ok (.invokevirtual 194, 3) := by decide +kernel
theorem dX7_materialAt_21 : decode cX7_materialAt 21 = .ok (.lload_n 2, 1) := by decide +kernel
theorem dX7_materialAt_22 : decode cX7_materialAt 22 = .ok (.invokevirtual 227, 3) := by decide +kernel
theorem dX7_materialAt_25 : decode cX7_materialAt 25 = .ok (.ireturn, 1) := by decide +kernel
set_option maxRecDepth 100000 in
set_option maxHeartbeats 4000000 in
theorem m_X7_materialAt {l : Launch} {G : z_Gl} {σ : z_St} (P n o u v w rc tl : Nat) (hI : z_inv σ P n o u v w rc tl) (x : Int32) (dp : Int64)  (hvc : z_vcs σ) (hp : zs_hb (σ.2 (10 + (o + u) % 21))) : z_M l G yX7_materialAt cX7_materialAt 4 (some .int) (z_rm 6 148) [.ref (z_ad G 0), .int x, .long dp] σ (fun v σ1 => v = some (.int (if x < nI 0 ∨ nI 3 < x then (-1000001) else if dp < 0 then (-1000001) else nI (z_cn (z_tp (σ.2 (10 + (o + u) % 21)) (z_n x)) (z_cd (σ.2 (10 + (o + u) % 21)) (z_n x)) dp 24))) ∧ z_kp σ σ1) := by
  refine z_M.of (by decide) (Nat.le_of_ble_eq_true rfl) (fun p e s m below meth c C => ?_)
  refine z_sub [0, 1, 2] (lv1 := [(0, .ref (z_ad G 0)), (1, .int x), (2, .long dp)]) rfl ?_
  have hI0 := hI
  obtain ⟨⟨hP, hn, ho, hu, hv, hw, hrc, htl⟩, hPs, hnP, ho21, huv, hw6, hrc8, htl2⟩ := hI0
  have h0 : 0 < P := by omega
  have h12 : P ≤ 12 := by omega
  have h288 : n ≤ 288 := by omega
  refine z_iload_n 0 C dX7_materialAt_0 1 rfl ?_
  refine z_callS 1 C (As := [.int x]) (rest := []) (m_X7_isNoMethod x) k_X7_isNoMethod q642 ⟨rfl, rfl⟩ ⟨Nat.le_of_ble_eq_true rfl, Nat.le_of_ble_eq_true rfl⟩ rfl (Nat.le_of_ble_eq_true rfl) ⟨Nat.le_of_ble_eq_true rfl, Nat.le_of_ble_eq_true rfl⟩ rfl dX7_materialAt_1 (z_k1 ?_)
  refine z_if_neb 4 C 13 dX7_materialAt_4 (by decide) (fun c4 => ?_) (fun c4 => ?_)
  · skip
    refine z_ldc 13 C dX7_materialAt_13 q371 ?_
    refine z_iret 15 C dX7_materialAt_15 ?_
    first | exact ⟨z_ci (by rw [if_pos c4]), z_kp.refl hvc⟩ | exact ⟨z_ci (by rw [if_neg c4, if_pos (Int64.not_le.mp c9)]), z_kp.refl hvc⟩
  · skip
    obtain ⟨a, ha, rfl⟩ := z_in0 (by decide) c4
    refine z_lload_n 7 C dX7_materialAt_7 2 rfl ?_
    refine z_lconst 8 C dX7_materialAt_8 0 rfl ?_
    refine z_lcmp_ge 9 C 16 dX7_materialAt_9 dX7_materialAt_10 (by decide) (fun c9 => ?_) (fun c9 => ?_)
    · skip
      refine z_aload_n 16 C dX7_materialAt_16 0 rfl ?_
      refine z_iload_n 17 C dX7_materialAt_17 1 rfl ?_
      refine z_callV 18 C 0 (⟨rfl, rfl⟩) rfl (As := [.int (nI a)]) (rest := []) (m_X7_circleBy P n o u v w rc tl hI a (by omega) hvc hp) k_X7_circleBy q645 ⟨rfl, rfl⟩ ⟨Nat.le_of_ble_eq_true rfl, Nat.le_of_ble_eq_true rfl⟩ rfl (Nat.le_of_ble_eq_true rfl) ⟨Nat.le_of_ble_eq_true rfl, Nat.le_of_ble_eq_true rfl⟩ rfl dX7_materialAt_18 (fun v18 σ18 hv18 => ?_)
      rcases hv18 with ⟨rfl, hf⟩
      · skip
        refine z_cv (st1 := [.ref (z_ad G (89 + 4 * a))]) rfl rfl rfl ?_
        have hb : z_iC (89 + 4 * a) := z_iC_m _ (by omega)
        obtain ⟨nc1, pf1, dv1, nr1, hpf1, hdv1, hs1⟩ := id hf
        subst hs1
        refine z_lload_n 21 C dX7_materialAt_21 2 rfl ?_
        refine z_callVN 22 C (89 + 4 * a) (⟨(z_cC (z_iC_m _ (by omega))).1, by rw [(z_cC (z_iC_m _ (by omega))).2]; rfl⟩) rfl (As := [.long dp]) (rest := []) (@m_X0_countDownTo _ _ σ (89 + 4 * a) (hb) (nI a) nc1 (z_cx (σ.2 (10 + (o + u) % 21)) a) (z_cy (σ.2 (10 + (o + u) % 21)) a) (z_tp (σ.2 (10 + (o + u) % 21)) a) (z_bt (σ.2 (10 + (o + u) % 21)) a) pf1 dv1 nr1 dp) k_X0_countDownTo (List.mem_of_getElem? (i := 37) rfl) ⟨rfl, rfl⟩ ⟨Nat.le_of_ble_eq_true rfl, Nat.le_of_ble_eq_true rfl⟩ rfl (Nat.le_of_ble_eq_true rfl) ⟨Nat.le_of_ble_eq_true rfl, Nat.le_of_ble_eq_true rfl⟩ rfl dX7_materialAt_22 (z_k1 ?_)
        refine z_iret 25 C dX7_materialAt_25 ?_
        exact ⟨z_ci (by rw [if_neg c4, if_neg (Int64.not_lt.mpr c9), z_nk (k := a) (by omega), z_cn_ag (n := 24) hdv1]), hf.kp (by omega) hb hvc⟩
    · skip
      refine z_ldc 13 C dX7_materialAt_13 q371 ?_
      refine z_iret 15 C dX7_materialAt_15 ?_
      first | exact ⟨z_ci (by rw [if_pos c4]), z_kp.refl hvc⟩ | exact ⟨z_ci (by rw [if_neg c4, if_pos (Int64.not_le.mp c9)]), z_kp.refl hvc⟩
theorem dX7_depthFor_0 : decode cX7_depthFor 0 = .ok (.iload_n 1, 1) := by decide +kernel
theorem dX7_depthFor_1 : decode cX7_depthFor 1 = .ok (.invokestatic 191, 3) := by decide +kernel
theorem dX7_depthFor_4 : decode cX7_depthFor 4 = .ok (.ifCond .ne 13, 3) := by decide +kernel
theorem dX7_depthFor_7 : decode cX7_depthFor 7 = .ok (.iload_n 2, 1) := by decide +kernel
theorem dX7_depthFor_8 : decode cX7_depthFor 8 = .ok (.iconst 1, 1) := by decide +kernel
theorem dX7_depthFor_9 : decode cX7_depthFor 9 = .ok (.bipush 24, 2) := by decide +kernel
theorem dX7_depthFor_11 : decode cX7_depthFor 11 = .ok (.invokestatic 77, 3) := by decide +kernel
theorem dX7_depthFor_14 : decode cX7_depthFor 14 = .ok (.ifCond .eq 7, 3) := by decide +kernel
theorem dX7_depthFor_17 : decode cX7_depthFor 17 = .ok (.ldc2_w 117, 3) := by decide +kernel
theorem dX7_depthFor_20 : decode cX7_depthFor 20 = .ok (.lreturn, 1) := by decide +kernel
theorem dX7_depthFor_21 : decode cX7_depthFor 21 = .ok (.aload_n 0, 1) := by decide +kernel
theorem dX7_depthFor_22 : decode cX7_depthFor 22 = .ok (.iload_n 1, 1) := by decide +kernel
theorem dX7_depthFor_23 : decode cX7_depthFor 23 = .ok (.invokevirtual 194, 3) := by decide +kernel
theorem dX7_depthFor_26 : decode cX7_depthFor 26 = .ok (.iload_n 2, 1) := by decide +kernel
theorem dX7_depthFor_27 : decode cX7_depthFor 27 = .ok (.invokevirtual 230, 3) := by decide +kernel
theorem dX7_depthFor_30 : decode cX7_depthFor 30 = .ok (.lreturn, 1) := by decide +kernel
set_option maxRecDepth 100000 in
set_option maxHeartbeats 4000000 in
theorem m_X7_depthFor {l : Launch} {G : z_Gl} {σ : z_St} (P n o u v w rc tl : Nat) (hI : z_inv σ P n o u v w rc tl) (x : Int32) (y : Int32)  (hvc : z_vcs σ) (hp : zs_hb (σ.2 (10 + (o + u) % 21))) : z_M l G yX7_depthFor cX7_depthFor 3 (some .long) (z_rm 6 148) [.ref (z_ad G 0), .int x, .int y] σ (fun v σ1 => v = some (.long (if x < nI 0 ∨ nI 3 < x then (-9223372036854775808) else if y < nI 1 ∨ nI 24 < y then (-9223372036854775808) else z_ld (z_tp (σ.2 (10 + (o + u) % 21)) (z_n x)) (z_bt (σ.2 (10 + (o + u) % 21)) (z_n x)) (z_cd (σ.2 (10 + (o + u) % 21)) (z_n x)) (z_n y) 24)) ∧ z_kp σ σ1) := by
  refine z_M.of (by decide) (Nat.le_of_ble_eq_true rfl) (fun p e s m below meth c C => ?_)
  refine z_sub [0, 1, 2] (lv1 := [(0, .ref (z_ad G 0)), (1, .int x), (2, .int y)]) rfl ?_
  have hI0 := hI
  obtain ⟨⟨hP, hn, ho, hu, hv, hw, hrc, htl⟩, hPs, hnP, ho21, huv, hw6, hrc8, htl2⟩ := hI0
  have h0 : 0 < P := by omega
  have h12 : P ≤ 12 := by omega
  have h288 : n ≤ 288 := by omega
  refine z_iload_n 0 C dX7_depthFor_0 1 rfl ?_
  refine z_callS 1 C (As := [.int x]) (rest := []) (m_X7_isNoMethod x) k_X7_isNoMethod q642 ⟨rfl, rfl⟩ ⟨Nat.le_of_ble_eq_true rfl, Nat.le_of_ble_eq_true rfl⟩ rfl (Nat.le_of_ble_eq_true rfl) ⟨Nat.le_of_ble_eq_true rfl, Nat.le_of_ble_eq_true rfl⟩ rfl dX7_depthFor_1 (z_k1 ?_)
  refine z_if_neb 4 C 17 dX7_depthFor_4 (by decide) (fun c4 => ?_) (fun c4 => ?_)
  · skip
    refine z_ldc2 17 C dX7_depthFor_17 q475 ?_
    refine z_lret 20 C dX7_depthFor_20 ?_
    first | exact ⟨z_cl (by rw [if_pos c4]), z_kp.refl hvc⟩ | exact ⟨z_cl (by rw [if_neg c4, if_pos c14]), z_kp.refl hvc⟩
  · skip
    obtain ⟨a, ha, rfl⟩ := z_in0 (by decide) c4
    refine z_iload_n 7 C dX7_depthFor_7 2 rfl ?_
    refine z_iconst 8 C dX7_depthFor_8 (nI 1) rfl ?_
    refine z_bipush 9 C dX7_depthFor_9 (nI 24) rfl ?_
    refine z_callS 11 C (As := [.int y, .int (nI 1), .int (nI 24)]) (rest := []) (m_X7_isOutside y (nI 1) (nI 24)) k_X7_isOutside q380 ⟨rfl, rfl⟩ ⟨Nat.le_of_ble_eq_true rfl, Nat.le_of_ble_eq_true rfl⟩ rfl (Nat.le_of_ble_eq_true rfl) ⟨Nat.le_of_ble_eq_true rfl, Nat.le_of_ble_eq_true rfl⟩ rfl dX7_depthFor_11 (z_k1 ?_)
    refine z_if_eqb 14 C 21 dX7_depthFor_14 (by decide) (fun c14 => ?_) (fun c14 => ?_)
    · skip
      obtain ⟨d, hld, hd, rfl⟩ := z_in1 (by decide) (by decide) c14
      refine z_aload_n 21 C dX7_depthFor_21 0 rfl ?_
      refine z_iload_n 22 C dX7_depthFor_22 1 rfl ?_
      refine z_callV 23 C 0 (⟨rfl, rfl⟩) rfl (As := [.int (nI a)]) (rest := []) (m_X7_circleBy P n o u v w rc tl hI a (by omega) hvc hp) k_X7_circleBy q645 ⟨rfl, rfl⟩ ⟨Nat.le_of_ble_eq_true rfl, Nat.le_of_ble_eq_true rfl⟩ rfl (Nat.le_of_ble_eq_true rfl) ⟨Nat.le_of_ble_eq_true rfl, Nat.le_of_ble_eq_true rfl⟩ rfl dX7_depthFor_23 (fun v23 σ23 hv23 => ?_)
      rcases hv23 with ⟨rfl, hf⟩
      · skip
        refine z_cv (st1 := [.ref (z_ad G (89 + 4 * a))]) rfl rfl rfl ?_
        have hb : z_iC (89 + 4 * a) := z_iC_m _ (by omega)
        obtain ⟨nc1, pf1, dv1, nr1, hpf1, hdv1, hs1⟩ := id hf
        subst hs1
        refine z_iload_n 26 C dX7_depthFor_26 2 rfl ?_
        refine z_callVN 27 C (89 + 4 * a) (⟨(z_cC (z_iC_m _ (by omega))).1, by rw [(z_cC (z_iC_m _ (by omega))).2]; rfl⟩) rfl (As := [.int (nI d)]) (rest := []) (@m_X0_leastDepth _ _ σ (89 + 4 * a) (hb) (nI a) nc1 (z_cx (σ.2 (10 + (o + u) % 21)) a) (z_cy (σ.2 (10 + (o + u) % 21)) a) (z_tp (σ.2 (10 + (o + u) % 21)) a) (z_bt (σ.2 (10 + (o + u) % 21)) a) pf1 dv1 nr1 d (by omega)) k_X0_leastDepth (List.mem_of_getElem? (i := 38) rfl) ⟨rfl, rfl⟩ ⟨Nat.le_of_ble_eq_true rfl, Nat.le_of_ble_eq_true rfl⟩ rfl (Nat.le_of_ble_eq_true rfl) ⟨Nat.le_of_ble_eq_true rfl, Nat.le_of_ble_eq_true rfl⟩ rfl dX7_depthFor_27 (z_k1 ?_)
        refine z_lret 30 C dX7_depthFor_30 ?_
        exact ⟨z_cl (by rw [if_neg c4, if_neg c14, z_nk (k := a) (by omega), z_nk (k := d) (by omega), z_ld_ag hdv1 (Nat.le_refl 24)]), hf.kp (by omega) hb hvc⟩
    · skip
      refine z_ldc2 17 C dX7_depthFor_17 q475 ?_
      refine z_lret 20 C dX7_depthFor_20 ?_
      first | exact ⟨z_cl (by rw [if_pos c4]), z_kp.refl hvc⟩ | exact ⟨z_cl (by rw [if_neg c4, if_pos c14]), z_kp.refl hvc⟩
theorem dX7_valueOfRule_0 : decode cX7_valueOfRule 0 = .ok (.aload_n 0, 1) := by decide +kernel
theorem dX7_valueOfRule_1 : decode cX7_valueOfRule 1 = .ok (.getfield 28, 3) := by decide +kernel
theorem dX7_valueOfRule_4 : decode cX7_valueOfRule 4 = .ok (.invokevirtual 140, 3) := by decide +kernel
theorem dX7_valueOfRule_7 : decode cX7_valueOfRule 7 = .ok (.aload_n 0, 1) := by decide +kernel
theorem dX7_valueOfRule_8 : decode cX7_valueOfRule 8 = .ok (.getfield 48, 3) := by decide +kernel
theorem dX7_valueOfRule_11 : decode cX7_valueOfRule 11 = .ok (.getfield 348, 3) := by decide +kernel
theorem dX7_valueOfRule_14 : decode cX7_valueOfRule 14 = .ok (.iload_n 1, 1) := by decide +kernel
theorem dX7_valueOfRule_15 : decode cX7_valueOfRule 15 = .ok (.iaload, 1) := by decide +kernel
theorem dX7_valueOfRule_16 : decode cX7_valueOfRule 16 = .ok (.aload_n 0, 1) := by decide +kernel
theorem dX7_valueOfRule_17 : decode cX7_valueOfRule 17 = .ok (.getfield 48, 3) := by decide +kernel
theorem dX7_valueOfRule_20 : decode cX7_valueOfRule 20 = .ok (.getfield 351, 3) := by decide +kernel
theorem dX7_valueOfRule_23 : decode cX7_valueOfRule 23 = .ok (.iload_n 1, 1) := by decide +kernel
theorem dX7_valueOfRule_24 : decode cX7_valueOfRule 24 = .ok (.iaload, 1) := by decide +kernel
theorem dX7_valueOfRule_25 : decode cX7_valueOfRule 25 = .ok (.aload_n 0, 1) := by decide +kernel
theorem dX7_valueOfRule_26 : decode cX7_valueOfRule 26 = .ok (.getfield 59, 3) := by decide +kernel
theorem dX7_valueOfRule_29 : decode cX7_valueOfRule 29 = .ok (.invokestatic 159, 3) := by decide +kernel
theorem dX7_valueOfRule_32 : decode cX7_valueOfRule 32 = .ok (.aload_n 0, 1) := by decide +kernel
theorem dX7_valueOfRule_33 : decode cX7_valueOfRule 33 = .ok (.getfield 48, 3) := by decide +kernel
theorem dX7_valueOfRule_36 : decode cX7_valueOfRule 36 = .ok (.getfield 354, 3) := by decide +kernel
theorem dX7_valueOfRule_39 : decode cX7_valueOfRule 39 = .ok (.iload_n 1, 1) := by decide +kernel
theorem dX7_valueOfRule_40 : decode cX7_valueOfRule 40 = .ok (.aaload, 1) := by decide +kernel
theorem dX7_valueOfRule_41 : decode cX7_valueOfRule 41 = .ok (.astore_n 2, 1) := by decide +kernel
theorem dX7_valueOfRule_42 : decode cX7_valueOfRule 42 = .ok (.aload_n 2, 1) := by decide +kernel
theorem dX7_valueOfRule_43 : decode cX7_valueOfRule 43 = .ok (.aload_n 0, 1) := by decide +kernel
theorem dX7_valueOfRule_44 : decode cX7_valueOfRule 44 = .ok (.getfield 59, 3) := by decide +kernel
theorem dX7_valueOfRule_47 : decode cX7_valueOfRule 47 = .ok (.aload_n 0, 1) := by decide +kernel
theorem dX7_valueOfRule_48 : decode cX7_valueOfRule 48 = .ok (.getfield 48, 3) := by decide +kernel
theorem dX7_valueOfRule_51 : decode cX7_valueOfRule 51 = .ok (.getfield 355, 3) := by decide +kernel
theorem dX7_valueOfRule_54 : decode cX7_valueOfRule 54 = .ok (.iload_n 1, 1) := by decide +kernel
theorem dX7_valueOfRule_55 : decode cX7_valueOfRule 55 = .ok (.iaload, 1) := by decide +kernel
theorem dX7_valueOfRule_56 : decode cX7_valueOfRule 56 = .ok (.invokevirtual 345, 3) := by decide +kernel
theorem dX7_valueOfRule_59 : decode cX7_valueOfRule 59 = .ok (.aload_n 2, 1) := by decide +kernel
theorem dX7_valueOfRule_60 : decode cX7_valueOfRule 60 = .ok (.invokevirtual 210, 3) := by decide +kernel
theorem dX7_valueOfRule_63 : decode cX7_valueOfRule 63 = .ok (.lreturn, 1) := by decide +kernel
set_option maxRecDepth 100000 in
set_option maxHeartbeats 4000000 in
theorem m_X7_valueOfRule {l : Launch} {G : z_Gl} {σ : z_St} (P n o u v w rc tl : Nat) (hI : z_inv σ P n o u v w rc tl) (i : Nat) (hi : i < rc) (hvc : z_vcs σ) (hru : z_ru σ rc) (hkb : z_kb (σ.2 (10 + (o + u) % 21))) : z_M l G yX7_valueOfRule cX7_valueOfRule 3 (some .long) (z_rm 5 126) [.ref (z_ad G 0), .int (nI i)] σ (fun v σ1 => v = some (.long (z_rv (σ.1 45) (σ.1 46) (σ.1 47) (σ.2 (10 + (o + u) % 21)) i)) ∧ z_kp σ σ1) := by
  refine z_M.of (by decide) (Nat.le_of_ble_eq_true rfl) (fun p e s m below meth c C => ?_)
  refine z_sub [0, 1] (lv1 := [(0, .ref (z_ad G 0)), (1, .int (nI i))]) rfl ?_
  have hI0 := hI
  obtain ⟨⟨hP, hn, ho, hu, hv, hw, hrc, htl⟩, hPs, hnP, ho21, huv, hw6, hrc8, htl2⟩ := hI0
  have h0 : 0 < P := by omega
  have h12 : P ≤ 12 := by omega
  have h288 : n ≤ 288 := by omega
  obtain ⟨a, b, mm, hab, hb12, hmm, ha, hbb, hm4⟩ := hru i hi
  refine z_aload_n 0 C dX7_valueOfRule_0 0 rfl ?_
  refine z_getf 1 C 0 z_dX7 (⟨rfl, rfl⟩) 2 (by decide) q341 (.ref (z_ad G 8)) rfl dX7_valueOfRule_1 ?_
  refine z_callVN 4 C 8 (⟨rfl, rfl⟩) rfl (As := []) (rest := []) (m_X1_present o u ho hu (by omega) (by omega)) k_X1_present (List.mem_of_getElem? (i := 28) rfl) ⟨rfl, rfl⟩ ⟨Nat.le_of_ble_eq_true rfl, Nat.le_of_ble_eq_true rfl⟩ rfl (Nat.le_of_ble_eq_true rfl) ⟨Nat.le_of_ble_eq_true rfl, Nat.le_of_ble_eq_true rfl⟩ rfl dX7_valueOfRule_4 (z_k1 ?_)
  refine z_aload_n 7 C dX7_valueOfRule_7 0 rfl ?_
  refine z_getf 8 C 0 z_dX7 (⟨rfl, rfl⟩) 5 (by decide) q344 (.ref (z_ad G 44)) rfl dX7_valueOfRule_8 ?_
  refine z_getfN 11 C 44 z_dX3 (⟨rfl, rfl⟩) 0 (by decide) (List.mem_of_getElem? (i := 15) rfl) (.ref (z_ad G 45)) rfl dX7_valueOfRule_11 ?_
  refine z_iload_n 14 C dX7_valueOfRule_14 1 rfl ?_
  refine z_ialdN 15 C 45 (n := 8) (⟨rfl, rfl⟩) i rfl (by omega) (by decide) dX7_valueOfRule_15 ?_
  refine z_cv (lv1 := [(0, .ref (z_ad G 0)), (1, .int (nI i))]) (st1 := [.int (nI a), .ref (z_ad G (10 + (o + u) % 21))]) (σ1 := σ) rfl (by rw [ha]) rfl ?_
  refine z_aload_n 16 C dX7_valueOfRule_16 0 rfl ?_
  refine z_getf 17 C 0 z_dX7 (⟨rfl, rfl⟩) 5 (by decide) q344 (.ref (z_ad G 44)) rfl dX7_valueOfRule_17 ?_
  refine z_getfN 20 C 44 z_dX3 (⟨rfl, rfl⟩) 1 (by decide) (List.mem_of_getElem? (i := 16) rfl) (.ref (z_ad G 46)) rfl dX7_valueOfRule_20 ?_
  refine z_iload_n 23 C dX7_valueOfRule_23 1 rfl ?_
  refine z_ialdN 24 C 46 (n := 8) (⟨rfl, rfl⟩) i rfl (by omega) (by decide) dX7_valueOfRule_24 ?_
  refine z_cv (lv1 := [(0, .ref (z_ad G 0)), (1, .int (nI i))]) (st1 := [.int (nI b), .int (nI a), .ref (z_ad G (10 + (o + u) % 21))]) (σ1 := σ) rfl (by rw [hbb]) rfl ?_
  refine z_aload_n 25 C dX7_valueOfRule_25 0 rfl ?_
  refine z_getf 26 C 0 z_dX7 (⟨rfl, rfl⟩) 7 (by decide) q346 (.ref (z_ad G 88)) rfl dX7_valueOfRule_26 ?_
  refine z_callS 29 C (As := [.ref (z_ad G (10 + (o + u) % 21)), .int (nI a), .int (nI b), .ref (z_ad G 88)]) (rest := []) (m_X7_copyLobes (10 + (o + u) % 21) a b 88 (z_rgK _ (by omega)) (⟨rfl, rfl⟩) (z_c88 _) (by omega) (by omega)) k_X7_copyLobes q581 ⟨rfl, rfl⟩ ⟨Nat.le_of_ble_eq_true rfl, Nat.le_of_ble_eq_true rfl⟩ rfl (Nat.le_of_ble_eq_true rfl) ⟨Nat.le_of_ble_eq_true rfl, Nat.le_of_ble_eq_true rfl⟩ rfl dX7_valueOfRule_29 (z_k0 ?_)
  refine z_aload_n 32 C dX7_valueOfRule_32 0 rfl ?_
  refine z_getf 33 C 0 z_dX7 (⟨rfl, rfl⟩) 5 (by decide) q344 (.ref (z_ad G 44)) rfl dX7_valueOfRule_33 ?_
  refine z_getfN 36 C 44 z_dX3 (⟨rfl, rfl⟩) 4 (by decide) (List.mem_of_getElem? (i := 19) rfl) (.ref (z_ad G 49)) rfl dX7_valueOfRule_36 ?_
  refine z_iload_n 39 C dX7_valueOfRule_39 1 rfl ?_
  refine z_aaldN 40 C 49 (n := 8) ⟨Or.inl rfl, rfl⟩ i (50 + 4 * i) rfl (by omega) (by decide) rfl dX7_valueOfRule_40 ?_
  refine z_astore_n 41 C dX7_valueOfRule_41 [(2, .ref (z_ad G (50 + 4 * i))), (0, .ref (z_ad G 0)), (1, .int (nI i))] (by decide) rfl ?_
  refine z_aload_n 42 C dX7_valueOfRule_42 0 rfl ?_
  refine z_aload_n 43 C dX7_valueOfRule_43 1 rfl ?_
  refine z_getf 44 C 0 z_dX7 (⟨rfl, rfl⟩) 7 (by decide) q346 (.ref (z_ad G 88)) rfl dX7_valueOfRule_44 ?_
  refine z_aload_n 47 C dX7_valueOfRule_47 1 rfl ?_
  refine z_getf 48 C 0 z_dX7 (⟨rfl, rfl⟩) 5 (by decide) q344 (.ref (z_ad G 44)) rfl dX7_valueOfRule_48 ?_
  refine z_getfN 51 C 44 z_dX3 (⟨rfl, rfl⟩) 2 (by decide) (List.mem_of_getElem? (i := 17) rfl) (.ref (z_ad G 47)) rfl dX7_valueOfRule_51 ?_
  refine z_iload_n 54 C dX7_valueOfRule_54 2 rfl ?_
  refine z_ialdN 55 C 47 (n := 8) (⟨rfl, rfl⟩) i rfl (by omega) (by decide) dX7_valueOfRule_55 ?_
  refine z_cv (st1 := [.int (σ.1 47 i), .ref (z_ad G 88), .ref (z_ad G (50 + 4 * i))]) rfl rfl rfl ?_
  refine z_cv (lv1 := [(2, .ref (z_ad G (50 + 4 * i))), (0, .ref (z_ad G 0)), (1, .int (nI i))]) (st1 := [.int (nI mm), .ref (z_ad G 88), .ref (z_ad G (50 + 4 * i))]) (σ1 := z_uL σ 88 (z_fil (z_kl (σ.2 (10 + (o + u) % 21)) a (b + 1 - a)) (σ.2 88) 24)) rfl (by rw [hm4]) rfl ?_
  refine z_callVN 56 C (50 + 4 * i) (⟨(z_cC (z_iC_r _ (by omega))).1, by rw [(z_cC (z_iC_r _ (by omega))).2]; rfl⟩) rfl (As := [.ref (z_ad G 88), .int (nI mm)]) (rest := []) (m_X0_fit_s (σ := z_uL σ 88 (z_fil (z_kl (σ.2 (10 + (o + u) % 21)) a (b + 1 - a)) (σ.2 88) 24)) (50 + 4 * i) (z_iC_r _ (by omega)) 88 mm (⟨rfl, rfl⟩) (by omega) (by omega) (by omega) (by omega) (hvc.u88 _ (z_iC_r _ (by omega))) (by rw [z_uL2s]; exact zs_hb_ag z_eq24_fil (hkb a b hab hb12))) k_X0_fit (List.mem_of_getElem? (i := 31) rfl) ⟨rfl, rfl⟩ ⟨Nat.le_of_ble_eq_true rfl, Nat.le_of_ble_eq_true rfl⟩ rfl (Nat.le_of_ble_eq_true rfl) ⟨Nat.le_of_ble_eq_true rfl, Nat.le_of_ble_eq_true rfl⟩ rfl dX7_valueOfRule_56 (fun v56 σ56 hv56 => ?_)
  rcases hv56 with ⟨rfl, hf56⟩
  · skip
    refine z_cv (st1 := []) rfl rfl rfl ?_
    rw [z_uL2s] at hf56
    have hb := z_iC_r i (by omega)
    have hk0 := (z_kp.u88 (f := z_fil (z_kl (σ.2 (10 + (o + u) % 21)) a (b + 1 - a)) (σ.2 88) 24) hvc).trans (hf56.kp hmm hb hvc.u88)
    obtain ⟨nc1, pf1, dv1, nr1, hpf1, hdv1, hs1⟩ := id hf56
    subst hs1
    refine z_aload_n 59 C dX7_valueOfRule_59 0 rfl ?_
    refine z_callVN 60 C (50 + 4 * i) (⟨(z_cC (z_iC_r _ (by omega))).1, by rw [(z_cC (z_iC_r _ (by omega))).2]; rfl⟩) rfl (As := []) (rest := []) (@m_X0_width _ _ (z_uL σ 88 (z_fil (z_kl (σ.2 (10 + (o + u) % 21)) a (b + 1 - a)) (σ.2 88) 24)) (50 + 4 * i) (hb) (nI mm) nc1 (z_cx (z_fil (z_kl (σ.2 (10 + (o + u) % 21)) a (b + 1 - a)) (σ.2 88) 24) mm) (z_cy (z_fil (z_kl (σ.2 (10 + (o + u) % 21)) a (b + 1 - a)) (σ.2 88) 24) mm) (z_tp (z_fil (z_kl (σ.2 (10 + (o + u) % 21)) a (b + 1 - a)) (σ.2 88) 24) mm) (z_bt (z_fil (z_kl (σ.2 (10 + (o + u) % 21)) a (b + 1 - a)) (σ.2 88) 24) mm) pf1 dv1 nr1 ) k_X0_width (List.mem_of_getElem? (i := 35) rfl) ⟨rfl, rfl⟩ ⟨Nat.le_of_ble_eq_true rfl, Nat.le_of_ble_eq_true rfl⟩ rfl (Nat.le_of_ble_eq_true rfl) ⟨Nat.le_of_ble_eq_true rfl, Nat.le_of_ble_eq_true rfl⟩ rfl dX7_valueOfRule_60 (z_k1 ?_)
    refine z_lret 63 C dX7_valueOfRule_63 ?_
    exact ⟨z_cl (by rw [z_rv_e ha hbb hm4 hab hb12 hmm, z_tp_ag z_eq24_fil, z_bt_ag z_eq24_fil]), hk0⟩
theorem m_X7_valueOfRule_k {l : Launch} {G : z_Gl} {σ τ : z_St} (P n o u v w rc tl : Nat) (hI : z_inv σ P n o u v w rc tl) (i : Nat) (hi : i < rc) (hk : z_kp σ τ) (hru : z_ru σ rc) (hkb : z_kb (σ.2 (10 + (o + u) % 21))) (ho21 : o < 21) : z_M l G yX7_valueOfRule cX7_valueOfRule 3 (some .long) (z_rm 5 126) [.ref (z_ad G 0), .int (nI i)] τ (fun v σ1 => v = some (.long (z_rv (σ.1 45) (σ.1 46) (σ.1 47) (σ.2 (10 + (o + u) % 21)) i)) ∧ z_kp σ σ1) := by
  have e : ∀ a, ¬ z_cc a → τ.1 a = σ.1 a := fun a ha => (hk.2 a ha).1
  have n10 : ¬ z_cc (10 + (o + u) % 21) := by unfold z_cc; omega
  have z10 : τ.2 (10 + (o + u) % 21) = σ.2 (10 + (o + u) % 21) := (hk.2 _ n10).2
  have hr2 : z_ru τ rc := by
    unfold z_ru at hru ⊢
    rw [e 45 (by unfold z_cc; omega), e 46 (by unfold z_cc; omega), e 47 (by unfold z_cc; omega)]
    exact hru
  refine (m_X7_valueOfRule (σ := τ) P n o u v w rc tl (hI.kp hk) i hi hk.1 hr2 (by rw [z10]; exact hkb)).mono ?_
  rintro v1 σ1 ⟨h1, h2⟩
  rw [e 45 (by unfold z_cc; omega), e 46 (by unfold z_cc; omega), e 47 (by unfold z_cc; omega), z10] at h1
  exact ⟨h1, hk.trans h2⟩
theorem dX7_ruleValue_0 : decode cX7_ruleValue 0 = .ok (.iload_n 1, 1) := by decide +kernel
theorem dX7_ruleValue_1 : decode cX7_ruleValue 1 = .ok (.iconst 0, 1) := by decide +kernel
theorem dX7_ruleValue_2 : decode cX7_ruleValue 2 = .ok (.aload_n 0, 1) := by decide +kernel
theorem dX7_ruleValue_3 : decode cX7_ruleValue 3 = .ok (.getfield 48, 3) := by decide +kernel
theorem dX7_ruleValue_6 : decode cX7_ruleValue 6 = .ok (.getfield 287, 3) := by decide +kernel
theorem dX7_ruleValue_9 : decode cX7_ruleValue 9 = .ok (.iconst 1, 1) := by decide +kernel
theorem dX7_ruleValue_10 : decode cX7_ruleValue 10 = .ok (.isub, 1) := by decide +kernel
theorem dX7_ruleValue_11 : decode cX7_ruleValue 11 = .ok (.invokestatic 77, 3) := by decide +kernel
theorem dX7_ruleValue_14 : decode cX7_ruleValue 14 = .ok (.ifCond .eq 9, 3) := by decide +kernel
theorem dX7_ruleValue_17 : decode cX7_ruleValue 17 = .ok (.ldc2_w 117, 3) := by decide +kernel
theorem dX7_ruleValue_20 : decode cX7_ruleValue 20 = .ok (.goto 8, 3) := by decide +kernel
theorem dX7_ruleValue_23 : decode cX7_ruleValue 23 = .ok (.aload_n 0, 1) := by decide +kernel
theorem dX7_ruleValue_24 : decode cX7_ruleValue 24 = .ok (.iload_n 1, 1) := by decide +kernel
theorem dX7_ruleValue_25 : decode cX7_ruleValue 25 = .ok (.invokevirtual 291, 3) := by decide +kernel
theorem dX7_ruleValue_28 : decode cX7_ruleValue 28 = .ok (.lreturn, 1) := by decide +kernel
set_option maxRecDepth 100000 in
set_option maxHeartbeats 4000000 in
theorem m_X7_ruleValue {l : Launch} {G : z_Gl} {σ : z_St} (P n o u v w rc tl : Nat) (hI : z_inv σ P n o u v w rc tl) (x : Int32) (hvc : z_vcs σ) (hru : z_ru σ rc) (hkb : z_kb (σ.2 (10 + (o + u) % 21))) : z_M l G yX7_ruleValue cX7_ruleValue 2 (some .long) (z_rm 6 148) [.ref (z_ad G 0), .int x] σ (fun v σ1 => v = some (.long (if x < nI 0 ∨ nI rc - nI 1 < x then (-9223372036854775808) else z_rv (σ.1 45) (σ.1 46) (σ.1 47) (σ.2 (10 + (o + u) % 21)) (z_n x))) ∧ z_kp σ σ1) := by
  refine z_M.of (by decide) (Nat.le_of_ble_eq_true rfl) (fun p e s m below meth c C => ?_)
  refine z_sub [0, 1] (lv1 := [(0, .ref (z_ad G 0)), (1, .int x)]) rfl ?_
  have hI0 := hI
  obtain ⟨⟨hP, hn, ho, hu, hv, hw, hrc, htl⟩, hPs, hnP, ho21, huv, hw6, hrc8, htl2⟩ := hI0
  have h0 : 0 < P := by omega
  have h12 : P ≤ 12 := by omega
  have h288 : n ≤ 288 := by omega
  refine z_iload_n 0 C dX7_ruleValue_0 1 rfl ?_
  refine z_iconst 1 C dX7_ruleValue_1 (nI 0) rfl ?_
  refine z_aload_n 2 C dX7_ruleValue_2 0 rfl ?_
  refine z_getf 3 C 0 z_dX7 (⟨rfl, rfl⟩) 5 (by decide) q344 (.ref (z_ad G 44)) rfl dX7_ruleValue_3 ?_
  refine z_getfN 6 C 44 z_dX3 (⟨rfl, rfl⟩) 5 (by decide) (List.mem_of_getElem? (i := 20) rfl) (.int (nI rc)) (z_ci hrc) dX7_ruleValue_6 ?_
  refine z_iconst 9 C dX7_ruleValue_9 (nI 1) rfl ?_
  refine z_isub 10 C dX7_ruleValue_10 ?_
  refine z_callS 11 C (As := [.int x, .int (nI 0), .int ((nI rc) - (nI 1))]) (rest := []) (m_X7_isOutside x (nI 0) ((nI rc) - (nI 1))) k_X7_isOutside q380 ⟨rfl, rfl⟩ ⟨Nat.le_of_ble_eq_true rfl, Nat.le_of_ble_eq_true rfl⟩ rfl (Nat.le_of_ble_eq_true rfl) ⟨Nat.le_of_ble_eq_true rfl, Nat.le_of_ble_eq_true rfl⟩ rfl dX7_ruleValue_11 (z_k1 ?_)
  refine z_if_eqb 14 C 23 dX7_ruleValue_14 (by decide) (fun c14 => ?_) (fun c14 => ?_)
  · skip
    obtain ⟨a, ha, rfl⟩ := z_inw (by omega) c14
    refine z_aload_n 23 C dX7_ruleValue_23 0 rfl ?_
    refine z_iload_n 24 C dX7_ruleValue_24 1 rfl ?_
    refine z_callV 25 C 0 (⟨rfl, rfl⟩) rfl (As := [.int (nI a)]) (rest := []) (@m_X7_valueOfRule_k _ _ σ σ P n o u v w rc tl hI a (by omega) (z_kp.refl hvc) hru hkb ho21) k_X7_valueOfRule q851 ⟨rfl, rfl⟩ ⟨Nat.le_of_ble_eq_true rfl, Nat.le_of_ble_eq_true rfl⟩ rfl (Nat.le_of_ble_eq_true rfl) ⟨Nat.le_of_ble_eq_true rfl, Nat.le_of_ble_eq_true rfl⟩ rfl dX7_ruleValue_25 (fun v25 σ25 hv25 => ?_)
    rcases hv25 with ⟨rfl, hk25⟩
    · skip
      refine z_cv (st1 := [.long (z_rv (σ.1 45) (σ.1 46) (σ.1 47) (σ.2 (10 + (o + u) % 21)) a)]) rfl rfl rfl ?_
      refine z_lret 28 C dX7_ruleValue_28 ?_
      exact ⟨z_cl (by rw [if_neg c14, z_nk (k := a) (by omega)]), hk25⟩
  · skip
    refine z_ldc2 17 C dX7_ruleValue_17 q475 ?_
    refine z_goto 20 C 28 dX7_ruleValue_20 (by decide) ?_
    refine z_lret 28 C dX7_ruleValue_28 ?_
    exact ⟨z_cl (by rw [if_pos c14]), z_kp.refl hvc⟩
theorem dX7_violated_0 : decode cX7_violated 0 = .ok (.iconst 0, 1) := by decide +kernel
theorem dX7_violated_1 : decode cX7_violated 1 = .ok (.istore_n 1, 1) := by decide +kernel
theorem dX7_violated_2 : decode cX7_violated 2 = .ok (.iconst 0, 1) := by decide +kernel
theorem dX7_violated_3 : decode cX7_violated 3 = .ok (.istore_n 2, 1) := by decide +kernel
theorem dX7_violated_4 : decode cX7_violated 4 = .ok (.iload_n 2, 1) := by decide +kernel
theorem dX7_violated_5 : decode cX7_violated 5 = .ok (.aload_n 0, 1) := by decide +kernel
theorem dX7_violated_6 : decode cX7_violated 6 = .ok (.getfield 48, 3) := by decide +kernel
theorem dX7_violated_9 : decode cX7_violated 9 = .ok (.getfield 287, 3) := by decide +kernel
theorem dX7_violated_12 : decode cX7_violated 12 = .ok (.if_icmp .ge 38, 3) := by decide +kernel
theorem dX7_violated_15 : decode cX7_violated 15 = .ok (.aload_n 0, 1) := by decide +kernel
theorem dX7_violated_16 : decode cX7_violated 16 = .ok (.iload_n 2, 1) := by decide +kernel
theorem dX7_violated_17 : decode cX7_violated 17 = .ok (.invokevirtual 291, 3) := by decide +kernel
theorem dX7_violated_20 : decode cX7_violated 20 = .ok (.aload_n 0, 1) := by decide +kernel
theorem dX7_violated_21 : decode cX7_violated 21 = .ok (.getfield 48, 3) := by decide +kernel
theorem dX7_violated_24 : decode cX7_violated 24 = .ok (.getfield 294, 3) := by decide +kernel
theorem dX7_violated_27 : decode cX7_violated 27 = .ok (.iload_n 2, 1) := by decide +kernel
theorem dX7_violated_28 : decode cX7_violated 28 = .ok (.iaload, 1) := by decide +kernel
theorem dX7_violated_29 : decode cX7_violated 29 = .ok (.i2l, 1) := by decide +kernel
theorem dX7_violated_30 : decode cX7_violated 30 = .ok (.ldc2_w 297, 3) := by decide +kernel
theorem dX7_violated_33 : decode cX7_violated 33 = .ok (.lmul, 1) := by decide +kernel
theorem dX7_violated_34 : decode cX7_violated 34 = .ok (.lcmp, 1) := by decide +kernel
theorem dX7_violated_35 : decode cX7_violated 35 = .ok (.ifCond .le 9, 3) := by decide +kernel
theorem dX7_violated_38 : decode cX7_violated 38 = .ok (.iload_n 1, 1) := by decide +kernel
theorem dX7_violated_39 : decode cX7_violated 39 = .ok (.iconst 1, 1) := by decide +kernel
theorem dX7_violated_40 : decode cX7_violated 40 = .ok (.iload_n 2, 1) := by decide +kernel
theorem dX7_violated_41 : decode cX7_violated 41 = .ok (.ishl, 1) := by decide +kernel
theorem dX7_violated_42 : decode cX7_violated 42 = .ok (.ior, 1) := by decide +kernel
theorem dX7_violated_43 : decode cX7_violated 43 = .ok (.istore_n 1, 1) := by decide +kernel
theorem dX7_violated_44 : decode cX7_violated 44 = .ok (.iinc 2 1, 3) := by decide +kernel
theorem dX7_violated_47 : decode cX7_violated 47 = .ok (.goto (-43), 3) := by decide +kernel
theorem dX7_violated_50 : decode cX7_violated 50 = .ok (.iload_n 1, 1) := by decide +kernel
theorem dX7_violated_51 : decode cX7_violated 51 = .ok (.ireturn, 1) := by decide +kernel
set_option maxRecDepth 100000 in
set_option maxHeartbeats 4000000 in
theorem m_X7_violated {l : Launch} {G : z_Gl} {σ : z_St} (P n o u v w rc tl : Nat) (hI : z_inv σ P n o u v w rc tl) (hvc : z_vcs σ) (hru : z_ru σ rc) (hkb : z_kb (σ.2 (10 + (o + u) % 21))) : z_M l G yX7_violated cX7_violated 3 (some .int) (z_rm 6 148) [.ref (z_ad G 0)] σ (fun v σ1 => v = some (.int (z_vs (z_rv (σ.1 45) (σ.1 46) (σ.1 47) (σ.2 (10 + (o + u) % 21))) (σ.1 48) rc)) ∧ z_kp σ σ1) := by
  refine z_M.of (by decide) (Nat.le_of_ble_eq_true rfl) (fun p e s m below meth c C => ?_)
  refine z_sub [0] (lv1 := [(0, .ref (z_ad G 0))]) rfl ?_
  have hI0 := hI
  obtain ⟨⟨hP, hn, ho, hu, hv, hw, hrc, htl⟩, hPs, hnP, ho21, huv, hw6, hrc8, htl2⟩ := hI0
  have h0 : 0 < P := by omega
  have h12 : P ≤ 12 := by omega
  have h288 : n ≤ 288 := by omega
  refine z_iconst 0 C dX7_violated_0 (nI 0) rfl ?_
  refine z_istore_n 1 C dX7_violated_1 [(1, .int (nI 0)), (0, .ref (z_ad G 0))] (by decide) rfl ?_
  refine z_iconst 2 C dX7_violated_2 (nI 0) rfl ?_
  refine z_istore_n 3 C dX7_violated_3 [(2, .int (nI 0)), (1, .int (nI 0)), (0, .ref (z_ad G 0))] (by decide) rfl ?_
  refine z_sub [2, 1, 0] (lv1 := [(0, .ref (z_ad G 0)), (1, .int (nI 0)), (2, .int (nI 0))]) rfl ?_
  refine z_cv (lv1 := [(0, .ref (z_ad G 0)), (1, .int (z_vs (z_rv (σ.1 45) (σ.1 46) (σ.1 47) (σ.2 (10 + (o + u) % 21))) (σ.1 48) 0)), (2, .int (nI 0))]) (st1 := []) (σ1 := σ) rfl rfl rfl ?_
  refine z_lp2 (fun (i : Nat) (τ : z_St) => i ≤ rc ∧ z_kp σ τ) (fun (i : Nat) (τ : z_St) => rc - i) (fun (i : Nat) (τ : z_St) => [(0, .ref (z_ad G 0)), (1, .int (z_vs (z_rv (σ.1 45) (σ.1 46) (σ.1 47) (σ.2 (10 + (o + u) % 21))) (σ.1 48) i)), (2, .int (nI i))]) (fun (i : Nat) (τ : z_St) => τ) (fun i τ hi_4 ih_4 => ?_) 0 σ (⟨by omega, z_kp.refl hvc⟩)
  try dsimp only
  have hrcT : τ.1 44 5 = nI rc := by
    have := (hi_4.2.2 44 (by unfold z_cc; omega)).1
    rw [this]; exact hrc
  obtain ⟨hir, hkt⟩ := hi_4
  refine z_iload_n 4 C dX7_violated_4 2 rfl ?_
  refine z_aload_n 5 C dX7_violated_5 0 rfl ?_
  refine z_getf 6 C 0 z_dX7 (⟨rfl, rfl⟩) 5 (by decide) q344 (.ref (z_ad G 44)) rfl dX7_violated_6 ?_
  refine z_getfN 9 C 44 z_dX3 (⟨rfl, rfl⟩) 5 (by decide) (List.mem_of_getElem? (i := 20) rfl) (.int (nI rc)) (z_ci hrcT) dX7_violated_9 ?_
  refine z_icmp_geN 12 C i rc rfl rfl (by omega) (by omega) 50 dX7_violated_12 (by decide) (fun c12 => ?_) (fun c12 => ?_)
  · skip
    have ei : rc = i := by omega
    subst ei
    refine z_iload_n 50 C dX7_violated_50 1 rfl ?_
    refine z_iret 51 C dX7_violated_51 ?_
    exact ⟨rfl, hkt⟩
  · skip
    refine z_aload_n 15 C dX7_violated_15 0 rfl ?_
    refine z_iload_n 16 C dX7_violated_16 2 rfl ?_
    refine z_callV 17 C 0 (⟨rfl, rfl⟩) rfl (As := [.int (nI i)]) (rest := []) (@m_X7_valueOfRule_k _ _ σ τ P n o u v w rc tl hI i (by omega) hkt hru hkb ho21) k_X7_valueOfRule q851 ⟨rfl, rfl⟩ ⟨Nat.le_of_ble_eq_true rfl, Nat.le_of_ble_eq_true rfl⟩ rfl (Nat.le_of_ble_eq_true rfl) ⟨Nat.le_of_ble_eq_true rfl, Nat.le_of_ble_eq_true rfl⟩ rfl dX7_violated_17 (fun v17 σ17 hv17 => ?_)
    rcases hv17 with ⟨rfl, hk17⟩
    · skip
      refine z_cv (st1 := [.long (z_rv (σ.1 45) (σ.1 46) (σ.1 47) (σ.2 (10 + (o + u) % 21)) i)]) rfl rfl rfl ?_
      refine z_aload_n 20 C dX7_violated_20 0 rfl ?_
      refine z_getf 21 C 0 z_dX7 (⟨rfl, rfl⟩) 5 (by decide) q344 (.ref (z_ad G 44)) rfl dX7_violated_21 ?_
      refine z_getfN 24 C 44 z_dX3 (⟨rfl, rfl⟩) 3 (by decide) (List.mem_of_getElem? (i := 18) rfl) (.ref (z_ad G 48)) rfl dX7_violated_24 ?_
      refine z_iload_n 27 C dX7_violated_27 2 rfl ?_
      refine z_ialdN 28 C 48 (n := 8) (⟨rfl, rfl⟩) i rfl (by omega) (by decide) dX7_violated_28 ?_
      refine z_cv (st1 := [.int (σ.1 48 i), .long (z_rv (σ.1 45) (σ.1 46) (σ.1 47) (σ.2 (10 + (o + u) % 21)) i)]) rfl (by rw [(hk17.2 48 (by unfold z_cc; omega)).1]) rfl ?_
      refine z_i2l 29 C dX7_violated_29 ?_
      refine z_ldc2 30 C dX7_violated_30 q425 ?_
      refine z_lmul 33 C dX7_violated_33 ?_
      refine z_lcmp_le 34 C 44 dX7_violated_34 dX7_violated_35 (by decide) (fun c34 => ?_) (fun c34 => ?_)
      · skip
        refine z_iincN 44 C 2 i [(2, .int (nI (i + 1))), (0, .ref (z_ad G 0)), (1, .int (z_vs (z_rv (σ.1 45) (σ.1 46) (σ.1 47) (σ.2 (10 + (o + u) % 21))) (σ.1 48) i))] rfl rfl (by decide) rfl dX7_violated_44 ?_
        refine z_goto 47 C 4 dX7_violated_47 (by decide) ?_
        refine z_sub [1, 2, 0] (lv1 := [(0, .ref (z_ad G 0)), (1, .int (z_vs (z_rv (σ.1 45) (σ.1 46) (σ.1 47) (σ.2 (10 + (o + u) % 21))) (σ.1 48) i)), (2, .int (nI (i + 1)))]) rfl ?_
        refine z_cv (lv1 := [(0, .ref (z_ad G 0)), (1, .int (z_vs (z_rv (σ.1 45) (σ.1 46) (σ.1 47) (σ.2 (10 + (o + u) % 21))) (σ.1 48) (i + 1))), (2, .int (nI (i + 1)))]) (st1 := []) (σ1 := σ17) (by first | rw [z_vs_1 c34] | rw [z_vs_0 c34]) rfl rfl ?_
        exact ih_4 (i + 1) σ17 (⟨by omega, hk17⟩) (by omega)
      · skip
        refine z_iload_n 38 C dX7_violated_38 1 rfl ?_
        refine z_iconst 39 C dX7_violated_39 (nI 1) rfl ?_
        refine z_iload_n 40 C dX7_violated_40 2 rfl ?_
        refine z_ishl 41 C dX7_violated_41 ?_
        refine z_ior 42 C dX7_violated_42 ?_
        refine z_istore_n 43 C dX7_violated_43 [(1, .int ((z_vs (z_rv (σ.1 45) (σ.1 46) (σ.1 47) (σ.2 (10 + (o + u) % 21))) (σ.1 48) i) ||| ((nI 1) <<< ((nI i) &&& 31)))), (0, .ref (z_ad G 0)), (2, .int (nI i))] (by decide) rfl ?_
        refine z_iincN 44 C 2 i [(2, .int (nI (i + 1))), (1, .int ((z_vs (z_rv (σ.1 45) (σ.1 46) (σ.1 47) (σ.2 (10 + (o + u) % 21))) (σ.1 48) i) ||| ((nI 1) <<< ((nI i) &&& 31)))), (0, .ref (z_ad G 0))] rfl rfl (by decide) rfl dX7_violated_44 ?_
        refine z_goto 47 C 4 dX7_violated_47 (by decide) ?_
        refine z_sub [2, 1, 0] (lv1 := [(0, .ref (z_ad G 0)), (1, .int ((z_vs (z_rv (σ.1 45) (σ.1 46) (σ.1 47) (σ.2 (10 + (o + u) % 21))) (σ.1 48) i) ||| ((nI 1) <<< ((nI i) &&& 31)))), (2, .int (nI (i + 1)))]) rfl ?_
        refine z_cv (lv1 := [(0, .ref (z_ad G 0)), (1, .int (z_vs (z_rv (σ.1 45) (σ.1 46) (σ.1 47) (σ.2 (10 + (o + u) % 21))) (σ.1 48) (i + 1))), (2, .int (nI (i + 1)))]) (st1 := []) (σ1 := σ17) (by first | rw [z_vs_1 c34] | rw [z_vs_0 c34]) rfl rfl ?_
        exact ih_4 (i + 1) σ17 (⟨by omega, hk17⟩) (by omega)
