/-! PURE: the measurement and the simulation -/
def z_su (m : Nat → Int32) (k : Nat) : Nat → Int64
  | 0 => 0
  | j + 1 => z_su m k j + (m (j * 24 + k)).toInt64
def z_sp (m : Nat → Int32) (P k : Nat) : Int64 := z_fd (1000000 * z_su m k P) (lN P)
def z_pa (m : Nat → Int32) (P k : Nat) : Nat → Int64
  | 0 => 0
  | j + 1 => z_pa m P k j + (lN P * (m (j * 24 + (k + j * (24 / P)) % 24)).toInt64 - z_su m ((k + j * (24 / P)) % 24) P)
def z_pt (m : Nat → Int32) (P k : Nat) : Int64 := z_fd (1000000 * z_pa m P k P) (lN P * lN P)
theorem z_lNp {P : Nat} (h0 : 0 < P) (h : P ≤ 12) : 0 < lN P := by
  have := (lN_lt (a := 0) (b := P) (by decide) (by omega)).mpr h0
  exact this
theorem z_lNq {P : Nat} (h0 : 0 < P) (h : P ≤ 12) : 0 < lN P * lN P := by
  rw [lN_mul]
  have h2 : 0 < P * P := Nat.mul_pos h0 h0
  have h3 : P * P ≤ 12 * 12 := Nat.mul_le_mul h h
  exact (lN_lt (a := 0) (b := P * P) (by decide) (by omega)).mpr h2
def z_abI (x : Int32) : Int32 := if x < 0 then -x else x
def z_h2 (x : Int32) : Int32 := Int32.ofInt (x.toInt / 2)
theorem z_h2_t (x : Int32) : (z_h2 x).toInt = x.toInt / 2 := by
  have := fb_rng x
  exact fb_ofI (by omega) (by omega)
theorem z_half (x : Int32) : (x / nI 2).toInt = x.toInt.tdiv 2 ∧ (0 ≤ x.toInt → x.toInt.tdiv 2 = x.toInt / 2) ∧ (x.toInt < 0 → x.toInt.tdiv 2 = -(-x.toInt / 2)) := by
  have hr := z_tdiv_rng x.toInt 2 (by decide)
  exact ⟨Int32.toInt_div_of_ne_right x (nI 2) (by decide), fun h => (hr.1 h).2.2, fun h => (hr.2 h).2.2⟩
theorem z_half2 (x : Int32) : (x / nI 2 * nI 2).toInt = x.toInt.tdiv 2 * 2 := by
  obtain ⟨e, h1, h2⟩ := z_half x
  have h3 := fb_rng x
  have e2 : (nI 2).toInt = 2 := rfl
  have hb : x.toInt.tdiv 2 * 2 ≤ 2147483647 ∧ -2147483648 ≤ x.toInt.tdiv 2 * 2 := by
    rcases Int.lt_or_le x.toInt 0 with q | q
    · rw [h2 q]; omega
    · rw [h1 q]; omega
  rw [fb_mulI (by rw [e, e2]; omega) (by rw [e, e2]; omega), e, e2]
theorem z_h2_1 {x : Int32} (h : 0 ≤ x ^^^ nI 2) : x / nI 2 = z_h2 x := by
  have h0 := z_nn32.mp ((z_xs32 (by decide)).mp h)
  obtain ⟨e, h1, -⟩ := z_half x
  rw [fa_eq, e, z_h2_t, h1 h0]
theorem z_h2_2 {x : Int32} (h : ¬ 0 ≤ x ^^^ nI 2) (h2 : x / nI 2 * nI 2 = x) : x / nI 2 = z_h2 x := by
  have h0 : x.toInt < 0 := Int.not_le.mp (fun z => h ((z_xs32 (a := x) (b := nI 2) (by decide)).mpr (z_nn32.mpr z)))
  obtain ⟨e, -, h1⟩ := z_half x
  rw [fa_eq, z_half2, h1 h0] at h2
  rw [fa_eq, e, z_h2_t, h1 h0]
  omega
theorem z_h2_3 {x : Int32} (h : ¬ 0 ≤ x ^^^ nI 2) (h2 : ¬ x / nI 2 * nI 2 = x) : x / nI 2 - nI 1 = z_h2 x := by
  have h0 : x.toInt < 0 := Int.not_le.mp (fun z => h ((z_xs32 (a := x) (b := nI 2) (by decide)).mpr (z_nn32.mpr z)))
  obtain ⟨e, -, h1⟩ := z_half x
  rw [fa_eq, z_half2, h1 h0] at h2
  have h3 := fb_rng x
  have e3 : (x / nI 2 - nI 1).toInt = (x / nI 2).toInt - 1 := fb_subI (y := nI 1) (by rw [e, h1 h0]; show _ ≤ _ - (1 : Int); omega) (by rw [e, h1 h0]; show _ - (1 : Int) < _; omega)
  rw [fa_eq, e3, e, z_h2_t, h1 h0]
  omega
theorem z_abI_1 {x : Int32} (h : 0 ≤ x) : x = z_abI x := by unfold z_abI; rw [if_neg (Int32.not_lt.mpr h)]
theorem z_abI_2 {x : Int32} (h : ¬ 0 ≤ x) : -x = z_abI x := by unfold z_abI; rw [if_pos (Int32.not_le.mp h)]
/-- a step's readings; spikes -/
def z_rw (m : Nat → Int32) (j : Nat) : Nat → Int32 := fun i => m (j * 24 + i)
def z_sd (o : Nat → Int32) (k : Nat) : Int32 := o ((k + 23) % 24) + o ((k + 1) % 24)
abbrev z_sk (o : Nat → Int32) (L k : Nat) : Prop := nI (2 * L) < z_abI (nI 2 * o k - z_sd o k)
def z_sv (o : Nat → Int32) (L k : Nat) : Int32 := if z_sk o L k then z_h2 (z_sd o k) else o k
def z_sc (o : Nat → Int32) (L : Nat) : Nat → Nat
  | 0 => 0
  | k + 1 => z_sc o L k + if z_sk o L k then 1 else 0
theorem z_sc_1 {o : Nat → Int32} {L k : Nat} (h : z_sk o L k) : z_sc o L (k + 1) = z_sc o L k + 1 := by rw [z_sc, if_pos h]
theorem z_sc_0 {o : Nat → Int32} {L k : Nat} (h : ¬ z_sk o L k) : z_sc o L (k + 1) = z_sc o L k := by rw [z_sc, if_neg h]
theorem z_fil0p (σ : z_St) (X : Nat → Int32) (g : Nat → Int32) (a : Nat) : z_uI σ 3 X = z_uI (z_uI σ 3 X) 2 (fb_put (σ.1 2) g a 0) := by
  rw [fb_put_0]
  exact (z_uI_same (z_uI σ 3 X) 2).symm
theorem z_sc_le (o : Nat → Int32) (L : Nat) : ∀ k, z_sc o L k ≤ k
  | 0 => Nat.le_refl 0
  | k + 1 => by have := z_sc_le o L k; unfold z_sc; split <;> omega
theorem z_oldr {σ : z_St} {a i : Nat} {X : Nat → Int32} (h : i < 24) : (z_uI (z_uI σ 3 (va_cpy (σ.1 2) (σ.1 3) a 0 24)) 2 X).1 3 i = σ.1 2 (a + i) := by
  show va_cpy (σ.1 2) (σ.1 3) a 0 24 i = _
  rw [pk_cpy_in (Nat.zero_le i) (by omega), Nat.sub_zero]
theorem z_uIu (σ : z_St) (i a k : Nat) (f g : Nat → Int32) {x : Int32} (hx : x = g k) : z_ui (z_uI σ i (fb_put f g a k)) i (a + k) x = z_uI σ i (fb_put f g a (k + 1)) := by
  rw [← fb_put_succ, hx]
  unfold z_ui z_uI
  refine Prod.ext ?_ rfl
  funext b
  by_cases h : b = i
  · subst h; simp
  · simp [h]
theorem z_put_same {α : Type} {f g : Nat → α} {a k : Nat} (h : g k = f (a + k)) : fb_put f g a k = fb_put f g a (k + 1) := by
  funext i
  by_cases h1 : a ≤ i ∧ i < a + k
  · rw [fb_put_in h1.1 h1.2, fb_put_in h1.1 (by omega)]
  · rw [fb_put_out (by omega)]
    by_cases h2 : i = a + k
    · rw [h2, fb_put_in (by omega) (by omega), show a + k - a = k by omega, h]
    · rw [fb_put_out (by omega)]
theorem dJ9_floorDiv_7cf53_0 : decode cJ9_floorDiv_7cf53 0 = .ok (.iload_n 0, 1) := by decide +kernel
theorem dJ9_floorDiv_7cf53_1 : decode cJ9_floorDiv_7cf53 1 = .ok (.iload_n 1, 1) := by decide +kernel
theorem dJ9_floorDiv_7cf53_2 : decode cJ9_floorDiv_7cf53 2 = .ok (.idiv, 1) := by decide +kernel
theorem dJ9_floorDiv_7cf53_3 : decode cJ9_floorDiv_7cf53 3 = .ok (.istore_n 2, 1) := by decide +kernel
theorem dJ9_floorDiv_7cf53_4 : decode cJ9_floorDiv_7cf53 4 = .ok (.iload_n 0, 1) := by decide +kernel
theorem dJ9_floorDiv_7cf53_5 : decode cJ9_floorDiv_7cf53 5 = .ok (.iload_n 1, 1) := by decide +kernel
theorem dJ9_floorDiv_7cf53_6 : decode cJ9_floorDiv_7cf53 6 = .ok (.ixor, 1) := by decide +kernel
theorem dJ9_floorDiv_7cf53_7 : decode cJ9_floorDiv_7cf53 7 = .ok (.ifCond .ge 14, 3) := by decide +kernel
theorem dJ9_floorDiv_7cf53_10 : decode cJ9_floorDiv_7cf53 10 = .ok (.iload_n 2, 1) := by decide +kernel
theorem dJ9_floorDiv_7cf53_11 : decode cJ9_floorDiv_7cf53 11 = .ok (.iload_n 1, 1) := by decide +kernel
theorem dJ9_floorDiv_7cf53_12 : decode cJ9_floorDiv_7cf53 12 = .ok (.imul, 1) := by decide +kernel
theorem dJ9_floorDiv_7cf53_13 : decode cJ9_floorDiv_7cf53 13 = .ok (.iload_n 0, 1) := by decide +kernel
theorem dJ9_floorDiv_7cf53_14 : decode cJ9_floorDiv_7cf53 14 = .ok (.if_icmp .eq 7, 3) := by decide +kernel
theorem dJ9_floorDiv_7cf53_17 : decode cJ9_floorDiv_7cf53 17 = .ok (.iload_n 2, 1) := by decide +kernel
theorem dJ9_floorDiv_7cf53_18 : decode cJ9_floorDiv_7cf53 18 = .ok (.iconst 1, 1) := by decide +kernel
theorem dJ9_floorDiv_7cf53_19 : decode cJ9_floorDiv_7cf53 19 = .ok (.isub, 1) := by decide +kernel
theorem dJ9_floorDiv_7cf53_20 : decode cJ9_floorDiv_7cf53 20 = .ok (.ireturn, 1) := by decide +kernel
theorem dJ9_floorDiv_7cf53_21 : decode cJ9_floorDiv_7cf53 21 = .ok (.iload_n 2, 1) := by decide +kernel
theorem dJ9_floorDiv_7cf53_22 : decode cJ9_floorDiv_7cf53 22 = .ok (.ireturn, 1) := by decide +kernel
set_option maxRecDepth 100000 in
set_option maxHeartbeats 4000000 in
theorem m_J9_floorDiv_7cf53 {l : Launch} {G : z_Gl} {σ : z_St} (x : Int32) : z_M l G yJ9_floorDiv_7cf53 cJ9_floorDiv_7cf53 3 (some .int) (z_rm 0 0) [.int x, .int (nI 2)] σ (z_p1 (.int (z_h2 x)) σ) := by
  refine z_Mj.of (by decide +kernel) (Nat.le_of_ble_eq_true rfl) (fun p S e s m below meth c s1 C hP => ?_)
  refine j_sub [0, 1] (lv1 := [(0, .int x), (1, .int (nI 2))]) rfl ?_
  refine j_iload_n 0 C dJ9_floorDiv_7cf53_0 0 rfl ?_
  refine j_iload_n 1 C dJ9_floorDiv_7cf53_1 1 rfl ?_
  refine j_idiv 2 C dJ9_floorDiv_7cf53_2 (by decide) ?_
  refine j_istore_n 3 C dJ9_floorDiv_7cf53_3 [(2, .int (x / (nI 2))), (0, .int x), (1, .int (nI 2))] (by decide) rfl ?_
  refine j_iload_n 4 C dJ9_floorDiv_7cf53_4 1 rfl ?_
  refine j_iload_n 5 C dJ9_floorDiv_7cf53_5 2 rfl ?_
  refine j_ixor 6 C dJ9_floorDiv_7cf53_6 ?_
  refine j_if_ge 7 C 21 dJ9_floorDiv_7cf53_7 (by decide) (fun c7 => ?_) (fun c7 => ?_)
  · skip
    refine j_iload_n 21 C dJ9_floorDiv_7cf53_21 0 rfl ?_
    refine j_iret 22 C hP dJ9_floorDiv_7cf53_22 ?_
    first | exact ⟨z_ci (z_h2_1 c7), rfl⟩ | exact ⟨z_ci (z_h2_2 c7 c14), rfl⟩
  · skip
    refine j_iload_n 10 C dJ9_floorDiv_7cf53_10 0 rfl ?_
    refine j_iload_n 11 C dJ9_floorDiv_7cf53_11 2 rfl ?_
    refine j_imul 12 C dJ9_floorDiv_7cf53_12 ?_
    refine j_iload_n 13 C dJ9_floorDiv_7cf53_13 1 rfl ?_
    refine j_icmp_eq 14 C 21 dJ9_floorDiv_7cf53_14 (by decide) (fun c14 => ?_) (fun c14 => ?_)
    · skip
      refine j_iload_n 21 C dJ9_floorDiv_7cf53_21 0 rfl ?_
      refine j_iret 22 C hP dJ9_floorDiv_7cf53_22 ?_
      first | exact ⟨z_ci (z_h2_1 c7), rfl⟩ | exact ⟨z_ci (z_h2_2 c7 c14), rfl⟩
    · skip
      refine j_iload_n 17 C dJ9_floorDiv_7cf53_17 0 rfl ?_
      refine j_iconst 18 C dJ9_floorDiv_7cf53_18 (nI 1) rfl ?_
      refine j_isub 19 C dJ9_floorDiv_7cf53_19 ?_
      refine j_iret 20 C hP dJ9_floorDiv_7cf53_20 ?_
      exact ⟨z_ci (z_h2_3 c7 c14), rfl⟩
theorem dJ9_abs_0f7a4_0 : decode cJ9_abs_0f7a4 0 = .ok (.iload_n 0, 1) := by decide +kernel
theorem dJ9_abs_0f7a4_1 : decode cJ9_abs_0f7a4 1 = .ok (.ifCond .ge 8, 3) := by decide +kernel
theorem dJ9_abs_0f7a4_4 : decode cJ9_abs_0f7a4 4 = .ok (.iload_n 0, 1) := by decide +kernel
theorem dJ9_abs_0f7a4_5 : decode cJ9_abs_0f7a4 5 = .ok (.ineg, 1) := by decide +kernel
theorem dJ9_abs_0f7a4_6 : decode cJ9_abs_0f7a4 6 = .ok (.goto 4, 3) := by decide +kernel
theorem dJ9_abs_0f7a4_9 : decode cJ9_abs_0f7a4 9 = .ok (.iload_n 0, 1) := by decide +kernel
theorem dJ9_abs_0f7a4_10 : decode cJ9_abs_0f7a4 10 = .ok (.ireturn, 1) := by decide +kernel
set_option maxRecDepth 100000 in
set_option maxHeartbeats 4000000 in
theorem m_J9_abs_0f7a4 {l : Launch} {G : z_Gl} {σ : z_St} (x : Int32) : z_M l G yJ9_abs_0f7a4 cJ9_abs_0f7a4 1 (some .int) (z_rm 0 0) [.int x] σ (z_p1 (.int (z_abI x)) σ) := by
  refine z_Mj.of (by decide +kernel) (Nat.le_of_ble_eq_true rfl) (fun p S e s m below meth c s1 C hP => ?_)
  refine j_sub [0] (lv1 := [(0, .int x)]) rfl ?_
  refine j_iload_n 0 C dJ9_abs_0f7a4_0 0 rfl ?_
  refine j_if_ge 1 C 9 dJ9_abs_0f7a4_1 (by decide) (fun c1 => ?_) (fun c1 => ?_)
  · skip
    refine j_iload_n 9 C dJ9_abs_0f7a4_9 0 rfl ?_
    refine j_iret 10 C hP dJ9_abs_0f7a4_10 ?_
    first | exact ⟨z_ci (z_abI_1 c1), rfl⟩ | exact ⟨z_ci (z_abI_2 c1), rfl⟩
  · skip
    refine j_iload_n 4 C dJ9_abs_0f7a4_4 0 rfl ?_
    refine j_ineg 5 C dJ9_abs_0f7a4_5 ?_
    refine j_goto 6 C 10 dJ9_abs_0f7a4_6 (by decide) ?_
    refine j_iret 10 C hP dJ9_abs_0f7a4_10 ?_
    first | exact ⟨z_ci (z_abI_1 c1), rfl⟩ | exact ⟨z_ci (z_abI_2 c1), rfl⟩
theorem dX2_begin_0 : decode cX2_begin 0 = .ok (.aload_n 0, 1) := by decide +kernel
theorem dX2_begin_1 : decode cX2_begin 1 = .ok (.iload_n 1, 1) := by decide +kernel
theorem dX2_begin_2 : decode cX2_begin 2 = .ok (.putfield 22, 3) := by decide +kernel
theorem dX2_begin_5 : decode cX2_begin 5 = .ok (.aload_n 0, 1) := by decide +kernel
theorem dX2_begin_6 : decode cX2_begin 6 = .ok (.iconst 0, 1) := by decide +kernel
theorem dX2_begin_7 : decode cX2_begin 7 = .ok (.putfield 26, 3) := by decide +kernel
theorem dX2_begin_10 : decode cX2_begin 10 = .ok (.return_, 1) := by decide +kernel
set_option maxRecDepth 100000 in
set_option maxHeartbeats 4000000 in
theorem m_X2_begin {l : Launch} {G : z_Gl} {σ : z_St} (x : Int32) : z_M l G yX2_begin cX2_begin 2 none (z_rm 0 0) [.ref (z_ad G 1), .int x] σ (z_p0 (z_ui (z_ui σ 1 3 x) 1 4 (nI 0))) := by
  refine z_M.of (by decide) (Nat.le_of_ble_eq_true rfl) (fun p e s m below meth c C => ?_)
  refine z_sub [0, 1] (lv1 := [(0, .ref (z_ad G 1)), (1, .int x)]) rfl ?_
  refine z_aload_n 0 C dX2_begin_0 0 rfl ?_
  refine z_iload_n 1 C dX2_begin_1 1 rfl ?_
  refine z_puti 2 C 1 z_dX2 (⟨rfl, rfl⟩) 3 (by decide) q130 rfl (rfl) rfl ⟨Nat.le_of_ble_eq_true rfl, rfl⟩ dX2_begin_2 ?_
  refine z_aload_n 5 C dX2_begin_5 0 rfl ?_
  refine z_iconst 6 C dX2_begin_6 (nI 0) rfl ?_
  refine z_puti 7 C 1 z_dX2 (⟨rfl, rfl⟩) 4 (by decide) q132 rfl (rfl) rfl ⟨Nat.le_of_ble_eq_true rfl, rfl⟩ dX2_begin_7 ?_
  refine z_vret 10 C dX2_begin_10 ?_
  exact ⟨rfl, rfl⟩
theorem dX2_isComplete_0 : decode cX2_isComplete 0 = .ok (.aload_n 0, 1) := by decide +kernel
theorem dX2_isComplete_1 : decode cX2_isComplete 1 = .ok (.getfield 26, 3) := by decide +kernel
theorem dX2_isComplete_4 : decode cX2_isComplete 4 = .ok (.aload_n 0, 1) := by decide +kernel
theorem dX2_isComplete_5 : decode cX2_isComplete 5 = .ok (.getfield 22, 3) := by decide +kernel
theorem dX2_isComplete_8 : decode cX2_isComplete 8 = .ok (.bipush 24, 2) := by decide +kernel
theorem dX2_isComplete_10 : decode cX2_isComplete 10 = .ok (.imul, 1) := by decide +kernel
theorem dX2_isComplete_11 : decode cX2_isComplete 11 = .ok (.if_icmp .lt 7, 3) := by decide +kernel
theorem dX2_isComplete_14 : decode cX2_isComplete 14 = .ok (.iconst 1, 1) := by decide +kernel
theorem dX2_isComplete_15 : decode cX2_isComplete 15 = .ok (.goto 4, 3) := by decide +kernel
theorem dX2_isComplete_18 : decode cX2_isComplete 18 = .ok (.iconst 0, 1) := by decide +kernel
theorem dX2_isComplete_19 : decode cX2_isComplete 19 = .ok (.ireturn, 1) := by decide +kernel
set_option maxRecDepth 100000 in
set_option maxHeartbeats 4000000 in
theorem m_X2_isComplete {l : Launch} {G : z_Gl} {σ : z_St} (P n : Nat) (hP : σ.1 1 3 = nI P) (hn : σ.1 1 4 = nI n) (h12 : P ≤ 12) (h288 : n ≤ 288) : z_M l G yX2_isComplete cX2_isComplete 1 (some .boolean) (z_rm 0 0) [.ref (z_ad G 1)] σ (z_p1 (.int (z_bo (P * 24 ≤ n))) σ) := by
  refine z_M.of (by decide) (Nat.le_of_ble_eq_true rfl) (fun p e s m below meth c C => ?_)
  refine z_sub [0] (lv1 := [(0, .ref (z_ad G 1))]) rfl ?_
  refine z_aload_n 0 C dX2_isComplete_0 0 rfl ?_
  refine z_getf 1 C 1 z_dX2 (⟨rfl, rfl⟩) 4 (by decide) q132 (.int (nI n)) (z_ci hn) dX2_isComplete_1 ?_
  refine z_aload_n 4 C dX2_isComplete_4 0 rfl ?_
  refine z_getf 5 C 1 z_dX2 (⟨rfl, rfl⟩) 3 (by decide) q130 (.int (nI P)) (z_ci hP) dX2_isComplete_5 ?_
  refine z_bipush 8 C dX2_isComplete_8 (nI 24) rfl ?_
  refine z_imulN 10 C P 24 rfl rfl dX2_isComplete_10 ?_
  refine z_icmp_ltN 11 C n (P * 24) rfl rfl (by omega) (by omega) 18 dX2_isComplete_11 (by decide) (fun c11 => ?_) (fun c11 => ?_)
  · skip
    refine z_iconst 18 C dX2_isComplete_18 (nI 0) rfl ?_
    refine z_zret 19 C (rfl) dX2_isComplete_19 ?_
    first | exact ⟨z_ci (z_bo_f (Nat.not_le.mpr c11)), rfl⟩ | exact ⟨z_ci (z_bo_t c11), rfl⟩
  · skip
    refine z_iconst 14 C dX2_isComplete_14 (nI 1) rfl ?_
    refine z_goto 15 C 19 dX2_isComplete_15 (by decide) ?_
    refine z_zret 19 C (rfl) dX2_isComplete_19 ?_
    first | exact ⟨z_ci (z_bo_f (Nat.not_le.mpr c11)), rfl⟩ | exact ⟨z_ci (z_bo_t c11), rfl⟩
theorem dX2_finishedSteps_0 : decode cX2_finishedSteps 0 = .ok (.aload_n 0, 1) := by decide +kernel
theorem dX2_finishedSteps_1 : decode cX2_finishedSteps 1 = .ok (.getfield 26, 3) := by decide +kernel
theorem dX2_finishedSteps_4 : decode cX2_finishedSteps 4 = .ok (.bipush 24, 2) := by decide +kernel
theorem dX2_finishedSteps_6 : decode cX2_finishedSteps 6 = .ok (.idiv, 1) := by decide +kernel
theorem dX2_finishedSteps_7 : decode cX2_finishedSteps 7 = .ok (.ireturn, 1) := by decide +kernel
set_option maxRecDepth 100000 in
set_option maxHeartbeats 4000000 in
theorem m_X2_finishedSteps {l : Launch} {G : z_Gl} {σ : z_St} (n : Nat) (hn : σ.1 1 4 = nI n) (h288 : n ≤ 288) : z_M l G yX2_finishedSteps cX2_finishedSteps 1 (some .int) (z_rm 0 0) [.ref (z_ad G 1)] σ (z_p1 (.int (nI (n / 24))) σ) := by
  refine z_M.of (by decide) (Nat.le_of_ble_eq_true rfl) (fun p e s m below meth c C => ?_)
  refine z_sub [0] (lv1 := [(0, .ref (z_ad G 1))]) rfl ?_
  refine z_aload_n 0 C dX2_finishedSteps_0 0 rfl ?_
  refine z_getf 1 C 1 z_dX2 (⟨rfl, rfl⟩) 4 (by decide) q132 (.int (nI n)) (z_ci hn) dX2_finishedSteps_1 ?_
  refine z_bipush 4 C dX2_finishedSteps_4 (nI 24) rfl ?_
  refine z_idivN 6 C n 24 rfl rfl (by omega) (by omega) (by omega) dX2_finishedSteps_6 ?_
  refine z_iret 7 C dX2_finishedSteps_7 ?_
  exact ⟨rfl, rfl⟩
theorem dX2_nextPosition_0 : decode cX2_nextPosition 0 = .ok (.aload_n 0, 1) := by decide +kernel
theorem dX2_nextPosition_1 : decode cX2_nextPosition 1 = .ok (.getfield 26, 3) := by decide +kernel
theorem dX2_nextPosition_4 : decode cX2_nextPosition 4 = .ok (.bipush 24, 2) := by decide +kernel
theorem dX2_nextPosition_6 : decode cX2_nextPosition 6 = .ok (.irem, 1) := by decide +kernel
theorem dX2_nextPosition_7 : decode cX2_nextPosition 7 = .ok (.ireturn, 1) := by decide +kernel
set_option maxRecDepth 100000 in
set_option maxHeartbeats 4000000 in
theorem m_X2_nextPosition {l : Launch} {G : z_Gl} {σ : z_St} (n : Nat) (hn : σ.1 1 4 = nI n) (h288 : n ≤ 288) : z_M l G yX2_nextPosition cX2_nextPosition 1 (some .int) (z_rm 0 0) [.ref (z_ad G 1)] σ (z_p1 (.int (nI (n % 24))) σ) := by
  refine z_M.of (by decide) (Nat.le_of_ble_eq_true rfl) (fun p e s m below meth c C => ?_)
  refine z_sub [0] (lv1 := [(0, .ref (z_ad G 1))]) rfl ?_
  refine z_aload_n 0 C dX2_nextPosition_0 0 rfl ?_
  refine z_getf 1 C 1 z_dX2 (⟨rfl, rfl⟩) 4 (by decide) q132 (.int (nI n)) (z_ci hn) dX2_nextPosition_1 ?_
  refine z_bipush 4 C dX2_nextPosition_4 (nI 24) rfl ?_
  refine z_iremN 6 C n 24 rfl rfl (by omega) (by omega) (by omega) dX2_nextPosition_6 ?_
  refine z_iret 7 C dX2_nextPosition_7 ?_
  exact ⟨rfl, rfl⟩
theorem dX2_turnOf_0 : decode cX2_turnOf 0 = .ok (.aload_n 0, 1) := by decide +kernel
theorem dX2_turnOf_1 : decode cX2_turnOf 1 = .ok (.getfield 22, 3) := by decide +kernel
theorem dX2_turnOf_4 : decode cX2_turnOf 4 = .ok (.ifCond .ne 7, 3) := by decide +kernel
theorem dX2_turnOf_11 : decode cX2_turnOf 11 = .ok (.iload_n 1, 1) := by decide +kernel
theorem dX2_turnOf_12 : decode cX2_turnOf 12 = .ok (.bipush 24, 2) := by decide +kernel
theorem dX2_turnOf_14 : decode cX2_turnOf 14 = .ok (.aload_n 0, 1) := by decide +kernel
theorem dX2_turnOf_15 : decode cX2_turnOf 15 = .ok (.getfield 22, 3) := by decide +kernel
theorem dX2_turnOf_18 : decode cX2_turnOf 18 = .ok (.idiv, 1) := by decide +kernel
theorem dX2_turnOf_19 : decode cX2_turnOf 19 = .ok (.imul, 1) := by decide +kernel
theorem dX2_turnOf_20 : decode cX2_turnOf 20 = .ok (.ireturn, 1) := by decide +kernel
set_option maxRecDepth 100000 in
set_option maxHeartbeats 4000000 in
theorem m_X2_turnOf {l : Launch} {G : z_Gl} {σ : z_St} (P : Nat) (hP : σ.1 1 3 = nI P) (h0 : 0 < P) (h12 : P ≤ 12) (j : Nat) : z_M l G yX2_turnOf cX2_turnOf 2 (some .int) (z_rm 0 0) [.ref (z_ad G 1), .int (nI j)] σ (z_p1 (.int (nI (j * (24 / P)))) σ) := by
  refine z_M.of (by decide) (Nat.le_of_ble_eq_true rfl) (fun p e s m below meth c C => ?_)
  refine z_sub [0, 1] (lv1 := [(0, .ref (z_ad G 1)), (1, .int (nI j))]) rfl ?_
  refine z_aload_n 0 C dX2_turnOf_0 0 rfl ?_
  refine z_getf 1 C 1 z_dX2 (⟨rfl, rfl⟩) 3 (by decide) q130 (.int (nI P)) (z_ci hP) dX2_turnOf_1 ?_
  refine z_if_ne 4 C 11 dX2_turnOf_4 (by decide) (fun c4 => ?_) (fun c4 => ?_)
  · skip
    refine z_iload_n 11 C dX2_turnOf_11 1 rfl ?_
    refine z_bipush 12 C dX2_turnOf_12 (nI 24) rfl ?_
    refine z_aload_n 14 C dX2_turnOf_14 0 rfl ?_
    refine z_getf 15 C 1 z_dX2 (⟨rfl, rfl⟩) 3 (by decide) q130 (.int (nI P)) (z_ci hP) dX2_turnOf_15 ?_
    refine z_idivN 18 C 24 P rfl rfl (by omega) (by omega) (by omega) dX2_turnOf_18 ?_
    refine z_imulN 19 C j (24 / P) rfl rfl dX2_turnOf_19 ?_
    refine z_iret 20 C dX2_turnOf_20 ?_
    exact ⟨rfl, rfl⟩
  · skip
    exact absurd ((z_nI0 (by omega)).mp c4) (by omega)
theorem dX2_append_0 : decode cX2_append 0 = .ok (.aload_n 0, 1) := by decide +kernel
theorem dX2_append_1 : decode cX2_append 1 = .ok (.getfield 26, 3) := by decide +kernel
theorem dX2_append_4 : decode cX2_append 4 = .ok (.aload_n 0, 1) := by decide +kernel
theorem dX2_append_5 : decode cX2_append 5 = .ok (.getfield 9, 3) := by decide +kernel
theorem dX2_append_8 : decode cX2_append 8 = .ok (.arraylength, 1) := by decide +kernel
theorem dX2_append_9 : decode cX2_append 9 = .ok (.if_icmp .ge 23, 3) := by decide +kernel
theorem dX2_append_12 : decode cX2_append 12 = .ok (.aload_n 0, 1) := by decide +kernel
theorem dX2_append_13 : decode cX2_append 13 = .ok (.getfield 9, 3) := by decide +kernel
theorem dX2_append_16 : decode cX2_append 16 = .ok (.aload_n 0, 1) := by decide +kernel
theorem dX2_append_17 : decode cX2_append 17 = .ok (.getfield 26, 3) := by decide +kernel
theorem dX2_append_20 : decode cX2_append 20 = .ok (.iload_n 1, 1) := by decide +kernel
theorem dX2_append_21 : decode cX2_append 21 = .ok (.iastore, 1) := by decide +kernel
theorem dX2_append_22 : decode cX2_append 22 = .ok (.aload_n 0, 1) := by decide +kernel
theorem dX2_append_23 : decode cX2_append 23 = .ok (.dup, 1) := by decide +kernel
theorem dX2_append_24 : decode cX2_append 24 = .ok (.getfield 26, 3) := by decide +kernel
theorem dX2_append_27 : decode cX2_append 27 = .ok (.iconst 1, 1) := by decide +kernel
theorem dX2_append_28 : decode cX2_append 28 = .ok (.iadd, 1) := by decide +kernel
theorem dX2_append_29 : decode cX2_append 29 = .ok (.putfield 26, 3) := by decide +kernel
theorem dX2_append_32 : decode cX2_append 32 = .ok (.return_, 1) := by decide +kernel
set_option maxRecDepth 100000 in
set_option maxHeartbeats 4000000 in
theorem m_X2_append {l : Launch} {G : z_Gl} {σ : z_St} (n : Nat) (hn : σ.1 1 4 = nI n) (h288 : n < 288) (x : Int32) : z_M l G yX2_append cX2_append 2 none (z_rm 0 0) [.ref (z_ad G 1), .int x] σ (z_p0 (z_ui (z_ui σ 2 n x) 1 4 (nI (n + 1)))) := by
  refine z_M.of (by decide) (Nat.le_of_ble_eq_true rfl) (fun p e s m below meth c C => ?_)
  refine z_sub [0, 1] (lv1 := [(0, .ref (z_ad G 1)), (1, .int x)]) rfl ?_
  refine z_aload_n 0 C dX2_append_0 0 rfl ?_
  refine z_getf 1 C 1 z_dX2 (⟨rfl, rfl⟩) 4 (by decide) q132 (.int (nI n)) (z_ci hn) dX2_append_1 ?_
  refine z_aload_n 4 C dX2_append_4 0 rfl ?_
  refine z_getf 5 C 1 z_dX2 (⟨rfl, rfl⟩) 0 (by decide) q127 (.ref (z_ad G 2)) rfl dX2_append_5 ?_
  refine z_alen 8 C 2 ⟨rfl, rfl⟩ dX2_append_8 ?_
  refine z_cv (st1 := [.int (nI 288), .int (nI n)]) rfl rfl rfl ?_
  refine z_icmp_geN 9 C n 288 rfl rfl (by omega) (by omega) 32 dX2_append_9 (by decide) (fun c9 => ?_) (fun c9 => ?_)
  · skip
    exact absurd c9 (by omega)
  · skip
    refine z_aload_n 12 C dX2_append_12 0 rfl ?_
    refine z_getf 13 C 1 z_dX2 (⟨rfl, rfl⟩) 0 (by decide) q127 (.ref (z_ad G 2)) rfl dX2_append_13 ?_
    refine z_aload_n 16 C dX2_append_16 0 rfl ?_
    refine z_getf 17 C 1 z_dX2 (⟨rfl, rfl⟩) 4 (by decide) q132 (.int (nI n)) (z_ci hn) dX2_append_17 ?_
    refine z_iload_n 20 C dX2_append_20 1 rfl ?_
    refine z_iastN 21 C 2 (n := 288) (⟨rfl, rfl⟩) n rfl (by omega) (by decide) dX2_append_21 ?_
    refine z_aload_n 22 C dX2_append_22 0 rfl ?_
    refine z_dup 23 C dX2_append_23 rfl ?_
    refine z_getf 24 C 1 z_dX2 (⟨rfl, rfl⟩) 4 (by decide) q132 (.int (nI n)) (z_ci hn) dX2_append_24 ?_
    refine z_iconst 27 C dX2_append_27 (nI 1) rfl ?_
    refine z_iaddN 28 C n 1 rfl rfl dX2_append_28 ?_
    refine z_puti 29 C 1 z_dX2 (⟨rfl, rfl⟩) 4 (by decide) q132 rfl (rfl) rfl ⟨Nat.le_of_ble_eq_true rfl, rfl⟩ dX2_append_29 ?_
    refine z_vret 32 C dX2_append_32 ?_
    exact ⟨rfl, rfl⟩
theorem dX2_at_0 : decode cX2_at 0 = .ok (.aload_n 0, 1) := by decide +kernel
theorem dX2_at_1 : decode cX2_at 1 = .ok (.getfield 9, 3) := by decide +kernel
theorem dX2_at_4 : decode cX2_at 4 = .ok (.iload_n 1, 1) := by decide +kernel
theorem dX2_at_5 : decode cX2_at 5 = .ok (.bipush 24, 2) := by decide +kernel
theorem dX2_at_7 : decode cX2_at 7 = .ok (.imul, 1) := by decide +kernel
theorem dX2_at_8 : decode cX2_at 8 = .ok (.iload_n 2, 1) := by decide +kernel
theorem dX2_at_9 : decode cX2_at 9 = .ok (.bipush 24, 2) := by decide +kernel
theorem dX2_at_11 : decode cX2_at 11 = .ok (.invokestatic 29, 3) := by decide +kernel
theorem dX2_at_14 : decode cX2_at 14 = .ok (.iadd, 1) := by decide +kernel
theorem dX2_at_15 : decode cX2_at 15 = .ok (.iaload, 1) := by decide +kernel
theorem dX2_at_16 : decode cX2_at 16 = .ok (.ireturn, 1) := by decide +kernel
set_option maxRecDepth 100000 in
set_option maxHeartbeats 4000000 in
theorem m_X2_at {l : Launch} {G : z_Gl} {σ : z_St} (j k : Nat) (hj : j < 12) (hk : k < 2 ^ 31) : z_M l G yX2_at cX2_at 3 (some .int) (z_rm 1 22) [.ref (z_ad G 1), .int (nI j), .int (nI k)] σ (z_p1 (.int (σ.1 2 (j * 24 + k % 24))) σ) := by
  refine z_M.of (by decide) (Nat.le_of_ble_eq_true rfl) (fun p e s m below meth c C => ?_)
  refine z_sub [0, 1, 2] (lv1 := [(0, .ref (z_ad G 1)), (1, .int (nI j)), (2, .int (nI k))]) rfl ?_
  refine z_aload_n 0 C dX2_at_0 0 rfl ?_
  refine z_getf 1 C 1 z_dX2 (⟨rfl, rfl⟩) 0 (by decide) q127 (.ref (z_ad G 2)) rfl dX2_at_1 ?_
  refine z_iload_n 4 C dX2_at_4 1 rfl ?_
  refine z_bipush 5 C dX2_at_5 (nI 24) rfl ?_
  refine z_imulN 7 C j 24 rfl rfl dX2_at_7 ?_
  refine z_iload_n 8 C dX2_at_8 2 rfl ?_
  refine z_bipush 9 C dX2_at_9 (nI 24) rfl ?_
  refine z_callS 11 C (As := [.int (nI k), .int (nI 24)]) (rest := [.int (nI (j * 24)), .ref (z_ad G 2)]) (m_J9_floorMod_7cf53 (nI k)) k_J9_floorMod_7cf53 q452 ⟨rfl, rfl⟩ ⟨Nat.le_of_ble_eq_true rfl, Nat.le_of_ble_eq_true rfl⟩ rfl (Nat.le_of_ble_eq_true rfl) ⟨Nat.le_of_ble_eq_true rfl, Nat.le_of_ble_eq_true rfl⟩ rfl dX2_at_11 (z_k1 ?_)
  rw [z_pm_n hk]
  refine z_cv (lv1 := [(0, .ref (z_ad G 1)), (1, .int (nI j)), (2, .int (nI k))]) (st1 := [.int (nI (k % 24)), .int (nI (j * 24)), .ref (z_ad G 2)]) (σ1 := σ) rfl rfl rfl ?_
  refine z_iaddN 14 C (j * 24) (k % 24) rfl rfl dX2_at_14 ?_
  refine z_ialdN 15 C 2 (n := 288) (⟨rfl, rfl⟩) ((j * 24) + (k % 24)) rfl (by omega) (by decide) dX2_at_15 ?_
  refine z_iret 16 C dX2_at_16 ?_
  exact ⟨rfl, rfl⟩
theorem dX2_sumAt_0 : decode cX2_sumAt 0 = .ok (.lconst 0, 1) := by decide +kernel
theorem dX2_sumAt_1 : decode cX2_sumAt 1 = .ok (.lstore_n 2, 1) := by decide +kernel
theorem dX2_sumAt_2 : decode cX2_sumAt 2 = .ok (.iconst 0, 1) := by decide +kernel
theorem dX2_sumAt_3 : decode cX2_sumAt 3 = .ok (.istore 4, 2) := by decide +kernel
theorem dX2_sumAt_5 : decode cX2_sumAt 5 = .ok (.iload 4, 2) := by decide +kernel
theorem dX2_sumAt_7 : decode cX2_sumAt 7 = .ok (.aload_n 0, 1) := by decide +kernel
theorem dX2_sumAt_8 : decode cX2_sumAt 8 = .ok (.getfield 22, 3) := by decide +kernel
theorem dX2_sumAt_11 : decode cX2_sumAt 11 = .ok (.if_icmp .ge 20, 3) := by decide +kernel
theorem dX2_sumAt_14 : decode cX2_sumAt 14 = .ok (.lload_n 2, 1) := by decide +kernel
theorem dX2_sumAt_15 : decode cX2_sumAt 15 = .ok (.aload_n 0, 1) := by decide +kernel
theorem dX2_sumAt_16 : decode cX2_sumAt 16 = .ok (.iload 4, 2) := by decide +kernel
theorem dX2_sumAt_18 : decode cX2_sumAt 18 = .ok (.iload_n 1, 1) := by decide +kernel
theorem dX2_sumAt_19 : decode cX2_sumAt 19 = .ok (.invokevirtual 51, 3) := by decide +kernel
theorem dX2_sumAt_22 : decode cX2_sumAt 22 = .ok (.i2l, 1) := by decide +kernel
theorem dX2_sumAt_23 : decode cX2_sumAt 23 = .ok (.ladd, 1) := by decide +kernel
theorem dX2_sumAt_24 : decode cX2_sumAt 24 = .ok (.lstore_n 2, 1) := by decide +kernel
theorem dX2_sumAt_25 : decode cX2_sumAt 25 = .ok (.iinc 4 1, 3) := by decide +kernel
theorem dX2_sumAt_28 : decode cX2_sumAt 28 = .ok (.goto (-23), 3) := by decide +kernel
theorem dX2_sumAt_31 : decode cX2_sumAt 31 = .ok (.lload_n 2, 1) := by decide +kernel
theorem dX2_sumAt_32 : decode cX2_sumAt 32 = .ok (.lreturn, 1) := by decide +kernel
set_option maxRecDepth 100000 in
set_option maxHeartbeats 4000000 in
theorem m_X2_sumAt {l : Launch} {G : z_Gl} {σ : z_St} (P : Nat) (hP : σ.1 1 3 = nI P) (h0 : 0 < P) (h12 : P ≤ 12) (k : Nat) (hk : k < 2 ^ 31) : z_M l G yX2_sumAt cX2_sumAt 5 (some .long) (z_rm 2 44) [.ref (z_ad G 1), .int (nI k)] σ (z_p1 (.long (z_su (σ.1 2) (k % 24) P)) σ) := by
  refine z_M.of (by decide) (Nat.le_of_ble_eq_true rfl) (fun p e s m below meth c C => ?_)
  refine z_sub [0, 1] (lv1 := [(0, .ref (z_ad G 1)), (1, .int (nI k))]) rfl ?_
  refine z_lconst 0 C dX2_sumAt_0 0 rfl ?_
  refine z_lstore_n 1 C dX2_sumAt_1 [(2, .long 0), (0, .ref (z_ad G 1)), (1, .int (nI k))] (by decide) rfl ?_
  refine z_iconst 2 C dX2_sumAt_2 (nI 0) rfl ?_
  refine z_istore 3 C dX2_sumAt_3 [(4, .int (nI 0)), (2, .long 0), (0, .ref (z_ad G 1)), (1, .int (nI k))] (by decide) rfl ?_
  refine z_sub [2, 3, 1, 0] (lv1 := [(0, .ref (z_ad G 1)), (1, .int (nI k)), (2, .long 0), (4, .int (nI 0))]) rfl ?_
  refine z_cv (lv1 := [(0, .ref (z_ad G 1)), (1, .int (nI k)), (2, .long (z_su (σ.1 2) (k % 24) 0)), (4, .int (nI 0))]) (st1 := []) (σ1 := σ) rfl rfl rfl ?_
  refine z_lp1 (fun (j : Nat) => j ≤ P) (fun (j : Nat) => P - j) (fun (j : Nat) => [(0, .ref (z_ad G 1)), (1, .int (nI k)), (2, .long (z_su (σ.1 2) (k % 24) j)), (4, .int (nI j))]) (fun (j : Nat) => σ) (fun j hi_5 ih_5 => ?_) 0 (by omega)
  try dsimp only
  refine z_iload 5 C dX2_sumAt_5 3 rfl ?_
  refine z_aload_n 7 C dX2_sumAt_7 0 rfl ?_
  refine z_getf 8 C 1 z_dX2 (⟨rfl, rfl⟩) 3 (by decide) q130 (.int (nI P)) (z_ci hP) dX2_sumAt_8 ?_
  refine z_icmp_geN 11 C j P rfl rfl (by omega) (by omega) 31 dX2_sumAt_11 (by decide) (fun c11 => ?_) (fun c11 => ?_)
  · skip
    have ej : j = P := by omega
    subst ej
    refine z_lload_n 31 C dX2_sumAt_31 2 rfl ?_
    refine z_lret 32 C dX2_sumAt_32 ?_
    exact ⟨rfl, rfl⟩
  · skip
    refine z_lload_n 14 C dX2_sumAt_14 2 rfl ?_
    refine z_aload_n 15 C dX2_sumAt_15 0 rfl ?_
    refine z_iload 16 C dX2_sumAt_16 3 rfl ?_
    refine z_iload_n 18 C dX2_sumAt_18 1 rfl ?_
    refine z_callV 19 C 1 (⟨rfl, rfl⟩) rfl (As := [.int (nI j), .int (nI k)]) (rest := [.long (z_su (σ.1 2) (k % 24) j)]) (m_X2_at j k (by omega) (by omega)) k_X2_at q481 ⟨rfl, rfl⟩ ⟨Nat.le_of_ble_eq_true rfl, Nat.le_of_ble_eq_true rfl⟩ rfl (Nat.le_of_ble_eq_true rfl) ⟨Nat.le_of_ble_eq_true rfl, Nat.le_of_ble_eq_true rfl⟩ rfl dX2_sumAt_19 (z_k1 ?_)
    refine z_i2l 22 C dX2_sumAt_22 ?_
    refine z_ladd 23 C dX2_sumAt_23 ?_
    refine z_lstore_n 24 C dX2_sumAt_24 [(2, .long ((z_su (σ.1 2) (k % 24) j) + (Int32.toInt64 (σ.1 2 (j * 24 + k % 24))))), (0, .ref (z_ad G 1)), (1, .int (nI k)), (4, .int (nI j))] (by decide) rfl ?_
    refine z_iincN 25 C 3 j [(4, .int (nI (j + 1))), (2, .long ((z_su (σ.1 2) (k % 24) j) + (Int32.toInt64 (σ.1 2 (j * 24 + k % 24))))), (0, .ref (z_ad G 1)), (1, .int (nI k))] rfl rfl (by decide) rfl dX2_sumAt_25 ?_
    refine z_goto 28 C 5 dX2_sumAt_28 (by decide) ?_
    refine z_sub [2, 3, 1, 0] (lv1 := [(0, .ref (z_ad G 1)), (1, .int (nI k)), (2, .long ((z_su (σ.1 2) (k % 24) j) + (Int32.toInt64 (σ.1 2 (j * 24 + k % 24))))), (4, .int (nI (j + 1)))]) rfl ?_
    refine z_cv (lv1 := [(0, .ref (z_ad G 1)), (1, .int (nI k)), (2, .long (z_su (σ.1 2) (k % 24) (j + 1))), (4, .int (nI (j + 1)))]) (st1 := []) (σ1 := σ) rfl rfl rfl ?_
    exact ih_5 (j + 1) (by omega) (by omega)
theorem dX2_spindleAt_0 : decode cX2_spindleAt 0 = .ok (.ldc2_w 54, 3) := by decide +kernel
theorem dX2_spindleAt_3 : decode cX2_spindleAt 3 = .ok (.aload_n 0, 1) := by decide +kernel
theorem dX2_spindleAt_4 : decode cX2_spindleAt 4 = .ok (.iload_n 1, 1) := by decide +kernel
theorem dX2_spindleAt_5 : decode cX2_spindleAt 5 = .ok (.invokevirtual 56, 3) := by decide +kernel
theorem dX2_spindleAt_8 : decode cX2_spindleAt 8 = .ok (.lmul, 1) := by decide +kernel
theorem dX2_spindleAt_9 : decode cX2_spindleAt 9 = .ok (.aload_n 0, 1) := by decide +kernel
theorem dX2_spindleAt_10 : decode cX2_spindleAt 10 = .ok (.getfield 22, 3) := by decide +kernel
theorem dX2_spindleAt_13 : decode cX2_spindleAt 13 = .ok (.i2l, 1) := by decide +kernel
theorem dX2_spindleAt_14 : decode cX2_spindleAt 14 = .ok (.invokestatic 60, 3) := by decide +kernel
theorem dX2_spindleAt_17 : decode cX2_spindleAt 17 = .ok (.lreturn, 1) := by decide +kernel
set_option maxRecDepth 100000 in
set_option maxHeartbeats 4000000 in
theorem m_X2_spindleAt {l : Launch} {G : z_Gl} {σ : z_St} (P : Nat) (hP : σ.1 1 3 = nI P) (h0 : 0 < P) (h12 : P ≤ 12) (k : Nat) (hk : k < 24) : z_M l G yX2_spindleAt cX2_spindleAt 2 (some .long) (z_rm 3 68) [.ref (z_ad G 1), .int (nI k)] σ (z_p1 (.long (z_sp (σ.1 2) P k)) σ) := by
  refine z_M.of (by decide) (Nat.le_of_ble_eq_true rfl) (fun p e s m below meth c C => ?_)
  refine z_sub [0, 1] (lv1 := [(0, .ref (z_ad G 1)), (1, .int (nI k))]) rfl ?_
  refine z_ldc2 0 C dX2_spindleAt_0 q486 ?_
  refine z_aload_n 3 C dX2_spindleAt_3 0 rfl ?_
  refine z_iload_n 4 C dX2_spindleAt_4 1 rfl ?_
  refine z_callV 5 C 1 (⟨rfl, rfl⟩) rfl (As := [.int (nI k)]) (rest := [.long 1000000]) (m_X2_sumAt P hP h0 h12 k (by omega)) k_X2_sumAt q482 ⟨rfl, rfl⟩ ⟨Nat.le_of_ble_eq_true rfl, Nat.le_of_ble_eq_true rfl⟩ rfl (Nat.le_of_ble_eq_true rfl) ⟨Nat.le_of_ble_eq_true rfl, Nat.le_of_ble_eq_true rfl⟩ rfl dX2_spindleAt_5 (z_k1 ?_)
  refine z_cv (lv1 := [(0, .ref (z_ad G 1)), (1, .int (nI k))]) (st1 := [.long (z_su (σ.1 2) k P), .long 1000000]) (σ1 := σ) rfl (by rw [Nat.mod_eq_of_lt hk]) rfl ?_
  refine z_lmul 8 C dX2_spindleAt_8 ?_
  refine z_aload_n 9 C dX2_spindleAt_9 0 rfl ?_
  refine z_getf 10 C 1 z_dX2 (⟨rfl, rfl⟩) 3 (by decide) q130 (.int (nI P)) (z_ci hP) dX2_spindleAt_10 ?_
  refine z_i2l 13 C dX2_spindleAt_13 ?_
  refine z_cv (lv1 := [(0, .ref (z_ad G 1)), (1, .int (nI k))]) (st1 := [.long (lN P), .long (1000000 * (z_su (σ.1 2) k P))]) (σ1 := σ) rfl (by rw [nI_l (by omega)]) rfl ?_
  refine z_callSN 14 C (As := [.long (1000000 * (z_su (σ.1 2) k P)), .long (lN P)]) (rest := []) (m_X7_divide (1000000 * (z_su (σ.1 2) k P)) (lN P) (z_lNp h0 h12)) k_X7_divide (List.mem_of_getElem? (i := 22) rfl) ⟨rfl, rfl⟩ ⟨Nat.le_of_ble_eq_true rfl, Nat.le_of_ble_eq_true rfl⟩ rfl (Nat.le_of_ble_eq_true rfl) ⟨Nat.le_of_ble_eq_true rfl, Nat.le_of_ble_eq_true rfl⟩ rfl dX2_spindleAt_14 (z_k1 ?_)
  refine z_lret 17 C dX2_spindleAt_17 ?_
  exact ⟨rfl, rfl⟩
theorem dX2_partAt_0 : decode cX2_partAt 0 = .ok (.lconst 0, 1) := by decide +kernel
theorem dX2_partAt_1 : decode cX2_partAt 1 = .ok (.lstore_n 2, 1) := by decide +kernel
theorem dX2_partAt_2 : decode cX2_partAt 2 = .ok (.iconst 0, 1) := by decide +kernel
theorem dX2_partAt_3 : decode cX2_partAt 3 = .ok (.istore 4, 2) := by decide +kernel
theorem dX2_partAt_5 : decode cX2_partAt 5 = .ok (.iload 4, 2) := by decide +kernel
theorem dX2_partAt_7 : decode cX2_partAt 7 = .ok (.aload_n 0, 1) := by decide +kernel
theorem dX2_partAt_8 : decode cX2_partAt 8 = .ok (.getfield 22, 3) := by decide +kernel
theorem dX2_partAt_11 : decode cX2_partAt 11 = .ok (.if_icmp .ge 44, 3) := by decide +kernel
theorem dX2_partAt_14 : decode cX2_partAt 14 = .ok (.iload_n 1, 1) := by decide +kernel
theorem dX2_partAt_15 : decode cX2_partAt 15 = .ok (.aload_n 0, 1) := by decide +kernel
theorem dX2_partAt_16 : decode cX2_partAt 16 = .ok (.iload 4, 2) := by decide +kernel
theorem dX2_partAt_18 : decode cX2_partAt 18 = .ok (.invokevirtual 64, 3) := by decide +kernel
theorem dX2_partAt_21 : decode cX2_partAt 21 = .ok (.iadd, 1) := by decide +kernel
theorem dX2_partAt_22 : decode cX2_partAt 22 = .ok (.istore 5, 2) := by decide +kernel
theorem dX2_partAt_24 : decode cX2_partAt 24 = .ok (.lload_n 2, 1) := by decide +kernel
theorem dX2_partAt_25 : decode cX2_partAt 25 = .ok (.aload_n 0, 1) := by decide +kernel
theorem dX2_partAt_26 : decode cX2_partAt 26 = .ok (.getfield 22, 3) := by decide +kernel
theorem dX2_partAt_29 : decode cX2_partAt 29 = .ok (.i2l, 1) := by decide +kernel
theorem dX2_partAt_30 : decode cX2_partAt 30 = .ok (.aload_n 0, 1) := by decide +kernel
theorem dX2_partAt_31 : decode cX2_partAt 31 = .ok (.iload 4, 2) := by decide +kernel
theorem dX2_partAt_33 : decode cX2_partAt 33 = .ok (.iload 5, 2) := by decide +kernel
theorem dX2_partAt_35 : decode cX2_partAt 35 = .ok (.invokevirtual 51, 3) := by decide +kernel
theorem dX2_partAt_38 : decode cX2_partAt 38 = .ok (.i2l, 1) := by decide +kernel
theorem dX2_partAt_39 : decode cX2_partAt 39 = .ok (.lmul, 1) := by decide +kernel
theorem dX2_partAt_40 : decode cX2_partAt 40 = .ok (.aload_n 0, 1) := by decide +kernel
theorem dX2_partAt_41 : decode cX2_partAt 41 = .ok (.iload 5, 2) := by decide +kernel
theorem dX2_partAt_43 : decode cX2_partAt 43 = .ok (.invokevirtual 56, 3) := by decide +kernel
theorem dX2_partAt_46 : decode cX2_partAt 46 = .ok (.lsub, 1) := by decide +kernel
theorem dX2_partAt_47 : decode cX2_partAt 47 = .ok (.ladd, 1) := by decide +kernel
theorem dX2_partAt_48 : decode cX2_partAt 48 = .ok (.lstore_n 2, 1) := by decide +kernel
theorem dX2_partAt_49 : decode cX2_partAt 49 = .ok (.iinc 4 1, 3) := by decide +kernel
theorem dX2_partAt_52 : decode cX2_partAt 52 = .ok (.goto (-47), 3) := by decide +kernel
theorem dX2_partAt_55 : decode cX2_partAt 55 = .ok (.ldc2_w 54, 3) := by decide +kernel
theorem dX2_partAt_58 : decode cX2_partAt 58 = .ok (.lload_n 2, 1) := by decide +kernel
theorem dX2_partAt_59 : decode cX2_partAt 59 = .ok (.lmul, 1) := by decide +kernel
theorem dX2_partAt_60 : decode cX2_partAt 60 = .ok (.aload_n 0, 1) := by decide +kernel
theorem dX2_partAt_61 : decode cX2_partAt 61 = .ok (.getfield 22, 3) := by decide +kernel
theorem dX2_partAt_64 : decode cX2_partAt 64 = .ok (.i2l, 1) := by decide +kernel
theorem dX2_partAt_65 : decode cX2_partAt 65 = .ok (.aload_n 0, 1) := by decide +kernel
theorem dX2_partAt_66 : decode cX2_partAt 66 = .ok (.getfield 22, 3) := by decide +kernel
theorem dX2_partAt_69 : decode cX2_partAt 69 = .ok (.i2l, 1) := by decide +kernel
theorem dX2_partAt_70 : decode cX2_partAt 70 = .ok (.lmul, 1) := by decide +kernel
theorem dX2_partAt_71 : decode cX2_partAt 71 = .ok (.invokestatic 60, 3) := by decide +kernel
theorem dX2_partAt_74 : decode cX2_partAt 74 = .ok (.lreturn, 1) := by decide +kernel
set_option maxRecDepth 100000 in
set_option maxHeartbeats 4000000 in
theorem m_X2_partAt {l : Launch} {G : z_Gl} {σ : z_St} (P : Nat) (hP : σ.1 1 3 = nI P) (h0 : 0 < P) (h12 : P ≤ 12) (k : Nat) (hk : k < 24) : z_M l G yX2_partAt cX2_partAt 6 (some .long) (z_rm 3 68) [.ref (z_ad G 1), .int (nI k)] σ (z_p1 (.long (z_pt (σ.1 2) P k)) σ) := by
  refine z_M.of (by decide) (Nat.le_of_ble_eq_true rfl) (fun p e s m below meth c C => ?_)
  refine z_sub [0, 1] (lv1 := [(0, .ref (z_ad G 1)), (1, .int (nI k))]) rfl ?_
  refine z_lconst 0 C dX2_partAt_0 0 rfl ?_
  refine z_lstore_n 1 C dX2_partAt_1 [(2, .long 0), (0, .ref (z_ad G 1)), (1, .int (nI k))] (by decide) rfl ?_
  refine z_iconst 2 C dX2_partAt_2 (nI 0) rfl ?_
  refine z_istore 3 C dX2_partAt_3 [(4, .int (nI 0)), (2, .long 0), (0, .ref (z_ad G 1)), (1, .int (nI k))] (by decide) rfl ?_
  refine z_sub [2, 3, 1, 0] (lv1 := [(0, .ref (z_ad G 1)), (1, .int (nI k)), (2, .long 0), (4, .int (nI 0))]) rfl ?_
  refine z_cv (lv1 := [(0, .ref (z_ad G 1)), (1, .int (nI k)), (2, .long (z_pa (σ.1 2) P k 0)), (4, .int (nI 0))]) (st1 := []) (σ1 := σ) rfl rfl rfl ?_
  refine z_lp1 (fun (j : Nat) => j ≤ P) (fun (j : Nat) => P - j) (fun (j : Nat) => [(0, .ref (z_ad G 1)), (1, .int (nI k)), (2, .long (z_pa (σ.1 2) P k j)), (4, .int (nI j))]) (fun (j : Nat) => σ) (fun j hi_5 ih_5 => ?_) 0 (by omega)
  try dsimp only
  refine z_iload 5 C dX2_partAt_5 3 rfl ?_
  refine z_aload_n 7 C dX2_partAt_7 0 rfl ?_
  refine z_getf 8 C 1 z_dX2 (⟨rfl, rfl⟩) 3 (by decide) q130 (.int (nI P)) (z_ci hP) dX2_partAt_8 ?_
  refine z_icmp_geN 11 C j P rfl rfl (by omega) (by omega) 55 dX2_partAt_11 (by decide) (fun c11 => ?_) (fun c11 => ?_)
  · skip
    have ej : j = P := by omega
    subst ej
    refine z_ldc2 55 C dX2_partAt_55 q486 ?_
    refine z_lload_n 58 C dX2_partAt_58 2 rfl ?_
    refine z_lmul 59 C dX2_partAt_59 ?_
    refine z_aload_n 60 C dX2_partAt_60 0 rfl ?_
    refine z_getf 61 C 1 z_dX2 (⟨rfl, rfl⟩) 3 (by decide) q130 (.int (nI j)) (z_ci hP) dX2_partAt_61 ?_
    refine z_i2l 64 C dX2_partAt_64 ?_
    refine z_cv (lv1 := [(0, .ref (z_ad G 1)), (1, .int (nI k)), (2, .long (z_pa (σ.1 2) j k j)), (4, .int (nI j))]) (st1 := [.long (lN j), .long (1000000 * (z_pa (σ.1 2) j k j))]) (σ1 := σ) rfl (by rw [nI_l (by omega)]) rfl ?_
    refine z_aload_n 65 C dX2_partAt_65 0 rfl ?_
    refine z_getf 66 C 1 z_dX2 (⟨rfl, rfl⟩) 3 (by decide) q130 (.int (nI j)) (z_ci hP) dX2_partAt_66 ?_
    refine z_i2l 69 C dX2_partAt_69 ?_
    refine z_cv (lv1 := [(0, .ref (z_ad G 1)), (1, .int (nI k)), (2, .long (z_pa (σ.1 2) j k j)), (4, .int (nI j))]) (st1 := [.long (lN j), .long (lN j), .long (1000000 * (z_pa (σ.1 2) j k j))]) (σ1 := σ) rfl (by rw [nI_l (by omega)]) rfl ?_
    refine z_lmul 70 C dX2_partAt_70 ?_
    refine z_callSN 71 C (As := [.long (1000000 * (z_pa (σ.1 2) j k j)), .long ((lN j) * (lN j))]) (rest := []) (m_X7_divide (1000000 * (z_pa (σ.1 2) j k j)) ((lN j) * (lN j)) (z_lNq h0 h12)) k_X7_divide (List.mem_of_getElem? (i := 22) rfl) ⟨rfl, rfl⟩ ⟨Nat.le_of_ble_eq_true rfl, Nat.le_of_ble_eq_true rfl⟩ rfl (Nat.le_of_ble_eq_true rfl) ⟨Nat.le_of_ble_eq_true rfl, Nat.le_of_ble_eq_true rfl⟩ rfl dX2_partAt_71 (z_k1 ?_)
    refine z_lret 74 C dX2_partAt_74 ?_
    exact ⟨rfl, rfl⟩
  · skip
    have hdl : j * (24 / P) ≤ 12 * 24 := Nat.mul_le_mul (by omega) (Nat.div_le_self 24 P)
    refine z_iload_n 14 C dX2_partAt_14 1 rfl ?_
    refine z_aload_n 15 C dX2_partAt_15 0 rfl ?_
    refine z_iload 16 C dX2_partAt_16 3 rfl ?_
    refine z_callV 18 C 1 (⟨rfl, rfl⟩) rfl (As := [.int (nI j)]) (rest := [.int (nI k)]) (m_X2_turnOf P hP h0 h12 j) k_X2_turnOf q480 ⟨rfl, rfl⟩ ⟨Nat.le_of_ble_eq_true rfl, Nat.le_of_ble_eq_true rfl⟩ rfl (Nat.le_of_ble_eq_true rfl) ⟨Nat.le_of_ble_eq_true rfl, Nat.le_of_ble_eq_true rfl⟩ rfl dX2_partAt_18 (z_k1 ?_)
    refine z_iaddN 21 C k (j * (24 / P)) rfl rfl dX2_partAt_21 ?_
    refine z_istore 22 C dX2_partAt_22 [(5, .int (nI (k + (j * (24 / P))))), (0, .ref (z_ad G 1)), (1, .int (nI k)), (2, .long (z_pa (σ.1 2) P k j)), (4, .int (nI j))] (by decide) rfl ?_
    refine z_lload_n 24 C dX2_partAt_24 3 rfl ?_
    refine z_aload_n 25 C dX2_partAt_25 1 rfl ?_
    refine z_getf 26 C 1 z_dX2 (⟨rfl, rfl⟩) 3 (by decide) q130 (.int (nI P)) (z_ci hP) dX2_partAt_26 ?_
    refine z_i2l 29 C dX2_partAt_29 ?_
    refine z_cv (lv1 := [(5, .int (nI (k + (j * (24 / P))))), (0, .ref (z_ad G 1)), (1, .int (nI k)), (2, .long (z_pa (σ.1 2) P k j)), (4, .int (nI j))]) (st1 := [.long (lN P), .long (z_pa (σ.1 2) P k j)]) (σ1 := σ) rfl (by rw [nI_l (by omega)]) rfl ?_
    refine z_aload_n 30 C dX2_partAt_30 1 rfl ?_
    refine z_iload 31 C dX2_partAt_31 4 rfl ?_
    refine z_iload 33 C dX2_partAt_33 0 rfl ?_
    refine z_callV 35 C 1 (⟨rfl, rfl⟩) rfl (As := [.int (nI j), .int (nI (k + (j * (24 / P))))]) (rest := [.long (lN P), .long (z_pa (σ.1 2) P k j)]) (m_X2_at j (k + (j * (24 / P))) (by omega) (by omega)) k_X2_at q481 ⟨rfl, rfl⟩ ⟨Nat.le_of_ble_eq_true rfl, Nat.le_of_ble_eq_true rfl⟩ rfl (Nat.le_of_ble_eq_true rfl) ⟨Nat.le_of_ble_eq_true rfl, Nat.le_of_ble_eq_true rfl⟩ rfl dX2_partAt_35 (z_k1 ?_)
    refine z_i2l 38 C dX2_partAt_38 ?_
    refine z_lmul 39 C dX2_partAt_39 ?_
    refine z_aload_n 40 C dX2_partAt_40 1 rfl ?_
    refine z_iload 41 C dX2_partAt_41 0 rfl ?_
    refine z_callV 43 C 1 (⟨rfl, rfl⟩) rfl (As := [.int (nI (k + (j * (24 / P))))]) (rest := [.long ((lN P) * (Int32.toInt64 (σ.1 2 (j * 24 + (k + (j * (24 / P))) % 24)))), .long (z_pa (σ.1 2) P k j)]) (m_X2_sumAt P hP h0 h12 (k + (j * (24 / P))) (by omega)) k_X2_sumAt q482 ⟨rfl, rfl⟩ ⟨Nat.le_of_ble_eq_true rfl, Nat.le_of_ble_eq_true rfl⟩ rfl (Nat.le_of_ble_eq_true rfl) ⟨Nat.le_of_ble_eq_true rfl, Nat.le_of_ble_eq_true rfl⟩ rfl dX2_partAt_43 (z_k1 ?_)
    refine z_lsub 46 C dX2_partAt_46 ?_
    refine z_ladd 47 C dX2_partAt_47 ?_
    refine z_lstore_n 48 C dX2_partAt_48 [(2, .long ((z_pa (σ.1 2) P k j) + (((lN P) * (Int32.toInt64 (σ.1 2 (j * 24 + (k + (j * (24 / P))) % 24)))) - (z_su (σ.1 2) ((k + (j * (24 / P))) % 24) P)))), (5, .int (nI (k + (j * (24 / P))))), (0, .ref (z_ad G 1)), (1, .int (nI k)), (4, .int (nI j))] (by decide) rfl ?_
    refine z_iincN 49 C 4 j [(4, .int (nI (j + 1))), (2, .long ((z_pa (σ.1 2) P k j) + (((lN P) * (Int32.toInt64 (σ.1 2 (j * 24 + (k + (j * (24 / P))) % 24)))) - (z_su (σ.1 2) ((k + (j * (24 / P))) % 24) P)))), (5, .int (nI (k + (j * (24 / P))))), (0, .ref (z_ad G 1)), (1, .int (nI k))] rfl rfl (by decide) rfl dX2_partAt_49 ?_
    refine z_goto 52 C 5 dX2_partAt_52 (by decide) ?_
    refine z_sub [3, 4, 1, 0] (lv1 := [(0, .ref (z_ad G 1)), (1, .int (nI k)), (2, .long ((z_pa (σ.1 2) P k j) + (((lN P) * (Int32.toInt64 (σ.1 2 (j * 24 + (k + (j * (24 / P))) % 24)))) - (z_su (σ.1 2) ((k + (j * (24 / P))) % 24) P)))), (4, .int (nI (j + 1)))]) rfl ?_
    refine z_cv (lv1 := [(0, .ref (z_ad G 1)), (1, .int (nI k)), (2, .long (z_pa (σ.1 2) P k (j + 1))), (4, .int (nI (j + 1)))]) (st1 := []) (σ1 := σ) rfl rfl rfl ?_
    exact ih_5 (j + 1) (by omega) (by omega)
theorem dX2_replaceSpikes_0 : decode cX2_replaceSpikes 0 = .ok (.iload_n 1, 1) := by decide +kernel
theorem dX2_replaceSpikes_1 : decode cX2_replaceSpikes 1 = .ok (.bipush 24, 2) := by decide +kernel
theorem dX2_replaceSpikes_3 : decode cX2_replaceSpikes 3 = .ok (.imul, 1) := by decide +kernel
theorem dX2_replaceSpikes_4 : decode cX2_replaceSpikes 4 = .ok (.istore_n 3, 1) := by decide +kernel
theorem dX2_replaceSpikes_5 : decode cX2_replaceSpikes 5 = .ok (.aload_n 0, 1) := by decide +kernel
theorem dX2_replaceSpikes_6 : decode cX2_replaceSpikes 6 = .ok (.getfield 9, 3) := by decide +kernel
theorem dX2_replaceSpikes_9 : decode cX2_replaceSpikes 9 = .ok (.iload_n 3, 1) := by decide +kernel
theorem dX2_replaceSpikes_10 : decode cX2_replaceSpikes 10 = .ok (.aload_n 0, 1) := by decide +kernel
theorem dX2_replaceSpikes_11 : decode cX2_replaceSpikes 11 = .ok (.getfield 15, 3) := by decide +kernel
theorem dX2_replaceSpikes_14 : decode cX2_replaceSpikes 14 = .ok (.iconst 0, 1) := by decide +kernel
theorem dX2_replaceSpikes_15 : decode cX2_replaceSpikes 15 = .ok (.bipush 24, 2) := by decide +kernel
theorem dX2_replaceSpikes_17 : decode cX2_replaceSpikes 17 = .ok (.invokestatic 35, 3) := by decide +kernel
theorem dX2_replaceSpikes_20 : decode cX2_replaceSpikes 20 = .ok (.iconst 0, 1) := by decide +kernel
theorem dX2_replaceSpikes_21 : decode cX2_replaceSpikes 21 = .ok (.istore 4, 2) := by decide +kernel
theorem dX2_replaceSpikes_23 : decode cX2_replaceSpikes 23 = .ok (.iconst 0, 1) := by decide +kernel
theorem dX2_replaceSpikes_24 : decode cX2_replaceSpikes 24 = .ok (.istore 5, 2) := by decide +kernel
theorem dX2_replaceSpikes_26 : decode cX2_replaceSpikes 26 = .ok (.iload 5, 2) := by decide +kernel
theorem dX2_replaceSpikes_28 : decode cX2_replaceSpikes 28 = .ok (.bipush 24, 2) := by decide +kernel
theorem dX2_replaceSpikes_30 : decode cX2_replaceSpikes 30 = .ok (.if_icmp .ge 75, 3) := by decide +kernel
theorem dX2_replaceSpikes_33 : decode cX2_replaceSpikes 33 = .ok (.aload_n 0, 1) := by decide +kernel
theorem dX2_replaceSpikes_34 : decode cX2_replaceSpikes 34 = .ok (.getfield 15, 3) := by decide +kernel
theorem dX2_replaceSpikes_37 : decode cX2_replaceSpikes 37 = .ok (.iload 5, 2) := by decide +kernel
theorem dX2_replaceSpikes_39 : decode cX2_replaceSpikes 39 = .ok (.iconst 1, 1) := by decide +kernel
theorem dX2_replaceSpikes_40 : decode cX2_replaceSpikes 40 = .ok (.isub, 1) := by decide +kernel
theorem dX2_replaceSpikes_41 : decode cX2_replaceSpikes 41 = .ok (.invokestatic 41, 3) := by decide +kernel
theorem dX2_replaceSpikes_44 : decode cX2_replaceSpikes 44 = .ok (.iaload, 1) := by decide +kernel
theorem dX2_replaceSpikes_45 : decode cX2_replaceSpikes 45 = .ok (.aload_n 0, 1) := by decide +kernel
theorem dX2_replaceSpikes_46 : decode cX2_replaceSpikes 46 = .ok (.getfield 15, 3) := by decide +kernel
theorem dX2_replaceSpikes_49 : decode cX2_replaceSpikes 49 = .ok (.iload 5, 2) := by decide +kernel
theorem dX2_replaceSpikes_51 : decode cX2_replaceSpikes 51 = .ok (.iconst 1, 1) := by decide +kernel
theorem dX2_replaceSpikes_52 : decode cX2_replaceSpikes 52 = .ok (.iadd, 1) := by decide +kernel
theorem dX2_replaceSpikes_53 : decode cX2_replaceSpikes 53 = .ok (.invokestatic 41, 3) := by decide +kernel
theorem dX2_replaceSpikes_56 : decode cX2_replaceSpikes 56 = .ok (.iaload, 1) := by decide +kernel
theorem dX2_replaceSpikes_57 : decode cX2_replaceSpikes 57 = .ok (.iadd, 1) := by decide +kernel
theorem dX2_replaceSpikes_58 : decode cX2_replaceSpikes 58 = .ok (.istore 6, 2) := by decide +kernel
theorem dX2_replaceSpikes_60 : decode cX2_replaceSpikes 60 = .ok (.iconst 2, 1) := by decide +kernel
theorem dX2_replaceSpikes_61 : decode cX2_replaceSpikes 61 = .ok (.aload_n 0, 1) := by decide +kernel
theorem dX2_replaceSpikes_62 : decode cX2_replaceSpikes 62 = .ok (.getfield 15, 3) := by decide +kernel
theorem dX2_replaceSpikes_65 : decode cX2_replaceSpikes 65 = .ok (.iload 5, 2) := by decide +kernel
theorem dX2_replaceSpikes_67 : decode cX2_replaceSpikes 67 = .ok (.iaload, 1) := by decide +kernel
theorem dX2_replaceSpikes_68 : decode cX2_replaceSpikes 68 = .ok (.imul, 1) := by decide +kernel
theorem dX2_replaceSpikes_69 : decode cX2_replaceSpikes 69 = .ok (.iload 6, 2) := by decide +kernel
theorem dX2_replaceSpikes_71 : decode cX2_replaceSpikes 71 = .ok (.isub, 1) := by decide +kernel
theorem dX2_replaceSpikes_72 : decode cX2_replaceSpikes 72 = .ok (.invokestatic 45, 3) := by decide +kernel
theorem dX2_replaceSpikes_75 : decode cX2_replaceSpikes 75 = .ok (.iconst 2, 1) := by decide +kernel
theorem dX2_replaceSpikes_76 : decode cX2_replaceSpikes 76 = .ok (.iload_n 2, 1) := by decide +kernel
theorem dX2_replaceSpikes_77 : decode cX2_replaceSpikes 77 = .ok (.imul, 1) := by decide +kernel
theorem dX2_replaceSpikes_78 : decode cX2_replaceSpikes 78 = .ok (.if_icmp .le 21, 3) := by decide +kernel
theorem dX2_replaceSpikes_81 : decode cX2_replaceSpikes 81 = .ok (.aload_n 0, 1) := by decide +kernel
theorem dX2_replaceSpikes_82 : decode cX2_replaceSpikes 82 = .ok (.getfield 9, 3) := by decide +kernel
theorem dX2_replaceSpikes_85 : decode cX2_replaceSpikes 85 = .ok (.iload_n 3, 1) := by decide +kernel
theorem dX2_replaceSpikes_86 : decode cX2_replaceSpikes 86 = .ok (.iload 5, 2) := by decide +kernel
theorem dX2_replaceSpikes_88 : decode cX2_replaceSpikes 88 = .ok (.iadd, 1) := by decide +kernel
theorem dX2_replaceSpikes_89 : decode cX2_replaceSpikes 89 = .ok (.iload 6, 2) := by decide +kernel
theorem dX2_replaceSpikes_91 : decode cX2_replaceSpikes 91 = .ok (.iconst 2, 1) := by decide +kernel
theorem dX2_replaceSpikes_92 : decode cX2_replaceSpikes 92 = .ok (.invokestatic 48, 3) := by decide +kernel
theorem dX2_replaceSpikes_95 : decode cX2_replaceSpikes 95 = .ok (.iastore, 1) := by decide +kernel
theorem dX2_replaceSpikes_96 : decode cX2_replaceSpikes 96 = .ok (.iinc 4 1, 3) := by decide +kernel
theorem dX2_replaceSpikes_99 : decode cX2_replaceSpikes 99 = .ok (.iinc 5 1, 3) := by decide +kernel
theorem dX2_replaceSpikes_102 : decode cX2_replaceSpikes 102 = .ok (.goto (-76), 3) := by decide +kernel
theorem dX2_replaceSpikes_105 : decode cX2_replaceSpikes 105 = .ok (.iload 4, 2) := by decide +kernel
theorem dX2_replaceSpikes_107 : decode cX2_replaceSpikes 107 = .ok (.ireturn, 1) := by decide +kernel
set_option maxRecDepth 100000 in
set_option maxHeartbeats 4000000 in
theorem m_X2_replaceSpikes {l : Launch} {G : z_Gl} {σ : z_St} (j L : Nat) (hj : j < 12) (hL : L ≤ 20000) : z_M l G yX2_replaceSpikes cX2_replaceSpikes 7 (some .int) (z_rm 2 42) [.ref (z_ad G 1), .int (nI j), .int (nI L)] σ (z_p1 (.int (nI (z_sc (z_rw (σ.1 2) j) L 24))) (z_uI (z_uI σ 3 (va_cpy (σ.1 2) (σ.1 3) (j * 24) 0 24)) 2 (fb_put (σ.1 2) (z_sv (z_rw (σ.1 2) j) L) (j * 24) 24))) := by
  refine z_M.of (by decide) (Nat.le_of_ble_eq_true rfl) (fun p e s m below meth c C => ?_)
  refine z_sub [0, 1, 2] (lv1 := [(0, .ref (z_ad G 1)), (1, .int (nI j)), (2, .int (nI L))]) rfl ?_
  refine z_iload_n 0 C dX2_replaceSpikes_0 1 rfl ?_
  refine z_bipush 1 C dX2_replaceSpikes_1 (nI 24) rfl ?_
  refine z_imulN 3 C j 24 rfl rfl dX2_replaceSpikes_3 ?_
  refine z_istore_n 4 C dX2_replaceSpikes_4 [(3, .int (nI (j * 24))), (0, .ref (z_ad G 1)), (1, .int (nI j)), (2, .int (nI L))] (by decide) rfl ?_
  refine z_aload_n 5 C dX2_replaceSpikes_5 1 rfl ?_
  refine z_getf 6 C 1 z_dX2 (⟨rfl, rfl⟩) 0 (by decide) q127 (.ref (z_ad G 2)) rfl dX2_replaceSpikes_6 ?_
  refine z_iload_n 9 C dX2_replaceSpikes_9 0 rfl ?_
  refine z_aload_n 10 C dX2_replaceSpikes_10 1 rfl ?_
  refine z_getf 11 C 1 z_dX2 (⟨rfl, rfl⟩) 1 (by decide) q128 (.ref (z_ad G 3)) rfl dX2_replaceSpikes_11 ?_
  refine z_iconst 14 C dX2_replaceSpikes_14 (nI 0) rfl ?_
  refine z_bipush 15 C dX2_replaceSpikes_15 (nI 24) rfl ?_
  refine z_cpyi 17 C 2 3 (n0 := 288) (n1 := 24) (⟨rfl, rfl⟩) (⟨rfl, rfl⟩) q461 (j * 24) 0 24 rfl rfl rfl (by omega) (by omega) (by decide) (by decide) (Nat.le_of_ble_eq_true rfl) (Nat.le_of_ble_eq_true rfl) dX2_replaceSpikes_17 ?_
  refine z_iconst 20 C dX2_replaceSpikes_20 (nI 0) rfl ?_
  refine z_istore 21 C dX2_replaceSpikes_21 [(4, .int (nI 0)), (3, .int (nI (j * 24))), (0, .ref (z_ad G 1)), (1, .int (nI j)), (2, .int (nI L))] (by decide) rfl ?_
  refine z_iconst 23 C dX2_replaceSpikes_23 (nI 0) rfl ?_
  refine z_istore 24 C dX2_replaceSpikes_24 [(5, .int (nI 0)), (4, .int (nI 0)), (3, .int (nI (j * 24))), (0, .ref (z_ad G 1)), (1, .int (nI j)), (2, .int (nI L))] (by decide) rfl ?_
  refine z_sub [3, 4, 5, 2, 1, 0] (lv1 := [(0, .ref (z_ad G 1)), (1, .int (nI j)), (2, .int (nI L)), (3, .int (nI (j * 24))), (4, .int (nI 0)), (5, .int (nI 0))]) rfl ?_
  refine z_cv (lv1 := [(0, .ref (z_ad G 1)), (1, .int (nI j)), (2, .int (nI L)), (3, .int (nI (j * 24))), (4, .int (nI (z_sc (z_rw (σ.1 2) j) L 0))), (5, .int (nI 0))]) (st1 := []) (σ1 := z_uI (z_uI σ 3 (va_cpy (σ.1 2) (σ.1 3) (j * 24) 0 24)) 2 (fb_put (σ.1 2) (z_sv (z_rw (σ.1 2) j) L) (j * 24) 0)) rfl rfl (z_fil0p _ _ _ _) ?_
  refine z_lp1 (fun (k : Nat) => k ≤ 24) (fun (k : Nat) => 24 - k) (fun (k : Nat) => [(0, .ref (z_ad G 1)), (1, .int (nI j)), (2, .int (nI L)), (3, .int (nI (j * 24))), (4, .int (nI (z_sc (z_rw (σ.1 2) j) L k))), (5, .int (nI k))]) (fun (k : Nat) => z_uI (z_uI σ 3 (va_cpy (σ.1 2) (σ.1 3) (j * 24) 0 24)) 2 (fb_put (σ.1 2) (z_sv (z_rw (σ.1 2) j) L) (j * 24) k)) (fun k hi_26 ih_26 => ?_) 0 (by omega)
  try dsimp only
  refine z_iload 26 C dX2_replaceSpikes_26 5 rfl ?_
  refine z_bipush 28 C dX2_replaceSpikes_28 (nI 24) rfl ?_
  refine z_icmp_geN 30 C k 24 rfl rfl (by omega) (by omega) 105 dX2_replaceSpikes_30 (by decide) (fun c30 => ?_) (fun c30 => ?_)
  · skip
    have ek : k = 24 := by omega
    subst ek
    refine z_iload 105 C dX2_replaceSpikes_105 4 rfl ?_
    refine z_iret 107 C dX2_replaceSpikes_107 ?_
    exact ⟨rfl, rfl⟩
  · skip
    refine z_aload_n 33 C dX2_replaceSpikes_33 0 rfl ?_
    refine z_getf 34 C 1 z_dX2 (⟨rfl, rfl⟩) 1 (by decide) q128 (.ref (z_ad G 3)) rfl dX2_replaceSpikes_34 ?_
    refine z_iload 37 C dX2_replaceSpikes_37 5 rfl ?_
    refine z_iconst 39 C dX2_replaceSpikes_39 (nI 1) rfl ?_
    refine z_isub 40 C dX2_replaceSpikes_40 ?_
    refine z_callSN 41 C (As := [.int ((nI k) - (nI 1))]) (rest := [.ref (z_ad G 3)]) (m_X7_place_d k 1 (by omega) (by omega)) k_X7_place (List.mem_of_getElem? (i := 20) rfl) ⟨rfl, rfl⟩ ⟨Nat.le_of_ble_eq_true rfl, Nat.le_of_ble_eq_true rfl⟩ rfl (Nat.le_of_ble_eq_true rfl) ⟨Nat.le_of_ble_eq_true rfl, Nat.le_of_ble_eq_true rfl⟩ rfl dX2_replaceSpikes_41 (z_k1 ?_)
    refine z_ialdN 44 C 3 (n := 24) (⟨rfl, rfl⟩) ((k + (24 - 1 % 24)) % 24) rfl (by omega) (by decide) dX2_replaceSpikes_44 ?_
    refine z_cv (lv1 := [(0, .ref (z_ad G 1)), (1, .int (nI j)), (2, .int (nI L)), (3, .int (nI (j * 24))), (4, .int (nI (z_sc (z_rw (σ.1 2) j) L k))), (5, .int (nI k))]) (st1 := [.int (z_rw (σ.1 2) j ((k + (24 - 1 % 24)) % 24))]) (σ1 := z_uI (z_uI σ 3 (va_cpy (σ.1 2) (σ.1 3) (j * 24) 0 24)) 2 (fb_put (σ.1 2) (z_sv (z_rw (σ.1 2) j) L) (j * 24) k)) rfl (by rw [z_oldr (by omega)]; rfl) rfl ?_
    refine z_aload_n 45 C dX2_replaceSpikes_45 0 rfl ?_
    refine z_getf 46 C 1 z_dX2 (⟨rfl, rfl⟩) 1 (by decide) q128 (.ref (z_ad G 3)) rfl dX2_replaceSpikes_46 ?_
    refine z_iload 49 C dX2_replaceSpikes_49 5 rfl ?_
    refine z_iconst 51 C dX2_replaceSpikes_51 (nI 1) rfl ?_
    refine z_iaddN 52 C k 1 rfl rfl dX2_replaceSpikes_52 ?_
    refine z_callSN 53 C (As := [.int (nI (k + 1))]) (rest := [.ref (z_ad G 3), .int (z_rw (σ.1 2) j ((k + (24 - 1 % 24)) % 24))]) (m_X7_place_n (k + 1) (by omega)) k_X7_place (List.mem_of_getElem? (i := 20) rfl) ⟨rfl, rfl⟩ ⟨Nat.le_of_ble_eq_true rfl, Nat.le_of_ble_eq_true rfl⟩ rfl (Nat.le_of_ble_eq_true rfl) ⟨Nat.le_of_ble_eq_true rfl, Nat.le_of_ble_eq_true rfl⟩ rfl dX2_replaceSpikes_53 (z_k1 ?_)
    refine z_ialdN 56 C 3 (n := 24) (⟨rfl, rfl⟩) ((k + 1) % 24) rfl (by omega) (by decide) dX2_replaceSpikes_56 ?_
    refine z_cv (lv1 := [(0, .ref (z_ad G 1)), (1, .int (nI j)), (2, .int (nI L)), (3, .int (nI (j * 24))), (4, .int (nI (z_sc (z_rw (σ.1 2) j) L k))), (5, .int (nI k))]) (st1 := [.int (z_rw (σ.1 2) j ((k + 1) % 24)), .int (z_rw (σ.1 2) j ((k + (24 - 1 % 24)) % 24))]) (σ1 := z_uI (z_uI σ 3 (va_cpy (σ.1 2) (σ.1 3) (j * 24) 0 24)) 2 (fb_put (σ.1 2) (z_sv (z_rw (σ.1 2) j) L) (j * 24) k)) rfl (by rw [z_oldr (by omega)]; rfl) rfl ?_
    refine z_iadd 57 C dX2_replaceSpikes_57 ?_
    refine z_istore 58 C dX2_replaceSpikes_58 [(6, .int ((z_rw (σ.1 2) j ((k + (24 - 1 % 24)) % 24)) + (z_rw (σ.1 2) j ((k + 1) % 24)))), (0, .ref (z_ad G 1)), (1, .int (nI j)), (2, .int (nI L)), (3, .int (nI (j * 24))), (4, .int (nI (z_sc (z_rw (σ.1 2) j) L k))), (5, .int (nI k))] (by decide) rfl ?_
    refine z_iconst 60 C dX2_replaceSpikes_60 (nI 2) rfl ?_
    refine z_aload_n 61 C dX2_replaceSpikes_61 1 rfl ?_
    refine z_getf 62 C 1 z_dX2 (⟨rfl, rfl⟩) 1 (by decide) q128 (.ref (z_ad G 3)) rfl dX2_replaceSpikes_62 ?_
    refine z_iload 65 C dX2_replaceSpikes_65 6 rfl ?_
    refine z_ialdN 67 C 3 (n := 24) (⟨rfl, rfl⟩) k rfl (by omega) (by decide) dX2_replaceSpikes_67 ?_
    refine z_cv (lv1 := [(6, .int ((z_rw (σ.1 2) j ((k + (24 - 1 % 24)) % 24)) + (z_rw (σ.1 2) j ((k + 1) % 24)))), (0, .ref (z_ad G 1)), (1, .int (nI j)), (2, .int (nI L)), (3, .int (nI (j * 24))), (4, .int (nI (z_sc (z_rw (σ.1 2) j) L k))), (5, .int (nI k))]) (st1 := [.int (z_rw (σ.1 2) j k), .int (nI 2)]) (σ1 := z_uI (z_uI σ 3 (va_cpy (σ.1 2) (σ.1 3) (j * 24) 0 24)) 2 (fb_put (σ.1 2) (z_sv (z_rw (σ.1 2) j) L) (j * 24) k)) rfl (by rw [z_oldr (by omega)]; rfl) rfl ?_
    refine z_imul 68 C dX2_replaceSpikes_68 ?_
    refine z_iload 69 C dX2_replaceSpikes_69 0 rfl ?_
    refine z_isub 71 C dX2_replaceSpikes_71 ?_
    refine z_callS 72 C (As := [.int (((nI 2) * (z_rw (σ.1 2) j k)) - ((z_rw (σ.1 2) j ((k + (24 - 1 % 24)) % 24)) + (z_rw (σ.1 2) j ((k + 1) % 24))))]) (rest := []) (m_J9_abs_0f7a4 (((nI 2) * (z_rw (σ.1 2) j k)) - ((z_rw (σ.1 2) j ((k + (24 - 1 % 24)) % 24)) + (z_rw (σ.1 2) j ((k + 1) % 24))))) k_J9_abs_0f7a4 q465 ⟨rfl, rfl⟩ ⟨Nat.le_of_ble_eq_true rfl, Nat.le_of_ble_eq_true rfl⟩ rfl (Nat.le_of_ble_eq_true rfl) ⟨Nat.le_of_ble_eq_true rfl, Nat.le_of_ble_eq_true rfl⟩ rfl dX2_replaceSpikes_72 (z_k1 ?_)
    refine z_iconst 75 C dX2_replaceSpikes_75 (nI 2) rfl ?_
    refine z_iload_n 76 C dX2_replaceSpikes_76 3 rfl ?_
    refine z_imulN 77 C 2 L rfl rfl dX2_replaceSpikes_77 ?_
    refine z_icmp_le 78 C 99 dX2_replaceSpikes_78 (by decide) (fun c78 => ?_) (fun c78 => ?_)
    · skip
      refine z_iincN 99 C 6 k [(5, .int (nI (k + 1))), (6, .int ((z_rw (σ.1 2) j ((k + (24 - 1 % 24)) % 24)) + (z_rw (σ.1 2) j ((k + 1) % 24)))), (0, .ref (z_ad G 1)), (1, .int (nI j)), (2, .int (nI L)), (3, .int (nI (j * 24))), (4, .int (nI (z_sc (z_rw (σ.1 2) j) L k)))] rfl rfl (by decide) rfl dX2_replaceSpikes_99 ?_
      refine z_goto 102 C 26 dX2_replaceSpikes_102 (by decide) ?_
      refine z_sub [2, 3, 4, 5, 6, 0] (lv1 := [(0, .ref (z_ad G 1)), (1, .int (nI j)), (2, .int (nI L)), (3, .int (nI (j * 24))), (4, .int (nI (z_sc (z_rw (σ.1 2) j) L k))), (5, .int (nI (k + 1)))]) rfl ?_
      refine z_cv (lv1 := [(0, .ref (z_ad G 1)), (1, .int (nI j)), (2, .int (nI L)), (3, .int (nI (j * 24))), (4, .int (nI (z_sc (z_rw (σ.1 2) j) L (k + 1)))), (5, .int (nI (k + 1)))]) (st1 := []) (σ1 := z_uI (z_uI σ 3 (va_cpy (σ.1 2) (σ.1 3) (j * 24) 0 24)) 2 (fb_put (σ.1 2) (z_sv (z_rw (σ.1 2) j) L) (j * 24) (k + 1))) (by first | rw [z_sc_1 (Int32.not_le.mp c78)] | rw [z_sc_0 (Int32.not_lt.mpr c78)]) rfl (by first | exact z_uIu _ _ _ _ _ _ (if_pos (Int32.not_le.mp c78)).symm | exact congrArg (z_uI _ 2) (z_put_same (if_neg (Int32.not_lt.mpr c78)))) ?_
      exact ih_26 (k + 1) (by omega) (by omega)
    · skip
      refine z_aload_n 81 C dX2_replaceSpikes_81 1 rfl ?_
      refine z_getf 82 C 1 z_dX2 (⟨rfl, rfl⟩) 0 (by decide) q127 (.ref (z_ad G 2)) rfl dX2_replaceSpikes_82 ?_
      refine z_iload_n 85 C dX2_replaceSpikes_85 4 rfl ?_
      refine z_iload 86 C dX2_replaceSpikes_86 6 rfl ?_
      refine z_iaddN 88 C (j * 24) k rfl rfl dX2_replaceSpikes_88 ?_
      refine z_iload 89 C dX2_replaceSpikes_89 0 rfl ?_
      refine z_iconst 91 C dX2_replaceSpikes_91 (nI 2) rfl ?_
      refine z_callS 92 C (As := [.int ((z_rw (σ.1 2) j ((k + (24 - 1 % 24)) % 24)) + (z_rw (σ.1 2) j ((k + 1) % 24))), .int (nI 2)]) (rest := [.int (nI ((j * 24) + k)), .ref (z_ad G 2)]) (m_J9_floorDiv_7cf53 ((z_rw (σ.1 2) j ((k + (24 - 1 % 24)) % 24)) + (z_rw (σ.1 2) j ((k + 1) % 24)))) k_J9_floorDiv_7cf53 q468 ⟨rfl, rfl⟩ ⟨Nat.le_of_ble_eq_true rfl, Nat.le_of_ble_eq_true rfl⟩ rfl (Nat.le_of_ble_eq_true rfl) ⟨Nat.le_of_ble_eq_true rfl, Nat.le_of_ble_eq_true rfl⟩ rfl dX2_replaceSpikes_92 (z_k1 ?_)
      refine z_iastN 95 C 2 (n := 288) (⟨rfl, rfl⟩) ((j * 24) + k) rfl (by omega) (by decide) dX2_replaceSpikes_95 ?_
      refine z_iincN 96 C 5 (z_sc (z_rw (σ.1 2) j) L k) [(4, .int (nI (z_sc (z_rw (σ.1 2) j) L k + 1))), (6, .int ((z_rw (σ.1 2) j ((k + (24 - 1 % 24)) % 24)) + (z_rw (σ.1 2) j ((k + 1) % 24)))), (0, .ref (z_ad G 1)), (1, .int (nI j)), (2, .int (nI L)), (3, .int (nI (j * 24))), (5, .int (nI k))] rfl rfl (by decide) rfl dX2_replaceSpikes_96 ?_
      refine z_iincN 99 C 6 k [(5, .int (nI (k + 1))), (4, .int (nI (z_sc (z_rw (σ.1 2) j) L k + 1))), (6, .int ((z_rw (σ.1 2) j ((k + (24 - 1 % 24)) % 24)) + (z_rw (σ.1 2) j ((k + 1) % 24)))), (0, .ref (z_ad G 1)), (1, .int (nI j)), (2, .int (nI L)), (3, .int (nI (j * 24)))] rfl rfl (by decide) rfl dX2_replaceSpikes_99 ?_
      refine z_goto 102 C 26 dX2_replaceSpikes_102 (by decide) ?_
      refine z_sub [3, 4, 5, 6, 1, 0] (lv1 := [(0, .ref (z_ad G 1)), (1, .int (nI j)), (2, .int (nI L)), (3, .int (nI (j * 24))), (4, .int (nI (z_sc (z_rw (σ.1 2) j) L k + 1))), (5, .int (nI (k + 1)))]) rfl ?_
      refine z_cv (lv1 := [(0, .ref (z_ad G 1)), (1, .int (nI j)), (2, .int (nI L)), (3, .int (nI (j * 24))), (4, .int (nI (z_sc (z_rw (σ.1 2) j) L (k + 1)))), (5, .int (nI (k + 1)))]) (st1 := []) (σ1 := z_uI (z_uI σ 3 (va_cpy (σ.1 2) (σ.1 3) (j * 24) 0 24)) 2 (fb_put (σ.1 2) (z_sv (z_rw (σ.1 2) j) L) (j * 24) (k + 1))) (by first | rw [z_sc_1 (Int32.not_le.mp c78)] | rw [z_sc_0 (Int32.not_lt.mpr c78)]) rfl (by first | exact z_uIu _ _ _ _ _ _ (if_pos (Int32.not_le.mp c78)).symm | exact congrArg (z_uI _ 2) (z_put_same (if_neg (Int32.not_lt.mpr c78)))) ?_
      exact ih_26 (k + 1) (by omega) (by omega)
