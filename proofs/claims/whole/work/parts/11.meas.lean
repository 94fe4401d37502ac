/-! PURE: the measurement and the simulation -/
def z_su (m : Nat → Int32) (k : Nat) : Nat → Int64
  | 0 => 0
  | j + 1 => z_su m k j + (m (j * 24 + k)).toInt64
def z_sp (m : Nat → Int32) (P k : Nat) : Int64 := z_fd (1000000 * z_su m k P) (lN P)
def z_pa (m : Nat → Int32) (P k : Nat) : Nat → Int64
  | 0 => 0
  | j + 1 => z_pa m P k j + (lN P * (m (j * 24 + (k + j * (24 / P)) % 24)).toInt64 - z_su m ((k + j * (24 / P)) % 24) P)
def z_pt (m : Nat → Int32) (P k : Nat) : Int64 := z_fd (1000000 * z_pa m P k P) (lN P * lN P)
theorem z_lNp {P : Nat} (h0 : 0 < P) (h : P ≤ 12) : 0 < lN P := by
  have := (lN_lt (a := 0) (b := P) (by decide) (by omega)).mpr h0
  exact this
theorem z_lNq {P : Nat} (h0 : 0 < P) (h : P ≤ 12) : 0 < lN P * lN P := by
  rw [lN_mul]
  have h2 : 0 < P * P := Nat.mul_pos h0 h0
  have h3 : P * P ≤ 12 * 12 := Nat.mul_le_mul h h
  exact (lN_lt (a := 0) (b := P * P) (by decide) (by omega)).mpr h2
def z_abI (x : Int32) : Int32 := if x < 0 then -x else x
def z_h2 (x : Int32) : Int32 := Int32.ofInt (x.toInt / 2)
theorem z_h2_t (x : Int32) : (z_h2 x).toInt = x.toInt / 2 := by
  have := fb_rng x
  exact fb_ofI (by omega) (by omega)
theorem z_half (x : Int32) : (x / nI 2).toInt = x.toInt.tdiv 2 ∧ (0 ≤ x.toInt → x.toInt.tdiv 2 = x.toInt / 2) ∧ (x.toInt < 0 → x.toInt.tdiv 2 = -(-x.toInt / 2)) := by
  have hr := z_tdiv_rng x.toInt 2 (by decide)
  exact ⟨Int32.toInt_div_of_ne_right x (nI 2) (by decide), fun h => (hr.1 h).2.2, fun h => (hr.2 h).2.2⟩
theorem z_half2 (x : Int32) : (x / nI 2 * nI 2).toInt = x.toInt.tdiv 2 * 2 := by
  obtain ⟨e, h1, h2⟩ := z_half x
  have h3 := fb_rng x
  have e2 : (nI 2).toInt = 2 := rfl
  have hb : x.toInt.tdiv 2 * 2 ≤ 2147483647 ∧ -2147483648 ≤ x.toInt.tdiv 2 * 2 := by
    rcases Int.lt_or_le x.toInt 0 with q | q
    · rw [h2 q]; omega
    · rw [h1 q]; omega
  rw [fb_mulI (by rw [e, e2]; omega) (by rw [e, e2]; omega), e, e2]
theorem z_h2_1 {x : Int32} (h : 0 ≤ x ^^^ nI 2) : x / nI 2 = z_h2 x := by
  have h0 := z_nn32.mp ((z_xs32 (by decide)).mp h)
  obtain ⟨e, h1, -⟩ := z_half x
  rw [fa_eq, e, z_h2_t, h1 h0]
theorem z_h2_2 {x : Int32} (h : ¬ 0 ≤ x ^^^ nI 2) (h2 : x / nI 2 * nI 2 = x) : x / nI 2 = z_h2 x := by
  have h0 : x.toInt < 0 := Int.not_le.mp (fun z => h ((z_xs32 (a := x) (b := nI 2) (by decide)).mpr (z_nn32.mpr z)))
  obtain ⟨e, -, h1⟩ := z_half x
  rw [fa_eq, z_half2, h1 h0] at h2
  rw [fa_eq, e, z_h2_t, h1 h0]
  omega
theorem z_h2_3 {x : Int32} (h : ¬ 0 ≤ x ^^^ nI 2) (h2 : ¬ x / nI 2 * nI 2 = x) : x / nI 2 - nI 1 = z_h2 x := by
  have h0 : x.toInt < 0 := Int.not_le.mp (fun z => h ((z_xs32 (a := x) (b := nI 2) (by decide)).mpr (z_nn32.mpr z)))
  obtain ⟨e, -, h1⟩ := z_half x
  rw [fa_eq, z_half2, h1 h0] at h2
  have h3 := fb_rng x
  have e3 : (x / nI 2 - nI 1).toInt = (x / nI 2).toInt - 1 := fb_subI (y := nI 1) (by rw [e, h1 h0]; show _ ≤ _ - (1 : Int); omega) (by rw [e, h1 h0]; show _ - (1 : Int) < _; omega)
  rw [fa_eq, e3, e, z_h2_t, h1 h0]
  omega
theorem z_abI_1 {x : Int32} (h : 0 ≤ x) : x = z_abI x := by unfold z_abI; rw [if_neg (Int32.not_lt.mpr h)]
theorem z_abI_2 {x : Int32} (h : ¬ 0 ≤ x) : -x = z_abI x := by unfold z_abI; rw [if_pos (Int32.not_le.mp h)]
/-- a step's readings; spikes -/
def z_rw (m : Nat → Int32) (j : Nat) : Nat → Int32 := fun i => m (j * 24 + i)
def z_sd (o : Nat → Int32) (k : Nat) : Int32 := o ((k + 23) % 24) + o ((k + 1) % 24)
abbrev z_sk (o : Nat → Int32) (L k : Nat) : Prop := nI (2 * L) < z_abI (nI 2 * o k - z_sd o k)
def z_sv (o : Nat → Int32) (L k : Nat) : Int32 := if z_sk o L k then z_h2 (z_sd o k) else o k
def z_sc (o : Nat → Int32) (L : Nat) : Nat → Nat
  | 0 => 0
  | k + 1 => z_sc o L k + if z_sk o L k then 1 else 0
theorem z_sc_1 {o : Nat → Int32} {L k : Nat} (h : z_sk o L k) : z_sc o L (k + 1) = z_sc o L k + 1 := by rw [z_sc, if_pos h]
theorem z_sc_0 {o : Nat → Int32} {L k : Nat} (h : ¬ z_sk o L k) : z_sc o L (k + 1) = z_sc o L k := by rw [z_sc, if_neg h]; rfl
theorem z_fil0p (σ : z_St) (X : Nat → Int32) (g : Nat → Int32) (a : Nat) : z_uI σ 3 X = z_uI (z_uI σ 3 X) 2 (fb_put (σ.1 2) g a 0) := by
  rw [fb_put_0]
  exact (z_uI_same (z_uI σ 3 X) 2).symm
theorem z_sc_le (o : Nat → Int32) (L : Nat) : ∀ k, z_sc o L k ≤ k
  | 0 => Nat.le_refl 0
  | k + 1 => by have := z_sc_le o L k; unfold z_sc; split <;> omega
theorem z_oldr {σ : z_St} {a i : Nat} {X : Nat → Int32} (h : i < 24) : (z_uI (z_uI σ 3 (va_cpy (σ.1 2) (σ.1 3) a 0 24)) 2 X).1 3 i = σ.1 2 (a + i) := by
  show va_cpy (σ.1 2) (σ.1 3) a 0 24 i = _
  rw [pk_cpy_in (Nat.zero_le i) (by omega), Nat.sub_zero]
theorem z_uIu (σ : z_St) (i a k : Nat) (f g : Nat → Int32) {x : Int32} (hx : x = g k) : z_ui (z_uI σ i (fb_put f g a k)) i (a + k) x = z_uI σ i (fb_put f g a (k + 1)) := by
  rw [← fb_put_succ, hx]
  unfold z_ui z_uI
  refine Prod.ext ?_ rfl
  funext b
  by_cases h : b = i
  · subst h; simp
  · simp [h]
theorem z_put_same {α : Type} {f g : Nat → α} {a k : Nat} (h : g k = f (a + k)) : fb_put f g a k = fb_put f g a (k + 1) := by
  funext i
  by_cases h1 : a ≤ i ∧ i < a + k
  · rw [fb_put_in h1.1 h1.2, fb_put_in h1.1 (by omega)]
  · rw [fb_put_out (by omega)]
    by_cases h2 : i = a + k
    · rw [h2, fb_put_in (by omega) (by omega), show a + k - a = k by omega, h]
    · rw [fb_put_out (by omega)]
theorem dJ9_floorDiv_7cf53_0 : decode cJ9_floorDiv_7cf53 0 = .ok (.iload_n 0, 1) := by decide +kernel
theorem dJ9_floorDiv_7cf53_1 : decode cJ9_floorDiv_7cf53 1 = .ok (.iload_n 1, 1) := by decide +kernel
theorem dJ9_floorDiv_7cf53_2 : decode cJ9_floorDiv_7cf53 2 = .ok (.idiv, 1) := by decide +kernel
theorem dJ9_floorDiv_7cf53_3 : decode cJ9_floorDiv_7cf53 3 = .ok (.istore_n 2, 1) := by decide +kernel
theorem dJ9_floorDiv_7cf53_4 : decode cJ9_floorDiv_7cf53 4 = .ok (.iload_n 0, 1) := by decide +kernel
theorem dJ9_floorDiv_7cf53_5 : decode cJ9_floorDiv_7cf53 5 = .ok (.iload_n 1, 1) := by decide +kernel
theorem dJ9_floorDiv_7cf53_6 : decode cJ9_floorDiv_7cf53 6 = .ok (.ixor, 1) := by decide +kernel
theorem dJ9_floorDiv_7cf53_7 : decode cJ9_floorDiv_7cf53 7 = .ok (.ifCond .ge 14, 3) := by decide +kernel
theorem dJ9_floorDiv_7cf53_10 : decode cJ9_floorDiv_7cf53 10 = .ok (.iload_n 2, 1) := by decide +kernel
theorem dJ9_floorDiv_7cf53_11 : decode cJ9_floorDiv_7cf53 11 = .ok (.iload_n 1, 1) := by decide +kernel
theorem dJ9_floorDiv_7cf53_12 : decode cJ9_floorDiv_7cf53 12 = .ok (.imul, 1) := by decide +kernel
theorem dJ9_floorDiv_7cf53_13 : decode cJ9_floorDiv_7cf53 13 = .ok (.iload_n 0, 1) := by decide +kernel
theorem dJ9_floorDiv_7cf53_14 : decode cJ9_floorDiv_7cf53 14 = .ok (.if_icmp .eq 7, 3) := by decide +kernel
theorem dJ9_floorDiv_7cf53_17 : decode cJ9_floorDiv_7cf53 17 = .ok (.iload_n 2, 1) := by decide +kernel
theorem dJ9_floorDiv_7cf53_18 : decode cJ9_floorDiv_7cf53 18 = .ok (.iconst 1, 1) := by decide +kernel
theorem dJ9_floorDiv_7cf53_19 : decode cJ9_floorDiv_7cf53 19 = .ok (.isub, 1) := by decide +kernel
theorem dJ9_floorDiv_7cf53_20 : decode cJ9_floorDiv_7cf53 20 = .ok (.ireturn, 1) := by decide +kernel
theorem dJ9_floorDiv_7cf53_21 : decode cJ9_floorDiv_7cf53 21 = .ok (.iload_n 2, 1) := by decide +kernel
theorem dJ9_floorDiv_7cf53_22 : decode cJ9_floorDiv_7cf53 22 = .ok (.ireturn, 1) := by decide +kernel
set_option maxRecDepth 100000 in
set_option maxHeartbeats 4000000 in
theorem m_J9_floorDiv_7cf53 {l : Launch} {G : z_Gl} {σ : z_St} (x : Int32) : z_M l G yJ9_floorDiv_7cf53 cJ9_floorDiv_7cf53 3 (some .int) (z_rm 0 0) [.int x, .int (nI 2)] σ (z_p1 (.int (z_h2 x)) σ) := by
  refine z_Mj.of (by decide +kernel) (Nat.le_of_ble_eq_true rfl) (fun p S e s m below meth c s1 C hP => ?_)
  refine j_sub [0, 1] (lv1 := [(0, .int x), (1, .int (nI 2))]) rfl ?_
  refine j_iload_n 0 C dJ9_floorDiv_7cf53_0 0 rfl ?_
  refine j_iload_n 1 C dJ9_floorDiv_7cf53_1 1 rfl ?_
  refine j_idiv 2 C dJ9_floorDiv_7cf53_2 (by decide) ?_
  refine j_istore_n 3 C dJ9_floorDiv_7cf53_3 [(2, .int (x / (nI 2))), (0, .int x), (1, .int (nI 2))] (by decide) rfl ?_
  refine j_iload_n 4 C dJ9_floorDiv_7cf53_4 1 rfl ?_
  refine j_iload_n 5 C dJ9_floorDiv_7cf53_5 2 rfl ?_
  refine j_ixor 6 C dJ9_floorDiv_7cf53_6 ?_
  refine j_if_ge 7 C 21 dJ9_floorDiv_7cf53_7 (by decide) (fun c7 => ?_) (fun c7 => ?_)
  · skip
    refine j_iload_n 21 C dJ9_floorDiv_7cf53_21 0 rfl ?_
    refine j_iret 22 C hP dJ9_floorDiv_7cf53_22 ?_
    first | exact ⟨z_ci (z_h2_1 c7), rfl⟩ | exact ⟨z_ci (z_h2_2 c7 c14), rfl⟩
  · skip
    refine j_iload_n 10 C dJ9_floorDiv_7cf53_10 0 rfl ?_
    refine j_iload_n 11 C dJ9_floorDiv_7cf53_11 2 rfl ?_
    refine j_imul 12 C dJ9_floorDiv_7cf53_12 ?_
    refine j_iload_n 13 C dJ9_floorDiv_7cf53_13 1 rfl ?_
    refine j_icmp_eq 14 C 21 dJ9_floorDiv_7cf53_14 (by decide) (fun c14 => ?_) (fun c14 => ?_)
    · skip
      refine j_iload_n 21 C dJ9_floorDiv_7cf53_21 0 rfl ?_
      refine j_iret 22 C hP dJ9_floorDiv_7cf53_22 ?_
      first | exact ⟨z_ci (z_h2_1 c7), rfl⟩ | exact ⟨z_ci (z_h2_2 c7 c14), rfl⟩
    · skip
      refine j_iload_n 17 C dJ9_floorDiv_7cf53_17 0 rfl ?_
      refine j_iconst 18 C dJ9_floorDiv_7cf53_18 (nI 1) rfl ?_
      refine j_isub 19 C dJ9_floorDiv_7cf53_19 ?_
      refine j_iret 20 C hP dJ9_floorDiv_7cf53_20 ?_
      exact ⟨z_ci (z_h2_3 c7 c14), rfl⟩
theorem dJ9_abs_0f7a4_0 : decode cJ9_abs_0f7a4 0 = .ok (.iload_n 0, 1) := by decide +kernel
theorem dJ9_abs_0f7a4_1 : decode cJ9_abs_0f7a4 1 = .ok (.ifCond .ge 8, 3) := by decide +kernel
theorem dJ9_abs_0f7a4_4 : decode cJ9_abs_0f7a4 4 = .ok (.iload_n 0, 1) := by decide +kernel
theorem dJ9_abs_0f7a4_5 : decode cJ9_abs_0f7a4 5 = .ok (.ineg, 1) := by decide +kernel
theorem dJ9_abs_0f7a4_6 : decode cJ9_abs_0f7a4 6 = .ok (.goto 4, 3) := by decide +kernel
theorem dJ9_abs_0f7a4_9 : decode cJ9_abs_0f7a4 9 = .ok (.iload_n 0, 1) := by decide +kernel
theorem dJ9_abs_0f7a4_10 : decode cJ9_abs_0f7a4 10 = .ok (.ireturn, 1) := by decide +kernel
set_option maxRecDepth 100000 in
set_option maxHeartbeats 4000000 in
theorem m_J9_abs_0f7a4 {l : Launch} {G : z_Gl} {σ : z_St} (x : Int32) : z_M l G yJ9_abs_0f7a4 cJ9_abs_0f7a4 1 (some .int) (z_rm 0 0) [.int x] σ (z_p1 (.int (z_abI x)) σ) := by
  refine z_Mj.of (by decide +kernel) (Nat.le_of_ble_eq_true rfl) (fun p S e s m below meth c s1 C hP => ?_)
  refine j_sub [0] (lv1 := [(0, .int x)]) rfl ?_
  refine j_iload_n 0 C dJ9_abs_0f7a4_0 0 rfl ?_
  refine j_if_ge 1 C 9 dJ9_abs_0f7a4_1 (by decide) (fun c1 => ?_) (fun c1 => ?_)
  · skip
    refine j_iload_n 9 C dJ9_abs_0f7a4_9 0 rfl ?_
    refine j_iret 10 C hP dJ9_abs_0f7a4_10 ?_
    first | exact ⟨z_ci (z_abI_1 c1), rfl⟩ | exact ⟨z_ci (z_abI_2 c1), rfl⟩
  · skip
    refine j_iload_n 4 C dJ9_abs_0f7a4_4 0 rfl ?_
    refine j_ineg 5 C dJ9_abs_0f7a4_5 ?_
    refine j_goto 6 C 10 dJ9_abs_0f7a4_6 (by decide) ?_
    refine j_iret 10 C hP dJ9_abs_0f7a4_10 ?_
    first | exact ⟨z_ci (z_abI_1 c1), rfl⟩ | exact ⟨z_ci (z_abI_2 c1), rfl⟩
theorem dX2_begin_0 : decode cX2_begin 0 = .ok (.aload_n 0, 1) := by decide +kernel
theorem dX2_begin_1 : decode cX2_begin 1 = .ok (.iload_n 1, 1) := by decide +kernel
theorem dX2_begin_2 : decode cX2_begin 2 = .ok (.putfield 22, 3) := by decide +kernel
theorem dX2_begin_5 : decode cX2_begin 5 = .ok (.aload_n 0, 1) := by decide +kernel
theorem dX2_begin_6 : decode cX2_begin 6 = .ok (.iconst 0, 1) := by decide +kernel
theorem dX2_begin_7 : decode cX2_begin 7 = .ok (.putfield 26, 3) := by decide +kernel
theorem dX2_begin_10 : decode cX2_begin 10 = .ok (.return_, 1) := by decide +kernel
set_option maxRecDepth 100000 in
set_option maxHeartbeats 4000000 in
theorem m_X2_begin {l : Launch} {G : z_Gl} {σ : z_St} (x : Int32) : z_M l G yX2_begin cX2_begin 2 none (z_rm 0 0) [.ref (z_ad G 1), .int x] σ (z_p0 (z_ui (z_ui σ 1 3 x) 1 4 (nI 0))) := by
  refine z_M.of (by decide) (Nat.le_of_ble_eq_true rfl) (fun p e s m below meth c C => ?_)
  refine z_sub [0, 1] (lv1 := [(0, .ref (z_ad G 1)), (1, .int x)]) rfl ?_
  refine z_aload_n 0 C dX2_begin_0 0 rfl ?_
  refine z_iload_n 1 C dX2_begin_1 1 rfl ?_
  refine z_puti 2 C 1 z_dX2 (⟨rfl, rfl⟩) 3 (by decide) q130 rfl (rfl) rfl ⟨Nat.le_of_ble_eq_true rfl, rfl⟩ dX2_begin_2 ?_
  refine z_aload_n 5 C dX2_begin_5 0 rfl ?_
  refine z_iconst 6 C dX2_begin_6 (nI 0) rfl ?_
  refine z_puti 7 C 1 z_dX2 (⟨rfl, rfl⟩) 4 (by decide) q132 rfl (rfl) rfl ⟨Nat.le_of_ble_eq_true rfl, rfl⟩ dX2_begin_7 ?_
  refine z_vret 10 C dX2_begin_10 ?_
  exact ⟨rfl, rfl⟩
theorem dX2_isComplete_0 : decode cX2_isComplete 0 = .ok (.aload_n 0, 1) := by decide +kernel
theorem dX2_isComplete_1 : decode cX2_isComplete 1 = .ok (.getfield 26, 3) := by decide +kernel
theorem dX2_isComplete_4 : decode cX2_isComplete 4 = .ok (.aload_n 0, 1) := by decide +kernel
theorem dX2_isComplete_5 : decode cX2_isComplete 5 = .ok (.getfield 22, 3) := by decide +kernel
theorem dX2_isComplete_8 : decode cX2_isComplete 8 = .ok (.bipush 24, 2) := by decide +kernel
theorem dX2_isComplete_10 : decode cX2_isComplete 10 = .ok (.imul, 1) := by decide +kernel
theorem dX2_isComplete_11 : decode cX2_isComplete 11 = .ok (.if_icmp .lt 7, 3) := by decide +kernel
theorem dX2_isComplete_14 : decode cX2_isComplete 14 = .ok (.iconst 1, 1) := by decide +kernel
theorem dX2_isComplete_15 : decode cX2_isComplete 15 = .ok (.goto 4, 3) := by decide +kernel
theorem dX2_isComplete_18 : decode cX2_isComplete 18 = .ok (.iconst 0, 1) := by decide +kernel
theorem dX2_isComplete_19 : decode cX2_isComplete 19 = .ok (.ireturn, 1) := by decide +kernel
set_option maxRecDepth 100000 in
set_option maxHeartbeats 4000000 in
theorem m_X2_isComplete {l : Launch} {G : z_Gl} {σ : z_St} (P n : Nat) (hP : σ.1 1 3 = nI P) (hn : σ.1 1 4 = nI n) (h12 : P ≤ 12) (h288 : n ≤ 288) : z_M l G yX2_isComplete cX2_isComplete 1 (some .boolean) (z_rm 0 0) [.ref (z_ad G 1)] σ (z_p1 (.int (z_bo (P * 24 ≤ n))) σ) := by
  refine z_M.of (by decide) (Nat.le_of_ble_eq_true rfl) (fun p e s m below meth c C => ?_)
  refine z_sub [0] (lv1 := [(0, .ref (z_ad G 1))]) rfl ?_
  refine z_aload_n 0 C dX2_isComplete_0 0 rfl ?_
  refine z_getf 1 C 1 z_dX2 (⟨rfl, rfl⟩) 4 (by decide) q132 (.int (nI n)) (z_ci hn) dX2_isComplete_1 ?_
  refine z_aload_n 4 C dX2_isComplete_4 0 rfl ?_
  refine z_getf 5 C 1 z_dX2 (⟨rfl, rfl⟩) 3 (by decide) q130 (.int (nI P)) (z_ci hP) dX2_isComplete_5 ?_
  refine z_bipush 8 C dX2_isComplete_8 (nI 24) rfl ?_
  refine z_imulN 10 C P 24 rfl rfl dX2_isComplete_10 ?_
  refine z_icmp_ltN 11 C n (P * 24) rfl rfl (by omega) (by omega) 18 dX2_isComplete_11 (by decide) (fun c11 => ?_) (fun c11 => ?_)
  · skip
    refine z_iconst 18 C dX2_isComplete_18 (nI 0) rfl ?_
    refine z_zret 19 C (rfl) dX2_isComplete_19 ?_
    first | exact ⟨z_ci (z_bo_f (Nat.not_le.mpr c11)), rfl⟩ | exact ⟨z_ci (z_bo_t c11), rfl⟩
  · skip
    refine z_iconst 14 C dX2_isComplete_14 (nI 1) rfl ?_
    refine z_goto 15 C 19 dX2_isComplete_15 (by decide) ?_
    refine z_zret 19 C (rfl) dX2_isComplete_19 ?_
    first | exact ⟨z_ci (z_bo_f (Nat.not_le.mpr c11)), rfl⟩ | exact ⟨z_ci (z_bo_t c11), rfl⟩
theorem dX2_finishedSteps_0 : decode cX2_finishedSteps 0 = .ok (.aload_n 0, 1) := by decide +kernel
theorem dX2_finishedSteps_1 : decode cX2_finishedSteps 1 = .ok (.getfield 26, 3) := by decide +kernel
theorem dX2_finishedSteps_4 : decode cX2_finishedSteps 4 = .ok (.bipush 24, 2) := by decide +kernel
theorem dX2_finishedSteps_6 : decode cX2_finishedSteps 6 = .ok (.idiv, 1) := by decide +kernel
theorem dX2_finishedSteps_7 : decode cX2_finishedSteps 7 = .ok (.ireturn, 1) := by decide +kernel
set_option maxRecDepth 100000 in
set_option maxHeartbeats 4000000 in
theorem m_X2_finishedSteps {l : Launch} {G : z_Gl} {σ : z_St} (n : Nat) (hn : σ.1 1 4 = nI n) (h288 : n ≤ 288) : z_M l G yX2_finishedSteps cX2_finishedSteps 1 (some .int) (z_rm 0 0) [.ref (z_ad G 1)] σ (z_p1 (.int (nI (n / 24))) σ) := by
  refine z_M.of (by decide) (Nat.le_of_ble_eq_true rfl) (fun p e s m below meth c C => ?_)
  refine z_sub [0] (lv1 := [(0, .ref (z_ad G 1))]) rfl ?_
  refine z_aload_n 0 C dX2_finishedSteps_0 0 rfl ?_
  refine z_getf 1 C 1 z_dX2 (⟨rfl, rfl⟩) 4 (by decide) q132 (.int (nI n)) (z_ci hn) dX2_finishedSteps_1 ?_
  refine z_bipush 4 C dX2_finishedSteps_4 (nI 24) rfl ?_
  refine z_idivN 6 C n 24 rfl rfl (by omega) (by omega) (by omega) dX2_finishedSteps_6 ?_
  refine z_iret 7 C dX2_finishedSteps_7 ?_
  exact ⟨rfl, rfl⟩
theorem dX2_nextPosition_0 : decode cX2_nextPosition 0 = .ok (.aload_n 0, 1) := by decide +kernel
theorem dX2_nextPosition_1 : decode cX2_nextPosition 1 = .ok (.getfield 26, 3) := by decide +kernel
theorem dX2_nextPosition_4 : decode cX2_nextPosition 4 = .ok (.bipush 24, 2) := by decide +kernel
theorem dX2_nextPosition_6 : decode cX2_nextPosition 6 = .ok (.irem, 1) := by decide +kernel
theorem dX2_nextPosition_7 : decode cX2_nextPosition 7 = .ok (.ireturn, 1) := by decide +kernel
set_option maxRecDepth 100000 in
set_option maxHeartbeats 4000000 in
theorem m_X2_nextPosition {l : Launch} {G : z_Gl} {σ : z_St} (n : Nat) (hn : σ.1 1 4 = nI n) (h288 : n ≤ 288) : z_M l G yX2_nextPosition cX2_nextPosition 1 (some .int) (z_rm 0 0) [.ref (z_ad G 1)] σ (z_p1 (.int (nI (n % 24))) σ) := by
  refine z_M.of (by decide) (Nat.le_of_ble_eq_true rfl) (fun p e s m below meth c C => ?_)
  refine z_sub [0] (lv1 := [(0, .ref (z_ad G 1))]) rfl ?_
  refine z_aload_n 0 C dX2_nextPosition_0 0 rfl ?_
  refine z_getf 1 C 1 z_dX2 (⟨rfl, rfl⟩) 4 (by decide) q132 (.int (nI n)) (z_ci hn) dX2_nextPosition_1 ?_
  refine z_bipush 4 C dX2_nextPosition_4 (nI 24) rfl ?_
  refine z_iremN 6 C n 24 rfl rfl (by omega) (by omega) (by omega) dX2_nextPosition_6 ?_
  refine z_iret 7 C dX2_nextPosition_7 ?_
  exact ⟨rfl, rfl⟩
theorem dX2_turnOf_0 : decode cX2_turnOf 0 = .ok (.aload_n 0, 1) := by decide +kernel
theorem dX2_turnOf_1 : decode cX2_turnOf 1 = .ok (.getfield 22, 3) := by decide +kernel
theorem dX2_turnOf_4 : decode cX2_turnOf 4 = .ok (.ifCond .ne 7, 3) := by decide +kernel
theorem dX2_turnOf_11 : decode cX2_turnOf 11 = .ok (.iload_n 1, 1) := by decide +kernel
theorem dX2_turnOf_12 : decode cX2_turnOf 12 = .ok (.bipush 24, 2) := by decide +kernel
theorem dX2_turnOf_14 : decode cX2_turnOf 14 = .ok (.aload_n 0, 1) := by decide +kernel
theorem dX2_turnOf_15 : decode cX2_turnOf 15 = .ok (.getfield 22, 3) := by decide +kernel
theorem dX2_turnOf_18 : decode cX2_turnOf 18 = .ok (.idiv, 1) := by decide +kernel
theorem dX2_turnOf_19 : decode cX2_turnOf 19 = .ok (.imul, 1) := by decide +kernel
theorem dX2_turnOf_20 : decode cX2_turnOf 20 = .ok (.ireturn, 1) := by decide +kernel
set_option maxRecDepth 100000 in
set_option maxHeartbeats 4000000 in
theorem m_X2_turnOf {l : Launch} {G : z_Gl} {σ : z_St} (P : Nat) (hP : σ.1 1 3 = nI P) (h0 : 0 < P) (h12 : P ≤ 12) (j : Nat) : z_M l G yX2_turnOf cX2_turnOf 2 (some .int) (z_rm 0 0) [.ref (z_ad G 1), .int (nI j)] σ (z_p1 (.int (nI (j * (24 / P)))) σ) := by
  refine z_M.of (by decide) (Nat.le_of_ble_eq_true rfl) (fun p e s m below meth c C => ?_)
  refine z_sub [0, 1] (lv1 := [(0, .ref (z_ad G 1)), (1, .int (nI j))]) rfl ?_
  refine z_aload_n 0 C dX2_turnOf_0 0 rfl ?_
  refine z_getf 1 C 1 z_dX2 (⟨rfl, rfl⟩) 3 (by decide) q130 (.int (nI P)) (z_ci hP) dX2_turnOf_1 ?_
  refine z_if_ne 4 C 11 dX2_turnOf_4 (by decide) (fun c4 => ?_) (fun c4 => ?_)
  · skip
    refine z_iload_n 11 C dX2_turnOf_11 1 rfl ?_
    refine z_bipush 12 C dX2_turnOf_12 (nI 24) rfl ?_
    refine z_aload_n 14 C dX2_turnOf_14 0 rfl ?_
    refine z_getf 15 C 1 z_dX2 (⟨rfl, rfl⟩) 3 (by decide) q130 (.int (nI P)) (z_ci hP) dX2_turnOf_15 ?_
    refine z_idivN 18 C 24 P rfl rfl (by omega) (by omega) (by omega) dX2_turnOf_18 ?_
    refine z_imulN 19 C j (24 / P) rfl rfl dX2_turnOf_19 ?_
    refine z_iret 20 C dX2_turnOf_20 ?_
    exact ⟨rfl, rfl⟩
  · skip
    exact absurd ((z_nI0 (by omega)).mp c4) (by omega)
theorem dX2_append_0 : decode cX2_append 0 = .ok (.aload_n 0, 1) := by decide +kernel
theorem dX2_append_1 : decode cX2_append 1 = .ok (.getfield 26, 3) := by decide +kernel
theorem dX2_append_4 : decode cX2_append 4 = .ok (.aload_n 0, 1) := by decide +kernel
theorem dX2_append_5 : decode cX2_append 5 = .ok (.getfield 9, 3) := by decide +kernel
theorem dX2_append_8 : decode cX2_append 8 = .ok (.arraylength, 1) := by decide +kernel
theorem dX2_append_9 : decode cX2_append 9 = .ok (.if_icmp .ge 23, 3) := by decide +kernel
theorem dX2_append_12 : decode cX2_append 12 = .ok (.aload_n 0, 1) := by decide +kernel
theorem dX2_append_13 : decode cX2_append 13 = .ok (.getfield 9, 3) := by decide +kernel
theorem dX2_append_16 : decode cX2_append 16 = .ok (.aload_n 0, 1) := by decide +kernel
theorem dX2_append_17 : decode cX2_append 17 = .ok (.getfield 26, 3) := by decide +kernel
theorem dX2_append_20 : decode cX2_append 20 = .ok (.iload_n 1, 1) := by decide +kernel
theorem dX2_append_21 : decode cX2_append 21 = .ok (.iastore, 1) := by decide +kernel
theorem dX2_append_22 : decode cX2_append 22 = .ok (.aload_n 0, 1) := by decide +kernel
theorem dX2_append_23 : decode cX2_append 23 = .ok (.dup, 1) := by decide +kernel
theorem dX2_append_24 : decode cX2_append 24 = .ok (.getfield 26, 3) := by decide +kernel
theorem dX2_append_27 : decode cX2_append 27 = .ok (.iconst 1, 1) := by decide +kernel
theorem dX2_append_28 : decode cX2_append 28 = .ok (.iadd, 1) := by decide +kernel
theorem dX2_append_29 : decode cX2_append 29 = .ok (.putfield 26, 3) := by decide +kernel
theorem dX2_append_32 : decode cX2_append 32 = .ok (.return_, 1) := by decide +kernel
set_option maxRecDepth 100000 in
set_option maxHeartbeats 4000000 in
theorem m_X2_append {l : Launch} {G : z_Gl} {σ : z_St} (n : Nat) (hn : σ.1 1 4 = nI n) (h288 : n < 288) (x : Int32) : z_M l G yX2_append cX2_append 2 none (z_rm 0 0) [.ref (z_ad G 1), .int x] σ (z_p0 (z_ui (z_ui σ 2 n x) 1 4 (nI (n + 1)))) := by
  refine z_M.of (by decide) (Nat.le_of_ble_eq_true rfl) (fun p e s m below meth c C => ?_)
  refine z_sub [0, 1] (lv1 := [(0, .ref (z_ad G 1)), (1, .int x)]) rfl ?_
  refine z_aload_n 0 C dX2_append_0 0 rfl ?_
  refine z_getf 1 C 1 z_dX2 (⟨rfl, rfl⟩) 4 (by decide) q132 (.int (nI n)) (z_ci hn) dX2_append_1 ?_
  refine z_aload_n 4 C dX2_append_4 0 rfl ?_
  refine z_getf 5 C 1 z_dX2 (⟨rfl, rfl⟩) 0 (by decide) q127 (.ref (z_ad G 2)) rfl dX2_append_5 ?_
  refine z_alen 8 C 2 ⟨rfl, rfl⟩ dX2_append_8 ?_
  refine z_cv (st1 := [.int (nI 288), .int (nI n)]) rfl rfl rfl ?_
  refine z_icmp_geN 9 C n 288 rfl rfl (by omega) (by omega) 32 dX2_append_9 (by decide) (fun c9 => ?_) (fun c9 => ?_)
  · skip
    exact absurd c9 (by omega)
  · skip
    refine z_aload_n 12 C dX2_append_12 0 rfl ?_
    refine z_getf 13 C 1 z_dX2 (⟨rfl, rfl⟩) 0 (by decide) q127 (.ref (z_ad G 2)) rfl dX2_append_13 ?_
    refine z_aload_n 16 C dX2_append_16 0 rfl ?_
    refine z_getf 17 C 1 z_dX2 (⟨rfl, rfl⟩) 4 (by decide) q132 (.int (nI n)) (z_ci hn) dX2_append_17 ?_
    refine z_iload_n 20 C dX2_append_20 1 rfl ?_
    refine z_iastN 21 C 2 (n := 288) (⟨rfl, rfl⟩) n rfl (by omega) (by decide) dX2_append_21 ?_
    refine z_aload_n 22 C dX2_append_22 0 rfl ?_
    refine z_dup 23 C dX2_append_23 rfl ?_
    refine z_getf 24 C 1 z_dX2 (⟨rfl, rfl⟩) 4 (by decide) q132 (.int (nI n)) (z_ci hn) dX2_append_24 ?_
    refine z_iconst 27 C dX2_append_27 (nI 1) rfl ?_
    refine z_iaddN 28 C n 1 rfl rfl dX2_append_28 ?_
    refine z_puti 29 C 1 z_dX2 (⟨rfl, rfl⟩) 4 (by decide) q132 rfl (rfl) rfl ⟨Nat.le_of_ble_eq_true rfl, rfl⟩ dX2_append_29 ?_
    refine z_vret 32 C dX2_append_32 ?_
    exact ⟨rfl, rfl⟩
theorem dX2_at_0 : decode cX2_at 0 = .ok (.aload_n 0, 1) := by decide +kernel
theorem dX2_at_1 : decode cX2_at 1 = .ok (.getfield 9, 3) := by decide +kernel
theorem dX2_at_4 : decode cX2_at 4 = .ok (.iload_n 1, 1) := by decide +kernel
theorem dX2_at_5 : decode cX2_at 5 = .ok (.bipush 24, 2) := by decide +kernel
theorem dX2_at_7 : decode cX2_at 7 = .ok (.imul, 1) := by decide +kernel
theorem dX2_at_8 : decode cX2_at 8 = .ok (.iload_n 2, 1) := by decide +kernel
theorem dX2_at_9 : decode cX2_at 9 = .ok (.bipush 24, 2) := by decide +kernel
theorem dX2_at_11 : decode cX2_at 11 = .ok (.invokestatic 29, 3) := by decide +kernel
theorem dX2_at_14 : decode cX2_at 14 = .ok (.iadd, 1) := by decide +kernel
theorem dX2_at_15 : decode cX2_at 15 = .ok (.iaload, 1) := by decide +kernel
theorem dX2_at_16 : decode cX2_at 16 = .ok (.ireturn, 1) := by decide +kernel
set_option maxRecDepth 100000 in
set_option maxHeartbeats 4000000 in
theorem m_X2_at {l : Launch} {G : z_Gl} {σ : z_St} (j k : Nat) (hj : j < 12) (hk : k < 2 ^ 31) : z_M l G yX2_at cX2_at 3 (some .int) (z_rm 1 22) [.ref (z_ad G 1), .int (nI j), .int (nI k)] σ (z_p1 (.int (σ.1 2 (j * 24 + k % 24))) σ) := by
  refine z_M.of (by decide) (Nat.le_of_ble_eq_true rfl) (fun p e s m below meth c C => ?_)
  refine z_sub [0, 1, 2] (lv1 := [(0, .ref (z_ad G 1)), (1, .int (nI j)), (2, .int (nI k))]) rfl ?_
  refine z_aload_n 0 C dX2_at_0 0 rfl ?_
  refine z_getf 1 C 1 z_dX2 (⟨rfl, rfl⟩) 0 (by decide) q127 (.ref (z_ad G 2)) rfl dX2_at_1 ?_
  refine z_iload_n 4 C dX2_at_4 1 rfl ?_
  refine z_bipush 5 C dX2_at_5 (nI 24) rfl ?_
  refine z_imulN 7 C j 24 rfl rfl dX2_at_7 ?_
  refine z_iload_n 8 C dX2_at_8 2 rfl ?_
  refine z_bipush 9 C dX2_at_9 (nI 24) rfl ?_
  refine z_callS 11 C (As := [.int (nI k), .int (nI 24)]) (rest := [.int (nI (j * 24)), .ref (z_ad G 2)]) (m_J9_floorMod_7cf53 (nI k)) k_J9_floorMod_7cf53 q452 ⟨rfl, rfl⟩ ⟨Nat.le_of_ble_eq_true rfl, Nat.le_of_ble_eq_true rfl⟩ rfl (Nat.le_of_ble_eq_true rfl) ⟨Nat.le_of_ble_eq_true rfl, Nat.le_of_ble_eq_true rfl⟩ rfl dX2_at_11 (z_k1 ?_)
  rw [z_pm_n hk]
  refine z_cv (lv1 := [(0, .ref (z_ad G 1)), (1, .int (nI j)), (2, .int (nI k))]) (st1 := [.int (nI (k % 24)), .int (nI (j * 24)), .ref (z_ad G 2)]) (σ1 := σ) rfl rfl rfl ?_
  refine z_iaddN 14 C (j * 24) (k % 24) rfl rfl dX2_at_14 ?_
  refine z_ialdN 15 C 2 (n := 288) (⟨rfl, rfl⟩) ((j * 24) + (k % 24)) rfl (by omega) (by decide) dX2_at_15 ?_
  refine z_iret 16 C dX2_at_16 ?_
  exact ⟨rfl, rfl⟩
theorem dX2_sumAt_0 : decode cX2_sumAt 0 = .ok (.lconst 0, 1) := by decide +kernel
theorem dX2_sumAt_1 : decode cX2_sumAt 1 = .ok (.lstore_n 2, 1) := by decide +kernel
theorem dX2_sumAt_2 : decode cX2_sumAt 2 = .ok (.iconst 0, 1) := by decide +kernel
theorem dX2_sumAt_3 : decode cX2_sumAt 3 = .ok (.istore 4, 2) := by decide +kernel
theorem dX2_sumAt_5 : decode cX2_sumAt 5 = .ok (.iload 4, 2) := by decide +kernel
theorem dX2_sumAt_7 : decode cX2_sumAt 7 = .ok (.aload_n 0, 1) := by decide +kernel
theorem dX2_sumAt_8 : decode cX2_sumAt 8 = .ok (.getfield 22, 3) := by decide +kernel
theorem dX2_sumAt_11 : decode cX2_sumAt 11 = .ok (.if_icmp .ge 20, 3) := by decide +kernel
theorem dX2_sumAt_14 : decode cX2_sumAt 14 = .ok (.lload_n 2, 1) := by decide +kernel
theorem dX2_sumAt_15 : decode cX2_sumAt 15 = .ok (.aload_n 0, 1) := by decide +kernel
theorem dX2_sumAt_16 : decode cX2_sumAt 16 = .ok (.iload 4, 2) := by decide +kernel
theorem dX2_sumAt_18 : decode cX2_sumAt 18 = .ok (.iload_n 1, 1) := by decide +kernel
theorem dX2_sumAt_19 : decode cX2_sumAt 19 = .ok (.invokevirtual 51, 3) := by decide +kernel
theorem dX2_sumAt_22 : decode cX2_sumAt 22 = .ok (.i2l, 1) := by decide +kernel
theorem dX2_sumAt_23 : decode cX2_sumAt 23 = .ok (.ladd, 1) := by decide +kernel
theorem dX2_sumAt_24 : decode cX2_sumAt 24 = .ok (.lstore_n 2, 1) := by decide +kernel
theorem dX2_sumAt_25 : decode cX2_sumAt 25 = .ok (.iinc 4 1, 3) := by decide +kernel
theorem dX2_sumAt_28 : decode cX2_sumAt 28 = .ok (.goto (-23), 3) := by decide +kernel
theorem dX2_sumAt_31 : decode cX2_sumAt 31 = .ok (.lload_n 2, 1) := by decide +kernel
theorem dX2_sumAt_32 : decode cX2_sumAt 32 = .ok (.lreturn, 1) := by decide +kernel
set_option maxRecDepth 100000 in
set_option maxHeartbeats 4000000 in
theorem m_X2_sumAt {l : Launch} {G : z_Gl} {σ : z_St} (P : Nat) (hP : σ.1 1 3 = nI P) (h0 : 0 < P) (h12 : P ≤ 12) (k : Nat) (hk : k < 2 ^ 31) : z_M l G yX2_sumAt cX2_sumAt 5 (some .long) (z_rm 2 44) [.ref (z_ad G 1), .int (nI k)] σ (z_p1 (.long (z_su (σ.1 2) (k % 24) P)) σ) := by
  refine z_M.of (by decide) (Nat.le_of_ble_eq_true rfl) (fun p e s m below meth c C => ?_)
  refine z_sub [0, 1] (lv1 := [(0, .ref (z_ad G 1)), (1, .int (nI k))]) rfl ?_
  refine z_lconst 0 C dX2_sumAt_0 0 rfl ?_
  refine z_lstore_n 1 C dX2_sumAt_1 [(2, .long 0), (0, .ref (z_ad G 1)), (1, .int (nI k))] (by decide) rfl ?_
  refine z_iconst 2 C dX2_sumAt_2 (nI 0) rfl ?_
  refine z_istore 3 C dX2_sumAt_3 [(4, .int (nI 0)), (2, .long 0), (0, .ref (z_ad G 1)), (1, .int (nI k))] (by decide) rfl ?_
  refine z_sub [2, 3, 1, 0] (lv1 := [(0, .ref (z_ad G 1)), (1, .int (nI k)), (2, .long 0), (4, .int (nI 0))]) rfl ?_
  refine z_cv (lv1 := [(0, .ref (z_ad G 1)), (1, .int (nI k)), (2, .long (z_su (σ.1 2) (k % 24) 0)), (4, .int (nI 0))]) (st1 := []) (σ1 := σ) rfl rfl rfl ?_
  refine z_lp1 (fun (j : Nat) => j ≤ P) (fun (j : Nat) => P - j) (fun (j : Nat) => [(0, .ref (z_ad G 1)), (1, .int (nI k)), (2, .long (z_su (σ.1 2) (k % 24) j)), (4, .int (nI j))]) (fun (j : Nat) => σ) (fun j hi_5 ih_5 => ?_) 0 (by omega)
  try dsimp only
  refine z_iload 5 C dX2_sumAt_5 3 rfl ?_
  refine z_aload_n 7 C dX2_sumAt_7 0 rfl ?_
  refine z_getf 8 C 1 z_dX2 (⟨rfl, rfl⟩) 3 (by decide) q130 (.int (nI P)) (z_ci hP) dX2_sumAt_8 ?_
  refine z_icmp_geN 11 C j P rfl rfl (by omega) (by omega) 31 dX2_sumAt_11 (by decide) (fun c11 => ?_) (fun c11 => ?_)
  · skip
    have ej : j = P := by omega
    subst ej
    refine z_lload_n 31 C dX2_sumAt_31 2 rfl ?_
    refine z_lret 32 C dX2_sumAt_32 ?_
    exact ⟨rfl, rfl⟩
  · skip
    refine z_lload_n 14 C dX2_sumAt_14 2 rfl ?_
    refine z_aload_n 15 C dX2_sumAt_15 0 rfl ?_
    refine z_iload 16 C dX2_sumAt_16 3 rfl ?_
    refine z_iload_n 18 C dX2_sumAt_18 1 rfl ?_
    refine z_callV 19 C 1 (⟨rfl, rfl⟩) rfl (As := [.int (nI j), .int (nI k)]) (rest := [.long (z_su (σ.1 2) (k % 24) j)]) (m_X2_at j k (by omega) (by omega)) k_X2_at q481 ⟨rfl, rfl⟩ ⟨Nat.le_of_ble_eq_true rfl, Nat.le_of_ble_eq_true rfl⟩ rfl (Nat.le_of_ble_eq_true rfl) ⟨Nat.le_of_ble_eq_true rfl, Nat.le_of_ble_eq_true rfl⟩ rfl dX2_sumAt_19 (z_k1 ?_)
    refine z_i2l 22 C dX2_sumAt_22 ?_
    refine z_ladd 23 C dX2_sumAt_23 ?_
    refine z_lstore_n 24 C dX2_sumAt_24 [(2, .long ((z_su (σ.1 2) (k % 24) j) + (Int32.toInt64 (σ.1 2 (j * 24 + k % 24))))), (0, .ref (z_ad G 1)), (1, .int (nI k)), (4, .int (nI j))] (by decide) rfl ?_
    refine z_iincN 25 C 3 j [(4, .int (nI (j + 1))), (2, .long ((z_su (σ.1 2) (k % 24) j) + (Int32.toInt64 (σ.1 2 (j * 24 + k % 24))))), (0, .ref (z_ad G 1)), (1, .int (nI k))] rfl rfl (by decide) rfl dX2_sumAt_25 ?_
    refine z_goto 28 C 5 dX2_sumAt_28 (by decide) ?_
    refine z_sub [2, 3, 1, 0] (lv1 := [(0, .ref (z_ad G 1)), (1, .int (nI k)), (2, .long ((z_su (σ.1 2) (k % 24) j) + (Int32.toInt64 (σ.1 2 (j * 24 + k % 24))))), (4, .int (nI (j + 1)))]) rfl ?_
    refine z_cv (lv1 := [(0, .ref (z_ad G 1)), (1, .int (nI k)), (2, .long (z_su (σ.1 2) (k % 24) (j + 1))), (4, .int (nI (j + 1)))]) (st1 := []) (σ1 := σ) rfl rfl rfl ?_
    exact ih_5 (j + 1) (by omega) (by omega)
theorem dX2_spindleAt_0 : decode cX2_spindleAt 0 = .ok (.ldc2_w 54, 3) := by decide +kernel
theorem dX2_spindleAt_3 : decode cX2_spindleAt 3 = .ok (.aload_n 0, 1) := by decide +kernel
theorem dX2_spindleAt_4 : decode cX2_spindleAt 4 = .ok (.iload_n 1, 1) := by decide +kernel
theorem dX2_spindleAt_5 : decode cX2_spindleAt 5 = .ok (.invokevirtual 56, 3) := by decide +kernel
theorem dX2_spindleAt_8 : decode cX2_spindleAt 8 = .ok (.lmul, 1) := by decide +kernel
theorem dX2_spindleAt_9 : decode cX2_spindleAt 9 = .ok (.aload_n 0, 1) := by decide +kernel
theorem dX2_spindleAt_10 : decode cX2_spindleAt 10 = .ok (.getfield 22, 3) := by decide +kernel
theorem dX2_spindleAt_13 : decode cX2_spindleAt 13 = .ok (.i2l, 1) := by decide +kernel
theorem dX2_spindleAt_14 : decode cX2_spindleAt 14 = .ok (.invokestatic 60, 3) := by decide +kernel
theorem dX2_spindleAt_17 : decode cX2_spindleAt 17 = .ok (.lreturn, 1) := by decide +kernel
set_option maxRecDepth 100000 in
set_option maxHeartbeats 4000000 in
theorem m_X2_spindleAt {l : Launch} {G : z_Gl} {σ : z_St} (P : Nat) (hP : σ.1 1 3 = nI P) (h0 : 0 < P) (h12 : P ≤ 12) (k : Nat) (hk : k < 24) : z_M l G yX2_spindleAt cX2_spindleAt 2 (some .long) (z_rm 3 68) [.ref (z_ad G 1), .int (nI k)] σ (z_p1 (.long (z_sp (σ.1 2) P k)) σ) := by
  refine z_M.of (by decide) (Nat.le_of_ble_eq_true rfl) (fun p e s m below meth c C => ?_)
  refine z_sub [0, 1] (lv1 := [(0, .ref (z_ad G 1)), (1, .int (nI k))]) rfl ?_
  refine z_ldc2 0 C dX2_spindleAt_0 q486 ?_
  refine z_aload_n 3 C dX2_spindleAt_3 0 rfl ?_
  refine z_iload_n 4 C dX2_spindleAt_4 1 rfl ?_
  refine z_callV 5 C 1 (⟨rfl, rfl⟩) rfl (As := [.int (nI k)]) (rest := [.long 1000000]) (m_X2_sumAt P hP (by omega) (by omega) k (by omega)) k_X2_sumAt q482 ⟨rfl, rfl⟩ ⟨Nat.le_of_ble_eq_true rfl, Nat.le_of_ble_eq_true rfl⟩ rfl (Nat.le_of_ble_eq_true rfl) ⟨Nat.le_of_ble_eq_true rfl, Nat.le_of_ble_eq_true rfl⟩ rfl dX2_spindleAt_5 (z_k1 ?_)
  refine z_cv (lv1 := [(0, .ref (z_ad G 1)), (1, .int (nI k))]) (st1 := [.long (z_su (σ.1 2) k P), .long 1000000]) (σ1 := σ) rfl (by rw [Nat.mod_eq_of_lt hk]) rfl ?_
  refine z_lmul 8 C dX2_spindleAt_8 ?_
  refine z_aload_n 9 C dX2_spindleAt_9 0 rfl ?_
  refine z_getf 10 C 1 z_dX2 (⟨rfl, rfl⟩) 3 (by decide) q130 (.int (nI P)) (z_ci hP) dX2_spindleAt_10 ?_
  refine z_i2l 13 C dX2_spindleAt_13 ?_
  refine z_cv (lv1 := [(0, .ref (z_ad G 1)), (1, .int (nI k))]) (st1 := [.long (lN P), .long (1000000 * (z_su (σ.1 2) k P))]) (σ1 := σ) rfl (by rw [nI_l (by omega)]) rfl ?_
  refine z_callSN 14 C (As := [.long (1000000 * (z_su (σ.1 2) k P)), .long (lN P)]) (rest := []) (m_X7_divide (1000000 * (z_su (σ.1 2) k P)) (lN P) (z_lNp h0 h12)) k_X7_divide (List.mem_of_getElem? (i := 22) rfl) ⟨rfl, rfl⟩ ⟨Nat.le_of_ble_eq_true rfl, Nat.le_of_ble_eq_true rfl⟩ rfl (Nat.le_of_ble_eq_true rfl) ⟨Nat.le_of_ble_eq_true rfl, Nat.le_of_ble_eq_true rfl⟩ rfl dX2_spindleAt_14 (z_k1 ?_)
  refine z_lret 17 C dX2_spindleAt_17 ?_
  exact ⟨rfl, rfl⟩
theorem dX2_partAt_0 : decode cX2_partAt 0 = .ok (.lconst 0, 1) := by decide +kernel
theorem dX2_partAt_1 : decode cX2_partAt 1 = .ok (.lstore_n 2, 1) := by decide +kernel
theorem dX2_partAt_2 : decode cX2_partAt 2 = .ok (.iconst 0, 1) := by decide +kernel
theorem dX2_partAt_3 : decode cX2_partAt 3 = .ok (.istore 4, 2) := by decide +kernel
theorem dX2_partAt_5 : decode cX2_partAt 5 = .ok (.iload 4, 2) := by decide +kernel
theorem dX2_partAt_7 : decode cX2_partAt 7 = .ok (.aload_n 0, 1) := by decide +kernel
theorem dX2_partAt_8 : decode cX2_partAt 8 = .ok (.getfield 22, 3) := by decide +kernel
theorem dX2_partAt_11 : decode cX2_partAt 11 = .ok (.if_icmp .ge 44, 3) := by decide +kernel
theorem dX2_partAt_14 : decode cX2_partAt 14 = .ok (.iload_n 1, 1) := by decide +kernel
theorem dX2_partAt_15 : decode cX2_partAt 15 = .ok (.aload_n 0, 1) := by decide +kernel
theorem dX2_partAt_16 : decode cX2_partAt 16 = .ok (.iload 4, 2) := by decide +kernel
theorem dX2_partAt_18 : decode cX2_partAt 18 = .ok (.invokevirtual 64, 3) := by decide +kernel
theorem dX2_partAt_21 : decode cX2_partAt 21 = .ok (.iadd, 1) := by decide +kernel
theorem dX2_partAt_22 : decode cX2_partAt 22 = .ok (.istore 5, 2) := by decide +kernel
theorem dX2_partAt_24 : decode cX2_partAt 24 = .ok (.lload_n 2, 1) := by decide +kernel
theorem dX2_partAt_25 : decode cX2_partAt 25 = .ok (.aload_n 0, 1) := by decide +kernel
theorem dX2_partAt_26 : decode cX2_partAt 26 = .ok (.getfield 22, 3) := by decide +kernel
theorem dX2_partAt_29 : decode cX2_partAt 29 = .ok (.i2l, 1) := by decide +kernel
theorem dX2_partAt_30 : decode cX2_partAt 30 = .ok (.aload_n 0, 1) := by decide +kernel
theorem dX2_partAt_31 : decode cX2_partAt 31 = .ok (.iload 4, 2) := by decide +kernel
theorem dX2_partAt_33 : decode cX2_partAt 33 = .ok (.iload 5, 2) := by decide +kernel
theorem dX2_partAt_35 : decode cX2_partAt 35 = .ok (.invokevirtual 51, 3) := by decide +kernel
theorem dX2_partAt_38 : decode cX2_partAt 38 = .ok (.i2l, 1) := by decide +kernel
theorem dX2_partAt_39 : decode cX2_partAt 39 = .ok (.lmul, 1) := by decide +kernel
theorem dX2_partAt_40 : decode cX2_partAt 40 = .ok (.aload_n 0, 1) := by decide +kernel
theorem dX2_partAt_41 : decode cX2_partAt 41 = .ok (.iload 5, 2) := by decide +kernel
theorem dX2_partAt_43 : decode cX2_partAt 43 = .ok (.invokevirtual 56, 3) := by decide +kernel
theorem dX2_partAt_46 : decode cX2_partAt 46 = .ok (.lsub, 1) := by decide +kernel
theorem dX2_partAt_47 : decode cX2_partAt 47 = .ok (.ladd, 1) := by decide +kernel
theorem dX2_partAt_48 : decode cX2_partAt 48 = .ok (.lstore_n 2, 1) := by decide +kernel
theorem dX2_partAt_49 : decode cX2_partAt 49 = .ok (.iinc 4 1, 3) := by decide +kernel
theorem dX2_partAt_52 : decode cX2_partAt 52 = .ok (.goto (-47), 3) := by decide +kernel
theorem dX2_partAt_55 : decode cX2_partAt 55 = .ok (.ldc2_w 54, 3) := by decide +kernel
theorem dX2_partAt_58 : decode cX2_partAt 58 = .ok (.lload_n 2, 1) := by decide +kernel
theorem dX2_partAt_59 : decode cX2_partAt 59 = .ok (.lmul, 1) := by decide +kernel
theorem dX2_partAt_60 : decode cX2_partAt 60 = .ok (.aload_n 0, 1) := by decide +kernel
theorem dX2_partAt_61 : decode cX2_partAt 61 = .ok (.getfield 22, 3) := by decide +kernel
theorem dX2_partAt_64 : decode cX2_partAt 64 = .ok (.i2l, 1) := by decide +kernel
theorem dX2_partAt_65 : decode cX2_partAt 65 = .ok (.aload_n 0, 1) := by decide +kernel
theorem dX2_partAt_66 : decode cX2_partAt 66 = .ok (.getfield 22, 3) := by decide +kernel
theorem dX2_partAt_69 : decode cX2_partAt 69 = .ok (.i2l, 1) := by decide +kernel
theorem dX2_partAt_70 : decode cX2_partAt 70 = .ok (.lmul, 1) := by decide +kernel
theorem dX2_partAt_71 : decode cX2_partAt 71 = .ok (.invokestatic 60, 3) := by decide +kernel
theorem dX2_partAt_74 : decode cX2_partAt 74 = .ok (.lreturn, 1) := by decide +kernel
set_option maxRecDepth 100000 in
set_option maxHeartbeats 4000000 in
theorem m_X2_partAt {l : Launch} {G : z_Gl} {σ : z_St} (P : Nat) (hP : σ.1 1 3 = nI P) (h0 : 0 < P) (h12 : P ≤ 12) (k : Nat) (hk : k < 24) : z_M l G yX2_partAt cX2_partAt 6 (some .long) (z_rm 3 68) [.ref (z_ad G 1), .int (nI k)] σ (z_p1 (.long (z_pt (σ.1 2) P k)) σ) := by
  refine z_M.of (by decide) (Nat.le_of_ble_eq_true rfl) (fun p e s m below meth c C => ?_)
  refine z_sub [0, 1] (lv1 := [(0, .ref (z_ad G 1)), (1, .int (nI k))]) rfl ?_
  refine z_lconst 0 C dX2_partAt_0 0 rfl ?_
  refine z_lstore_n 1 C dX2_partAt_1 [(2, .long 0), (0, .ref (z_ad G 1)), (1, .int (nI k))] (by decide) rfl ?_
  refine z_iconst 2 C dX2_partAt_2 (nI 0) rfl ?_
  refine z_istore 3 C dX2_partAt_3 [(4, .int (nI 0)), (2, .long 0), (0, .ref (z_ad G 1)), (1, .int (nI k))] (by decide) rfl ?_
  refine z_sub [2, 3, 1, 0] (lv1 := [(0, .ref (z_ad G 1)), (1, .int (nI k)), (2, .long 0), (4, .int (nI 0))]) rfl ?_
  refine z_cv (lv1 := [(0, .ref (z_ad G 1)), (1, .int (nI k)), (2, .long (z_pa (σ.1 2) P k 0)), (4, .int (nI 0))]) (st1 := []) (σ1 := σ) rfl rfl rfl ?_
  refine z_lp1 (fun (j : Nat) => j ≤ P) (fun (j : Nat) => P - j) (fun (j : Nat) => [(0, .ref (z_ad G 1)), (1, .int (nI k)), (2, .long (z_pa (σ.1 2) P k j)), (4, .int (nI j))]) (fun (j : Nat) => σ) (fun j hi_5 ih_5 => ?_) 0 (by omega)
  try dsimp only
  refine z_iload 5 C dX2_partAt_5 3 rfl ?_
  refine z_aload_n 7 C dX2_partAt_7 0 rfl ?_
  refine z_getf 8 C 1 z_dX2 (⟨rfl, rfl⟩) 3 (by decide) q130 (.int (nI P)) (z_ci hP) dX2_partAt_8 ?_
  refine z_icmp_geN 11 C j P rfl rfl (by omega) (by omega) 55 dX2_partAt_11 (by decide) (fun c11 => ?_) (fun c11 => ?_)
  · skip
    have ej : j = P := by omega
    subst ej
    refine z_ldc2 55 C dX2_partAt_55 q486 ?_
    refine z_lload_n 58 C dX2_partAt_58 2 rfl ?_
    refine z_lmul 59 C dX2_partAt_59 ?_
    refine z_aload_n 60 C dX2_partAt_60 0 rfl ?_
    refine z_getf 61 C 1 z_dX2 (⟨rfl, rfl⟩) 3 (by decide) q130 (.int (nI j)) (z_ci hP) dX2_partAt_61 ?_
    refine z_i2l 64 C dX2_partAt_64 ?_
    refine z_cv (lv1 := [(0, .ref (z_ad G 1)), (1, .int (nI k)), (2, .long (z_pa (σ.1 2) j k j)), (4, .int (nI j))]) (st1 := [.long (lN j), .long (1000000 * (z_pa (σ.1 2) j k j))]) (σ1 := σ) rfl (by rw [nI_l (by omega)]) rfl ?_
    refine z_aload_n 65 C dX2_partAt_65 0 rfl ?_
    refine z_getf 66 C 1 z_dX2 (⟨rfl, rfl⟩) 3 (by decide) q130 (.int (nI j)) (z_ci hP) dX2_partAt_66 ?_
    refine z_i2l 69 C dX2_partAt_69 ?_
    refine z_cv (lv1 := [(0, .ref (z_ad G 1)), (1, .int (nI k)), (2, .long (z_pa (σ.1 2) j k j)), (4, .int (nI j))]) (st1 := [.long (lN j), .long (lN j), .long (1000000 * (z_pa (σ.1 2) j k j))]) (σ1 := σ) rfl (by rw [nI_l (by omega)]) rfl ?_
    refine z_lmul 70 C dX2_partAt_70 ?_
    refine z_callSN 71 C (As := [.long (1000000 * (z_pa (σ.1 2) j k j)), .long ((lN j) * (lN j))]) (rest := []) (m_X7_divide (1000000 * (z_pa (σ.1 2) j k j)) ((lN j) * (lN j)) (z_lNq h0 h12)) k_X7_divide (List.mem_of_getElem? (i := 22) rfl) ⟨rfl, rfl⟩ ⟨Nat.le_of_ble_eq_true rfl, Nat.le_of_ble_eq_true rfl⟩ rfl (Nat.le_of_ble_eq_true rfl) ⟨Nat.le_of_ble_eq_true rfl, Nat.le_of_ble_eq_true rfl⟩ rfl dX2_partAt_71 (z_k1 ?_)
    refine z_lret 74 C dX2_partAt_74 ?_
    exact ⟨rfl, rfl⟩
  · skip
    have hdl : j * (24 / P) ≤ 12 * 24 := Nat.mul_le_mul (by omega) (Nat.div_le_self 24 P)
    refine z_iload_n 14 C dX2_partAt_14 1 rfl ?_
    refine z_aload_n 15 C dX2_partAt_15 0 rfl ?_
    refine z_iload 16 C dX2_partAt_16 3 rfl ?_
    refine z_callV 18 C 1 (⟨rfl, rfl⟩) rfl (As := [.int (nI j)]) (rest := [.int (nI k)]) (m_X2_turnOf P hP (by omega) (by omega) j) k_X2_turnOf q480 ⟨rfl, rfl⟩ ⟨Nat.le_of_ble_eq_true rfl, Nat.le_of_ble_eq_true rfl⟩ rfl (Nat.le_of_ble_eq_true rfl) ⟨Nat.le_of_ble_eq_true rfl, Nat.le_of_ble_eq_true rfl⟩ rfl dX2_partAt_18 (z_k1 ?_)
    refine z_iaddN 21 C k (j * (24 / P)) rfl rfl dX2_partAt_21 ?_
    refine z_istore 22 C dX2_partAt_22 [(5, .int (nI (k + (j * (24 / P))))), (0, .ref (z_ad G 1)), (1, .int (nI k)), (2, .long (z_pa (σ.1 2) P k j)), (4, .int (nI j))] (by decide) rfl ?_
    refine z_lload_n 24 C dX2_partAt_24 3 rfl ?_
    refine z_aload_n 25 C dX2_partAt_25 1 rfl ?_
    refine z_getf 26 C 1 z_dX2 (⟨rfl, rfl⟩) 3 (by decide) q130 (.int (nI P)) (z_ci hP) dX2_partAt_26 ?_
    refine z_i2l 29 C dX2_partAt_29 ?_
    refine z_cv (lv1 := [(5, .int (nI (k + (j * (24 / P))))), (0, .ref (z_ad G 1)), (1, .int (nI k)), (2, .long (z_pa (σ.1 2) P k j)), (4, .int (nI j))]) (st1 := [.long (lN P), .long (z_pa (σ.1 2) P k j)]) (σ1 := σ) rfl (by rw [nI_l (by omega)]) rfl ?_
    refine z_aload_n 30 C dX2_partAt_30 1 rfl ?_
    refine z_iload 31 C dX2_partAt_31 4 rfl ?_
    refine z_iload 33 C dX2_partAt_33 0 rfl ?_
    refine z_callV 35 C 1 (⟨rfl, rfl⟩) rfl (As := [.int (nI j), .int (nI (k + (j * (24 / P))))]) (rest := [.long (lN P), .long (z_pa (σ.1 2) P k j)]) (m_X2_at j (k + (j * (24 / P))) (by omega) (by omega)) k_X2_at q481 ⟨rfl, rfl⟩ ⟨Nat.le_of_ble_eq_true rfl, Nat.le_of_ble_eq_true rfl⟩ rfl (Nat.le_of_ble_eq_true rfl) ⟨Nat.le_of_ble_eq_true rfl, Nat.le_of_ble_eq_true rfl⟩ rfl dX2_partAt_35 (z_k1 ?_)
    refine z_i2l 38 C dX2_partAt_38 ?_
    refine z_lmul 39 C dX2_partAt_39 ?_
    refine z_aload_n 40 C dX2_partAt_40 1 rfl ?_
    refine z_iload 41 C dX2_partAt_41 0 rfl ?_
    refine z_callV 43 C 1 (⟨rfl, rfl⟩) rfl (As := [.int (nI (k + (j * (24 / P))))]) (rest := [.long ((lN P) * (Int32.toInt64 (σ.1 2 (j * 24 + (k + (j * (24 / P))) % 24)))), .long (z_pa (σ.1 2) P k j)]) (m_X2_sumAt P hP (by omega) (by omega) (k + (j * (24 / P))) (by omega)) k_X2_sumAt q482 ⟨rfl, rfl⟩ ⟨Nat.le_of_ble_eq_true rfl, Nat.le_of_ble_eq_true rfl⟩ rfl (Nat.le_of_ble_eq_true rfl) ⟨Nat.le_of_ble_eq_true rfl, Nat.le_of_ble_eq_true rfl⟩ rfl dX2_partAt_43 (z_k1 ?_)
    refine z_lsub 46 C dX2_partAt_46 ?_
    refine z_ladd 47 C dX2_partAt_47 ?_
    refine z_lstore_n 48 C dX2_partAt_48 [(2, .long ((z_pa (σ.1 2) P k j) + (((lN P) * (Int32.toInt64 (σ.1 2 (j * 24 + (k + (j * (24 / P))) % 24)))) - (z_su (σ.1 2) ((k + (j * (24 / P))) % 24) P)))), (5, .int (nI (k + (j * (24 / P))))), (0, .ref (z_ad G 1)), (1, .int (nI k)), (4, .int (nI j))] (by decide) rfl ?_
    refine z_iincN 49 C 4 j [(4, .int (nI (j + 1))), (2, .long ((z_pa (σ.1 2) P k j) + (((lN P) * (Int32.toInt64 (σ.1 2 (j * 24 + (k + (j * (24 / P))) % 24)))) - (z_su (σ.1 2) ((k + (j * (24 / P))) % 24) P)))), (5, .int (nI (k + (j * (24 / P))))), (0, .ref (z_ad G 1)), (1, .int (nI k))] rfl rfl (by decide) rfl dX2_partAt_49 ?_
    refine z_goto 52 C 5 dX2_partAt_52 (by decide) ?_
    refine z_sub [3, 4, 1, 0] (lv1 := [(0, .ref (z_ad G 1)), (1, .int (nI k)), (2, .long ((z_pa (σ.1 2) P k j) + (((lN P) * (Int32.toInt64 (σ.1 2 (j * 24 + (k + (j * (24 / P))) % 24)))) - (z_su (σ.1 2) ((k + (j * (24 / P))) % 24) P)))), (4, .int (nI (j + 1)))]) rfl ?_
    refine z_cv (lv1 := [(0, .ref (z_ad G 1)), (1, .int (nI k)), (2, .long (z_pa (σ.1 2) P k (j + 1))), (4, .int (nI (j + 1)))]) (st1 := []) (σ1 := σ) rfl rfl rfl ?_
    exact ih_5 (j + 1) (by omega) (by omega)
theorem dX2_replaceSpikes_0 : decode cX2_replaceSpikes 0 = .ok (.iload_n 1, 1) := by decide +kernel
theorem dX2_replaceSpikes_1 : decode cX2_replaceSpikes 1 = .ok (.bipush 24, 2) := by decide +kernel
theorem dX2_replaceSpikes_3 : decode cX2_replaceSpikes 3 = .ok (.imul, 1) := by decide +kernel
theorem dX2_replaceSpikes_4 : decode cX2_replaceSpikes 4 = .ok (.istore_n 3, 1) := by decide +kernel
theorem dX2_replaceSpikes_5 : decode cX2_replaceSpikes 5 = .ok (.aload_n 0, 1) := by decide +kernel
theorem dX2_replaceSpikes_6 : decode cX2_replaceSpikes 6 = .ok (.getfield 9, 3) := by decide +kernel
theorem dX2_replaceSpikes_9 : decode cX2_replaceSpikes 9 = .ok (.iload_n 3, 1) := by decide +kernel
theorem dX2_replaceSpikes_10 : decode cX2_replaceSpikes 10 = .ok (.aload_n 0, 1) := by decide +kernel
theorem dX2_replaceSpikes_11 : decode cX2_replaceSpikes 11 = .ok (.getfield 15, 3) := by decide +kernel
theorem dX2_replaceSpikes_14 : decode cX2_replaceSpikes 14 = .ok (.iconst 0, 1) := by decide +kernel
theorem dX2_replaceSpikes_15 : decode cX2_replaceSpikes 15 = .ok (.bipush 24, 2) := by decide +kernel
theorem dX2_replaceSpikes_17 : decode cX2_replaceSpikes 17 = .ok (.invokestatic 35, 3) := by decide +kernel
theorem dX2_replaceSpikes_20 : decode cX2_replaceSpikes 20 = .ok (.iconst 0, 1) := by decide +kernel
theorem dX2_replaceSpikes_21 : decode cX2_replaceSpikes 21 = .ok (.istore 4, 2) := by decide +kernel
theorem dX2_replaceSpikes_23 : decode cX2_replaceSpikes 23 = .ok (.iconst 0, 1) := by decide +kernel
theorem dX2_replaceSpikes_24 : decode cX2_replaceSpikes 24 = .ok (.istore 5, 2) := by decide +kernel
theorem dX2_replaceSpikes_26 : decode cX2_replaceSpikes 26 = .ok (.iload 5, 2) := by decide +kernel
theorem dX2_replaceSpikes_28 : decode cX2_replaceSpikes 28 = .ok (.bipush 24, 2) := by decide +kernel
theorem dX2_replaceSpikes_30 : decode cX2_replaceSpikes 30 = .ok (.if_icmp .ge 75, 3) := by decide +kernel
theorem dX2_replaceSpikes_33 : decode cX2_replaceSpikes 33 = .ok (.aload_n 0, 1) := by decide +kernel
theorem dX2_replaceSpikes_34 : decode cX2_replaceSpikes 34 = .ok (.getfield 15, 3) := by decide +kernel
theorem dX2_replaceSpikes_37 : decode cX2_replaceSpikes 37 = .ok (.iload 5, 2) := by decide +kernel
theorem dX2_replaceSpikes_39 : decode cX2_replaceSpikes 39 = .ok (.iconst 1, 1) := by decide +kernel
theorem dX2_replaceSpikes_40 : decode cX2_replaceSpikes 40 = .ok (.isub, 1) := by decide +kernel
theorem dX2_replaceSpikes_41 : decode cX2_replaceSpikes 41 = .ok (.invokestatic 41, 3) := by decide +kernel
theorem dX2_replaceSpikes_44 : decode cX2_replaceSpikes 44 = .ok (.iaload, 1) := by decide +kernel
theorem dX2_replaceSpikes_45 : decode cX2_replaceSpikes 45 = .ok (.aload_n 0, 1) := by decide +kernel
theorem dX2_replaceSpikes_46 : decode cX2_replaceSpikes 46 = .ok (.getfield 15, 3) := by decide +kernel
theorem dX2_replaceSpikes_49 : decode cX2_replaceSpikes 49 = .ok (.iload 5, 2) := by decide +kernel
theorem dX2_replaceSpikes_51 : decode cX2_replaceSpikes 51 = .ok (.iconst 1, 1) := by decide +kernel
theorem dX2_replaceSpikes_52 : decode cX2_replaceSpikes 52 = .ok (.iadd, 1) := by decide +kernel
theorem dX2_replaceSpikes_53 : decode cX2_replaceSpikes 53 = .ok (.invokestatic 41, 3) := by decide +kernel
theorem dX2_replaceSpikes_56 : decode cX2_replaceSpikes 56 = .ok (.iaload, 1) := by decide +kernel
theorem dX2_replaceSpikes_57 : decode cX2_replaceSpikes 57 = .ok (.iadd, 1) := by decide +kernel
theorem dX2_replaceSpikes_58 : decode cX2_replaceSpikes 58 = .ok (.istore 6, 2) := by decide +kernel
theorem dX2_replaceSpikes_60 : decode cX2_replaceSpikes 60 = .ok (.iconst 2, 1) := by decide +kernel
theorem dX2_replaceSpikes_61 : decode cX2_replaceSpikes 61 = .ok (.aload_n 0, 1) := by decide +kernel
theorem dX2_replaceSpikes_62 : decode cX2_replaceSpikes 62 = .ok (.getfield 15, 3) := by decide +kernel
theorem dX2_replaceSpikes_65 : decode cX2_replaceSpikes 65 = .ok (.iload 5, 2) := by decide +kernel
theorem dX2_replaceSpikes_67 : decode cX2_replaceSpikes 67 = .ok (.iaload, 1) := by decide +kernel
theorem dX2_replaceSpikes_68 : decode cX2_replaceSpikes 68 = .ok (.imul, 1) := by decide +kernel
theorem dX2_replaceSpikes_69 : decode cX2_replaceSpikes 69 = .ok (.iload 6, 2) := by decide +kernel
theorem dX2_replaceSpikes_71 : decode cX2_replaceSpikes 71 = .ok (.isub, 1) := by decide +kernel
theorem dX2_replaceSpikes_72 : decode cX2_replaceSpikes 72 = .ok (.invokestatic 45, 3) := by decide +kernel
theorem dX2_replaceSpikes_75 : decode cX2_replaceSpikes 75 = .ok (.iconst 2, 1) := by decide +kernel
theorem dX2_replaceSpikes_76 : decode cX2_replaceSpikes 76 = .ok (.iload_n 2, 1) := by decide +kernel
theorem dX2_replaceSpikes_77 : decode cX2_replaceSpikes 77 = .ok (.imul, 1) := by decide +kernel
theorem dX2_replaceSpikes_78 : decode cX2_replaceSpikes 78 = .ok (.if_icmp .le 21, 3) := by decide +kernel
theorem dX2_replaceSpikes_81 : decode cX2_replaceSpikes 81 = .ok (.aload_n 0, 1) := by decide +kernel
theorem dX2_replaceSpikes_82 : decode cX2_replaceSpikes 82 = .ok (.getfield 9, 3) := by decide +kernel
theorem dX2_replaceSpikes_85 : decode cX2_replaceSpikes 85 = .ok (.iload_n 3, 1) := by decide +kernel
theorem dX2_replaceSpikes_86 : decode cX2_replaceSpikes 86 = .ok (.iload 5, 2) := by decide +kernel
theorem dX2_replaceSpikes_88 : decode cX2_replaceSpikes 88 = .ok (.iadd, 1) := by decide +kernel
theorem dX2_replaceSpikes_89 : decode cX2_replaceSpikes 89 = .ok (.iload 6, 2) := by decide +kernel
theorem dX2_replaceSpikes_91 : decode cX2_replaceSpikes 91 = .ok (.iconst 2, 1) := by decide +kernel
theorem dX2_replaceSpikes_92 : decode cX2_replaceSpikes 92 = .ok (.invokestatic 48, 3) := by decide +kernel
theorem dX2_replaceSpikes_95 : decode cX2_replaceSpikes 95 = .ok (.iastore, 1) := by decide +kernel
theorem dX2_replaceSpikes_96 : decode cX2_replaceSpikes 96 = .ok (.iinc 4 1, 3) := by decide +kernel
theorem dX2_replaceSpikes_99 : decode cX2_replaceSpikes 99 = .ok (.iinc 5 1, 3) := by decide +kernel
theorem dX2_replaceSpikes_102 : decode cX2_replaceSpikes 102 = .ok (.goto (-76), 3) := by decide +kernel
theorem dX2_replaceSpikes_105 : decode cX2_replaceSpikes 105 = .ok (.iload 4, 2) := by decide +kernel
theorem dX2_replaceSpikes_107 : decode cX2_replaceSpikes 107 = .ok (.ireturn, 1) := by decide +kernel
set_option maxRecDepth 100000 in
set_option maxHeartbeats 4000000 in
theorem m_X2_replaceSpikes {l : Launch} {G : z_Gl} {σ : z_St} (j L : Nat) (hj : j < 12) (hL : L ≤ 20000) : z_M l G yX2_replaceSpikes cX2_replaceSpikes 7 (some .int) (z_rm 2 42) [.ref (z_ad G 1), .int (nI j), .int (nI L)] σ (z_p1 (.int (nI (z_sc (z_rw (σ.1 2) j) L 24))) (z_uI (z_uI σ 3 (va_cpy (σ.1 2) (σ.1 3) (j * 24) 0 24)) 2 (fb_put (σ.1 2) (z_sv (z_rw (σ.1 2) j) L) (j * 24) 24))) := by
  refine z_M.of (by decide) (Nat.le_of_ble_eq_true rfl) (fun p e s m below meth c C => ?_)
  refine z_sub [0, 1, 2] (lv1 := [(0, .ref (z_ad G 1)), (1, .int (nI j)), (2, .int (nI L))]) rfl ?_
  refine z_iload_n 0 C dX2_replaceSpikes_0 1 rfl ?_
  refine z_bipush 1 C dX2_replaceSpikes_1 (nI 24) rfl ?_
  refine z_imulN 3 C j 24 rfl rfl dX2_replaceSpikes_3 ?_
  refine z_istore_n 4 C dX2_replaceSpikes_4 [(3, .int (nI (j * 24))), (0, .ref (z_ad G 1)), (1, .int (nI j)), (2, .int (nI L))] (by decide) rfl ?_
  refine z_aload_n 5 C dX2_replaceSpikes_5 1 rfl ?_
  refine z_getf 6 C 1 z_dX2 (⟨rfl, rfl⟩) 0 (by decide) q127 (.ref (z_ad G 2)) rfl dX2_replaceSpikes_6 ?_
  refine z_iload_n 9 C dX2_replaceSpikes_9 0 rfl ?_
  refine z_aload_n 10 C dX2_replaceSpikes_10 1 rfl ?_
  refine z_getf 11 C 1 z_dX2 (⟨rfl, rfl⟩) 1 (by decide) q128 (.ref (z_ad G 3)) rfl dX2_replaceSpikes_11 ?_
  refine z_iconst 14 C dX2_replaceSpikes_14 (nI 0) rfl ?_
  refine z_bipush 15 C dX2_replaceSpikes_15 (nI 24) rfl ?_
  refine z_cpyi 17 C 2 3 (n0 := 288) (n1 := 24) (⟨rfl, rfl⟩) (⟨rfl, rfl⟩) q461 (j * 24) 0 24 rfl rfl rfl (by omega) (by omega) (by decide) (by decide) (Nat.le_of_ble_eq_true rfl) (Nat.le_of_ble_eq_true rfl) dX2_replaceSpikes_17 ?_
  refine z_iconst 20 C dX2_replaceSpikes_20 (nI 0) rfl ?_
  refine z_istore 21 C dX2_replaceSpikes_21 [(4, .int (nI 0)), (3, .int (nI (j * 24))), (0, .ref (z_ad G 1)), (1, .int (nI j)), (2, .int (nI L))] (by decide) rfl ?_
  refine z_iconst 23 C dX2_replaceSpikes_23 (nI 0) rfl ?_
  refine z_istore 24 C dX2_replaceSpikes_24 [(5, .int (nI 0)), (4, .int (nI 0)), (3, .int (nI (j * 24))), (0, .ref (z_ad G 1)), (1, .int (nI j)), (2, .int (nI L))] (by decide) rfl ?_
  refine z_sub [3, 4, 5, 2, 1, 0] (lv1 := [(0, .ref (z_ad G 1)), (1, .int (nI j)), (2, .int (nI L)), (3, .int (nI (j * 24))), (4, .int (nI 0)), (5, .int (nI 0))]) rfl ?_
  refine z_cv (lv1 := [(0, .ref (z_ad G 1)), (1, .int (nI j)), (2, .int (nI L)), (3, .int (nI (j * 24))), (4, .int (nI (z_sc (z_rw (σ.1 2) j) L 0))), (5, .int (nI 0))]) (st1 := []) (σ1 := z_uI (z_uI σ 3 (va_cpy (σ.1 2) (σ.1 3) (j * 24) 0 24)) 2 (fb_put (σ.1 2) (z_sv (z_rw (σ.1 2) j) L) (j * 24) 0)) rfl rfl (z_fil0p _ _ _ _) ?_
  refine z_lp1 (fun (k : Nat) => k ≤ 24) (fun (k : Nat) => 24 - k) (fun (k : Nat) => [(0, .ref (z_ad G 1)), (1, .int (nI j)), (2, .int (nI L)), (3, .int (nI (j * 24))), (4, .int (nI (z_sc (z_rw (σ.1 2) j) L k))), (5, .int (nI k))]) (fun (k : Nat) => z_uI (z_uI σ 3 (va_cpy (σ.1 2) (σ.1 3) (j * 24) 0 24)) 2 (fb_put (σ.1 2) (z_sv (z_rw (σ.1 2) j) L) (j * 24) k)) (fun k hi_26 ih_26 => ?_) 0 (by omega)
  try dsimp only
  refine z_iload 26 C dX2_replaceSpikes_26 5 rfl ?_
  refine z_bipush 28 C dX2_replaceSpikes_28 (nI 24) rfl ?_
  refine z_icmp_geN 30 C k 24 rfl rfl (by omega) (by omega) 105 dX2_replaceSpikes_30 (by decide) (fun c30 => ?_) (fun c30 => ?_)
  · skip
    have ek : k = 24 := by omega
    subst ek
    refine z_iload 105 C dX2_replaceSpikes_105 4 rfl ?_
    refine z_iret 107 C dX2_replaceSpikes_107 ?_
    exact ⟨rfl, rfl⟩
  · skip
    refine z_aload_n 33 C dX2_replaceSpikes_33 0 rfl ?_
    refine z_getf 34 C 1 z_dX2 (⟨rfl, rfl⟩) 1 (by decide) q128 (.ref (z_ad G 3)) rfl dX2_replaceSpikes_34 ?_
    refine z_iload 37 C dX2_replaceSpikes_37 5 rfl ?_
    refine z_iconst 39 C dX2_replaceSpikes_39 (nI 1) rfl ?_
    refine z_isub 40 C dX2_replaceSpikes_40 ?_
    refine z_callSN 41 C (As := [.int ((nI k) - (nI 1))]) (rest := [.ref (z_ad G 3)]) (m_X7_place_d (σ := z_uI (z_uI σ 3 (va_cpy (σ.1 2) (σ.1 3) (j * 24) 0 24)) 2 (fb_put (σ.1 2) (z_sv (z_rw (σ.1 2) j) L) (j * 24) k)) k 1 (by omega) (by omega)) k_X7_place (List.mem_of_getElem? (i := 20) rfl) ⟨rfl, rfl⟩ ⟨Nat.le_of_ble_eq_true rfl, Nat.le_of_ble_eq_true rfl⟩ rfl (Nat.le_of_ble_eq_true rfl) ⟨Nat.le_of_ble_eq_true rfl, Nat.le_of_ble_eq_true rfl⟩ rfl dX2_replaceSpikes_41 (z_k1 ?_)
    refine z_ialdN 44 C 3 (n := 24) (⟨rfl, rfl⟩) ((k + (24 - 1 % 24)) % 24) rfl (by omega) (by decide) dX2_replaceSpikes_44 ?_
    refine z_cv (lv1 := [(0, .ref (z_ad G 1)), (1, .int (nI j)), (2, .int (nI L)), (3, .int (nI (j * 24))), (4, .int (nI (z_sc (z_rw (σ.1 2) j) L k))), (5, .int (nI k))]) (st1 := [.int (z_rw (σ.1 2) j ((k + (24 - 1 % 24)) % 24))]) (σ1 := z_uI (z_uI σ 3 (va_cpy (σ.1 2) (σ.1 3) (j * 24) 0 24)) 2 (fb_put (σ.1 2) (z_sv (z_rw (σ.1 2) j) L) (j * 24) k)) rfl (by rw [z_oldr (by omega)]; rfl) rfl ?_
    refine z_aload_n 45 C dX2_replaceSpikes_45 0 rfl ?_
    refine z_getf 46 C 1 z_dX2 (⟨rfl, rfl⟩) 1 (by decide) q128 (.ref (z_ad G 3)) rfl dX2_replaceSpikes_46 ?_
    refine z_iload 49 C dX2_replaceSpikes_49 5 rfl ?_
    refine z_iconst 51 C dX2_replaceSpikes_51 (nI 1) rfl ?_
    refine z_iaddN 52 C k 1 rfl rfl dX2_replaceSpikes_52 ?_
    refine z_callSN 53 C (As := [.int (nI (k + 1))]) (rest := [.ref (z_ad G 3), .int (z_rw (σ.1 2) j ((k + (24 - 1 % 24)) % 24))]) (m_X7_place_n (σ := z_uI (z_uI σ 3 (va_cpy (σ.1 2) (σ.1 3) (j * 24) 0 24)) 2 (fb_put (σ.1 2) (z_sv (z_rw (σ.1 2) j) L) (j * 24) k)) (k + 1) (by omega)) k_X7_place (List.mem_of_getElem? (i := 20) rfl) ⟨rfl, rfl⟩ ⟨Nat.le_of_ble_eq_true rfl, Nat.le_of_ble_eq_true rfl⟩ rfl (Nat.le_of_ble_eq_true rfl) ⟨Nat.le_of_ble_eq_true rfl, Nat.le_of_ble_eq_true rfl⟩ rfl dX2_replaceSpikes_53 (z_k1 ?_)
    refine z_ialdN 56 C 3 (n := 24) (⟨rfl, rfl⟩) ((k + 1) % 24) rfl (by omega) (by decide) dX2_replaceSpikes_56 ?_
    refine z_cv (lv1 := [(0, .ref (z_ad G 1)), (1, .int (nI j)), (2, .int (nI L)), (3, .int (nI (j * 24))), (4, .int (nI (z_sc (z_rw (σ.1 2) j) L k))), (5, .int (nI k))]) (st1 := [.int (z_rw (σ.1 2) j ((k + 1) % 24)), .int (z_rw (σ.1 2) j ((k + (24 - 1 % 24)) % 24))]) (σ1 := z_uI (z_uI σ 3 (va_cpy (σ.1 2) (σ.1 3) (j * 24) 0 24)) 2 (fb_put (σ.1 2) (z_sv (z_rw (σ.1 2) j) L) (j * 24) k)) rfl (by rw [z_oldr (by omega)]; rfl) rfl ?_
    refine z_iadd 57 C dX2_replaceSpikes_57 ?_
    refine z_istore 58 C dX2_replaceSpikes_58 [(6, .int ((z_rw (σ.1 2) j ((k + (24 - 1 % 24)) % 24)) + (z_rw (σ.1 2) j ((k + 1) % 24)))), (0, .ref (z_ad G 1)), (1, .int (nI j)), (2, .int (nI L)), (3, .int (nI (j * 24))), (4, .int (nI (z_sc (z_rw (σ.1 2) j) L k))), (5, .int (nI k))] (by decide) rfl ?_
    refine z_iconst 60 C dX2_replaceSpikes_60 (nI 2) rfl ?_
    refine z_aload_n 61 C dX2_replaceSpikes_61 1 rfl ?_
    refine z_getf 62 C 1 z_dX2 (⟨rfl, rfl⟩) 1 (by decide) q128 (.ref (z_ad G 3)) rfl dX2_replaceSpikes_62 ?_
    refine z_iload 65 C dX2_replaceSpikes_65 6 rfl ?_
    refine z_ialdN 67 C 3 (n := 24) (⟨rfl, rfl⟩) k rfl (by omega) (by decide) dX2_replaceSpikes_67 ?_
    refine z_cv (lv1 := [(6, .int ((z_rw (σ.1 2) j ((k + (24 - 1 % 24)) % 24)) + (z_rw (σ.1 2) j ((k + 1) % 24)))), (0, .ref (z_ad G 1)), (1, .int (nI j)), (2, .int (nI L)), (3, .int (nI (j * 24))), (4, .int (nI (z_sc (z_rw (σ.1 2) j) L k))), (5, .int (nI k))]) (st1 := [.int (z_rw (σ.1 2) j k), .int (nI 2)]) (σ1 := z_uI (z_uI σ 3 (va_cpy (σ.1 2) (σ.1 3) (j * 24) 0 24)) 2 (fb_put (σ.1 2) (z_sv (z_rw (σ.1 2) j) L) (j * 24) k)) rfl (by rw [z_oldr (by omega)]; rfl) rfl ?_
    refine z_imul 68 C dX2_replaceSpikes_68 ?_
    refine z_iload 69 C dX2_replaceSpikes_69 0 rfl ?_
    refine z_isub 71 C dX2_replaceSpikes_71 ?_
    refine z_callS 72 C (As := [.int (((nI 2) * (z_rw (σ.1 2) j k)) - ((z_rw (σ.1 2) j ((k + (24 - 1 % 24)) % 24)) + (z_rw (σ.1 2) j ((k + 1) % 24))))]) (rest := []) (m_J9_abs_0f7a4 (σ := z_uI (z_uI σ 3 (va_cpy (σ.1 2) (σ.1 3) (j * 24) 0 24)) 2 (fb_put (σ.1 2) (z_sv (z_rw (σ.1 2) j) L) (j * 24) k)) (((nI 2) * (z_rw (σ.1 2) j k)) - ((z_rw (σ.1 2) j ((k + (24 - 1 % 24)) % 24)) + (z_rw (σ.1 2) j ((k + 1) % 24))))) k_J9_abs_0f7a4 q465 ⟨rfl, rfl⟩ ⟨Nat.le_of_ble_eq_true rfl, Nat.le_of_ble_eq_true rfl⟩ rfl (Nat.le_of_ble_eq_true rfl) ⟨Nat.le_of_ble_eq_true rfl, Nat.le_of_ble_eq_true rfl⟩ rfl dX2_replaceSpikes_72 (z_k1 ?_)
    refine z_iconst 75 C dX2_replaceSpikes_75 (nI 2) rfl ?_
    refine z_iload_n 76 C dX2_replaceSpikes_76 3 rfl ?_
    refine z_imulN 77 C 2 L rfl rfl dX2_replaceSpikes_77 ?_
    refine z_icmp_le 78 C 99 dX2_replaceSpikes_78 (by decide) (fun c78 => ?_) (fun c78 => ?_)
    · skip
      refine z_iincN 99 C 6 k [(5, .int (nI (k + 1))), (6, .int ((z_rw (σ.1 2) j ((k + (24 - 1 % 24)) % 24)) + (z_rw (σ.1 2) j ((k + 1) % 24)))), (0, .ref (z_ad G 1)), (1, .int (nI j)), (2, .int (nI L)), (3, .int (nI (j * 24))), (4, .int (nI (z_sc (z_rw (σ.1 2) j) L k)))] rfl rfl (by decide) rfl dX2_replaceSpikes_99 ?_
      refine z_goto 102 C 26 dX2_replaceSpikes_102 (by decide) ?_
      refine z_sub [2, 3, 4, 5, 6, 0] (lv1 := [(0, .ref (z_ad G 1)), (1, .int (nI j)), (2, .int (nI L)), (3, .int (nI (j * 24))), (4, .int (nI (z_sc (z_rw (σ.1 2) j) L k))), (5, .int (nI (k + 1)))]) rfl ?_
      refine z_cv (lv1 := [(0, .ref (z_ad G 1)), (1, .int (nI j)), (2, .int (nI L)), (3, .int (nI (j * 24))), (4, .int (nI (z_sc (z_rw (σ.1 2) j) L (k + 1)))), (5, .int (nI (k + 1)))]) (st1 := []) (σ1 := z_uI (z_uI σ 3 (va_cpy (σ.1 2) (σ.1 3) (j * 24) 0 24)) 2 (fb_put (σ.1 2) (z_sv (z_rw (σ.1 2) j) L) (j * 24) (k + 1))) (by first | rw [z_sc_1 (Int32.not_le.mp c78)] | rw [z_sc_0 (Int32.not_lt.mpr c78)]) rfl (by first | exact z_uIu _ _ _ _ _ _ (if_pos (Int32.not_le.mp c78)).symm | exact congrArg (z_uI _ 2) (z_put_same (if_neg (Int32.not_lt.mpr c78)))) ?_
      exact ih_26 (k + 1) (by omega) (by omega)
    · skip
      refine z_aload_n 81 C dX2_replaceSpikes_81 1 rfl ?_
      refine z_getf 82 C 1 z_dX2 (⟨rfl, rfl⟩) 0 (by decide) q127 (.ref (z_ad G 2)) rfl dX2_replaceSpikes_82 ?_
      refine z_iload_n 85 C dX2_replaceSpikes_85 4 rfl ?_
      refine z_iload 86 C dX2_replaceSpikes_86 6 rfl ?_
      refine z_iaddN 88 C (j * 24) k rfl rfl dX2_replaceSpikes_88 ?_
      refine z_iload 89 C dX2_replaceSpikes_89 0 rfl ?_
      refine z_iconst 91 C dX2_replaceSpikes_91 (nI 2) rfl ?_
      refine z_callS 92 C (As := [.int ((z_rw (σ.1 2) j ((k + (24 - 1 % 24)) % 24)) + (z_rw (σ.1 2) j ((k + 1) % 24))), .int (nI 2)]) (rest := [.int (nI ((j * 24) + k)), .ref (z_ad G 2)]) (m_J9_floorDiv_7cf53 (σ := z_uI (z_uI σ 3 (va_cpy (σ.1 2) (σ.1 3) (j * 24) 0 24)) 2 (fb_put (σ.1 2) (z_sv (z_rw (σ.1 2) j) L) (j * 24) k)) ((z_rw (σ.1 2) j ((k + (24 - 1 % 24)) % 24)) + (z_rw (σ.1 2) j ((k + 1) % 24)))) k_J9_floorDiv_7cf53 q468 ⟨rfl, rfl⟩ ⟨Nat.le_of_ble_eq_true rfl, Nat.le_of_ble_eq_true rfl⟩ rfl (Nat.le_of_ble_eq_true rfl) ⟨Nat.le_of_ble_eq_true rfl, Nat.le_of_ble_eq_true rfl⟩ rfl dX2_replaceSpikes_92 (z_k1 ?_)
      refine z_iastN 95 C 2 (n := 288) (⟨rfl, rfl⟩) ((j * 24) + k) rfl (by omega) (by decide) dX2_replaceSpikes_95 ?_
      refine z_iincN 96 C 5 (z_sc (z_rw (σ.1 2) j) L k) [(4, .int (nI (z_sc (z_rw (σ.1 2) j) L k + 1))), (6, .int ((z_rw (σ.1 2) j ((k + (24 - 1 % 24)) % 24)) + (z_rw (σ.1 2) j ((k + 1) % 24)))), (0, .ref (z_ad G 1)), (1, .int (nI j)), (2, .int (nI L)), (3, .int (nI (j * 24))), (5, .int (nI k))] rfl rfl (by decide) rfl dX2_replaceSpikes_96 ?_
      refine z_iincN 99 C 6 k [(5, .int (nI (k + 1))), (4, .int (nI (z_sc (z_rw (σ.1 2) j) L k + 1))), (6, .int ((z_rw (σ.1 2) j ((k + (24 - 1 % 24)) % 24)) + (z_rw (σ.1 2) j ((k + 1) % 24)))), (0, .ref (z_ad G 1)), (1, .int (nI j)), (2, .int (nI L)), (3, .int (nI (j * 24)))] rfl rfl (by decide) rfl dX2_replaceSpikes_99 ?_
      refine z_goto 102 C 26 dX2_replaceSpikes_102 (by decide) ?_
      refine z_sub [3, 4, 5, 6, 1, 0] (lv1 := [(0, .ref (z_ad G 1)), (1, .int (nI j)), (2, .int (nI L)), (3, .int (nI (j * 24))), (4, .int (nI (z_sc (z_rw (σ.1 2) j) L k + 1))), (5, .int (nI (k + 1)))]) rfl ?_
      refine z_cv (lv1 := [(0, .ref (z_ad G 1)), (1, .int (nI j)), (2, .int (nI L)), (3, .int (nI (j * 24))), (4, .int (nI (z_sc (z_rw (σ.1 2) j) L (k + 1)))), (5, .int (nI (k + 1)))]) (st1 := []) (σ1 := z_uI (z_uI σ 3 (va_cpy (σ.1 2) (σ.1 3) (j * 24) 0 24)) 2 (fb_put (σ.1 2) (z_sv (z_rw (σ.1 2) j) L) (j * 24) (k + 1))) (by first | rw [z_sc_1 (Int32.not_le.mp c78)] | rw [z_sc_0 (Int32.not_lt.mpr c78)]) rfl (by first | exact z_uIu _ _ _ _ _ _ (if_pos (Int32.not_le.mp c78)).symm | exact congrArg (z_uI _ 2) (z_put_same (if_neg (Int32.not_lt.mpr c78)))) ?_
      exact ih_26 (k + 1) (by omega) (by omega)
/-- the residual -/
def z_rs (m : Nat → Int32) (P k j : Nat) : Int64 := z_ab (1000000 * (m (j * 24 + k % 24)).toInt64 - z_pt m P ((k + (24 - j * (24 / P) % 24)) % 24) - z_sp m P k)
def z_gi (m : Nat → Int32) (P k : Nat) (g : Int64) : Nat → Int64
  | 0 => g
  | j + 1 => z_mx (z_gi m P k g j) (z_rs m P k j)
def z_go (m : Nat → Int32) (P : Nat) : Nat → Int64
  | 0 => 0
  | k + 1 => z_gi m P k (z_go m P k) P
/-- lobes added; a simulated reading -/
def z_so (o : Nat → Int32) (a : Int32) (h f : Nat) (k : Nat) : Int32 := z_cla ((o k).toInt64 + z_fd (a.toInt64 * (z_tv 0 ((h * k + f) % 24)).toInt64) 1000000) (nI 5000)
def z_rg (pt sp : Nat → Int32) (ex ey : Int32) (k u : Nat) : Int32 := z_cla ((pt ((k + (24 - u % 24)) % 24) + sp k).toInt64 + z_wv ex.toInt64 ey.toInt64 ((k + (24 - u % 24)) % 24 % 24)) (nI 10000)
theorem z_rst (σ : z_St) (k : Nat) : z_ui (z_ui (z_uI (z_uI σ 6 (z_fil (fun _ => nI 0) (σ.1 6) k)) 7 (z_fil (fun _ => nI 0) (σ.1 7) k)) 6 k (nI 0)) 7 k (nI 0) = z_uI (z_uI σ 6 (z_fil (fun _ => nI 0) (σ.1 6) (k + 1))) 7 (z_fil (fun _ => nI 0) (σ.1 7) (k + 1)) := by
  have e1 := z_filSI σ 6 k (fun _ => nI 0) (σ.1 6) (x := nI 0) rfl
  have e2 := z_filSI (z_uI σ 6 (z_fil (fun _ => nI 0) (σ.1 6) (k + 1))) 7 k (fun _ => nI 0) (σ.1 7) (x := nI 0) rfl
  rw [← e2, ← e1]
  congr 1
  unfold z_ui z_uI
  refine Prod.ext ?_ rfl
  funext a
  by_cases h : a = 6
  · subst h; simp
  · by_cases h2 : a = 7
    · subst h2; simp
    · simp [h, h2]
theorem z_tpK : ∀ t, t < 2 → z_kd (6 + t) = 1 ∧ z_sz (6 + t) = 24 := by decide
abbrev z_chg (F o : Nat → Int32) (k : Nat) : Prop := ¬ ∀ j, j < k → F j = o j
theorem z_ch0 (F o : Nat → Int32) : nI 0 = z_bo (z_chg F o 0) := z_bo_f (fun z => z (fun j h => absurd h (Nat.not_lt_zero j)))
theorem z_ch1 {F o : Nat → Int32} {k : Nat} (h : z_chg F o k) : nI 1 = z_bo (z_chg F o (k + 1)) := z_bo_t (fun z => h (fun j hj => z j (Nat.lt_succ_of_lt hj)))
theorem z_ch2 {F o : Nat → Int32} {k : Nat} (h : ¬ F k = o k) : nI 1 = z_bo (z_chg F o (k + 1)) := z_bo_t (fun z => h (z k (Nat.lt_succ_self k)))
theorem z_ch3 {F o : Nat → Int32} {k : Nat} (h : ¬ z_chg F o k) (h2 : F k = o k) : nI 0 = z_bo (z_chg F o (k + 1)) := z_bo_f (fun z => z (lt_s (Decidable.not_not.mp h) h2))
/-- the ring -/
def z_ha (o u : Nat) : Nat := if u < 20 then o else (o + 1) % 21
def z_hb (u : Nat) : Nat := if u < 20 then u + 1 else 20
theorem z_ui_id {σ : z_St} {i j : Nat} {x : Int32} (h : σ.1 i j = x) : z_ui σ i j x = σ := by
  unfold z_ui
  refine Prod.ext ?_ rfl
  funext a
  by_cases h1 : a = i
  · subst h1
    simp only [if_true]
    funext b
    unfold upd
    by_cases h2 : b = j
    · subst h2; simp [h]
    · simp [h2]
  · simp [h1]
theorem z_ui_cm {σ : z_St} {i a b : Nat} {x y : Int32} (h : a ≠ b) : z_ui (z_ui σ i a x) i b y = z_ui (z_ui σ i b y) i a x := by
  unfold z_ui
  refine Prod.ext ?_ rfl
  funext q
  by_cases h1 : q = i
  · subst h1
    simp only [if_true]
    funext j
    unfold upd
    by_cases h2 : j = a
    · subst h2; simp [h]
    · simp [h2]
  · simp [h1]
theorem dX2_greatestResidual_0 : decode cX2_greatestResidual 0 = .ok (.iconst 0, 1) := by decide +kernel
theorem dX2_greatestResidual_1 : decode cX2_greatestResidual 1 = .ok (.istore_n 1, 1) := by decide +kernel
theorem dX2_greatestResidual_2 : decode cX2_greatestResidual 2 = .ok (.iload_n 1, 1) := by decide +kernel
theorem dX2_greatestResidual_3 : decode cX2_greatestResidual 3 = .ok (.bipush 24, 2) := by decide +kernel
theorem dX2_greatestResidual_5 : decode cX2_greatestResidual 5 = .ok (.if_icmp .ge 20, 3) := by decide +kernel
theorem dX2_greatestResidual_8 : decode cX2_greatestResidual 8 = .ok (.aload_n 0, 1) := by decide +kernel
theorem dX2_greatestResidual_9 : decode cX2_greatestResidual 9 = .ok (.getfield 18, 3) := by decide +kernel
theorem dX2_greatestResidual_12 : decode cX2_greatestResidual 12 = .ok (.iload_n 1, 1) := by decide +kernel
theorem dX2_greatestResidual_13 : decode cX2_greatestResidual 13 = .ok (.aload_n 0, 1) := by decide +kernel
theorem dX2_greatestResidual_14 : decode cX2_greatestResidual 14 = .ok (.iload_n 1, 1) := by decide +kernel
theorem dX2_greatestResidual_15 : decode cX2_greatestResidual 15 = .ok (.invokevirtual 67, 3) := by decide +kernel
theorem dX2_greatestResidual_18 : decode cX2_greatestResidual 18 = .ok (.lastore, 1) := by decide +kernel
theorem dX2_greatestResidual_19 : decode cX2_greatestResidual 19 = .ok (.iinc 1 1, 3) := by decide +kernel
theorem dX2_greatestResidual_22 : decode cX2_greatestResidual 22 = .ok (.goto (-20), 3) := by decide +kernel
theorem dX2_greatestResidual_25 : decode cX2_greatestResidual 25 = .ok (.lconst 0, 1) := by decide +kernel
theorem dX2_greatestResidual_26 : decode cX2_greatestResidual 26 = .ok (.lstore_n 1, 1) := by decide +kernel
theorem dX2_greatestResidual_27 : decode cX2_greatestResidual 27 = .ok (.iconst 0, 1) := by decide +kernel
theorem dX2_greatestResidual_28 : decode cX2_greatestResidual 28 = .ok (.istore_n 3, 1) := by decide +kernel
theorem dX2_greatestResidual_29 : decode cX2_greatestResidual 29 = .ok (.iload_n 3, 1) := by decide +kernel
theorem dX2_greatestResidual_30 : decode cX2_greatestResidual 30 = .ok (.bipush 24, 2) := by decide +kernel
theorem dX2_greatestResidual_32 : decode cX2_greatestResidual 32 = .ok (.if_icmp .ge 78, 3) := by decide +kernel
theorem dX2_greatestResidual_35 : decode cX2_greatestResidual 35 = .ok (.aload_n 0, 1) := by decide +kernel
theorem dX2_greatestResidual_36 : decode cX2_greatestResidual 36 = .ok (.iload_n 3, 1) := by decide +kernel
theorem dX2_greatestResidual_37 : decode cX2_greatestResidual 37 = .ok (.invokevirtual 70, 3) := by decide +kernel
theorem dX2_greatestResidual_40 : decode cX2_greatestResidual 40 = .ok (.lstore 4, 2) := by decide +kernel
theorem dX2_greatestResidual_42 : decode cX2_greatestResidual 42 = .ok (.iconst 0, 1) := by decide +kernel
theorem dX2_greatestResidual_43 : decode cX2_greatestResidual 43 = .ok (.istore 6, 2) := by decide +kernel
theorem dX2_greatestResidual_45 : decode cX2_greatestResidual 45 = .ok (.iload 6, 2) := by decide +kernel
theorem dX2_greatestResidual_47 : decode cX2_greatestResidual 47 = .ok (.aload_n 0, 1) := by decide +kernel
theorem dX2_greatestResidual_48 : decode cX2_greatestResidual 48 = .ok (.getfield 22, 3) := by decide +kernel
theorem dX2_greatestResidual_51 : decode cX2_greatestResidual 51 = .ok (.if_icmp .ge 53, 3) := by decide +kernel
theorem dX2_greatestResidual_54 : decode cX2_greatestResidual 54 = .ok (.ldc2_w 54, 3) := by decide +kernel
theorem dX2_greatestResidual_57 : decode cX2_greatestResidual 57 = .ok (.aload_n 0, 1) := by decide +kernel
theorem dX2_greatestResidual_58 : decode cX2_greatestResidual 58 = .ok (.iload 6, 2) := by decide +kernel
theorem dX2_greatestResidual_60 : decode cX2_greatestResidual 60 = .ok (.iload_n 3, 1) := by decide +kernel
theorem dX2_greatestResidual_61 : decode cX2_greatestResidual 61 = .ok (.invokevirtual 51, 3) := by decide +kernel
theorem dX2_greatestResidual_64 : decode cX2_greatestResidual 64 = .ok (.i2l, 1) := by decide +kernel
theorem dX2_greatestResidual_65 : decode cX2_greatestResidual 65 = .ok (.lmul, 1) := by decide +kernel
theorem dX2_greatestResidual_66 : decode cX2_greatestResidual 66 = .ok (.aload_n 0, 1) := by decide +kernel
theorem dX2_greatestResidual_67 : decode cX2_greatestResidual 67 = .ok (.getfield 18, 3) := by decide +kernel
theorem dX2_greatestResidual_70 : decode cX2_greatestResidual 70 = .ok (.iload_n 3, 1) := by decide +kernel
theorem dX2_greatestResidual_71 : decode cX2_greatestResidual 71 = .ok (.aload_n 0, 1) := by decide +kernel
theorem dX2_greatestResidual_72 : decode cX2_greatestResidual 72 = .ok (.iload 6, 2) := by decide +kernel
theorem dX2_greatestResidual_74 : decode cX2_greatestResidual 74 = .ok (.invokevirtual 64, 3) := by decide +kernel
theorem dX2_greatestResidual_77 : decode cX2_greatestResidual 77 = .ok (.isub, 1) := by decide +kernel
theorem dX2_greatestResidual_78 : decode cX2_greatestResidual 78 = .ok (.invokestatic 41, 3) := by decide +kernel
theorem dX2_greatestResidual_81 : decode cX2_greatestResidual 81 = .ok (.laload, 1) := by decide +kernel
theorem dX2_greatestResidual_82 : decode cX2_greatestResidual 82 = .ok (.lsub, 1) := by decide +kernel
theorem dX2_greatestResidual_83 : decode cX2_greatestResidual 83 = .ok (.lload 4, 2) := by decide +kernel
theorem dX2_greatestResidual_85 : decode cX2_greatestResidual 85 = .ok (.lsub, 1) := by decide +kernel
theorem dX2_greatestResidual_86 : decode cX2_greatestResidual 86 = .ok (.lstore 7, 2) := by decide +kernel
theorem dX2_greatestResidual_88 : decode cX2_greatestResidual 88 = .ok (.lload_n 1, 1) := by decide +kernel
theorem dX2_greatestResidual_89 : decode cX2_greatestResidual 89 = .ok (.lload 7, 2) := by decide +kernel
theorem dX2_greatestResidual_91 : decode cX2_greatestResidual 91 = .ok (.invokestatic 73, 3) := by decide +kernel
theorem dX2_greatestResidual_94 : decode cX2_greatestResidual 94 = .ok (.invokestatic 76, 3) := by decide +kernel
theorem dX2_greatestResidual_97 : decode cX2_greatestResidual 97 = .ok (.lstore_n 1, 1) := by decide +kernel
theorem dX2_greatestResidual_98 : decode cX2_greatestResidual 98 = .ok (.iinc 6 1, 3) := by decide +kernel
theorem dX2_greatestResidual_101 : decode cX2_greatestResidual 101 = .ok (.goto (-56), 3) := by decide +kernel
theorem dX2_greatestResidual_104 : decode cX2_greatestResidual 104 = .ok (.iinc 3 1, 3) := by decide +kernel
theorem dX2_greatestResidual_107 : decode cX2_greatestResidual 107 = .ok (.goto (-78), 3) := by decide +kernel
theorem dX2_greatestResidual_110 : decode cX2_greatestResidual 110 = .ok (.lload_n 1, 1) := by decide +kernel
theorem dX2_greatestResidual_111 : decode cX2_greatestResidual 111 = .ok (.lreturn, 1) := by decide +kernel
set_option maxRecDepth 100000 in
set_option maxHeartbeats 4000000 in
theorem m_X2_greatestResidual {l : Launch} {G : z_Gl} {σ : z_St} (P : Nat) (hP : σ.1 1 3 = nI P) (h0 : 0 < P) (h12 : P ≤ 12) : z_M l G yX2_greatestResidual cX2_greatestResidual 9 (some .long) (z_rm 4 93) [.ref (z_ad G 1)] σ (z_p1 (.long (z_go (σ.1 2) P 24)) (z_uL σ 4 (z_fil (z_pt (σ.1 2) P) (σ.2 4) 24))) := by
  refine z_M.of (by decide) (Nat.le_of_ble_eq_true rfl) (fun p e s m below meth c C => ?_)
  refine z_sub [0] (lv1 := [(0, .ref (z_ad G 1))]) rfl ?_
  refine z_iconst 0 C dX2_greatestResidual_0 (nI 0) rfl ?_
  refine z_istore_n 1 C dX2_greatestResidual_1 [(1, .int (nI 0)), (0, .ref (z_ad G 1))] (by decide) rfl ?_
  refine z_sub [1, 0] (lv1 := [(0, .ref (z_ad G 1)), (1, .int (nI 0))]) rfl ?_
  refine z_cv (lv1 := [(0, .ref (z_ad G 1)), (1, .int (nI 0))]) (st1 := []) (σ1 := z_uL σ 4 (z_fil (z_pt (σ.1 2) P) (σ.2 4) 0)) rfl rfl (z_fil0L σ 4 _) ?_
  refine z_lp1 (fun (k : Nat) => k ≤ 24) (fun (k : Nat) => 24 - k) (fun (k : Nat) => [(0, .ref (z_ad G 1)), (1, .int (nI k))]) (fun (k : Nat) => z_uL σ 4 (z_fil (z_pt (σ.1 2) P) (σ.2 4) k)) (fun k hi_2 ih_2 => ?_) 0 (by omega)
  try dsimp only
  refine z_iload_n 2 C dX2_greatestResidual_2 1 rfl ?_
  refine z_bipush 3 C dX2_greatestResidual_3 (nI 24) rfl ?_
  refine z_icmp_geN 5 C k 24 rfl rfl (by omega) (by omega) 25 dX2_greatestResidual_5 (by decide) (fun c5 => ?_) (fun c5 => ?_)
  · skip
    have ek : k = 24 := by omega
    subst ek
    refine z_lconst 25 C dX2_greatestResidual_25 0 rfl ?_
    refine z_lstore_n 26 C dX2_greatestResidual_26 [(1, .long 0), (0, .ref (z_ad G 1))] (by decide) rfl ?_
    refine z_iconst 27 C dX2_greatestResidual_27 (nI 0) rfl ?_
    refine z_istore_n 28 C dX2_greatestResidual_28 [(3, .int (nI 0)), (1, .long 0), (0, .ref (z_ad G 1))] (by decide) rfl ?_
    refine z_sub [2, 1, 0] (lv1 := [(0, .ref (z_ad G 1)), (1, .long 0), (3, .int (nI 0))]) rfl ?_
    refine z_cv (lv1 := [(0, .ref (z_ad G 1)), (1, .long (z_go (σ.1 2) P 0)), (3, .int (nI 0))]) (st1 := []) (σ1 := z_uL σ 4 (z_fil (z_pt (σ.1 2) P) (σ.2 4) 24)) rfl rfl rfl ?_
    refine z_lp1 (fun (k : Nat) => k ≤ 24) (fun (k : Nat) => 24 - k) (fun (k : Nat) => [(0, .ref (z_ad G 1)), (1, .long (z_go (σ.1 2) P k)), (3, .int (nI k))]) (fun (k : Nat) => z_uL σ 4 (z_fil (z_pt (σ.1 2) P) (σ.2 4) 24)) (fun k hi_29 ih_29 => ?_) 0 (by omega)
    try dsimp only
    refine z_iload_n 29 C dX2_greatestResidual_29 2 rfl ?_
    refine z_bipush 30 C dX2_greatestResidual_30 (nI 24) rfl ?_
    refine z_icmp_geN 32 C k 24 rfl rfl (by omega) (by omega) 110 dX2_greatestResidual_32 (by decide) (fun c32 => ?_) (fun c32 => ?_)
    · skip
      have ek : k = 24 := by omega
      subst ek
      refine z_lload_n 110 C dX2_greatestResidual_110 1 rfl ?_
      refine z_lret 111 C dX2_greatestResidual_111 ?_
      exact ⟨rfl, rfl⟩
    · skip
      refine z_aload_n 35 C dX2_greatestResidual_35 0 rfl ?_
      refine z_iload_n 36 C dX2_greatestResidual_36 2 rfl ?_
      refine z_callV 37 C 1 (⟨rfl, rfl⟩) rfl (As := [.int (nI k)]) (rest := []) (m_X2_spindleAt (σ := z_uL σ 4 (z_fil (z_pt (σ.1 2) P) (σ.2 4) 24)) P hP (by omega) (by omega) k (by omega)) k_X2_spindleAt q511 ⟨rfl, rfl⟩ ⟨Nat.le_of_ble_eq_true rfl, Nat.le_of_ble_eq_true rfl⟩ rfl (Nat.le_of_ble_eq_true rfl) ⟨Nat.le_of_ble_eq_true rfl, Nat.le_of_ble_eq_true rfl⟩ rfl dX2_greatestResidual_37 (z_k1 ?_)
      refine z_lstore 40 C dX2_greatestResidual_40 [(4, .long (z_sp (σ.1 2) P k)), (0, .ref (z_ad G 1)), (1, .long (z_go (σ.1 2) P k)), (3, .int (nI k))] (by decide) rfl ?_
      refine z_iconst 42 C dX2_greatestResidual_42 (nI 0) rfl ?_
      refine z_istore 43 C dX2_greatestResidual_43 [(6, .int (nI 0)), (4, .long (z_sp (σ.1 2) P k)), (0, .ref (z_ad G 1)), (1, .long (z_go (σ.1 2) P k)), (3, .int (nI k))] (by decide) rfl ?_
      refine z_sub [2, 3, 4, 1, 0] (lv1 := [(0, .ref (z_ad G 1)), (1, .long (z_go (σ.1 2) P k)), (3, .int (nI k)), (4, .long (z_sp (σ.1 2) P k)), (6, .int (nI 0))]) rfl ?_
      refine z_cv (lv1 := [(0, .ref (z_ad G 1)), (1, .long (z_gi (σ.1 2) P k (z_go (σ.1 2) P k) 0)), (3, .int (nI k)), (4, .long (z_sp (σ.1 2) P k)), (6, .int (nI 0))]) (st1 := []) (σ1 := z_uL σ 4 (z_fil (z_pt (σ.1 2) P) (σ.2 4) 24)) rfl rfl rfl ?_
      refine z_lp1 (fun (j : Nat) => j ≤ P) (fun (j : Nat) => P - j) (fun (j : Nat) => [(0, .ref (z_ad G 1)), (1, .long (z_gi (σ.1 2) P k (z_go (σ.1 2) P k) j)), (3, .int (nI k)), (4, .long (z_sp (σ.1 2) P k)), (6, .int (nI j))]) (fun (j : Nat) => z_uL σ 4 (z_fil (z_pt (σ.1 2) P) (σ.2 4) 24)) (fun j hi_45 ih_45 => ?_) 0 (by omega)
      try dsimp only
      refine z_iload 45 C dX2_greatestResidual_45 4 rfl ?_
      refine z_aload_n 47 C dX2_greatestResidual_47 0 rfl ?_
      refine z_getf 48 C 1 z_dX2 (⟨rfl, rfl⟩) 3 (by decide) q130 (.int (nI P)) (z_ci hP) dX2_greatestResidual_48 ?_
      refine z_icmp_geN 51 C j P rfl rfl (by omega) (by omega) 104 dX2_greatestResidual_51 (by decide) (fun c51 => ?_) (fun c51 => ?_)
      · skip
        have ej : P = j := by omega
        subst ej
        refine z_iincN 104 C 2 k [(3, .int (nI (k + 1))), (0, .ref (z_ad G 1)), (1, .long (z_gi (σ.1 2) P k (z_go (σ.1 2) P k) P)), (4, .long (z_sp (σ.1 2) P k)), (6, .int (nI P))] rfl rfl (by decide) rfl dX2_greatestResidual_104 ?_
        refine z_goto 107 C 29 dX2_greatestResidual_107 (by decide) ?_
        refine z_sub [1, 2, 0] (lv1 := [(0, .ref (z_ad G 1)), (1, .long (z_gi (σ.1 2) P k (z_go (σ.1 2) P k) P)), (3, .int (nI (k + 1)))]) rfl ?_
        refine z_cv (lv1 := [(0, .ref (z_ad G 1)), (1, .long (z_go (σ.1 2) P (k + 1))), (3, .int (nI (k + 1)))]) (st1 := []) (σ1 := z_uL σ 4 (z_fil (z_pt (σ.1 2) P) (σ.2 4) 24)) rfl rfl rfl ?_
        exact ih_29 (k + 1) (by omega) (by omega)
      · skip
        have hdl : j * (24 / P) ≤ 12 * 24 := Nat.mul_le_mul (by omega) (Nat.div_le_self 24 P)
        refine z_ldc2 54 C dX2_greatestResidual_54 q486 ?_
        refine z_aload_n 57 C dX2_greatestResidual_57 0 rfl ?_
        refine z_iload 58 C dX2_greatestResidual_58 4 rfl ?_
        refine z_iload_n 60 C dX2_greatestResidual_60 2 rfl ?_
        refine z_callV 61 C 1 (⟨rfl, rfl⟩) rfl (As := [.int (nI j), .int (nI k)]) (rest := [.long 1000000]) (m_X2_at (σ := z_uL σ 4 (z_fil (z_pt (σ.1 2) P) (σ.2 4) 24)) j k (by omega) (by omega)) k_X2_at q481 ⟨rfl, rfl⟩ ⟨Nat.le_of_ble_eq_true rfl, Nat.le_of_ble_eq_true rfl⟩ rfl (Nat.le_of_ble_eq_true rfl) ⟨Nat.le_of_ble_eq_true rfl, Nat.le_of_ble_eq_true rfl⟩ rfl dX2_greatestResidual_61 (z_k1 ?_)
        refine z_i2l 64 C dX2_greatestResidual_64 ?_
        refine z_lmul 65 C dX2_greatestResidual_65 ?_
        refine z_aload_n 66 C dX2_greatestResidual_66 0 rfl ?_
        refine z_getf 67 C 1 z_dX2 (⟨rfl, rfl⟩) 2 (by decide) q129 (.ref (z_ad G 4)) rfl dX2_greatestResidual_67 ?_
        refine z_iload_n 70 C dX2_greatestResidual_70 2 rfl ?_
        refine z_aload_n 71 C dX2_greatestResidual_71 0 rfl ?_
        refine z_iload 72 C dX2_greatestResidual_72 4 rfl ?_
        refine z_callV 74 C 1 (⟨rfl, rfl⟩) rfl (As := [.int (nI j)]) (rest := [.int (nI k), .ref (z_ad G 4), .long (1000000 * (Int32.toInt64 (σ.1 2 (j * 24 + k % 24))))]) (m_X2_turnOf (σ := z_uL σ 4 (z_fil (z_pt (σ.1 2) P) (σ.2 4) 24)) P hP (by omega) (by omega) j) k_X2_turnOf q480 ⟨rfl, rfl⟩ ⟨Nat.le_of_ble_eq_true rfl, Nat.le_of_ble_eq_true rfl⟩ rfl (Nat.le_of_ble_eq_true rfl) ⟨Nat.le_of_ble_eq_true rfl, Nat.le_of_ble_eq_true rfl⟩ rfl dX2_greatestResidual_74 (z_k1 ?_)
        refine z_isub 77 C dX2_greatestResidual_77 ?_
        refine z_callSN 78 C (As := [.int ((nI k) - (nI (j * (24 / P))))]) (rest := [.ref (z_ad G 4), .long (1000000 * (Int32.toInt64 (σ.1 2 (j * 24 + k % 24))))]) (m_X7_place_d (σ := z_uL σ 4 (z_fil (z_pt (σ.1 2) P) (σ.2 4) 24)) k (j * (24 / P)) (by omega) (by omega)) k_X7_place (List.mem_of_getElem? (i := 20) rfl) ⟨rfl, rfl⟩ ⟨Nat.le_of_ble_eq_true rfl, Nat.le_of_ble_eq_true rfl⟩ rfl (Nat.le_of_ble_eq_true rfl) ⟨Nat.le_of_ble_eq_true rfl, Nat.le_of_ble_eq_true rfl⟩ rfl dX2_greatestResidual_78 (z_k1 ?_)
        refine z_laldN 81 C 4 (n := 24) (⟨rfl, rfl⟩) ((k + (24 - (j * (24 / P)) % 24)) % 24) rfl (by omega) (by decide) dX2_greatestResidual_81 ?_
        refine z_cv (lv1 := [(0, .ref (z_ad G 1)), (1, .long (z_gi (σ.1 2) P k (z_go (σ.1 2) P k) j)), (3, .int (nI k)), (4, .long (z_sp (σ.1 2) P k)), (6, .int (nI j))]) (st1 := [.long (z_pt (σ.1 2) P ((k + (24 - j * (24 / P) % 24)) % 24)), .long (1000000 * (Int32.toInt64 (σ.1 2 (j * 24 + k % 24))))]) (σ1 := z_uL σ 4 (z_fil (z_pt (σ.1 2) P) (σ.2 4) 24)) rfl (by rw [z_uL2, if_pos rfl, z_fil_lt (Nat.mod_lt _ (by decide))]) rfl ?_
        refine z_lsub 82 C dX2_greatestResidual_82 ?_
        refine z_lload 83 C dX2_greatestResidual_83 3 rfl ?_
        refine z_lsub 85 C dX2_greatestResidual_85 ?_
        refine z_lstore 86 C dX2_greatestResidual_86 [(7, .long (((1000000 * (Int32.toInt64 (σ.1 2 (j * 24 + k % 24)))) - (z_pt (σ.1 2) P ((k + (24 - j * (24 / P) % 24)) % 24))) - (z_sp (σ.1 2) P k))), (0, .ref (z_ad G 1)), (1, .long (z_gi (σ.1 2) P k (z_go (σ.1 2) P k) j)), (3, .int (nI k)), (4, .long (z_sp (σ.1 2) P k)), (6, .int (nI j))] (by decide) rfl ?_
        refine z_lload_n 88 C dX2_greatestResidual_88 2 rfl ?_
        refine z_lload 89 C dX2_greatestResidual_89 0 rfl ?_
        refine z_callS 91 C (As := [.long (((1000000 * (Int32.toInt64 (σ.1 2 (j * 24 + k % 24)))) - (z_pt (σ.1 2) P ((k + (24 - j * (24 / P) % 24)) % 24))) - (z_sp (σ.1 2) P k))]) (rest := [.long (z_gi (σ.1 2) P k (z_go (σ.1 2) P k) j)]) (m_J9_abs_067f4 (σ := z_uL σ 4 (z_fil (z_pt (σ.1 2) P) (σ.2 4) 24)) (((1000000 * (Int32.toInt64 (σ.1 2 (j * 24 + k % 24)))) - (z_pt (σ.1 2) P ((k + (24 - j * (24 / P) % 24)) % 24))) - (z_sp (σ.1 2) P k))) k_J9_abs_067f4 q512 ⟨rfl, rfl⟩ ⟨Nat.le_of_ble_eq_true rfl, Nat.le_of_ble_eq_true rfl⟩ rfl (Nat.le_of_ble_eq_true rfl) ⟨Nat.le_of_ble_eq_true rfl, Nat.le_of_ble_eq_true rfl⟩ rfl dX2_greatestResidual_91 (z_k1 ?_)
        refine z_callS 94 C (As := [.long (z_gi (σ.1 2) P k (z_go (σ.1 2) P k) j), .long (z_ab (((1000000 * (Int32.toInt64 (σ.1 2 (j * 24 + k % 24)))) - (z_pt (σ.1 2) P ((k + (24 - j * (24 / P) % 24)) % 24))) - (z_sp (σ.1 2) P k)))]) (rest := []) (m_J9_max_f86c9 (σ := z_uL σ 4 (z_fil (z_pt (σ.1 2) P) (σ.2 4) 24)) (z_gi (σ.1 2) P k (z_go (σ.1 2) P k) j) (z_ab (((1000000 * (Int32.toInt64 (σ.1 2 (j * 24 + k % 24)))) - (z_pt (σ.1 2) P ((k + (24 - j * (24 / P) % 24)) % 24))) - (z_sp (σ.1 2) P k)))) k_J9_max_f86c9 q515 ⟨rfl, rfl⟩ ⟨Nat.le_of_ble_eq_true rfl, Nat.le_of_ble_eq_true rfl⟩ rfl (Nat.le_of_ble_eq_true rfl) ⟨Nat.le_of_ble_eq_true rfl, Nat.le_of_ble_eq_true rfl⟩ rfl dX2_greatestResidual_94 (z_k1 ?_)
        refine z_lstore_n 97 C dX2_greatestResidual_97 [(1, .long (z_mx (z_gi (σ.1 2) P k (z_go (σ.1 2) P k) j) (z_ab (((1000000 * (Int32.toInt64 (σ.1 2 (j * 24 + k % 24)))) - (z_pt (σ.1 2) P ((k + (24 - j * (24 / P) % 24)) % 24))) - (z_sp (σ.1 2) P k))))), (7, .long (((1000000 * (Int32.toInt64 (σ.1 2 (j * 24 + k % 24)))) - (z_pt (σ.1 2) P ((k + (24 - j * (24 / P) % 24)) % 24))) - (z_sp (σ.1 2) P k))), (0, .ref (z_ad G 1)), (3, .int (nI k)), (4, .long (z_sp (σ.1 2) P k)), (6, .int (nI j))] (by decide) rfl ?_
        refine z_iincN 98 C 5 j [(6, .int (nI (j + 1))), (1, .long (z_mx (z_gi (σ.1 2) P k (z_go (σ.1 2) P k) j) (z_ab (((1000000 * (Int32.toInt64 (σ.1 2 (j * 24 + k % 24)))) - (z_pt (σ.1 2) P ((k + (24 - j * (24 / P) % 24)) % 24))) - (z_sp (σ.1 2) P k))))), (7, .long (((1000000 * (Int32.toInt64 (σ.1 2 (j * 24 + k % 24)))) - (z_pt (σ.1 2) P ((k + (24 - j * (24 / P) % 24)) % 24))) - (z_sp (σ.1 2) P k))), (0, .ref (z_ad G 1)), (3, .int (nI k)), (4, .long (z_sp (σ.1 2) P k))] rfl rfl (by decide) rfl dX2_greatestResidual_98 ?_
        refine z_goto 101 C 45 dX2_greatestResidual_101 (by decide) ?_
        refine z_sub [3, 1, 4, 5, 0] (lv1 := [(0, .ref (z_ad G 1)), (1, .long (z_mx (z_gi (σ.1 2) P k (z_go (σ.1 2) P k) j) (z_ab (((1000000 * (Int32.toInt64 (σ.1 2 (j * 24 + k % 24)))) - (z_pt (σ.1 2) P ((k + (24 - j * (24 / P) % 24)) % 24))) - (z_sp (σ.1 2) P k))))), (3, .int (nI k)), (4, .long (z_sp (σ.1 2) P k)), (6, .int (nI (j + 1)))]) rfl ?_
        refine z_cv (lv1 := [(0, .ref (z_ad G 1)), (1, .long (z_gi (σ.1 2) P k (z_go (σ.1 2) P k) (j + 1))), (3, .int (nI k)), (4, .long (z_sp (σ.1 2) P k)), (6, .int (nI (j + 1)))]) (st1 := []) (σ1 := z_uL σ 4 (z_fil (z_pt (σ.1 2) P) (σ.2 4) 24)) rfl rfl rfl ?_
        exact ih_45 (j + 1) (by omega) (by omega)
  · skip
    refine z_aload_n 8 C dX2_greatestResidual_8 0 rfl ?_
    refine z_getf 9 C 1 z_dX2 (⟨rfl, rfl⟩) 2 (by decide) q129 (.ref (z_ad G 4)) rfl dX2_greatestResidual_9 ?_
    refine z_iload_n 12 C dX2_greatestResidual_12 1 rfl ?_
    refine z_aload_n 13 C dX2_greatestResidual_13 0 rfl ?_
    refine z_iload_n 14 C dX2_greatestResidual_14 1 rfl ?_
    refine z_callV 15 C 1 (⟨rfl, rfl⟩) rfl (As := [.int (nI k)]) (rest := [.int (nI k), .ref (z_ad G 4)]) (m_X2_partAt (σ := z_uL σ 4 (z_fil (z_pt (σ.1 2) P) (σ.2 4) k)) P hP (by omega) (by omega) k (by omega)) k_X2_partAt q510 ⟨rfl, rfl⟩ ⟨Nat.le_of_ble_eq_true rfl, Nat.le_of_ble_eq_true rfl⟩ rfl (Nat.le_of_ble_eq_true rfl) ⟨Nat.le_of_ble_eq_true rfl, Nat.le_of_ble_eq_true rfl⟩ rfl dX2_greatestResidual_15 (z_k1 ?_)
    refine z_lastN 18 C 4 (n := 24) (⟨rfl, rfl⟩) k rfl (by omega) (by decide) dX2_greatestResidual_18 ?_
    refine z_iincN 19 C 1 k [(1, .int (nI (k + 1))), (0, .ref (z_ad G 1))] rfl rfl (by decide) rfl dX2_greatestResidual_19 ?_
    refine z_goto 22 C 2 dX2_greatestResidual_22 (by decide) ?_
    refine z_sub [1, 0] (lv1 := [(0, .ref (z_ad G 1)), (1, .int (nI (k + 1)))]) rfl ?_
    refine z_cv (lv1 := [(0, .ref (z_ad G 1)), (1, .int (nI (k + 1)))]) (st1 := []) (σ1 := z_uL σ 4 (z_fil (z_pt (σ.1 2) P) (σ.2 4) (k + 1))) rfl rfl (z_filSL σ 4 k _ _ rfl) ?_
    exact ih_2 (k + 1) (by omega) (by omega)
theorem dX5_profileOf_0 : decode cX5_profileOf 0 = .ok (.iload_n 1, 1) := by decide +kernel
theorem dX5_profileOf_1 : decode cX5_profileOf 1 = .ok (.ifCond .eq 10, 3) := by decide +kernel
theorem dX5_profileOf_4 : decode cX5_profileOf 4 = .ok (.aload_n 0, 1) := by decide +kernel
theorem dX5_profileOf_5 : decode cX5_profileOf 5 = .ok (.getfield 15, 3) := by decide +kernel
theorem dX5_profileOf_8 : decode cX5_profileOf 8 = .ok (.goto 7, 3) := by decide +kernel
theorem dX5_profileOf_11 : decode cX5_profileOf 11 = .ok (.aload_n 0, 1) := by decide +kernel
theorem dX5_profileOf_12 : decode cX5_profileOf 12 = .ok (.getfield 9, 3) := by decide +kernel
theorem dX5_profileOf_15 : decode cX5_profileOf 15 = .ok (.areturn, 1) := by decide +kernel
set_option maxRecDepth 100000 in
set_option maxHeartbeats 4000000 in
theorem m_X5_profileOf {l : Launch} {G : z_Gl} {σ : z_St} (t : Nat) (ht : t < 2) : z_M l G yX5_profileOf cX5_profileOf 2 (some (.array .int)) (z_rm 0 0) [.ref (z_ad G 5), .int (nI t)] σ (z_p1 (.ref (z_ad G (6 + t))) σ) := by
  refine z_M.of (by decide) (Nat.le_of_ble_eq_true rfl) (fun p e s m below meth c C => ?_)
  refine z_sub [0, 1] (lv1 := [(0, .ref (z_ad G 5)), (1, .int (nI t))]) rfl ?_
  refine z_iload_n 0 C dX5_profileOf_0 1 rfl ?_
  refine z_if_eq 1 C 11 dX5_profileOf_1 (by decide) (fun c1 => ?_) (fun c1 => ?_)
  · skip
    have et : t = 0 := (z_nI0 (by omega)).mp c1
    subst et
    refine z_aload_n 11 C dX5_profileOf_11 0 rfl ?_
    refine z_getf 12 C 5 z_dX5 (⟨rfl, rfl⟩) 0 (by decide) q153 (.ref (z_ad G 6)) rfl dX5_profileOf_12 ?_
    refine z_aret 15 (Or.inr ⟨_, rfl⟩) C dX5_profileOf_15 ?_
    exact ⟨rfl, rfl⟩
  · skip
    have et : t = 1 := by
      have : ¬ t = 0 := fun z => c1 ((z_nI0 (t := t) (by omega)).mpr z)
      omega
    subst et
    refine z_aload_n 4 C dX5_profileOf_4 0 rfl ?_
    refine z_getf 5 C 5 z_dX5 (⟨rfl, rfl⟩) 1 (by decide) q154 (.ref (z_ad G 7)) rfl dX5_profileOf_5 ?_
    refine z_goto 8 C 15 dX5_profileOf_8 (by decide) ?_
    refine z_aret 15 (Or.inr ⟨_, rfl⟩) C dX5_profileOf_15 ?_
    exact ⟨rfl, rfl⟩
theorem dX5_shiftTo_0 : decode cX5_shiftTo 0 = .ok (.iload_n 1, 1) := by decide +kernel
theorem dX5_shiftTo_1 : decode cX5_shiftTo 1 = .ok (.aload_n 0, 1) := by decide +kernel
theorem dX5_shiftTo_2 : decode cX5_shiftTo 2 = .ok (.getfield 18, 3) := by decide +kernel
theorem dX5_shiftTo_5 : decode cX5_shiftTo 5 = .ok (.if_icmp .ne 11, 3) := by decide +kernel
theorem dX5_shiftTo_8 : decode cX5_shiftTo 8 = .ok (.iload_n 2, 1) := by decide +kernel
theorem dX5_shiftTo_9 : decode cX5_shiftTo 9 = .ok (.aload_n 0, 1) := by decide +kernel
theorem dX5_shiftTo_10 : decode cX5_shiftTo 10 = .ok (.getfield 22, 3) := by decide +kernel
theorem dX5_shiftTo_13 : decode cX5_shiftTo 13 = .ok (.if_icmp .eq 7, 3) := by decide +kernel
theorem dX5_shiftTo_16 : decode cX5_shiftTo 16 = .ok (.iconst 1, 1) := by decide +kernel
theorem dX5_shiftTo_17 : decode cX5_shiftTo 17 = .ok (.goto 4, 3) := by decide +kernel
theorem dX5_shiftTo_20 : decode cX5_shiftTo 20 = .ok (.iconst 0, 1) := by decide +kernel
theorem dX5_shiftTo_21 : decode cX5_shiftTo 21 = .ok (.istore_n 3, 1) := by decide +kernel
theorem dX5_shiftTo_22 : decode cX5_shiftTo 22 = .ok (.aload_n 0, 1) := by decide +kernel
theorem dX5_shiftTo_23 : decode cX5_shiftTo 23 = .ok (.iload_n 1, 1) := by decide +kernel
theorem dX5_shiftTo_24 : decode cX5_shiftTo 24 = .ok (.putfield 18, 3) := by decide +kernel
theorem dX5_shiftTo_27 : decode cX5_shiftTo 27 = .ok (.aload_n 0, 1) := by decide +kernel
theorem dX5_shiftTo_28 : decode cX5_shiftTo 28 = .ok (.iload_n 2, 1) := by decide +kernel
theorem dX5_shiftTo_29 : decode cX5_shiftTo 29 = .ok (.putfield 22, 3) := by decide +kernel
theorem dX5_shiftTo_32 : decode cX5_shiftTo 32 = .ok (.iload_n 3, 1) := by decide +kernel
theorem dX5_shiftTo_33 : decode cX5_shiftTo 33 = .ok (.ireturn, 1) := by decide +kernel
set_option maxRecDepth 100000 in
set_option maxHeartbeats 4000000 in
theorem m_X5_shiftTo {l : Launch} {G : z_Gl} {σ : z_St} (x y : Int32) : z_M l G yX5_shiftTo cX5_shiftTo 4 (some .boolean) (z_rm 0 0) [.ref (z_ad G 5), .int x, .int y] σ (z_p1 (.int (z_bo (¬ x = σ.1 5 2 ∨ ¬ y = σ.1 5 3))) (z_ui (z_ui σ 5 2 x) 5 3 y)) := by
  refine z_M.of (by decide) (Nat.le_of_ble_eq_true rfl) (fun p e s m below meth c C => ?_)
  refine z_sub [0, 1, 2] (lv1 := [(0, .ref (z_ad G 5)), (1, .int x), (2, .int y)]) rfl ?_
  refine z_iload_n 0 C dX5_shiftTo_0 1 rfl ?_
  refine z_aload_n 1 C dX5_shiftTo_1 0 rfl ?_
  refine z_getf 2 C 5 z_dX5 (⟨rfl, rfl⟩) 2 (by decide) q155 (.int (σ.1 5 2)) rfl dX5_shiftTo_2 ?_
  refine z_icmp_ne 5 C 16 dX5_shiftTo_5 (by decide) (fun c5 => ?_) (fun c5 => ?_)
  · skip
    refine z_iconst 16 C dX5_shiftTo_16 (nI 1) rfl ?_
    refine z_goto 17 C 21 dX5_shiftTo_17 (by decide) ?_
    refine z_istore_n 21 C dX5_shiftTo_21 [(3, .int (nI 1)), (0, .ref (z_ad G 5)), (1, .int x), (2, .int y)] (by decide) rfl ?_
    refine z_aload_n 22 C dX5_shiftTo_22 1 rfl ?_
    refine z_iload_n 23 C dX5_shiftTo_23 2 rfl ?_
    refine z_puti 24 C 5 z_dX5 (⟨rfl, rfl⟩) 2 (by decide) q155 rfl (rfl) rfl ⟨Nat.le_of_ble_eq_true rfl, rfl⟩ dX5_shiftTo_24 ?_
    refine z_aload_n 27 C dX5_shiftTo_27 1 rfl ?_
    refine z_iload_n 28 C dX5_shiftTo_28 3 rfl ?_
    refine z_puti 29 C 5 z_dX5 (⟨rfl, rfl⟩) 3 (by decide) q156 rfl (rfl) rfl ⟨Nat.le_of_ble_eq_true rfl, rfl⟩ dX5_shiftTo_29 ?_
    refine z_iload_n 32 C dX5_shiftTo_32 0 rfl ?_
    refine z_zret 33 C (rfl) dX5_shiftTo_33 ?_
    first | exact ⟨z_ci (z_bo_t (Or.inl c5)), rfl⟩ | exact ⟨z_ci (z_bo_f (fun z => z.elim (fun q => q c5) (fun q => q c13))), rfl⟩ | exact ⟨z_ci (z_bo_t (Or.inr c13)), rfl⟩
  · skip
    refine z_iload_n 8 C dX5_shiftTo_8 2 rfl ?_
    refine z_aload_n 9 C dX5_shiftTo_9 0 rfl ?_
    refine z_getf 10 C 5 z_dX5 (⟨rfl, rfl⟩) 3 (by decide) q156 (.int (σ.1 5 3)) rfl dX5_shiftTo_10 ?_
    refine z_icmp_eq 13 C 20 dX5_shiftTo_13 (by decide) (fun c13 => ?_) (fun c13 => ?_)
    · skip
      refine z_iconst 20 C dX5_shiftTo_20 (nI 0) rfl ?_
      refine z_istore_n 21 C dX5_shiftTo_21 [(3, .int (nI 0)), (0, .ref (z_ad G 5)), (1, .int x), (2, .int y)] (by decide) rfl ?_
      refine z_aload_n 22 C dX5_shiftTo_22 1 rfl ?_
      refine z_iload_n 23 C dX5_shiftTo_23 2 rfl ?_
      refine z_puti 24 C 5 z_dX5 (⟨rfl, rfl⟩) 2 (by decide) q155 rfl (rfl) rfl ⟨Nat.le_of_ble_eq_true rfl, rfl⟩ dX5_shiftTo_24 ?_
      refine z_aload_n 27 C dX5_shiftTo_27 1 rfl ?_
      refine z_iload_n 28 C dX5_shiftTo_28 3 rfl ?_
      refine z_puti 29 C 5 z_dX5 (⟨rfl, rfl⟩) 3 (by decide) q156 rfl (rfl) rfl ⟨Nat.le_of_ble_eq_true rfl, rfl⟩ dX5_shiftTo_29 ?_
      refine z_iload_n 32 C dX5_shiftTo_32 0 rfl ?_
      refine z_zret 33 C (rfl) dX5_shiftTo_33 ?_
      first | exact ⟨z_ci (z_bo_t (Or.inl c5)), rfl⟩ | exact ⟨z_ci (z_bo_f (fun z => z.elim (fun q => q c5) (fun q => q c13))), rfl⟩ | exact ⟨z_ci (z_bo_t (Or.inr c13)), rfl⟩
    · skip
      refine z_iconst 16 C dX5_shiftTo_16 (nI 1) rfl ?_
      refine z_goto 17 C 21 dX5_shiftTo_17 (by decide) ?_
      refine z_istore_n 21 C dX5_shiftTo_21 [(3, .int (nI 1)), (0, .ref (z_ad G 5)), (1, .int x), (2, .int y)] (by decide) rfl ?_
      refine z_aload_n 22 C dX5_shiftTo_22 1 rfl ?_
      refine z_iload_n 23 C dX5_shiftTo_23 2 rfl ?_
      refine z_puti 24 C 5 z_dX5 (⟨rfl, rfl⟩) 2 (by decide) q155 rfl (rfl) rfl ⟨Nat.le_of_ble_eq_true rfl, rfl⟩ dX5_shiftTo_24 ?_
      refine z_aload_n 27 C dX5_shiftTo_27 1 rfl ?_
      refine z_iload_n 28 C dX5_shiftTo_28 3 rfl ?_
      refine z_puti 29 C 5 z_dX5 (⟨rfl, rfl⟩) 3 (by decide) q156 rfl (rfl) rfl ⟨Nat.le_of_ble_eq_true rfl, rfl⟩ dX5_shiftTo_29 ?_
      refine z_iload_n 32 C dX5_shiftTo_32 0 rfl ?_
      refine z_zret 33 C (rfl) dX5_shiftTo_33 ?_
      first | exact ⟨z_ci (z_bo_t (Or.inl c5)), rfl⟩ | exact ⟨z_ci (z_bo_f (fun z => z.elim (fun q => q c5) (fun q => q c13))), rfl⟩ | exact ⟨z_ci (z_bo_t (Or.inr c13)), rfl⟩
theorem dX5_reset_0 : decode cX5_reset 0 = .ok (.iconst 0, 1) := by decide +kernel
theorem dX5_reset_1 : decode cX5_reset 1 = .ok (.istore_n 1, 1) := by decide +kernel
theorem dX5_reset_2 : decode cX5_reset 2 = .ok (.iload_n 1, 1) := by decide +kernel
theorem dX5_reset_3 : decode cX5_reset 3 = .ok (.bipush 24, 2) := by decide +kernel
theorem dX5_reset_5 : decode cX5_reset 5 = .ok (.if_icmp .ge 23, 3) := by decide +kernel
theorem dX5_reset_8 : decode cX5_reset 8 = .ok (.aload_n 0, 1) := by decide +kernel
theorem dX5_reset_9 : decode cX5_reset 9 = .ok (.getfield 9, 3) := by decide +kernel
theorem dX5_reset_12 : decode cX5_reset 12 = .ok (.iload_n 1, 1) := by decide +kernel
theorem dX5_reset_13 : decode cX5_reset 13 = .ok (.iconst 0, 1) := by decide +kernel
theorem dX5_reset_14 : decode cX5_reset 14 = .ok (.iastore, 1) := by decide +kernel
theorem dX5_reset_15 : decode cX5_reset 15 = .ok (.aload_n 0, 1) := by decide +kernel
theorem dX5_reset_16 : decode cX5_reset 16 = .ok (.getfield 15, 3) := by decide +kernel
theorem dX5_reset_19 : decode cX5_reset 19 = .ok (.iload_n 1, 1) := by decide +kernel
theorem dX5_reset_20 : decode cX5_reset 20 = .ok (.iconst 0, 1) := by decide +kernel
theorem dX5_reset_21 : decode cX5_reset 21 = .ok (.iastore, 1) := by decide +kernel
theorem dX5_reset_22 : decode cX5_reset 22 = .ok (.iinc 1 1, 3) := by decide +kernel
theorem dX5_reset_25 : decode cX5_reset 25 = .ok (.goto (-23), 3) := by decide +kernel
theorem dX5_reset_28 : decode cX5_reset 28 = .ok (.aload_n 0, 1) := by decide +kernel
theorem dX5_reset_29 : decode cX5_reset 29 = .ok (.iconst 0, 1) := by decide +kernel
theorem dX5_reset_30 : decode cX5_reset 30 = .ok (.iconst 0, 1) := by decide +kernel
theorem dX5_reset_31 : decode cX5_reset 31 = .ok (.invokevirtual 25, 3) := by decide +kernel
theorem dX5_reset_34 : decode cX5_reset 34 = .ok (.pop, 1) := by decide +kernel
theorem dX5_reset_35 : decode cX5_reset 35 = .ok (.return_, 1) := by decide +kernel
set_option maxRecDepth 100000 in
set_option maxHeartbeats 4000000 in
theorem m_X5_reset {l : Launch} {G : z_Gl} {σ : z_St}  : z_M l G yX5_reset cX5_reset 2 none (z_rm 1 23) [.ref (z_ad G 5)] σ (z_p0 (z_ui (z_ui (z_uI (z_uI σ 6 (z_fil (fun _ => nI 0) (σ.1 6) 24)) 7 (z_fil (fun _ => nI 0) (σ.1 7) 24)) 5 2 (nI 0)) 5 3 (nI 0))) := by
  refine z_M.of (by decide) (Nat.le_of_ble_eq_true rfl) (fun p e s m below meth c C => ?_)
  refine z_sub [0] (lv1 := [(0, .ref (z_ad G 5))]) rfl ?_
  refine z_iconst 0 C dX5_reset_0 (nI 0) rfl ?_
  refine z_istore_n 1 C dX5_reset_1 [(1, .int (nI 0)), (0, .ref (z_ad G 5))] (by decide) rfl ?_
  refine z_sub [1, 0] (lv1 := [(0, .ref (z_ad G 5)), (1, .int (nI 0))]) rfl ?_
  refine z_cv (lv1 := [(0, .ref (z_ad G 5)), (1, .int (nI 0))]) (st1 := []) (σ1 := z_uI (z_uI σ 6 (z_fil (fun _ => nI 0) (σ.1 6) 0)) 7 (z_fil (fun _ => nI 0) (σ.1 7) 0)) rfl rfl (by rw [z_fil_0, z_fil_0, z_uI_same, z_uI_same]) ?_
  refine z_lp1 (fun (k : Nat) => k ≤ 24) (fun (k : Nat) => 24 - k) (fun (k : Nat) => [(0, .ref (z_ad G 5)), (1, .int (nI k))]) (fun (k : Nat) => z_uI (z_uI σ 6 (z_fil (fun _ => nI 0) (σ.1 6) k)) 7 (z_fil (fun _ => nI 0) (σ.1 7) k)) (fun k hi_2 ih_2 => ?_) 0 (by omega)
  try dsimp only
  refine z_iload_n 2 C dX5_reset_2 1 rfl ?_
  refine z_bipush 3 C dX5_reset_3 (nI 24) rfl ?_
  refine z_icmp_geN 5 C k 24 rfl rfl (by omega) (by omega) 28 dX5_reset_5 (by decide) (fun c5 => ?_) (fun c5 => ?_)
  · skip
    have ek : k = 24 := by omega
    subst ek
    refine z_aload_n 28 C dX5_reset_28 0 rfl ?_
    refine z_iconst 29 C dX5_reset_29 (nI 0) rfl ?_
    refine z_iconst 30 C dX5_reset_30 (nI 0) rfl ?_
    refine z_callV 31 C 5 (⟨rfl, rfl⟩) rfl (As := [.int (nI 0), .int (nI 0)]) (rest := []) (m_X5_shiftTo (σ := z_uI (z_uI σ 6 (z_fil (fun _ => nI 0) (σ.1 6) 24)) 7 (z_fil (fun _ => nI 0) (σ.1 7) 24)) (nI 0) (nI 0)) k_X5_shiftTo q925 ⟨rfl, rfl⟩ ⟨Nat.le_of_ble_eq_true rfl, Nat.le_of_ble_eq_true rfl⟩ rfl (Nat.le_of_ble_eq_true rfl) ⟨Nat.le_of_ble_eq_true rfl, Nat.le_of_ble_eq_true rfl⟩ rfl dX5_reset_31 (z_k1 ?_)
    refine z_pop 34 C dX5_reset_34 rfl ?_
    refine z_vret 35 C dX5_reset_35 ?_
    exact ⟨rfl, rfl⟩
  · skip
    refine z_aload_n 8 C dX5_reset_8 0 rfl ?_
    refine z_getf 9 C 5 z_dX5 (⟨rfl, rfl⟩) 0 (by decide) q153 (.ref (z_ad G 6)) rfl dX5_reset_9 ?_
    refine z_iload_n 12 C dX5_reset_12 1 rfl ?_
    refine z_iconst 13 C dX5_reset_13 (nI 0) rfl ?_
    refine z_iastN 14 C 6 (n := 24) (⟨rfl, rfl⟩) k rfl (by omega) (by decide) dX5_reset_14 ?_
    refine z_aload_n 15 C dX5_reset_15 0 rfl ?_
    refine z_getf 16 C 5 z_dX5 (⟨rfl, rfl⟩) 1 (by decide) q154 (.ref (z_ad G 7)) rfl dX5_reset_16 ?_
    refine z_iload_n 19 C dX5_reset_19 1 rfl ?_
    refine z_iconst 20 C dX5_reset_20 (nI 0) rfl ?_
    refine z_iastN 21 C 7 (n := 24) (⟨rfl, rfl⟩) k rfl (by omega) (by decide) dX5_reset_21 ?_
    refine z_iincN 22 C 1 k [(1, .int (nI (k + 1))), (0, .ref (z_ad G 5))] rfl rfl (by decide) rfl dX5_reset_22 ?_
    refine z_goto 25 C 2 dX5_reset_25 (by decide) ?_
    refine z_sub [1, 0] (lv1 := [(0, .ref (z_ad G 5)), (1, .int (nI (k + 1)))]) rfl ?_
    refine z_cv (lv1 := [(0, .ref (z_ad G 5)), (1, .int (nI (k + 1)))]) (st1 := []) (σ1 := z_uI (z_uI σ 6 (z_fil (fun _ => nI 0) (σ.1 6) (k + 1))) 7 (z_fil (fun _ => nI 0) (σ.1 7) (k + 1))) rfl rfl (z_rst σ k) ?_
    exact ih_2 (k + 1) (by omega) (by omega)
theorem dX5_superpose_0 : decode cX5_superpose 0 = .ok (.aload_n 0, 1) := by decide +kernel
theorem dX5_superpose_1 : decode cX5_superpose 1 = .ok (.iload_n 1, 1) := by decide +kernel
theorem dX5_superpose_2 : decode cX5_superpose 2 = .ok (.invokevirtual 29, 3) := by decide +kernel
theorem dX5_superpose_5 : decode cX5_superpose 5 = .ok (.astore 5, 2) := by decide +kernel
theorem dX5_superpose_7 : decode cX5_superpose 7 = .ok (.iconst 0, 1) := by decide +kernel
theorem dX5_superpose_8 : decode cX5_superpose 8 = .ok (.istore 6, 2) := by decide +kernel
theorem dX5_superpose_10 : decode cX5_superpose 10 = .ok (.iconst 0, 1) := by decide +kernel
theorem dX5_superpose_11 : decode cX5_superpose 11 = .ok (.istore 7, 2) := by decide +kernel
theorem dX5_superpose_13 : decode cX5_superpose 13 = .ok (.iload 7, 2) := by decide +kernel
theorem dX5_superpose_15 : decode cX5_superpose 15 = .ok (.bipush 24, 2) := by decide +kernel
theorem dX5_superpose_17 : decode cX5_superpose 17 = .ok (.if_icmp .ge 77, 3) := by decide +kernel
theorem dX5_superpose_20 : decode cX5_superpose 20 = .ok (.iload_n 3, 1) := by decide +kernel
theorem dX5_superpose_21 : decode cX5_superpose 21 = .ok (.i2l, 1) := by decide +kernel
theorem dX5_superpose_22 : decode cX5_superpose 22 = .ok (.iload_n 2, 1) := by decide +kernel
theorem dX5_superpose_23 : decode cX5_superpose 23 = .ok (.iload 7, 2) := by decide +kernel
theorem dX5_superpose_25 : decode cX5_superpose 25 = .ok (.imul, 1) := by decide +kernel
theorem dX5_superpose_26 : decode cX5_superpose 26 = .ok (.iload 4, 2) := by decide +kernel
theorem dX5_superpose_28 : decode cX5_superpose 28 = .ok (.iadd, 1) := by decide +kernel
theorem dX5_superpose_29 : decode cX5_superpose 29 = .ok (.invokestatic 33, 3) := by decide +kernel
theorem dX5_superpose_32 : decode cX5_superpose 32 = .ok (.i2l, 1) := by decide +kernel
theorem dX5_superpose_33 : decode cX5_superpose 33 = .ok (.lmul, 1) := by decide +kernel
theorem dX5_superpose_34 : decode cX5_superpose 34 = .ok (.ldc2_w 37, 3) := by decide +kernel
theorem dX5_superpose_37 : decode cX5_superpose 37 = .ok (.invokestatic 39, 3) := by decide +kernel
theorem dX5_superpose_40 : decode cX5_superpose 40 = .ok (.lstore 8, 2) := by decide +kernel
theorem dX5_superpose_42 : decode cX5_superpose 42 = .ok (.aload 5, 2) := by decide +kernel
theorem dX5_superpose_44 : decode cX5_superpose 44 = .ok (.iload 7, 2) := by decide +kernel
theorem dX5_superpose_46 : decode cX5_superpose 46 = .ok (.iaload, 1) := by decide +kernel
theorem dX5_superpose_47 : decode cX5_superpose 47 = .ok (.i2l, 1) := by decide +kernel
theorem dX5_superpose_48 : decode cX5_superpose 48 = .ok (.lload 8, 2) := by decide +kernel
theorem dX5_superpose_50 : decode cX5_superpose 50 = .ok (.ladd, 1) := by decide +kernel
theorem dX5_superpose_51 : decode cX5_superpose 51 = .ok (.sipush 5000, 3) := by decide +kernel
theorem dX5_superpose_54 : decode cX5_superpose 54 = .ok (.invokestatic 45, 3) := by decide +kernel
theorem dX5_superpose_57 : decode cX5_superpose 57 = .ok (.istore 10, 2) := by decide +kernel
theorem dX5_superpose_59 : decode cX5_superpose 59 = .ok (.iload 6, 2) := by decide +kernel
theorem dX5_superpose_61 : decode cX5_superpose 61 = .ok (.ifCond .ne 13, 3) := by decide +kernel
theorem dX5_superpose_64 : decode cX5_superpose 64 = .ok (.iload 10, 2) := by decide +kernel
theorem dX5_superpose_66 : decode cX5_superpose 66 = .ok (.aload 5, 2) := by decide +kernel
theorem dX5_superpose_68 : decode cX5_superpose 68 = .ok (.iload 7, 2) := by decide +kernel
theorem dX5_superpose_70 : decode cX5_superpose 70 = .ok (.iaload, 1) := by decide +kernel
theorem dX5_superpose_71 : decode cX5_superpose 71 = .ok (.if_icmp .eq 7, 3) := by decide +kernel
theorem dX5_superpose_74 : decode cX5_superpose 74 = .ok (.iconst 1, 1) := by decide +kernel
theorem dX5_superpose_75 : decode cX5_superpose 75 = .ok (.goto 4, 3) := by decide +kernel
theorem dX5_superpose_78 : decode cX5_superpose 78 = .ok (.iconst 0, 1) := by decide +kernel
theorem dX5_superpose_79 : decode cX5_superpose 79 = .ok (.istore 6, 2) := by decide +kernel
theorem dX5_superpose_81 : decode cX5_superpose 81 = .ok (.aload 5, 2) := by decide +kernel
theorem dX5_superpose_83 : decode cX5_superpose 83 = .ok (.iload 7, 2) := by decide +kernel
theorem dX5_superpose_85 : decode cX5_superpose 85 = .ok (.iload 10, 2) := by decide +kernel
theorem dX5_superpose_87 : decode cX5_superpose 87 = .ok (.iastore, 1) := by decide +kernel
theorem dX5_superpose_88 : decode cX5_superpose 88 = .ok (.iinc 7 1, 3) := by decide +kernel
theorem dX5_superpose_91 : decode cX5_superpose 91 = .ok (.goto (-78), 3) := by decide +kernel
theorem dX5_superpose_94 : decode cX5_superpose 94 = .ok (.iload 6, 2) := by decide +kernel
theorem dX5_superpose_96 : decode cX5_superpose 96 = .ok (.ireturn, 1) := by decide +kernel
set_option maxRecDepth 100000 in
set_option maxHeartbeats 4000000 in
theorem m_X5_superpose {l : Launch} {G : z_Gl} {σ : z_St} (t h f : Nat) (a : Int32) (ht : t < 2) (hh : h ≤ 12) (hf : f < 24) : z_M l G yX5_superpose cX5_superpose 11 (some .boolean) (z_rm 3 62) [.ref (z_ad G 5), .int (nI t), .int (nI h), .int a, .int (nI f)] σ (z_p1 (.int (z_bo (z_chg (z_so (σ.1 (6 + t)) a h f) (σ.1 (6 + t)) 24))) (z_uI σ (6 + t) (z_fil (z_so (σ.1 (6 + t)) a h f) (σ.1 (6 + t)) 24))) := by
  refine z_M.of (by decide) (Nat.le_of_ble_eq_true rfl) (fun p e s m below meth c C => ?_)
  refine z_sub [0, 1, 2, 3, 4] (lv1 := [(0, .ref (z_ad G 5)), (1, .int (nI t)), (2, .int (nI h)), (3, .int a), (4, .int (nI f))]) rfl ?_
  refine z_aload_n 0 C dX5_superpose_0 0 rfl ?_
  refine z_iload_n 1 C dX5_superpose_1 1 rfl ?_
  refine z_callV 2 C 5 (⟨rfl, rfl⟩) rfl (As := [.int (nI t)]) (rest := []) (m_X5_profileOf t (by omega)) k_X5_profileOf q938 ⟨rfl, rfl⟩ ⟨Nat.le_of_ble_eq_true rfl, Nat.le_of_ble_eq_true rfl⟩ rfl (Nat.le_of_ble_eq_true rfl) ⟨Nat.le_of_ble_eq_true rfl, Nat.le_of_ble_eq_true rfl⟩ rfl dX5_superpose_2 (z_k1 ?_)
  refine z_astore 5 C dX5_superpose_5 [(5, .ref (z_ad G (6 + t))), (0, .ref (z_ad G 5)), (1, .int (nI t)), (2, .int (nI h)), (3, .int a), (4, .int (nI f))] (by decide) rfl ?_
  refine z_iconst 7 C dX5_superpose_7 (nI 0) rfl ?_
  refine z_istore 8 C dX5_superpose_8 [(6, .int (nI 0)), (5, .ref (z_ad G (6 + t))), (0, .ref (z_ad G 5)), (1, .int (nI t)), (2, .int (nI h)), (3, .int a), (4, .int (nI f))] (by decide) rfl ?_
  refine z_iconst 10 C dX5_superpose_10 (nI 0) rfl ?_
  refine z_istore 11 C dX5_superpose_11 [(7, .int (nI 0)), (6, .int (nI 0)), (5, .ref (z_ad G (6 + t))), (0, .ref (z_ad G 5)), (1, .int (nI t)), (2, .int (nI h)), (3, .int a), (4, .int (nI f))] (by decide) rfl ?_
  refine z_sub [3, 4, 5, 6, 7, 2, 1, 0] (lv1 := [(0, .ref (z_ad G 5)), (1, .int (nI t)), (2, .int (nI h)), (3, .int a), (4, .int (nI f)), (5, .ref (z_ad G (6 + t))), (6, .int (nI 0)), (7, .int (nI 0))]) rfl ?_
  refine z_cv (lv1 := [(0, .ref (z_ad G 5)), (1, .int (nI t)), (2, .int (nI h)), (3, .int a), (4, .int (nI f)), (5, .ref (z_ad G (6 + t))), (6, .int (z_bo (z_chg (z_so (σ.1 (6 + t)) a h f) (σ.1 (6 + t)) 0))), (7, .int (nI 0))]) (st1 := []) (σ1 := z_uI σ (6 + t) (z_fil (z_so (σ.1 (6 + t)) a h f) (σ.1 (6 + t)) 0)) (by rw [← z_ch0]) rfl (z_fil0I σ (6 + t) _) ?_
  refine z_lp1 (fun (k : Nat) => k ≤ 24) (fun (k : Nat) => 24 - k) (fun (k : Nat) => [(0, .ref (z_ad G 5)), (1, .int (nI t)), (2, .int (nI h)), (3, .int a), (4, .int (nI f)), (5, .ref (z_ad G (6 + t))), (6, .int (z_bo (z_chg (z_so (σ.1 (6 + t)) a h f) (σ.1 (6 + t)) k))), (7, .int (nI k))]) (fun (k : Nat) => z_uI σ (6 + t) (z_fil (z_so (σ.1 (6 + t)) a h f) (σ.1 (6 + t)) k)) (fun k hi_13 ih_13 => ?_) 0 (by omega)
  try dsimp only
  refine z_iload 13 C dX5_superpose_13 7 rfl ?_
  refine z_bipush 15 C dX5_superpose_15 (nI 24) rfl ?_
  refine z_icmp_geN 17 C k 24 rfl rfl (by omega) (by omega) 94 dX5_superpose_17 (by decide) (fun c17 => ?_) (fun c17 => ?_)
  · skip
    have ek : k = 24 := by omega
    subst ek
    refine z_iload 94 C dX5_superpose_94 6 rfl ?_
    refine z_zret 96 C (z_bo_nar) dX5_superpose_96 ?_
    exact ⟨rfl, rfl⟩
  · skip
    refine z_iload_n 20 C dX5_superpose_20 3 rfl ?_
    refine z_i2l 21 C dX5_superpose_21 ?_
    refine z_iload_n 22 C dX5_superpose_22 2 rfl ?_
    have hhk : h * k ≤ 12 * 24 := Nat.mul_le_mul hh (by omega)
    refine z_iload 23 C dX5_superpose_23 7 rfl ?_
    refine z_imulN 25 C h k rfl rfl dX5_superpose_25 ?_
    refine z_iload 26 C dX5_superpose_26 4 rfl ?_
    refine z_iaddN 28 C (h * k) f rfl rfl dX5_superpose_28 ?_
    refine z_callSN 29 C (As := [.int (nI ((h * k) + f))]) (rest := [.long (Int32.toInt64 a)]) (m_X7_cosine_n (σ := z_uI σ (6 + t) (z_fil (z_so (σ.1 (6 + t)) a h f) (σ.1 (6 + t)) k)) ((h * k) + f) (by omega)) k_X7_cosine (List.mem_of_getElem? (i := 61) rfl) ⟨rfl, rfl⟩ ⟨Nat.le_of_ble_eq_true rfl, Nat.le_of_ble_eq_true rfl⟩ rfl (Nat.le_of_ble_eq_true rfl) ⟨Nat.le_of_ble_eq_true rfl, Nat.le_of_ble_eq_true rfl⟩ rfl dX5_superpose_29 (z_k1 ?_)
    refine z_i2l 32 C dX5_superpose_32 ?_
    refine z_lmul 33 C dX5_superpose_33 ?_
    refine z_ldc2 34 C dX5_superpose_34 q940 ?_
    refine z_callS 37 C (As := [.long ((Int32.toInt64 a) * (Int32.toInt64 (z_tv 0 (((h * k) + f) % 24)))), .long 1000000]) (rest := []) (m_J9_floorDiv_f86c9 (σ := z_uI σ (6 + t) (z_fil (z_so (σ.1 (6 + t)) a h f) (σ.1 (6 + t)) k)) ((Int32.toInt64 a) * (Int32.toInt64 (z_tv 0 (((h * k) + f) % 24)))) 1000000 (by decide)) k_J9_floorDiv_f86c9 q941 ⟨rfl, rfl⟩ ⟨Nat.le_of_ble_eq_true rfl, Nat.le_of_ble_eq_true rfl⟩ rfl (Nat.le_of_ble_eq_true rfl) ⟨Nat.le_of_ble_eq_true rfl, Nat.le_of_ble_eq_true rfl⟩ rfl dX5_superpose_37 (z_k1 ?_)
    refine z_lstore 40 C dX5_superpose_40 [(8, .long (z_fd ((Int32.toInt64 a) * (Int32.toInt64 (z_tv 0 (((h * k) + f) % 24)))) 1000000)), (0, .ref (z_ad G 5)), (1, .int (nI t)), (2, .int (nI h)), (3, .int a), (4, .int (nI f)), (5, .ref (z_ad G (6 + t))), (6, .int (z_bo (z_chg (z_so (σ.1 (6 + t)) a h f) (σ.1 (6 + t)) k))), (7, .int (nI k))] (by decide) rfl ?_
    refine z_aload 42 C dX5_superpose_42 6 rfl ?_
    refine z_iload 44 C dX5_superpose_44 8 rfl ?_
    refine z_ialdN 46 C (6 + t) (n := 24) (z_tpK _ (by omega)) k rfl (by omega) (by decide) dX5_superpose_46 ?_
    refine z_cv (lv1 := [(8, .long (z_fd ((Int32.toInt64 a) * (Int32.toInt64 (z_tv 0 (((h * k) + f) % 24)))) 1000000)), (0, .ref (z_ad G 5)), (1, .int (nI t)), (2, .int (nI h)), (3, .int a), (4, .int (nI f)), (5, .ref (z_ad G (6 + t))), (6, .int (z_bo (z_chg (z_so (σ.1 (6 + t)) a h f) (σ.1 (6 + t)) k))), (7, .int (nI k))]) (st1 := [.int (σ.1 (6 + t) k)]) (σ1 := z_uI σ (6 + t) (z_fil (z_so (σ.1 (6 + t)) a h f) (σ.1 (6 + t)) k)) rfl (by rw [z_uI1, if_pos rfl, z_fil_ge (Nat.le_refl k)]) rfl ?_
    refine z_i2l 47 C dX5_superpose_47 ?_
    refine z_lload 48 C dX5_superpose_48 0 rfl ?_
    refine z_ladd 50 C dX5_superpose_50 ?_
    refine z_sipush 51 C dX5_superpose_51 (nI 5000) rfl ?_
    refine z_callSN 54 C (As := [.long ((Int32.toInt64 (σ.1 (6 + t) k)) + (z_fd ((Int32.toInt64 a) * (Int32.toInt64 (z_tv 0 (((h * k) + f) % 24)))) 1000000)), .int (nI 5000)]) (rest := []) (m_X7_clamp (σ := z_uI σ (6 + t) (z_fil (z_so (σ.1 (6 + t)) a h f) (σ.1 (6 + t)) k)) ((Int32.toInt64 (σ.1 (6 + t) k)) + (z_fd ((Int32.toInt64 a) * (Int32.toInt64 (z_tv 0 (((h * k) + f) % 24)))) 1000000)) (nI 5000)) k_X7_clamp (List.mem_of_getElem? (i := 17) rfl) ⟨rfl, rfl⟩ ⟨Nat.le_of_ble_eq_true rfl, Nat.le_of_ble_eq_true rfl⟩ rfl (Nat.le_of_ble_eq_true rfl) ⟨Nat.le_of_ble_eq_true rfl, Nat.le_of_ble_eq_true rfl⟩ rfl dX5_superpose_54 (z_k1 ?_)
    refine z_istore 57 C dX5_superpose_57 [(10, .int (z_cla ((Int32.toInt64 (σ.1 (6 + t) k)) + (z_fd ((Int32.toInt64 a) * (Int32.toInt64 (z_tv 0 (((h * k) + f) % 24)))) 1000000)) (nI 5000))), (8, .long (z_fd ((Int32.toInt64 a) * (Int32.toInt64 (z_tv 0 (((h * k) + f) % 24)))) 1000000)), (0, .ref (z_ad G 5)), (1, .int (nI t)), (2, .int (nI h)), (3, .int a), (4, .int (nI f)), (5, .ref (z_ad G (6 + t))), (6, .int (z_bo (z_chg (z_so (σ.1 (6 + t)) a h f) (σ.1 (6 + t)) k))), (7, .int (nI k))] (by decide) rfl ?_
    refine z_iload 59 C dX5_superpose_59 8 rfl ?_
    refine z_if_neb 61 C 74 dX5_superpose_61 (by decide) (fun c61 => ?_) (fun c61 => ?_)
    · skip
      refine z_iconst 74 C dX5_superpose_74 (nI 1) rfl ?_
      refine z_goto 75 C 79 dX5_superpose_75 (by decide) ?_
      refine z_istore 79 C dX5_superpose_79 [(6, .int (nI 1)), (10, .int (z_cla ((Int32.toInt64 (σ.1 (6 + t) k)) + (z_fd ((Int32.toInt64 a) * (Int32.toInt64 (z_tv 0 (((h * k) + f) % 24)))) 1000000)) (nI 5000))), (8, .long (z_fd ((Int32.toInt64 a) * (Int32.toInt64 (z_tv 0 (((h * k) + f) % 24)))) 1000000)), (0, .ref (z_ad G 5)), (1, .int (nI t)), (2, .int (nI h)), (3, .int a), (4, .int (nI f)), (5, .ref (z_ad G (6 + t))), (7, .int (nI k))] (by decide) rfl ?_
      refine z_aload 81 C dX5_superpose_81 8 rfl ?_
      refine z_iload 83 C dX5_superpose_83 9 rfl ?_
      refine z_iload 85 C dX5_superpose_85 1 rfl ?_
      refine z_iastN 87 C (6 + t) (n := 24) (z_tpK _ (by omega)) k rfl (by omega) (by decide) dX5_superpose_87 ?_
      refine z_iincN 88 C 9 k [(7, .int (nI (k + 1))), (6, .int (nI 1)), (10, .int (z_cla ((Int32.toInt64 (σ.1 (6 + t) k)) + (z_fd ((Int32.toInt64 a) * (Int32.toInt64 (z_tv 0 (((h * k) + f) % 24)))) 1000000)) (nI 5000))), (8, .long (z_fd ((Int32.toInt64 a) * (Int32.toInt64 (z_tv 0 (((h * k) + f) % 24)))) 1000000)), (0, .ref (z_ad G 5)), (1, .int (nI t)), (2, .int (nI h)), (3, .int a), (4, .int (nI f)), (5, .ref (z_ad G (6 + t)))] rfl rfl (by decide) rfl dX5_superpose_88 ?_
      refine z_goto 91 C 13 dX5_superpose_91 (by decide) ?_
      refine z_sub [4, 5, 6, 7, 8, 9, 1, 0] (lv1 := [(0, .ref (z_ad G 5)), (1, .int (nI t)), (2, .int (nI h)), (3, .int a), (4, .int (nI f)), (5, .ref (z_ad G (6 + t))), (6, .int (nI 1)), (7, .int (nI (k + 1)))]) rfl ?_
      refine z_cv (lv1 := [(0, .ref (z_ad G 5)), (1, .int (nI t)), (2, .int (nI h)), (3, .int a), (4, .int (nI f)), (5, .ref (z_ad G (6 + t))), (6, .int (z_bo (z_chg (z_so (σ.1 (6 + t)) a h f) (σ.1 (6 + t)) (k + 1)))), (7, .int (nI (k + 1)))]) (st1 := []) (σ1 := z_uI σ (6 + t) (z_fil (z_so (σ.1 (6 + t)) a h f) (σ.1 (6 + t)) (k + 1))) (by first | rw [z_ch1 c61] | rw [z_ch3 c61 c71] | rw [z_ch2 c71]) rfl (z_filSI σ (6 + t) k _ _ rfl) ?_
      exact ih_13 (k + 1) (by omega) (by omega)
    · skip
      refine z_iload 64 C dX5_superpose_64 0 rfl ?_
      refine z_aload 66 C dX5_superpose_66 7 rfl ?_
      refine z_iload 68 C dX5_superpose_68 9 rfl ?_
      refine z_ialdN 70 C (6 + t) (n := 24) (z_tpK _ (by omega)) k rfl (by omega) (by decide) dX5_superpose_70 ?_
      refine z_cv (lv1 := [(10, .int (z_cla ((Int32.toInt64 (σ.1 (6 + t) k)) + (z_fd ((Int32.toInt64 a) * (Int32.toInt64 (z_tv 0 (((h * k) + f) % 24)))) 1000000)) (nI 5000))), (8, .long (z_fd ((Int32.toInt64 a) * (Int32.toInt64 (z_tv 0 (((h * k) + f) % 24)))) 1000000)), (0, .ref (z_ad G 5)), (1, .int (nI t)), (2, .int (nI h)), (3, .int a), (4, .int (nI f)), (5, .ref (z_ad G (6 + t))), (6, .int (z_bo (z_chg (z_so (σ.1 (6 + t)) a h f) (σ.1 (6 + t)) k))), (7, .int (nI k))]) (st1 := [.int (σ.1 (6 + t) k), .int (z_so (σ.1 (6 + t)) a h f k)]) (σ1 := z_uI σ (6 + t) (z_fil (z_so (σ.1 (6 + t)) a h f) (σ.1 (6 + t)) k)) rfl (by rw [z_uI1, if_pos rfl, z_fil_ge (Nat.le_refl k)]; rfl) rfl ?_
      refine z_icmp_eq 71 C 78 dX5_superpose_71 (by decide) (fun c71 => ?_) (fun c71 => ?_)
      · skip
        refine z_iconst 78 C dX5_superpose_78 (nI 0) rfl ?_
        refine z_istore 79 C dX5_superpose_79 [(6, .int (nI 0)), (10, .int (z_cla ((Int32.toInt64 (σ.1 (6 + t) k)) + (z_fd ((Int32.toInt64 a) * (Int32.toInt64 (z_tv 0 (((h * k) + f) % 24)))) 1000000)) (nI 5000))), (8, .long (z_fd ((Int32.toInt64 a) * (Int32.toInt64 (z_tv 0 (((h * k) + f) % 24)))) 1000000)), (0, .ref (z_ad G 5)), (1, .int (nI t)), (2, .int (nI h)), (3, .int a), (4, .int (nI f)), (5, .ref (z_ad G (6 + t))), (7, .int (nI k))] (by decide) rfl ?_
        refine z_aload 81 C dX5_superpose_81 8 rfl ?_
        refine z_iload 83 C dX5_superpose_83 9 rfl ?_
        refine z_iload 85 C dX5_superpose_85 1 rfl ?_
        refine z_iastN 87 C (6 + t) (n := 24) (z_tpK _ (by omega)) k rfl (by omega) (by decide) dX5_superpose_87 ?_
        refine z_iincN 88 C 9 k [(7, .int (nI (k + 1))), (6, .int (nI 0)), (10, .int (z_cla ((Int32.toInt64 (σ.1 (6 + t) k)) + (z_fd ((Int32.toInt64 a) * (Int32.toInt64 (z_tv 0 (((h * k) + f) % 24)))) 1000000)) (nI 5000))), (8, .long (z_fd ((Int32.toInt64 a) * (Int32.toInt64 (z_tv 0 (((h * k) + f) % 24)))) 1000000)), (0, .ref (z_ad G 5)), (1, .int (nI t)), (2, .int (nI h)), (3, .int a), (4, .int (nI f)), (5, .ref (z_ad G (6 + t)))] rfl rfl (by decide) rfl dX5_superpose_88 ?_
        refine z_goto 91 C 13 dX5_superpose_91 (by decide) ?_
        refine z_sub [4, 5, 6, 7, 8, 9, 1, 0] (lv1 := [(0, .ref (z_ad G 5)), (1, .int (nI t)), (2, .int (nI h)), (3, .int a), (4, .int (nI f)), (5, .ref (z_ad G (6 + t))), (6, .int (nI 0)), (7, .int (nI (k + 1)))]) rfl ?_
        refine z_cv (lv1 := [(0, .ref (z_ad G 5)), (1, .int (nI t)), (2, .int (nI h)), (3, .int a), (4, .int (nI f)), (5, .ref (z_ad G (6 + t))), (6, .int (z_bo (z_chg (z_so (σ.1 (6 + t)) a h f) (σ.1 (6 + t)) (k + 1)))), (7, .int (nI (k + 1)))]) (st1 := []) (σ1 := z_uI σ (6 + t) (z_fil (z_so (σ.1 (6 + t)) a h f) (σ.1 (6 + t)) (k + 1))) (by first | rw [z_ch1 c61] | rw [z_ch3 c61 c71] | rw [z_ch2 c71]) rfl (z_filSI σ (6 + t) k _ _ rfl) ?_
        exact ih_13 (k + 1) (by omega) (by omega)
      · skip
        refine z_iconst 74 C dX5_superpose_74 (nI 1) rfl ?_
        refine z_goto 75 C 79 dX5_superpose_75 (by decide) ?_
        refine z_istore 79 C dX5_superpose_79 [(6, .int (nI 1)), (10, .int (z_cla ((Int32.toInt64 (σ.1 (6 + t) k)) + (z_fd ((Int32.toInt64 a) * (Int32.toInt64 (z_tv 0 (((h * k) + f) % 24)))) 1000000)) (nI 5000))), (8, .long (z_fd ((Int32.toInt64 a) * (Int32.toInt64 (z_tv 0 (((h * k) + f) % 24)))) 1000000)), (0, .ref (z_ad G 5)), (1, .int (nI t)), (2, .int (nI h)), (3, .int a), (4, .int (nI f)), (5, .ref (z_ad G (6 + t))), (7, .int (nI k))] (by decide) rfl ?_
        refine z_aload 81 C dX5_superpose_81 8 rfl ?_
        refine z_iload 83 C dX5_superpose_83 9 rfl ?_
        refine z_iload 85 C dX5_superpose_85 1 rfl ?_
        refine z_iastN 87 C (6 + t) (n := 24) (z_tpK _ (by omega)) k rfl (by omega) (by decide) dX5_superpose_87 ?_
        refine z_iincN 88 C 9 k [(7, .int (nI (k + 1))), (6, .int (nI 1)), (10, .int (z_cla ((Int32.toInt64 (σ.1 (6 + t) k)) + (z_fd ((Int32.toInt64 a) * (Int32.toInt64 (z_tv 0 (((h * k) + f) % 24)))) 1000000)) (nI 5000))), (8, .long (z_fd ((Int32.toInt64 a) * (Int32.toInt64 (z_tv 0 (((h * k) + f) % 24)))) 1000000)), (0, .ref (z_ad G 5)), (1, .int (nI t)), (2, .int (nI h)), (3, .int a), (4, .int (nI f)), (5, .ref (z_ad G (6 + t)))] rfl rfl (by decide) rfl dX5_superpose_88 ?_
        refine z_goto 91 C 13 dX5_superpose_91 (by decide) ?_
        refine z_sub [4, 5, 6, 7, 8, 9, 1, 0] (lv1 := [(0, .ref (z_ad G 5)), (1, .int (nI t)), (2, .int (nI h)), (3, .int a), (4, .int (nI f)), (5, .ref (z_ad G (6 + t))), (6, .int (nI 1)), (7, .int (nI (k + 1)))]) rfl ?_
        refine z_cv (lv1 := [(0, .ref (z_ad G 5)), (1, .int (nI t)), (2, .int (nI h)), (3, .int a), (4, .int (nI f)), (5, .ref (z_ad G (6 + t))), (6, .int (z_bo (z_chg (z_so (σ.1 (6 + t)) a h f) (σ.1 (6 + t)) (k + 1)))), (7, .int (nI (k + 1)))]) (st1 := []) (σ1 := z_uI σ (6 + t) (z_fil (z_so (σ.1 (6 + t)) a h f) (σ.1 (6 + t)) (k + 1))) (by first | rw [z_ch1 c61] | rw [z_ch3 c61 c71] | rw [z_ch2 c71]) rfl (z_filSI σ (6 + t) k _ _ rfl) ?_
        exact ih_13 (k + 1) (by omega) (by omega)
theorem dX5_readingAt_0 : decode cX5_readingAt 0 = .ok (.iload_n 1, 1) := by decide +kernel
theorem dX5_readingAt_1 : decode cX5_readingAt 1 = .ok (.iload_n 2, 1) := by decide +kernel
theorem dX5_readingAt_2 : decode cX5_readingAt 2 = .ok (.isub, 1) := by decide +kernel
theorem dX5_readingAt_3 : decode cX5_readingAt 3 = .ok (.invokestatic 49, 3) := by decide +kernel
theorem dX5_readingAt_6 : decode cX5_readingAt 6 = .ok (.istore_n 3, 1) := by decide +kernel
theorem dX5_readingAt_7 : decode cX5_readingAt 7 = .ok (.aload_n 0, 1) := by decide +kernel
theorem dX5_readingAt_8 : decode cX5_readingAt 8 = .ok (.getfield 9, 3) := by decide +kernel
theorem dX5_readingAt_11 : decode cX5_readingAt 11 = .ok (.iload_n 3, 1) := by decide +kernel
theorem dX5_readingAt_12 : decode cX5_readingAt 12 = .ok (.iaload, 1) := by decide +kernel
theorem dX5_readingAt_13 : decode cX5_readingAt 13 = .ok (.aload_n 0, 1) := by decide +kernel
theorem dX5_readingAt_14 : decode cX5_readingAt 14 = .ok (.getfield 15, 3) := by decide +kernel
theorem dX5_readingAt_17 : decode cX5_readingAt 17 = .ok (.iload_n 1, 1) := by decide +kernel
theorem dX5_readingAt_18 : decode cX5_readingAt 18 = .ok (.iaload, 1) := by decide +kernel
theorem dX5_readingAt_19 : decode cX5_readingAt 19 = .ok (.iadd, 1) := by decide +kernel
theorem dX5_readingAt_20 : decode cX5_readingAt 20 = .ok (.i2l, 1) := by decide +kernel
theorem dX5_readingAt_21 : decode cX5_readingAt 21 = .ok (.aload_n 0, 1) := by decide +kernel
theorem dX5_readingAt_22 : decode cX5_readingAt 22 = .ok (.getfield 18, 3) := by decide +kernel
theorem dX5_readingAt_25 : decode cX5_readingAt 25 = .ok (.i2l, 1) := by decide +kernel
theorem dX5_readingAt_26 : decode cX5_readingAt 26 = .ok (.aload_n 0, 1) := by decide +kernel
theorem dX5_readingAt_27 : decode cX5_readingAt 27 = .ok (.getfield 22, 3) := by decide +kernel
theorem dX5_readingAt_30 : decode cX5_readingAt 30 = .ok (.i2l, 1) := by decide +kernel
theorem dX5_readingAt_31 : decode cX5_readingAt 31 = .ok (.iload_n 3, 1) := by decide +kernel
theorem dX5_readingAt_32 : decode cX5_readingAt 32 = .ok (.invokestatic 52, 3) := by decide +kernel
theorem dX5_readingAt_35 : decode cX5_readingAt 35 = .ok (.ladd, 1) := by decide +kernel
theorem dX5_readingAt_36 : decode cX5_readingAt 36 = .ok (.lstore 4, 2) := by decide +kernel
theorem dX5_readingAt_38 : decode cX5_readingAt 38 = .ok (.lload 4, 2) := by decide +kernel
theorem dX5_readingAt_40 : decode cX5_readingAt 40 = .ok (.sipush 10000, 3) := by decide +kernel
theorem dX5_readingAt_43 : decode cX5_readingAt 43 = .ok (.invokestatic 45, 3) := by decide +kernel
theorem dX5_readingAt_46 : decode cX5_readingAt 46 = .ok (.ireturn, 1) := by decide +kernel
set_option maxRecDepth 100000 in
set_option maxHeartbeats 4000000 in
theorem m_X5_readingAt {l : Launch} {G : z_Gl} {σ : z_St} (k u : Nat) (hk : k < 24) (hu : u < 2 ^ 30) : z_M l G yX5_readingAt cX5_readingAt 6 (some .int) (z_rm 2 50) [.ref (z_ad G 5), .int (nI k), .int (nI u)] σ (z_p1 (.int (z_rg (σ.1 6) (σ.1 7) (σ.1 5 2) (σ.1 5 3) k u)) σ) := by
  refine z_M.of (by decide) (Nat.le_of_ble_eq_true rfl) (fun p e s m below meth c C => ?_)
  refine z_sub [0, 1, 2] (lv1 := [(0, .ref (z_ad G 5)), (1, .int (nI k)), (2, .int (nI u))]) rfl ?_
  refine z_iload_n 0 C dX5_readingAt_0 1 rfl ?_
  refine z_iload_n 1 C dX5_readingAt_1 2 rfl ?_
  refine z_isub 2 C dX5_readingAt_2 ?_
  refine z_callSN 3 C (As := [.int ((nI k) - (nI u))]) (rest := []) (m_X7_place_d k u (by omega) (by omega)) k_X7_place (List.mem_of_getElem? (i := 15) rfl) ⟨rfl, rfl⟩ ⟨Nat.le_of_ble_eq_true rfl, Nat.le_of_ble_eq_true rfl⟩ rfl (Nat.le_of_ble_eq_true rfl) ⟨Nat.le_of_ble_eq_true rfl, Nat.le_of_ble_eq_true rfl⟩ rfl dX5_readingAt_3 (z_k1 ?_)
  refine z_istore_n 6 C dX5_readingAt_6 [(3, .int (nI ((k + (24 - u % 24)) % 24))), (0, .ref (z_ad G 5)), (1, .int (nI k)), (2, .int (nI u))] (by decide) rfl ?_
  refine z_aload_n 7 C dX5_readingAt_7 1 rfl ?_
  refine z_getf 8 C 5 z_dX5 (⟨rfl, rfl⟩) 0 (by decide) q153 (.ref (z_ad G 6)) rfl dX5_readingAt_8 ?_
  refine z_iload_n 11 C dX5_readingAt_11 0 rfl ?_
  refine z_ialdN 12 C 6 (n := 24) (⟨rfl, rfl⟩) ((k + (24 - u % 24)) % 24) rfl (by omega) (by decide) dX5_readingAt_12 ?_
  refine z_aload_n 13 C dX5_readingAt_13 1 rfl ?_
  refine z_getf 14 C 5 z_dX5 (⟨rfl, rfl⟩) 1 (by decide) q154 (.ref (z_ad G 7)) rfl dX5_readingAt_14 ?_
  refine z_iload_n 17 C dX5_readingAt_17 2 rfl ?_
  refine z_ialdN 18 C 7 (n := 24) (⟨rfl, rfl⟩) k rfl (by omega) (by decide) dX5_readingAt_18 ?_
  refine z_iadd 19 C dX5_readingAt_19 ?_
  refine z_i2l 20 C dX5_readingAt_20 ?_
  refine z_aload_n 21 C dX5_readingAt_21 1 rfl ?_
  refine z_getf 22 C 5 z_dX5 (⟨rfl, rfl⟩) 2 (by decide) q155 (.int (σ.1 5 2)) rfl dX5_readingAt_22 ?_
  refine z_i2l 25 C dX5_readingAt_25 ?_
  refine z_aload_n 26 C dX5_readingAt_26 1 rfl ?_
  refine z_getf 27 C 5 z_dX5 (⟨rfl, rfl⟩) 3 (by decide) q156 (.int (σ.1 5 3)) rfl dX5_readingAt_27 ?_
  refine z_i2l 30 C dX5_readingAt_30 ?_
  refine z_iload_n 31 C dX5_readingAt_31 0 rfl ?_
  refine z_callSN 32 C (As := [.long (Int32.toInt64 (σ.1 5 2)), .long (Int32.toInt64 (σ.1 5 3)), .int (nI ((k + (24 - u % 24)) % 24))]) (rest := [.long (Int32.toInt64 ((σ.1 6 ((k + (24 - u % 24)) % 24)) + (σ.1 7 k)))]) (m_X7_wave_n (Int32.toInt64 (σ.1 5 2)) (Int32.toInt64 (σ.1 5 3)) ((k + (24 - u % 24)) % 24) (by omega)) k_X7_wave (List.mem_of_getElem? (i := 16) rfl) ⟨rfl, rfl⟩ ⟨Nat.le_of_ble_eq_true rfl, Nat.le_of_ble_eq_true rfl⟩ rfl (Nat.le_of_ble_eq_true rfl) ⟨Nat.le_of_ble_eq_true rfl, Nat.le_of_ble_eq_true rfl⟩ rfl dX5_readingAt_32 (z_k1 ?_)
  refine z_ladd 35 C dX5_readingAt_35 ?_
  refine z_lstore 36 C dX5_readingAt_36 [(4, .long ((Int32.toInt64 ((σ.1 6 ((k + (24 - u % 24)) % 24)) + (σ.1 7 k))) + (z_wv (Int32.toInt64 (σ.1 5 2)) (Int32.toInt64 (σ.1 5 3)) (((k + (24 - u % 24)) % 24) % 24)))), (3, .int (nI ((k + (24 - u % 24)) % 24))), (0, .ref (z_ad G 5)), (1, .int (nI k)), (2, .int (nI u))] (by decide) rfl ?_
  refine z_lload 38 C dX5_readingAt_38 0 rfl ?_
  refine z_sipush 40 C dX5_readingAt_40 (nI 10000) rfl ?_
  refine z_callSN 43 C (As := [.long ((Int32.toInt64 ((σ.1 6 ((k + (24 - u % 24)) % 24)) + (σ.1 7 k))) + (z_wv (Int32.toInt64 (σ.1 5 2)) (Int32.toInt64 (σ.1 5 3)) (((k + (24 - u % 24)) % 24) % 24))), .int (nI 10000)]) (rest := []) (m_X7_clamp ((Int32.toInt64 ((σ.1 6 ((k + (24 - u % 24)) % 24)) + (σ.1 7 k))) + (z_wv (Int32.toInt64 (σ.1 5 2)) (Int32.toInt64 (σ.1 5 3)) (((k + (24 - u % 24)) % 24) % 24))) (nI 10000)) k_X7_clamp (List.mem_of_getElem? (i := 17) rfl) ⟨rfl, rfl⟩ ⟨Nat.le_of_ble_eq_true rfl, Nat.le_of_ble_eq_true rfl⟩ rfl (Nat.le_of_ble_eq_true rfl) ⟨Nat.le_of_ble_eq_true rfl, Nat.le_of_ble_eq_true rfl⟩ rfl dX5_readingAt_43 (z_k1 ?_)
  refine z_iret 46 C dX5_readingAt_46 ?_
  exact ⟨rfl, rfl⟩
theorem dX1_present_0 : decode cX1_present 0 = .ok (.aload_n 0, 1) := by decide +kernel
theorem dX1_present_1 : decode cX1_present 1 = .ok (.getfield 13, 3) := by decide +kernel
theorem dX1_present_4 : decode cX1_present 4 = .ok (.aload_n 0, 1) := by decide +kernel
theorem dX1_present_5 : decode cX1_present 5 = .ok (.getfield 16, 3) := by decide +kernel
theorem dX1_present_8 : decode cX1_present 8 = .ok (.aload_n 0, 1) := by decide +kernel
theorem dX1_present_9 : decode cX1_present 9 = .ok (.getfield 20, 3) := by decide +kernel
theorem dX1_present_12 : decode cX1_present 12 = .ok (.iadd, 1) := by decide +kernel
theorem dX1_present_13 : decode cX1_present 13 = .ok (.bipush 21, 2) := by decide +kernel
theorem dX1_present_15 : decode cX1_present 15 = .ok (.irem, 1) := by decide +kernel
theorem dX1_present_16 : decode cX1_present 16 = .ok (.aaload, 1) := by decide +kernel
theorem dX1_present_17 : decode cX1_present 17 = .ok (.areturn, 1) := by decide +kernel
set_option maxRecDepth 100000 in
set_option maxHeartbeats 4000000 in
theorem m_X1_present {l : Launch} {G : z_Gl} {σ : z_St} (o u : Nat) (ho : σ.1 8 1 = nI o) (hu : σ.1 8 2 = nI u) (ho21 : o < 21) (hu20 : u ≤ 20) : z_M l G yX1_present cX1_present 1 (some (.array .long)) (z_rm 0 0) [.ref (z_ad G 8)] σ (z_p1 (.ref (z_ad G (10 + (o + u) % 21))) σ) := by
  refine z_M.of (by decide) (Nat.le_of_ble_eq_true rfl) (fun p e s m below meth c C => ?_)
  refine z_sub [0] (lv1 := [(0, .ref (z_ad G 8))]) rfl ?_
  refine z_aload_n 0 C dX1_present_0 0 rfl ?_
  refine z_getf 1 C 8 z_dX1 (⟨rfl, rfl⟩) 0 (by decide) q174 (.ref (z_ad G 9)) rfl dX1_present_1 ?_
  refine z_aload_n 4 C dX1_present_4 0 rfl ?_
  refine z_getf 5 C 8 z_dX1 (⟨rfl, rfl⟩) 1 (by decide) q175 (.int (nI o)) (z_ci ho) dX1_present_5 ?_
  refine z_aload_n 8 C dX1_present_8 0 rfl ?_
  refine z_getf 9 C 8 z_dX1 (⟨rfl, rfl⟩) 2 (by decide) q176 (.int (nI u)) (z_ci hu) dX1_present_9 ?_
  refine z_iaddN 12 C o u rfl rfl dX1_present_12 ?_
  refine z_bipush 13 C dX1_present_13 (nI 21) rfl ?_
  refine z_iremN 15 C (o + u) 21 rfl rfl (by omega) (by omega) (by omega) dX1_present_15 ?_
  refine z_aaldN 16 C 9 (n := 21) ⟨Or.inr rfl, rfl⟩ ((o + u) % 21) (10 + ((o + u) % 21)) rfl (by omega) (by decide) rfl dX1_present_16 ?_
  refine z_aret 17 (Or.inr ⟨_, rfl⟩) C dX1_present_17 ?_
  exact ⟨rfl, rfl⟩
theorem dX1_append_0 : decode cX1_append 0 = .ok (.aload_n 0, 1) := by decide +kernel
theorem dX1_append_1 : decode cX1_append 1 = .ok (.invokevirtual 26, 3) := by decide +kernel
theorem dX1_append_4 : decode cX1_append 4 = .ok (.aload_n 1, 1) := by decide +kernel
theorem dX1_append_5 : decode cX1_append 5 = .ok (.invokestatic 30, 3) := by decide +kernel
theorem dX1_append_8 : decode cX1_append 8 = .ok (.ifCond .ne 7, 3) := by decide +kernel
theorem dX1_append_11 : decode cX1_append 11 = .ok (.iconst 1, 1) := by decide +kernel
theorem dX1_append_12 : decode cX1_append 12 = .ok (.goto 4, 3) := by decide +kernel
theorem dX1_append_15 : decode cX1_append 15 = .ok (.iconst 0, 1) := by decide +kernel
theorem dX1_append_16 : decode cX1_append 16 = .ok (.istore_n 2, 1) := by decide +kernel
theorem dX1_append_17 : decode cX1_append 17 = .ok (.aload_n 0, 1) := by decide +kernel
theorem dX1_append_18 : decode cX1_append 18 = .ok (.getfield 20, 3) := by decide +kernel
theorem dX1_append_21 : decode cX1_append 21 = .ok (.bipush 20, 2) := by decide +kernel
theorem dX1_append_23 : decode cX1_append 23 = .ok (.if_icmp .ge 16, 3) := by decide +kernel
theorem dX1_append_26 : decode cX1_append 26 = .ok (.aload_n 0, 1) := by decide +kernel
theorem dX1_append_27 : decode cX1_append 27 = .ok (.dup, 1) := by decide +kernel
theorem dX1_append_28 : decode cX1_append 28 = .ok (.getfield 20, 3) := by decide +kernel
theorem dX1_append_31 : decode cX1_append 31 = .ok (.iconst 1, 1) := by decide +kernel
theorem dX1_append_32 : decode cX1_append 32 = .ok (.iadd, 1) := by decide +kernel
theorem dX1_append_33 : decode cX1_append 33 = .ok (.putfield 20, 3) := by decide +kernel
theorem dX1_append_36 : decode cX1_append 36 = .ok (.goto 16, 3) := by decide +kernel
theorem dX1_append_39 : decode cX1_append 39 = .ok (.aload_n 0, 1) := by decide +kernel
theorem dX1_append_40 : decode cX1_append 40 = .ok (.aload_n 0, 1) := by decide +kernel
theorem dX1_append_41 : decode cX1_append 41 = .ok (.getfield 16, 3) := by decide +kernel
theorem dX1_append_44 : decode cX1_append 44 = .ok (.iconst 1, 1) := by decide +kernel
theorem dX1_append_45 : decode cX1_append 45 = .ok (.iadd, 1) := by decide +kernel
theorem dX1_append_46 : decode cX1_append 46 = .ok (.bipush 21, 2) := by decide +kernel
theorem dX1_append_48 : decode cX1_append 48 = .ok (.irem, 1) := by decide +kernel
theorem dX1_append_49 : decode cX1_append 49 = .ok (.putfield 16, 3) := by decide +kernel
theorem dX1_append_52 : decode cX1_append 52 = .ok (.aload_n 0, 1) := by decide +kernel
theorem dX1_append_53 : decode cX1_append 53 = .ok (.iconst 0, 1) := by decide +kernel
theorem dX1_append_54 : decode cX1_append 54 = .ok (.putfield 23, 3) := by decide +kernel
theorem dX1_append_57 : decode cX1_append 57 = .ok (.aload_n 1, 1) := by decide +kernel
theorem dX1_append_58 : decode cX1_append 58 = .ok (.iconst 0, 1) := by decide +kernel
theorem dX1_append_59 : decode cX1_append 59 = .ok (.aload_n 0, 1) := by decide +kernel
theorem dX1_append_60 : decode cX1_append 60 = .ok (.invokevirtual 26, 3) := by decide +kernel
theorem dX1_append_63 : decode cX1_append 63 = .ok (.iconst 0, 1) := by decide +kernel
theorem dX1_append_64 : decode cX1_append 64 = .ok (.bipush 24, 2) := by decide +kernel
theorem dX1_append_66 : decode cX1_append 66 = .ok (.invokestatic 34, 3) := by decide +kernel
theorem dX1_append_69 : decode cX1_append 69 = .ok (.iload_n 2, 1) := by decide +kernel
theorem dX1_append_70 : decode cX1_append 70 = .ok (.ireturn, 1) := by decide +kernel
set_option maxRecDepth 100000 in
set_option maxHeartbeats 4000000 in
theorem m_X1_append {l : Launch} {G : z_Gl} {σ : z_St} (o u : Nat) (ho : σ.1 8 1 = nI o) (hu : σ.1 8 2 = nI u) (ho21 : o < 21) (hu20 : u ≤ 20) (r : Nat) (hr : z_kd r = 2 ∧ z_sz r = 24) : z_M l G yX1_append cX1_append 3 (some .boolean) (z_rm 1 40) [.ref (z_ad G 8), .ref (z_ad G r)] σ (z_p1 (.int (z_bo (¬ z_eq24 (σ.2 (10 + (o + u) % 21)) (σ.2 r)))) (z_uL (z_ui (z_ui (z_ui σ 8 1 (nI (z_ha o u))) 8 2 (nI (z_hb u))) 8 3 (nI 0)) (10 + (z_ha o u + z_hb u) % 21) (va_cpy (σ.2 r) (σ.2 (10 + (z_ha o u + z_hb u) % 21)) 0 0 24))) := by
  refine z_M.of (by decide) (Nat.le_of_ble_eq_true rfl) (fun p e s m below meth c C => ?_)
  refine z_sub [0, 1] (lv1 := [(0, .ref (z_ad G 8)), (1, .ref (z_ad G r))]) rfl ?_
  refine z_aload_n 0 C dX1_append_0 0 rfl ?_
  refine z_callV 1 C 8 (⟨rfl, rfl⟩) rfl (As := []) (rest := []) (m_X1_present o u ho hu (by omega) (by omega)) k_X1_present q546 ⟨rfl, rfl⟩ ⟨Nat.le_of_ble_eq_true rfl, Nat.le_of_ble_eq_true rfl⟩ rfl (Nat.le_of_ble_eq_true rfl) ⟨Nat.le_of_ble_eq_true rfl, Nat.le_of_ble_eq_true rfl⟩ rfl dX1_append_1 (z_k1 ?_)
  refine z_aload_n 4 C dX1_append_4 1 rfl ?_
  refine z_callSN 5 C (As := [.ref (z_ad G (10 + (o + u) % 21)), .ref (z_ad G r)]) (rest := []) (m_X7_isSame (10 + (o + u) % 21) r (z_rgK _ (by omega)) (hr)) k_X7_isSame (List.mem_of_getElem? (i := 27) rfl) ⟨rfl, rfl⟩ ⟨Nat.le_of_ble_eq_true rfl, Nat.le_of_ble_eq_true rfl⟩ rfl (Nat.le_of_ble_eq_true rfl) ⟨Nat.le_of_ble_eq_true rfl, Nat.le_of_ble_eq_true rfl⟩ rfl dX1_append_5 (z_k1 ?_)
  refine z_if_neb 8 C 15 dX1_append_8 (by decide) (fun c8 => ?_) (fun c8 => ?_)
  · skip
    refine z_iconst 15 C dX1_append_15 (nI 0) rfl ?_
    refine z_istore_n 16 C dX1_append_16 [(2, .int (nI 0)), (0, .ref (z_ad G 8)), (1, .ref (z_ad G r))] (by decide) rfl ?_
    refine z_aload_n 17 C dX1_append_17 1 rfl ?_
    refine z_getf 18 C 8 z_dX1 (⟨rfl, rfl⟩) 2 (by decide) q176 (.int (nI u)) (z_ci hu) dX1_append_18 ?_
    refine z_bipush 21 C dX1_append_21 (nI 20) rfl ?_
    refine z_icmp_geN 23 C u 20 rfl rfl (by omega) (by omega) 39 dX1_append_23 (by decide) (fun c23 => ?_) (fun c23 => ?_)
    · skip
      have eu : u = 20 := by omega
      subst eu
      refine z_aload_n 39 C dX1_append_39 1 rfl ?_
      refine z_aload_n 40 C dX1_append_40 1 rfl ?_
      refine z_getf 41 C 8 z_dX1 (⟨rfl, rfl⟩) 1 (by decide) q175 (.int (nI o)) (z_ci ho) dX1_append_41 ?_
      refine z_iconst 44 C dX1_append_44 (nI 1) rfl ?_
      refine z_iaddN 45 C o 1 rfl rfl dX1_append_45 ?_
      refine z_bipush 46 C dX1_append_46 (nI 21) rfl ?_
      refine z_iremN 48 C (o + 1) 21 rfl rfl (by omega) (by omega) (by omega) dX1_append_48 ?_
      refine z_puti 49 C 8 z_dX1 (⟨rfl, rfl⟩) 1 (by decide) q175 rfl (rfl) rfl ⟨Nat.le_of_ble_eq_true rfl, rfl⟩ dX1_append_49 ?_
      refine z_aload_n 52 C dX1_append_52 1 rfl ?_
      refine z_iconst 53 C dX1_append_53 (nI 0) rfl ?_
      refine z_puti 54 C 8 z_dX1 (⟨rfl, rfl⟩) 3 (by decide) q178 rfl (rfl) rfl ⟨Nat.le_of_ble_eq_true rfl, rfl⟩ dX1_append_54 ?_
      refine z_aload_n 57 C dX1_append_57 2 rfl ?_
      refine z_iconst 58 C dX1_append_58 (nI 0) rfl ?_
      refine z_aload_n 59 C dX1_append_59 1 rfl ?_
      refine z_callV 60 C 8 (⟨rfl, rfl⟩) rfl (As := []) (rest := [.int (nI 0), .ref (z_ad G r)]) (m_X1_present (σ := z_ui (z_ui σ 8 1 (nI ((o + 1) % 21))) 8 3 (nI 0)) ((o + 1) % 21) 20 rfl hu (by omega) (by omega)) k_X1_present q546 ⟨rfl, rfl⟩ ⟨Nat.le_of_ble_eq_true rfl, Nat.le_of_ble_eq_true rfl⟩ rfl (Nat.le_of_ble_eq_true rfl) ⟨Nat.le_of_ble_eq_true rfl, Nat.le_of_ble_eq_true rfl⟩ rfl dX1_append_60 (z_k1 ?_)
      refine z_iconst 63 C dX1_append_63 (nI 0) rfl ?_
      refine z_bipush 64 C dX1_append_64 (nI 24) rfl ?_
      refine z_cpyl 66 C r (10 + (((o + 1) % 21) + 20) % 21) (n0 := 24) (n1 := 24) (hr) (z_rgK _ (by omega)) q553 0 0 24 rfl rfl rfl (by omega) (by omega) (by decide) (by decide) (Nat.le_of_ble_eq_true rfl) (Nat.le_of_ble_eq_true rfl) dX1_append_66 ?_
      refine z_iload_n 69 C dX1_append_69 0 rfl ?_
      refine z_zret 70 C (rfl) dX1_append_70 ?_
      refine ⟨?_, ?_⟩
      · first | exact z_ci (z_bo_t c8) | exact z_ci (z_bo_f (fun z => z c8))
      · first | (rw [show z_ha o u = o from if_pos c23, show z_hb u = u + 1 from if_pos c23, z_ui_id ho]; rfl) | (rw [show z_ha o 20 = (o + 1) % 21 from rfl, show z_hb 20 = 20 from rfl, z_ui_cm (a := 1) (b := 2) (by decide), z_ui_id hu]; rfl)
    · skip
      refine z_aload_n 26 C dX1_append_26 1 rfl ?_
      refine z_dup 27 C dX1_append_27 rfl ?_
      refine z_getf 28 C 8 z_dX1 (⟨rfl, rfl⟩) 2 (by decide) q176 (.int (nI u)) (z_ci hu) dX1_append_28 ?_
      refine z_iconst 31 C dX1_append_31 (nI 1) rfl ?_
      refine z_iaddN 32 C u 1 rfl rfl dX1_append_32 ?_
      refine z_puti 33 C 8 z_dX1 (⟨rfl, rfl⟩) 2 (by decide) q176 rfl (rfl) rfl ⟨Nat.le_of_ble_eq_true rfl, rfl⟩ dX1_append_33 ?_
      refine z_goto 36 C 52 dX1_append_36 (by decide) ?_
      refine z_aload_n 52 C dX1_append_52 1 rfl ?_
      refine z_iconst 53 C dX1_append_53 (nI 0) rfl ?_
      refine z_puti 54 C 8 z_dX1 (⟨rfl, rfl⟩) 3 (by decide) q178 rfl (rfl) rfl ⟨Nat.le_of_ble_eq_true rfl, rfl⟩ dX1_append_54 ?_
      refine z_aload_n 57 C dX1_append_57 2 rfl ?_
      refine z_iconst 58 C dX1_append_58 (nI 0) rfl ?_
      refine z_aload_n 59 C dX1_append_59 1 rfl ?_
      refine z_callV 60 C 8 (⟨rfl, rfl⟩) rfl (As := []) (rest := [.int (nI 0), .ref (z_ad G r)]) (m_X1_present (σ := z_ui (z_ui σ 8 2 (nI (u + 1))) 8 3 (nI 0)) o (u + 1) ho rfl (by omega) (by omega)) k_X1_present q546 ⟨rfl, rfl⟩ ⟨Nat.le_of_ble_eq_true rfl, Nat.le_of_ble_eq_true rfl⟩ rfl (Nat.le_of_ble_eq_true rfl) ⟨Nat.le_of_ble_eq_true rfl, Nat.le_of_ble_eq_true rfl⟩ rfl dX1_append_60 (z_k1 ?_)
      refine z_iconst 63 C dX1_append_63 (nI 0) rfl ?_
      refine z_bipush 64 C dX1_append_64 (nI 24) rfl ?_
      refine z_cpyl 66 C r (10 + (o + (u + 1)) % 21) (n0 := 24) (n1 := 24) (hr) (z_rgK _ (by omega)) q553 0 0 24 rfl rfl rfl (by omega) (by omega) (by decide) (by decide) (Nat.le_of_ble_eq_true rfl) (Nat.le_of_ble_eq_true rfl) dX1_append_66 ?_
      refine z_iload_n 69 C dX1_append_69 0 rfl ?_
      refine z_zret 70 C (rfl) dX1_append_70 ?_
      refine ⟨?_, ?_⟩
      · first | exact z_ci (z_bo_t c8) | exact z_ci (z_bo_f (fun z => z c8))
      · first | (rw [show z_ha o u = o from if_pos c23, show z_hb u = u + 1 from if_pos c23, z_ui_id ho]; rfl) | (rw [show z_ha o 20 = (o + 1) % 21 from rfl, show z_hb 20 = 20 from rfl, z_ui_cm (a := 1) (b := 2) (by decide), z_ui_id hu]; rfl)
  · skip
    refine z_iconst 11 C dX1_append_11 (nI 1) rfl ?_
    refine z_goto 12 C 16 dX1_append_12 (by decide) ?_
    refine z_istore_n 16 C dX1_append_16 [(2, .int (nI 1)), (0, .ref (z_ad G 8)), (1, .ref (z_ad G r))] (by decide) rfl ?_
    refine z_aload_n 17 C dX1_append_17 1 rfl ?_
    refine z_getf 18 C 8 z_dX1 (⟨rfl, rfl⟩) 2 (by decide) q176 (.int (nI u)) (z_ci hu) dX1_append_18 ?_
    refine z_bipush 21 C dX1_append_21 (nI 20) rfl ?_
    refine z_icmp_geN 23 C u 20 rfl rfl (by omega) (by omega) 39 dX1_append_23 (by decide) (fun c23 => ?_) (fun c23 => ?_)
    · skip
      have eu : u = 20 := by omega
      subst eu
      refine z_aload_n 39 C dX1_append_39 1 rfl ?_
      refine z_aload_n 40 C dX1_append_40 1 rfl ?_
      refine z_getf 41 C 8 z_dX1 (⟨rfl, rfl⟩) 1 (by decide) q175 (.int (nI o)) (z_ci ho) dX1_append_41 ?_
      refine z_iconst 44 C dX1_append_44 (nI 1) rfl ?_
      refine z_iaddN 45 C o 1 rfl rfl dX1_append_45 ?_
      refine z_bipush 46 C dX1_append_46 (nI 21) rfl ?_
      refine z_iremN 48 C (o + 1) 21 rfl rfl (by omega) (by omega) (by omega) dX1_append_48 ?_
      refine z_puti 49 C 8 z_dX1 (⟨rfl, rfl⟩) 1 (by decide) q175 rfl (rfl) rfl ⟨Nat.le_of_ble_eq_true rfl, rfl⟩ dX1_append_49 ?_
      refine z_aload_n 52 C dX1_append_52 1 rfl ?_
      refine z_iconst 53 C dX1_append_53 (nI 0) rfl ?_
      refine z_puti 54 C 8 z_dX1 (⟨rfl, rfl⟩) 3 (by decide) q178 rfl (rfl) rfl ⟨Nat.le_of_ble_eq_true rfl, rfl⟩ dX1_append_54 ?_
      refine z_aload_n 57 C dX1_append_57 2 rfl ?_
      refine z_iconst 58 C dX1_append_58 (nI 0) rfl ?_
      refine z_aload_n 59 C dX1_append_59 1 rfl ?_
      refine z_callV 60 C 8 (⟨rfl, rfl⟩) rfl (As := []) (rest := [.int (nI 0), .ref (z_ad G r)]) (m_X1_present (σ := z_ui (z_ui σ 8 1 (nI ((o + 1) % 21))) 8 3 (nI 0)) ((o + 1) % 21) 20 rfl hu (by omega) (by omega)) k_X1_present q546 ⟨rfl, rfl⟩ ⟨Nat.le_of_ble_eq_true rfl, Nat.le_of_ble_eq_true rfl⟩ rfl (Nat.le_of_ble_eq_true rfl) ⟨Nat.le_of_ble_eq_true rfl, Nat.le_of_ble_eq_true rfl⟩ rfl dX1_append_60 (z_k1 ?_)
      refine z_iconst 63 C dX1_append_63 (nI 0) rfl ?_
      refine z_bipush 64 C dX1_append_64 (nI 24) rfl ?_
      refine z_cpyl 66 C r (10 + (((o + 1) % 21) + 20) % 21) (n0 := 24) (n1 := 24) (hr) (z_rgK _ (by omega)) q553 0 0 24 rfl rfl rfl (by omega) (by omega) (by decide) (by decide) (Nat.le_of_ble_eq_true rfl) (Nat.le_of_ble_eq_true rfl) dX1_append_66 ?_
      refine z_iload_n 69 C dX1_append_69 0 rfl ?_
      refine z_zret 70 C (rfl) dX1_append_70 ?_
      refine ⟨?_, ?_⟩
      · first | exact z_ci (z_bo_t c8) | exact z_ci (z_bo_f (fun z => z c8))
      · first | (rw [show z_ha o u = o from if_pos c23, show z_hb u = u + 1 from if_pos c23, z_ui_id ho]; rfl) | (rw [show z_ha o 20 = (o + 1) % 21 from rfl, show z_hb 20 = 20 from rfl, z_ui_cm (a := 1) (b := 2) (by decide), z_ui_id hu]; rfl)
    · skip
      refine z_aload_n 26 C dX1_append_26 1 rfl ?_
      refine z_dup 27 C dX1_append_27 rfl ?_
      refine z_getf 28 C 8 z_dX1 (⟨rfl, rfl⟩) 2 (by decide) q176 (.int (nI u)) (z_ci hu) dX1_append_28 ?_
      refine z_iconst 31 C dX1_append_31 (nI 1) rfl ?_
      refine z_iaddN 32 C u 1 rfl rfl dX1_append_32 ?_
      refine z_puti 33 C 8 z_dX1 (⟨rfl, rfl⟩) 2 (by decide) q176 rfl (rfl) rfl ⟨Nat.le_of_ble_eq_true rfl, rfl⟩ dX1_append_33 ?_
      refine z_goto 36 C 52 dX1_append_36 (by decide) ?_
      refine z_aload_n 52 C dX1_append_52 1 rfl ?_
      refine z_iconst 53 C dX1_append_53 (nI 0) rfl ?_
      refine z_puti 54 C 8 z_dX1 (⟨rfl, rfl⟩) 3 (by decide) q178 rfl (rfl) rfl ⟨Nat.le_of_ble_eq_true rfl, rfl⟩ dX1_append_54 ?_
      refine z_aload_n 57 C dX1_append_57 2 rfl ?_
      refine z_iconst 58 C dX1_append_58 (nI 0) rfl ?_
      refine z_aload_n 59 C dX1_append_59 1 rfl ?_
      refine z_callV 60 C 8 (⟨rfl, rfl⟩) rfl (As := []) (rest := [.int (nI 0), .ref (z_ad G r)]) (m_X1_present (σ := z_ui (z_ui σ 8 2 (nI (u + 1))) 8 3 (nI 0)) o (u + 1) ho rfl (by omega) (by omega)) k_X1_present q546 ⟨rfl, rfl⟩ ⟨Nat.le_of_ble_eq_true rfl, Nat.le_of_ble_eq_true rfl⟩ rfl (Nat.le_of_ble_eq_true rfl) ⟨Nat.le_of_ble_eq_true rfl, Nat.le_of_ble_eq_true rfl⟩ rfl dX1_append_60 (z_k1 ?_)
      refine z_iconst 63 C dX1_append_63 (nI 0) rfl ?_
      refine z_bipush 64 C dX1_append_64 (nI 24) rfl ?_
      refine z_cpyl 66 C r (10 + (o + (u + 1)) % 21) (n0 := 24) (n1 := 24) (hr) (z_rgK _ (by omega)) q553 0 0 24 rfl rfl rfl (by omega) (by omega) (by decide) (by decide) (Nat.le_of_ble_eq_true rfl) (Nat.le_of_ble_eq_true rfl) dX1_append_66 ?_
      refine z_iload_n 69 C dX1_append_69 0 rfl ?_
      refine z_zret 70 C (rfl) dX1_append_70 ?_
      refine ⟨?_, ?_⟩
      · first | exact z_ci (z_bo_t c8) | exact z_ci (z_bo_f (fun z => z c8))
      · first | (rw [show z_ha o u = o from if_pos c23, show z_hb u = u + 1 from if_pos c23, z_ui_id ho]; rfl) | (rw [show z_ha o 20 = (o + 1) % 21 from rfl, show z_hb 20 = 20 from rfl, z_ui_cm (a := 1) (b := 2) (by decide), z_ui_id hu]; rfl)
theorem dX1_stepBack_0 : decode cX1_stepBack 0 = .ok (.aload_n 0, 1) := by decide +kernel
theorem dX1_stepBack_1 : decode cX1_stepBack 1 = .ok (.getfield 20, 3) := by decide +kernel
theorem dX1_stepBack_4 : decode cX1_stepBack 4 = .ok (.ifCond .ne 5, 3) := by decide +kernel
theorem dX1_stepBack_7 : decode cX1_stepBack 7 = .ok (.iconst 0, 1) := by decide +kernel
theorem dX1_stepBack_8 : decode cX1_stepBack 8 = .ok (.ireturn, 1) := by decide +kernel
theorem dX1_stepBack_9 : decode cX1_stepBack 9 = .ok (.aload_n 0, 1) := by decide +kernel
theorem dX1_stepBack_10 : decode cX1_stepBack 10 = .ok (.dup, 1) := by decide +kernel
theorem dX1_stepBack_11 : decode cX1_stepBack 11 = .ok (.getfield 20, 3) := by decide +kernel
theorem dX1_stepBack_14 : decode cX1_stepBack 14 = .ok (.iconst 1, 1) := by decide +kernel
theorem dX1_stepBack_15 : decode cX1_stepBack 15 = .ok (.isub, 1) := by decide +kernel
theorem dX1_stepBack_16 : decode cX1_stepBack 16 = .ok (.putfield 20, 3) := by decide +kernel
theorem dX1_stepBack_19 : decode cX1_stepBack 19 = .ok (.aload_n 0, 1) := by decide +kernel
theorem dX1_stepBack_20 : decode cX1_stepBack 20 = .ok (.dup, 1) := by decide +kernel
theorem dX1_stepBack_21 : decode cX1_stepBack 21 = .ok (.getfield 23, 3) := by decide +kernel
theorem dX1_stepBack_24 : decode cX1_stepBack 24 = .ok (.iconst 1, 1) := by decide +kernel
theorem dX1_stepBack_25 : decode cX1_stepBack 25 = .ok (.iadd, 1) := by decide +kernel
theorem dX1_stepBack_26 : decode cX1_stepBack 26 = .ok (.putfield 23, 3) := by decide +kernel
theorem dX1_stepBack_29 : decode cX1_stepBack 29 = .ok (.iconst 1, 1) := by decide +kernel
theorem dX1_stepBack_30 : decode cX1_stepBack 30 = .ok (.ireturn, 1) := by decide +kernel
set_option maxRecDepth 100000 in
set_option maxHeartbeats 4000000 in
theorem m_X1_stepBack {l : Launch} {G : z_Gl} {σ : z_St} (u v : Nat) (hu : σ.1 8 2 = nI u) (hv : σ.1 8 3 = nI v) (hu20 : u ≤ 20) (hv20 : v ≤ 20) : z_M l G yX1_stepBack cX1_stepBack 1 (some .boolean) (z_rm 0 0) [.ref (z_ad G 8)] σ (z_p1 (.int (z_bo (¬ u = 0))) (if u = 0 then σ else z_ui (z_ui σ 8 2 (nI (u - 1))) 8 3 (nI (v + 1)))) := by
  refine z_M.of (by decide) (Nat.le_of_ble_eq_true rfl) (fun p e s m below meth c C => ?_)
  refine z_sub [0] (lv1 := [(0, .ref (z_ad G 8))]) rfl ?_
  refine z_aload_n 0 C dX1_stepBack_0 0 rfl ?_
  refine z_getf 1 C 8 z_dX1 (⟨rfl, rfl⟩) 2 (by decide) q176 (.int (nI u)) (z_ci hu) dX1_stepBack_1 ?_
  refine z_if_ne 4 C 9 dX1_stepBack_4 (by decide) (fun c4 => ?_) (fun c4 => ?_)
  · skip
    have c4 : ¬ u = 0 := fun z => c4 ((z_nI0 (t := u) (by omega)).mpr z)
    refine z_aload_n 9 C dX1_stepBack_9 0 rfl ?_
    refine z_dup 10 C dX1_stepBack_10 rfl ?_
    refine z_getf 11 C 8 z_dX1 (⟨rfl, rfl⟩) 2 (by decide) q176 (.int (nI u)) (z_ci hu) dX1_stepBack_11 ?_
    refine z_iconst 14 C dX1_stepBack_14 (nI 1) rfl ?_
    refine z_isubN 15 C u 1 rfl rfl (by omega) dX1_stepBack_15 ?_
    refine z_puti 16 C 8 z_dX1 (⟨rfl, rfl⟩) 2 (by decide) q176 rfl (rfl) rfl ⟨Nat.le_of_ble_eq_true rfl, rfl⟩ dX1_stepBack_16 ?_
    refine z_aload_n 19 C dX1_stepBack_19 0 rfl ?_
    refine z_dup 20 C dX1_stepBack_20 rfl ?_
    refine z_getf 21 C 8 z_dX1 (⟨rfl, rfl⟩) 3 (by decide) q178 (.int (nI v)) (z_ci hv) dX1_stepBack_21 ?_
    refine z_iconst 24 C dX1_stepBack_24 (nI 1) rfl ?_
    refine z_iaddN 25 C v 1 rfl rfl dX1_stepBack_25 ?_
    refine z_puti 26 C 8 z_dX1 (⟨rfl, rfl⟩) 3 (by decide) q178 rfl (rfl) rfl ⟨Nat.le_of_ble_eq_true rfl, rfl⟩ dX1_stepBack_26 ?_
    refine z_iconst 29 C dX1_stepBack_29 (nI 1) rfl ?_
    refine z_zret 30 C (rfl) dX1_stepBack_30 ?_
    exact ⟨z_ci (z_bo_t c4), (if_neg c4).symm⟩
  · skip
    have c4 : u = 0 := (z_nI0 (by omega)).mp c4
    refine z_iconst 7 C dX1_stepBack_7 (nI 0) rfl ?_
    refine z_zret 8 C (rfl) dX1_stepBack_8 ?_
    exact ⟨z_ci (z_bo_f (fun z => z c4)), (if_pos c4).symm⟩
theorem dX1_stepForward_0 : decode cX1_stepForward 0 = .ok (.aload_n 0, 1) := by decide +kernel
theorem dX1_stepForward_1 : decode cX1_stepForward 1 = .ok (.getfield 23, 3) := by decide +kernel
theorem dX1_stepForward_4 : decode cX1_stepForward 4 = .ok (.ifCond .ne 5, 3) := by decide +kernel
theorem dX1_stepForward_7 : decode cX1_stepForward 7 = .ok (.iconst 0, 1) := by decide +kernel
theorem dX1_stepForward_8 : decode cX1_stepForward 8 = .ok (.ireturn, 1) := by decide +kernel
theorem dX1_stepForward_9 : decode cX1_stepForward 9 = .ok (.aload_n 0, 1) := by decide +kernel
theorem dX1_stepForward_10 : decode cX1_stepForward 10 = .ok (.dup, 1) := by decide +kernel
theorem dX1_stepForward_11 : decode cX1_stepForward 11 = .ok (.getfield 23, 3) := by decide +kernel
theorem dX1_stepForward_14 : decode cX1_stepForward 14 = .ok (.iconst 1, 1) := by decide +kernel
theorem dX1_stepForward_15 : decode cX1_stepForward 15 = .ok (.isub, 1) := by decide +kernel
theorem dX1_stepForward_16 : decode cX1_stepForward 16 = .ok (.putfield 23, 3) := by decide +kernel
theorem dX1_stepForward_19 : decode cX1_stepForward 19 = .ok (.aload_n 0, 1) := by decide +kernel
theorem dX1_stepForward_20 : decode cX1_stepForward 20 = .ok (.dup, 1) := by decide +kernel
theorem dX1_stepForward_21 : decode cX1_stepForward 21 = .ok (.getfield 20, 3) := by decide +kernel
theorem dX1_stepForward_24 : decode cX1_stepForward 24 = .ok (.iconst 1, 1) := by decide +kernel
theorem dX1_stepForward_25 : decode cX1_stepForward 25 = .ok (.iadd, 1) := by decide +kernel
theorem dX1_stepForward_26 : decode cX1_stepForward 26 = .ok (.putfield 20, 3) := by decide +kernel
theorem dX1_stepForward_29 : decode cX1_stepForward 29 = .ok (.iconst 1, 1) := by decide +kernel
theorem dX1_stepForward_30 : decode cX1_stepForward 30 = .ok (.ireturn, 1) := by decide +kernel
set_option maxRecDepth 100000 in
set_option maxHeartbeats 4000000 in
theorem m_X1_stepForward {l : Launch} {G : z_Gl} {σ : z_St} (u v : Nat) (hu : σ.1 8 2 = nI u) (hv : σ.1 8 3 = nI v) (hu20 : u ≤ 20) (hv20 : v ≤ 20) : z_M l G yX1_stepForward cX1_stepForward 1 (some .boolean) (z_rm 0 0) [.ref (z_ad G 8)] σ (z_p1 (.int (z_bo (¬ v = 0))) (if v = 0 then σ else z_ui (z_ui σ 8 3 (nI (v - 1))) 8 2 (nI (u + 1)))) := by
  refine z_M.of (by decide) (Nat.le_of_ble_eq_true rfl) (fun p e s m below meth c C => ?_)
  refine z_sub [0] (lv1 := [(0, .ref (z_ad G 8))]) rfl ?_
  refine z_aload_n 0 C dX1_stepForward_0 0 rfl ?_
  refine z_getf 1 C 8 z_dX1 (⟨rfl, rfl⟩) 3 (by decide) q178 (.int (nI v)) (z_ci hv) dX1_stepForward_1 ?_
  refine z_if_ne 4 C 9 dX1_stepForward_4 (by decide) (fun c4 => ?_) (fun c4 => ?_)
  · skip
    have c4 : ¬ v = 0 := fun z => c4 ((z_nI0 (t := v) (by omega)).mpr z)
    refine z_aload_n 9 C dX1_stepForward_9 0 rfl ?_
    refine z_dup 10 C dX1_stepForward_10 rfl ?_
    refine z_getf 11 C 8 z_dX1 (⟨rfl, rfl⟩) 3 (by decide) q178 (.int (nI v)) (z_ci hv) dX1_stepForward_11 ?_
    refine z_iconst 14 C dX1_stepForward_14 (nI 1) rfl ?_
    refine z_isubN 15 C v 1 rfl rfl (by omega) dX1_stepForward_15 ?_
    refine z_puti 16 C 8 z_dX1 (⟨rfl, rfl⟩) 3 (by decide) q178 rfl (rfl) rfl ⟨Nat.le_of_ble_eq_true rfl, rfl⟩ dX1_stepForward_16 ?_
    refine z_aload_n 19 C dX1_stepForward_19 0 rfl ?_
    refine z_dup 20 C dX1_stepForward_20 rfl ?_
    refine z_getf 21 C 8 z_dX1 (⟨rfl, rfl⟩) 2 (by decide) q176 (.int (nI u)) (z_ci hu) dX1_stepForward_21 ?_
    refine z_iconst 24 C dX1_stepForward_24 (nI 1) rfl ?_
    refine z_iaddN 25 C u 1 rfl rfl dX1_stepForward_25 ?_
    refine z_puti 26 C 8 z_dX1 (⟨rfl, rfl⟩) 2 (by decide) q176 rfl (rfl) rfl ⟨Nat.le_of_ble_eq_true rfl, rfl⟩ dX1_stepForward_26 ?_
    refine z_iconst 29 C dX1_stepForward_29 (nI 1) rfl ?_
    refine z_zret 30 C (rfl) dX1_stepForward_30 ?_
    exact ⟨z_ci (z_bo_t c4), (if_neg c4).symm⟩
  · skip
    have c4 : v = 0 := (z_nI0 (by omega)).mp c4
    refine z_iconst 7 C dX1_stepForward_7 (nI 0) rfl ?_
    refine z_zret 8 C (rfl) dX1_stepForward_8 ?_
    exact ⟨z_ci (z_bo_f (fun z => z c4)), (if_pos c4).symm⟩
