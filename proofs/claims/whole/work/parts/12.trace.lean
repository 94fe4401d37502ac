/-! PURE: traces -/
def z_hs (h : Nat → Int32) : Nat → Int64
  | 0 => 0
  | i + 1 => z_hs h i + (h i).toInt64
def z_hq (h : Nat → Int32) : Nat → Int64
  | 0 => 0
  | i + 1 => z_hq h i + (h i).toInt64 * (h i).toInt64
def z_xs (x : Nat → Int64) : Nat → Int64
  | 0 => 0
  | i + 1 => z_xs x i + x i
def z_hx (h : Nat → Int32) (x : Nat → Int64) : Nat → Int64
  | 0 => 0
  | i + 1 => z_hx h x i + (h i).toInt64 * x i
def z_den (h : Nat → Int32) (w : Nat) : Int64 := lN w * z_hq h w - z_hs h w * z_hs h w
def z_ax (h : Nat → Int32) (x : Nat → Int64) (w : Nat) (t : Int32) : Int64 := z_fd (z_hq h w * z_xs x w - z_hs h w * z_hx h x w + t.toInt64 * (lN w * z_hx h x w - z_hs h w * z_xs x w)) (z_den h w)
def z_fmx (d : Nat → Int64) (g : Int64) : Nat → Int64
  | 0 => g
  | k + 1 => z_mx (z_fmx d g k) (d k)
def z_fmn (d : Nat → Int64) (g : Int64) : Nat → Int64
  | 0 => g
  | k + 1 => z_mn (z_fmn d g k) (d k)
def z_fmx2 (d : Nat → Nat → Int64) (g : Int64) : Nat → Int64
  | 0 => g
  | i + 1 => z_fmx (d i) (z_fmx2 d g i) 24
def z_fmn2 (d : Nat → Nat → Int64) (g : Int64) : Nat → Int64
  | 0 => g
  | i + 1 => z_fmn (d i) (z_fmn2 d g i) 24
theorem z_fmx_1 (d : Nat → Int64) : d 0 = z_fmx d (d 0) 1 := by simp [z_fmx, z_mx]
theorem z_fmn_1 (d : Nat → Int64) : d 0 = z_fmn d (d 0) 1 := by simp [z_fmn, z_mn]
def z_tr (L : Nat → Nat → Int64) (i : Nat) : Nat → Int64 := L (34 + i)
def z_cdv (h : Nat → Int32) (x y : Nat → Int64) (T : Nat → Nat → Int64) (w i k : Nat) : Int64 := T i k - z_wv (z_ax h x w (h i)) (z_ax h y w (h i)) (k % 24)
def z_dfa (h : Nat → Int32) (x y : Nat → Int64) (w i : Nat) : Int64 := z_ab (x i - z_ax h x w (h i)) + z_ab (y i - z_ax h y w (h i))
/-- the first place of the greatest, of the least value -/
def z_bm (f : Nat → Int64) : Nat → Nat
  | 0 => 0
  | i + 1 => if f (z_bm f i) < f i then i else z_bm f i
def z_bl (f : Nat → Int64) : Nat → Nat
  | 0 => 0
  | i + 1 => if f i < f (z_bl f i) then i else z_bl f i
theorem z_bm_s {f : Nat → Int64} {i : Nat} (h : f (z_bm f i) < f i) : z_bm f (i + 1) = i := if_pos h
theorem z_bm_n {f : Nat → Int64} {i : Nat} (h : ¬ f (z_bm f i) < f i) : z_bm f (i + 1) = z_bm f i := if_neg h
theorem z_bm_1 (f : Nat → Int64) : z_bm f 1 = 0 := by simp [z_bm]
theorem z_bl_s {f : Nat → Int64} {i : Nat} (h : f i < f (z_bl f i)) : z_bl f (i + 1) = i := if_pos h
theorem z_bl_n {f : Nat → Int64} {i : Nat} (h : ¬ f i < f (z_bl f i)) : z_bl f (i + 1) = z_bl f i := if_neg h
theorem z_bl_1 (f : Nat → Int64) : z_bl f 1 = 0 := by simp [z_bl]
/-- how two profiles differ -/
def z_mm (f g : Nat → Int64) (u : Nat) : Nat → Int64
  | 0 => 0
  | k + 1 => z_mm f g u k + z_ab (f ((k + (24 - u % 24)) % 24) - g k)
theorem z_ul2n {σ : z_St} {i j r : Nat} {x : Int64} (h : ¬ r = i) : (z_ul σ i j x).2 r = σ.2 r := if_neg h
theorem z_uL2n {σ : z_St} {i r : Nat} {f : Nat → Int64} (h : ¬ r = i) : (z_uL σ i f).2 r = σ.2 r := if_neg h
theorem z_ne24 {r : Nat} (h : z_kd r = 2 ∧ z_sz r = 24) : ¬ r = 41 ∧ ¬ r = 42 ∧ ¬ r = 43 := by
  refine ⟨?_, ?_, ?_⟩ <;> (intro e; rw [e] at h; exact absurd h.2 (by decide))
theorem dX3_append_0 : decode cX3_append 0 = .ok (.aload_n 0, 1) := by decide +kernel
theorem dX3_append_1 : decode cX3_append 1 = .ok (.getfield 28, 3) := by decide +kernel
theorem dX3_append_4 : decode cX3_append 4 = .ok (.bipush 8, 2) := by decide +kernel
theorem dX3_append_6 : decode cX3_append 6 = .ok (.if_icmp .ge 54, 3) := by decide +kernel
theorem dX3_append_9 : decode cX3_append 9 = .ok (.aload_n 0, 1) := by decide +kernel
theorem dX3_append_10 : decode cX3_append 10 = .ok (.getfield 9, 3) := by decide +kernel
theorem dX3_append_13 : decode cX3_append 13 = .ok (.aload_n 0, 1) := by decide +kernel
theorem dX3_append_14 : decode cX3_append 14 = .ok (.getfield 28, 3) := by decide +kernel
theorem dX3_append_17 : decode cX3_append 17 = .ok (.iload_n 1, 1) := by decide +kernel
theorem dX3_append_18 : decode cX3_append 18 = .ok (.iastore, 1) := by decide +kernel
theorem dX3_append_19 : decode cX3_append 19 = .ok (.aload_n 0, 1) := by decide +kernel
theorem dX3_append_20 : decode cX3_append 20 = .ok (.getfield 13, 3) := by decide +kernel
theorem dX3_append_23 : decode cX3_append 23 = .ok (.aload_n 0, 1) := by decide +kernel
theorem dX3_append_24 : decode cX3_append 24 = .ok (.getfield 28, 3) := by decide +kernel
theorem dX3_append_27 : decode cX3_append 27 = .ok (.iload_n 2, 1) := by decide +kernel
theorem dX3_append_28 : decode cX3_append 28 = .ok (.iastore, 1) := by decide +kernel
theorem dX3_append_29 : decode cX3_append 29 = .ok (.aload_n 0, 1) := by decide +kernel
theorem dX3_append_30 : decode cX3_append 30 = .ok (.getfield 16, 3) := by decide +kernel
theorem dX3_append_33 : decode cX3_append 33 = .ok (.aload_n 0, 1) := by decide +kernel
theorem dX3_append_34 : decode cX3_append 34 = .ok (.getfield 28, 3) := by decide +kernel
theorem dX3_append_37 : decode cX3_append 37 = .ok (.iload_n 3, 1) := by decide +kernel
theorem dX3_append_38 : decode cX3_append 38 = .ok (.iastore, 1) := by decide +kernel
theorem dX3_append_39 : decode cX3_append 39 = .ok (.aload_n 0, 1) := by decide +kernel
theorem dX3_append_40 : decode cX3_append 40 = .ok (.getfield 19, 3) := by decide +kernel
theorem dX3_append_43 : decode cX3_append 43 = .ok (.aload_n 0, 1) := by decide +kernel
theorem dX3_append_44 : decode cX3_append 44 = .ok (.getfield 28, 3) := by decide +kernel
theorem dX3_append_47 : decode cX3_append 47 = .ok (.iload 4, 2) := by decide +kernel
theorem dX3_append_49 : decode cX3_append 49 = .ok (.iastore, 1) := by decide +kernel
theorem dX3_append_50 : decode cX3_append 50 = .ok (.aload_n 0, 1) := by decide +kernel
theorem dX3_append_51 : decode cX3_append 51 = .ok (.dup, 1) := by decide +kernel
theorem dX3_append_52 : decode cX3_append 52 = .ok (.getfield 28, 3) := by decide +kernel
theorem dX3_append_55 : decode cX3_append 55 = .ok (.iconst 1, 1) := by decide +kernel
theorem dX3_append_56 : decode cX3_append 56 = .ok (.iadd, 1) := by decide +kernel
theorem dX3_append_57 : decode cX3_append 57 = .ok (.putfield 28, 3) := by decide +kernel
theorem dX3_append_60 : decode cX3_append 60 = .ok (.return_, 1) := by decide +kernel
set_option maxRecDepth 100000 in
set_option maxHeartbeats 4000000 in
theorem m_X3_append {l : Launch} {G : z_Gl} {σ : z_St} (rc : Nat) (hrc : σ.1 44 5 = nI rc) (hr8 : rc < 8) (a b d f : Int32) : z_M l G yX3_append cX3_append 5 none (z_rm 0 0) [.ref (z_ad G 44), .int a, .int b, .int d, .int f] σ (z_p0 (z_ui (z_ui (z_ui (z_ui (z_ui σ 45 rc a) 46 rc b) 47 rc d) 48 rc f) 44 5 (nI (rc + 1)))) := by
  refine z_M.of (by decide) (Nat.le_of_ble_eq_true rfl) (fun p e s m below meth c C => ?_)
  refine z_sub [0, 1, 2, 3, 4] (lv1 := [(0, .ref (z_ad G 44)), (1, .int a), (2, .int b), (3, .int d), (4, .int f)]) rfl ?_
  refine z_aload_n 0 C dX3_append_0 0 rfl ?_
  refine z_getf 1 C 44 z_dX3 (⟨rfl, rfl⟩) 5 (by decide) q278 (.int (nI rc)) (z_ci hrc) dX3_append_1 ?_
  refine z_bipush 4 C dX3_append_4 (nI 8) rfl ?_
  refine z_icmp_geN 6 C rc 8 rfl rfl (by omega) (by omega) 60 dX3_append_6 (by decide) (fun c6 => ?_) (fun c6 => ?_)
  · skip
    exact absurd c6 (by omega)
  · skip
    refine z_aload_n 9 C dX3_append_9 0 rfl ?_
    refine z_getf 10 C 44 z_dX3 (⟨rfl, rfl⟩) 0 (by decide) q268 (.ref (z_ad G 45)) rfl dX3_append_10 ?_
    refine z_aload_n 13 C dX3_append_13 0 rfl ?_
    refine z_getf 14 C 44 z_dX3 (⟨rfl, rfl⟩) 5 (by decide) q278 (.int (nI rc)) (z_ci hrc) dX3_append_14 ?_
    refine z_iload_n 17 C dX3_append_17 1 rfl ?_
    refine z_iastN 18 C 45 (n := 8) (⟨rfl, rfl⟩) rc rfl (by omega) (by decide) dX3_append_18 ?_
    refine z_aload_n 19 C dX3_append_19 0 rfl ?_
    refine z_getf 20 C 44 z_dX3 (⟨rfl, rfl⟩) 1 (by decide) q270 (.ref (z_ad G 46)) rfl dX3_append_20 ?_
    refine z_aload_n 23 C dX3_append_23 0 rfl ?_
    refine z_getf 24 C 44 z_dX3 (⟨rfl, rfl⟩) 5 (by decide) q278 (.int (nI rc)) (z_ci hrc) dX3_append_24 ?_
    refine z_iload_n 27 C dX3_append_27 2 rfl ?_
    refine z_iastN 28 C 46 (n := 8) (⟨rfl, rfl⟩) rc rfl (by omega) (by decide) dX3_append_28 ?_
    refine z_aload_n 29 C dX3_append_29 0 rfl ?_
    refine z_getf 30 C 44 z_dX3 (⟨rfl, rfl⟩) 2 (by decide) q272 (.ref (z_ad G 47)) rfl dX3_append_30 ?_
    refine z_aload_n 33 C dX3_append_33 0 rfl ?_
    refine z_getf 34 C 44 z_dX3 (⟨rfl, rfl⟩) 5 (by decide) q278 (.int (nI rc)) (z_ci hrc) dX3_append_34 ?_
    refine z_iload_n 37 C dX3_append_37 3 rfl ?_
    refine z_iastN 38 C 47 (n := 8) (⟨rfl, rfl⟩) rc rfl (by omega) (by decide) dX3_append_38 ?_
    refine z_aload_n 39 C dX3_append_39 0 rfl ?_
    refine z_getf 40 C 44 z_dX3 (⟨rfl, rfl⟩) 3 (by decide) q274 (.ref (z_ad G 48)) rfl dX3_append_40 ?_
    refine z_aload_n 43 C dX3_append_43 0 rfl ?_
    refine z_getf 44 C 44 z_dX3 (⟨rfl, rfl⟩) 5 (by decide) q278 (.int (nI rc)) (z_ci hrc) dX3_append_44 ?_
    refine z_iload 47 C dX3_append_47 4 rfl ?_
    refine z_iastN 49 C 48 (n := 8) (⟨rfl, rfl⟩) rc rfl (by omega) (by decide) dX3_append_49 ?_
    refine z_aload_n 50 C dX3_append_50 0 rfl ?_
    refine z_dup 51 C dX3_append_51 rfl ?_
    refine z_getf 52 C 44 z_dX3 (⟨rfl, rfl⟩) 5 (by decide) q278 (.int (nI rc)) (z_ci hrc) dX3_append_52 ?_
    refine z_iconst 55 C dX3_append_55 (nI 1) rfl ?_
    refine z_iaddN 56 C rc 1 rfl rfl dX3_append_56 ?_
    refine z_puti 57 C 44 z_dX3 (⟨rfl, rfl⟩) 5 (by decide) q278 rfl (rfl) rfl ⟨Nat.le_of_ble_eq_true rfl, rfl⟩ dX3_append_57 ?_
    refine z_vret 60 C dX3_append_60 ?_
    exact ⟨rfl, rfl⟩
theorem dX6_lacks_0 : decode cX6_lacks 0 = .ok (.iload_n 1, 1) := by decide +kernel
theorem dX6_lacks_1 : decode cX6_lacks 1 = .ok (.iconst 0, 1) := by decide +kernel
theorem dX6_lacks_2 : decode cX6_lacks 2 = .ok (.aload_n 0, 1) := by decide +kernel
theorem dX6_lacks_3 : decode cX6_lacks 3 = .ok (.getfield 30, 3) := by decide +kernel
theorem dX6_lacks_6 : decode cX6_lacks 6 = .ok (.iconst 1, 1) := by decide +kernel
theorem dX6_lacks_7 : decode cX6_lacks 7 = .ok (.isub, 1) := by decide +kernel
theorem dX6_lacks_8 : decode cX6_lacks 8 = .ok (.invokestatic 34, 3) := by decide +kernel
theorem dX6_lacks_11 : decode cX6_lacks 11 = .ok (.ireturn, 1) := by decide +kernel
set_option maxRecDepth 100000 in
set_option maxHeartbeats 4000000 in
theorem m_X6_lacks {l : Launch} {G : z_Gl} {σ : z_St} (w : Nat) (hw : σ.1 32 5 = nI w) (x : Int32) : z_M l G yX6_lacks cX6_lacks 2 (some .boolean) (z_rm 1 22) [.ref (z_ad G 32), .int x] σ (z_p1 (.int (z_bo (x < nI 0 ∨ nI w - nI 1 < x))) σ) := by
  refine z_M.of (by decide) (Nat.le_of_ble_eq_true rfl) (fun p e s m below meth c C => ?_)
  refine z_sub [0, 1] (lv1 := [(0, .ref (z_ad G 32)), (1, .int x)]) rfl ?_
  refine z_iload_n 0 C dX6_lacks_0 1 rfl ?_
  refine z_iconst 1 C dX6_lacks_1 (nI 0) rfl ?_
  refine z_aload_n 2 C dX6_lacks_2 0 rfl ?_
  refine z_getf 3 C 32 z_dX6 (⟨rfl, rfl⟩) 5 (by decide) q208 (.int (nI w)) (z_ci hw) dX6_lacks_3 ?_
  refine z_iconst 6 C dX6_lacks_6 (nI 1) rfl ?_
  refine z_isub 7 C dX6_lacks_7 ?_
  refine z_callSN 8 C (As := [.int x, .int (nI 0), .int ((nI w) - (nI 1))]) (rest := []) (m_X7_isOutside x (nI 0) ((nI w) - (nI 1))) k_X7_isOutside (List.mem_of_getElem? (i := 43) rfl) ⟨rfl, rfl⟩ ⟨Nat.le_of_ble_eq_true rfl, Nat.le_of_ble_eq_true rfl⟩ rfl (Nat.le_of_ble_eq_true rfl) ⟨Nat.le_of_ble_eq_true rfl, Nat.le_of_ble_eq_true rfl⟩ rfl dX6_lacks_8 (z_k1 ?_)
  refine z_zret 11 C (z_bo_nar) dX6_lacks_11 ?_
  exact ⟨rfl, rfl⟩
theorem dX6_hasHeight_0 : decode cX6_hasHeight 0 = .ok (.iconst 0, 1) := by decide +kernel
theorem dX6_hasHeight_1 : decode cX6_hasHeight 1 = .ok (.istore_n 2, 1) := by decide +kernel
theorem dX6_hasHeight_2 : decode cX6_hasHeight 2 = .ok (.iload_n 2, 1) := by decide +kernel
theorem dX6_hasHeight_3 : decode cX6_hasHeight 3 = .ok (.aload_n 0, 1) := by decide +kernel
theorem dX6_hasHeight_4 : decode cX6_hasHeight 4 = .ok (.getfield 30, 3) := by decide +kernel
theorem dX6_hasHeight_7 : decode cX6_hasHeight 7 = .ok (.if_icmp .ge 21, 3) := by decide +kernel
theorem dX6_hasHeight_10 : decode cX6_hasHeight 10 = .ok (.aload_n 0, 1) := by decide +kernel
theorem dX6_hasHeight_11 : decode cX6_hasHeight 11 = .ok (.getfield 16, 3) := by decide +kernel
theorem dX6_hasHeight_14 : decode cX6_hasHeight 14 = .ok (.iload_n 2, 1) := by decide +kernel
theorem dX6_hasHeight_15 : decode cX6_hasHeight 15 = .ok (.iaload, 1) := by decide +kernel
theorem dX6_hasHeight_16 : decode cX6_hasHeight 16 = .ok (.iload_n 1, 1) := by decide +kernel
theorem dX6_hasHeight_17 : decode cX6_hasHeight 17 = .ok (.if_icmp .ne 5, 3) := by decide +kernel
theorem dX6_hasHeight_20 : decode cX6_hasHeight 20 = .ok (.iconst 1, 1) := by decide +kernel
theorem dX6_hasHeight_21 : decode cX6_hasHeight 21 = .ok (.ireturn, 1) := by decide +kernel
theorem dX6_hasHeight_22 : decode cX6_hasHeight 22 = .ok (.iinc 2 1, 3) := by decide +kernel
theorem dX6_hasHeight_25 : decode cX6_hasHeight 25 = .ok (.goto (-23), 3) := by decide +kernel
theorem dX6_hasHeight_28 : decode cX6_hasHeight 28 = .ok (.iconst 0, 1) := by decide +kernel
theorem dX6_hasHeight_29 : decode cX6_hasHeight 29 = .ok (.ireturn, 1) := by decide +kernel
set_option maxRecDepth 100000 in
set_option maxHeartbeats 4000000 in
theorem m_X6_hasHeight {l : Launch} {G : z_Gl} {σ : z_St} (w : Nat) (hw : σ.1 32 5 = nI w) (hw6 : w ≤ 6) (x : Int32) : z_M l G yX6_hasHeight cX6_hasHeight 3 (some .boolean) (z_rm 0 0) [.ref (z_ad G 32), .int x] σ (z_p1 (.int (z_bo (¬ ∀ j, j < w → ¬ σ.1 40 j = x))) σ) := by
  refine z_M.of (by decide) (Nat.le_of_ble_eq_true rfl) (fun p e s m below meth c C => ?_)
  refine z_sub [0, 1] (lv1 := [(0, .ref (z_ad G 32)), (1, .int x)]) rfl ?_
  refine z_iconst 0 C dX6_hasHeight_0 (nI 0) rfl ?_
  refine z_istore_n 1 C dX6_hasHeight_1 [(2, .int (nI 0)), (0, .ref (z_ad G 32)), (1, .int x)] (by decide) rfl ?_
  refine z_sub [1, 2, 0] (lv1 := [(0, .ref (z_ad G 32)), (1, .int x), (2, .int (nI 0))]) rfl ?_
  refine z_cv (lv1 := [(0, .ref (z_ad G 32)), (1, .int x), (2, .int (nI 0))]) (st1 := []) (σ1 := σ) rfl rfl rfl ?_
  refine z_lp1 (fun (k : Nat) => k ≤ w ∧ ∀ j, j < k → ¬ σ.1 40 j = x) (fun (k : Nat) => w - k) (fun (k : Nat) => [(0, .ref (z_ad G 32)), (1, .int x), (2, .int (nI k))]) (fun (k : Nat) => σ) (fun k hi_2 ih_2 => ?_) 0 (⟨by omega, fun j h => absurd h (Nat.not_lt_zero j)⟩)
  try dsimp only
  obtain ⟨hk, hj⟩ := hi_2
  refine z_iload_n 2 C dX6_hasHeight_2 2 rfl ?_
  refine z_aload_n 3 C dX6_hasHeight_3 0 rfl ?_
  refine z_getf 4 C 32 z_dX6 (⟨rfl, rfl⟩) 5 (by decide) q208 (.int (nI w)) (z_ci hw) dX6_hasHeight_4 ?_
  refine z_icmp_geN 7 C k w rfl rfl (by omega) (by omega) 28 dX6_hasHeight_7 (by decide) (fun c7 => ?_) (fun c7 => ?_)
  · skip
    have ek : w = k := by omega
    subst ek
    refine z_iconst 28 C dX6_hasHeight_28 (nI 0) rfl ?_
    refine z_zret 29 C (rfl) dX6_hasHeight_29 ?_
    exact ⟨z_ci (z_bo_f (fun z => z hj)), rfl⟩
  · skip
    refine z_aload_n 10 C dX6_hasHeight_10 0 rfl ?_
    refine z_getf 11 C 32 z_dX6 (⟨rfl, rfl⟩) 1 (by decide) q200 (.ref (z_ad G 40)) rfl dX6_hasHeight_11 ?_
    refine z_iload_n 14 C dX6_hasHeight_14 2 rfl ?_
    refine z_ialdN 15 C 40 (n := 6) (⟨rfl, rfl⟩) k rfl (by omega) (by decide) dX6_hasHeight_15 ?_
    refine z_iload_n 16 C dX6_hasHeight_16 1 rfl ?_
    refine z_icmp_ne 17 C 22 dX6_hasHeight_17 (by decide) (fun c17 => ?_) (fun c17 => ?_)
    · skip
      refine z_iincN 22 C 2 k [(2, .int (nI (k + 1))), (0, .ref (z_ad G 32)), (1, .int x)] rfl rfl (by decide) rfl dX6_hasHeight_22 ?_
      refine z_goto 25 C 2 dX6_hasHeight_25 (by decide) ?_
      refine z_sub [1, 2, 0] (lv1 := [(0, .ref (z_ad G 32)), (1, .int x), (2, .int (nI (k + 1)))]) rfl ?_
      refine z_cv (lv1 := [(0, .ref (z_ad G 32)), (1, .int x), (2, .int (nI (k + 1)))]) (st1 := []) (σ1 := σ) rfl rfl rfl ?_
      exact ih_2 (k + 1) (⟨by omega, lt_s hj c17⟩) (by omega)
    · skip
      refine z_iconst 20 C dX6_hasHeight_20 (nI 1) rfl ?_
      refine z_zret 21 C (rfl) dX6_hasHeight_21 ?_
      exact ⟨z_ci (z_bo_t (fun z => z k c7 c17)), rfl⟩
theorem dX6_append_0 : decode cX6_append 0 = .ok (.aload_n 0, 1) := by decide +kernel
theorem dX6_append_1 : decode cX6_append 1 = .ok (.getfield 30, 3) := by decide +kernel
theorem dX6_append_4 : decode cX6_append 4 = .ok (.bipush 6, 2) := by decide +kernel
theorem dX6_append_6 : decode cX6_append 6 = .ok (.if_icmp .ge 85, 3) := by decide +kernel
theorem dX6_append_9 : decode cX6_append 9 = .ok (.aload_n 1, 1) := by decide +kernel
theorem dX6_append_10 : decode cX6_append 10 = .ok (.iconst 0, 1) := by decide +kernel
theorem dX6_append_11 : decode cX6_append 11 = .ok (.aload_n 0, 1) := by decide +kernel
theorem dX6_append_12 : decode cX6_append 12 = .ok (.getfield 13, 3) := by decide +kernel
theorem dX6_append_15 : decode cX6_append 15 = .ok (.aload_n 0, 1) := by decide +kernel
theorem dX6_append_16 : decode cX6_append 16 = .ok (.getfield 30, 3) := by decide +kernel
theorem dX6_append_19 : decode cX6_append 19 = .ok (.aaload, 1) := by decide +kernel
theorem dX6_append_20 : decode cX6_append 20 = .ok (.iconst 0, 1) := by decide +kernel
theorem dX6_append_21 : decode cX6_append 21 = .ok (.bipush 24, 2) := by decide +kernel
theorem dX6_append_23 : decode cX6_append 23 = .ok (.invokestatic 38, 3) := by decide +kernel
theorem dX6_append_26 : decode cX6_append 26 = .ok (.aload_n 0, 1) := by decide +kernel
theorem dX6_append_27 : decode cX6_append 27 = .ok (.getfield 16, 3) := by decide +kernel
theorem dX6_append_30 : decode cX6_append 30 = .ok (.aload_n 0, 1) := by decide +kernel
theorem dX6_append_31 : decode cX6_append 31 = .ok (.getfield 30, 3) := by decide +kernel
theorem dX6_append_34 : decode cX6_append 34 = .ok (.iload_n 2, 1) := by decide +kernel
theorem dX6_append_35 : decode cX6_append 35 = .ok (.iastore, 1) := by decide +kernel
theorem dX6_append_36 : decode cX6_append 36 = .ok (.aload_n 0, 1) := by decide +kernel
theorem dX6_append_37 : decode cX6_append 37 = .ok (.getfield 20, 3) := by decide +kernel
theorem dX6_append_40 : decode cX6_append 40 = .ok (.aload_n 0, 1) := by decide +kernel
theorem dX6_append_41 : decode cX6_append 41 = .ok (.getfield 30, 3) := by decide +kernel
theorem dX6_append_44 : decode cX6_append 44 = .ok (.aload_n 1, 1) := by decide +kernel
theorem dX6_append_45 : decode cX6_append 45 = .ok (.iconst 1, 1) := by decide +kernel
theorem dX6_append_46 : decode cX6_append 46 = .ok (.iconst 0, 1) := by decide +kernel
theorem dX6_append_47 : decode cX6_append 47 = .ok (.invokestatic 44, 3) := by decide +kernel
theorem dX6_append_50 : decode cX6_append 50 = .ok (.lastore, 1) := by decide +kernel
theorem dX6_append_51 : decode cX6_append 51 = .ok (.aload_n 0, 1) := by decide +kernel
theorem dX6_append_52 : decode cX6_append 52 = .ok (.getfield 24, 3) := by decide +kernel
theorem dX6_append_55 : decode cX6_append 55 = .ok (.aload_n 0, 1) := by decide +kernel
theorem dX6_append_56 : decode cX6_append 56 = .ok (.getfield 30, 3) := by decide +kernel
theorem dX6_append_59 : decode cX6_append 59 = .ok (.aload_n 1, 1) := by decide +kernel
theorem dX6_append_60 : decode cX6_append 60 = .ok (.iconst 1, 1) := by decide +kernel
theorem dX6_append_61 : decode cX6_append 61 = .ok (.iconst 1, 1) := by decide +kernel
theorem dX6_append_62 : decode cX6_append 62 = .ok (.invokestatic 44, 3) := by decide +kernel
theorem dX6_append_65 : decode cX6_append 65 = .ok (.lastore, 1) := by decide +kernel
theorem dX6_append_66 : decode cX6_append 66 = .ok (.aload_n 0, 1) := by decide +kernel
theorem dX6_append_67 : decode cX6_append 67 = .ok (.getfield 27, 3) := by decide +kernel
theorem dX6_append_70 : decode cX6_append 70 = .ok (.aload_n 0, 1) := by decide +kernel
theorem dX6_append_71 : decode cX6_append 71 = .ok (.getfield 30, 3) := by decide +kernel
theorem dX6_append_74 : decode cX6_append 74 = .ok (.aload_n 1, 1) := by decide +kernel
theorem dX6_append_75 : decode cX6_append 75 = .ok (.iconst 0, 1) := by decide +kernel
theorem dX6_append_76 : decode cX6_append 76 = .ok (.iconst 0, 1) := by decide +kernel
theorem dX6_append_77 : decode cX6_append 77 = .ok (.invokestatic 44, 3) := by decide +kernel
theorem dX6_append_80 : decode cX6_append 80 = .ok (.lastore, 1) := by decide +kernel
theorem dX6_append_81 : decode cX6_append 81 = .ok (.aload_n 0, 1) := by decide +kernel
theorem dX6_append_82 : decode cX6_append 82 = .ok (.dup, 1) := by decide +kernel
theorem dX6_append_83 : decode cX6_append 83 = .ok (.getfield 30, 3) := by decide +kernel
theorem dX6_append_86 : decode cX6_append 86 = .ok (.iconst 1, 1) := by decide +kernel
theorem dX6_append_87 : decode cX6_append 87 = .ok (.iadd, 1) := by decide +kernel
theorem dX6_append_88 : decode cX6_append 88 = .ok (.putfield 30, 3) := by decide +kernel
theorem dX6_append_91 : decode cX6_append 91 = .ok (.return_, 1) := by decide +kernel
set_option maxRecDepth 100000 in
set_option maxHeartbeats 4000000 in
theorem m_X6_append {l : Launch} {G : z_Gl} {σ : z_St} (w : Nat) (hw : σ.1 32 5 = nI w) (hw6 : w < 6) (r : Nat) (hr : z_kd r = 2 ∧ z_sz r = 24) (hne : ¬ r = 34 + w) (x : Int32) : z_M l G yX6_append cX6_append 3 none (z_rm 3 68) [.ref (z_ad G 32), .ref (z_ad G r), .int x] σ (z_p0 (z_ui (z_ul (z_ul (z_ul (z_ui (z_uL σ (34 + w) (va_cpy (σ.2 r) (σ.2 (34 + w)) 0 0 24)) 40 w x) 41 w (z_cf (σ.2 r) 0 1)) 42 w (z_cf (σ.2 r) 1 1)) 43 w (z_cf (σ.2 r) 0 0)) 32 5 (nI (w + 1)))) := by
  refine z_M.of (by decide) (Nat.le_of_ble_eq_true rfl) (fun p e s m below meth c C => ?_)
  refine z_sub [0, 1, 2] (lv1 := [(0, .ref (z_ad G 32)), (1, .ref (z_ad G r)), (2, .int x)]) rfl ?_
  refine z_aload_n 0 C dX6_append_0 0 rfl ?_
  refine z_getf 1 C 32 z_dX6 (⟨rfl, rfl⟩) 5 (by decide) q208 (.int (nI w)) (z_ci hw) dX6_append_1 ?_
  refine z_bipush 4 C dX6_append_4 (nI 6) rfl ?_
  refine z_icmp_geN 6 C w 6 rfl rfl (by omega) (by omega) 91 dX6_append_6 (by decide) (fun c6 => ?_) (fun c6 => ?_)
  · skip
    exact absurd c6 (by omega)
  · skip
    refine z_aload_n 9 C dX6_append_9 1 rfl ?_
    refine z_iconst 10 C dX6_append_10 (nI 0) rfl ?_
    refine z_aload_n 11 C dX6_append_11 0 rfl ?_
    refine z_getf 12 C 32 z_dX6 (⟨rfl, rfl⟩) 0 (by decide) q198 (.ref (z_ad G 33)) rfl dX6_append_12 ?_
    refine z_aload_n 15 C dX6_append_15 0 rfl ?_
    refine z_getf 16 C 32 z_dX6 (⟨rfl, rfl⟩) 5 (by decide) q208 (.int (nI w)) (z_ci hw) dX6_append_16 ?_
    refine z_aaldN 19 C 33 (n := 6) ⟨Or.inr rfl, rfl⟩ w (34 + w) rfl (by omega) (by decide) rfl dX6_append_19 ?_
    refine z_iconst 20 C dX6_append_20 (nI 0) rfl ?_
    refine z_bipush 21 C dX6_append_21 (nI 24) rfl ?_
    refine z_cpyl 23 C r (34 + w) (n0 := 24) (n1 := 24) (hr) (z_trK _ (by omega)) q753 0 0 24 rfl rfl rfl (by omega) (by omega) (by decide) (by decide) (Nat.le_of_ble_eq_true rfl) (Nat.le_of_ble_eq_true rfl) dX6_append_23 ?_
    refine z_aload_n 26 C dX6_append_26 0 rfl ?_
    refine z_getf 27 C 32 z_dX6 (⟨rfl, rfl⟩) 1 (by decide) q200 (.ref (z_ad G 40)) rfl dX6_append_27 ?_
    refine z_aload_n 30 C dX6_append_30 0 rfl ?_
    refine z_getf 31 C 32 z_dX6 (⟨rfl, rfl⟩) 5 (by decide) q208 (.int (nI w)) (z_ci hw) dX6_append_31 ?_
    refine z_iload_n 34 C dX6_append_34 2 rfl ?_
    refine z_iastN 35 C 40 (n := 6) (⟨rfl, rfl⟩) w rfl (by omega) (by decide) dX6_append_35 ?_
    refine z_aload_n 36 C dX6_append_36 0 rfl ?_
    refine z_getf 37 C 32 z_dX6 (⟨rfl, rfl⟩) 2 (by decide) q202 (.ref (z_ad G 41)) rfl dX6_append_37 ?_
    refine z_aload_n 40 C dX6_append_40 0 rfl ?_
    refine z_getf 41 C 32 z_dX6 (⟨rfl, rfl⟩) 5 (by decide) q208 (.int (nI w)) (z_ci hw) dX6_append_41 ?_
    refine z_aload_n 44 C dX6_append_44 1 rfl ?_
    refine z_iconst 45 C dX6_append_45 (nI 1) rfl ?_
    refine z_iconst 46 C dX6_append_46 (nI 0) rfl ?_
    refine z_callSN 47 C (As := [.ref (z_ad G r), .int (nI 1), .int (nI 0)]) (rest := [.int (nI w), .ref (z_ad G 41)]) (m_X7_coefficient (σ := z_ui (z_uL σ (34 + w) (va_cpy (σ.2 r) (σ.2 (34 + w)) 0 0 24)) 40 w x) r 1 0 (hr) (by omega) (by omega)) k_X7_coefficient (List.mem_of_getElem? (i := 41) rfl) ⟨rfl, rfl⟩ ⟨Nat.le_of_ble_eq_true rfl, Nat.le_of_ble_eq_true rfl⟩ rfl (Nat.le_of_ble_eq_true rfl) ⟨Nat.le_of_ble_eq_true rfl, Nat.le_of_ble_eq_true rfl⟩ rfl dX6_append_47 (z_k1 ?_)
    refine z_cv (lv1 := [(0, .ref (z_ad G 32)), (1, .ref (z_ad G r)), (2, .int x)]) (st1 := [.long (z_cf (σ.2 r) 0 1), .int (nI w), .ref (z_ad G 41)]) (σ1 := z_ui (z_uL σ (34 + w) (va_cpy (σ.2 r) (σ.2 (34 + w)) 0 0 24)) 40 w x) rfl (by rw [z_ui2, z_uL2n hne]) rfl ?_
    refine z_lastN 50 C 41 (n := 6) (⟨rfl, rfl⟩) w rfl (by omega) (by decide) dX6_append_50 ?_
    refine z_aload_n 51 C dX6_append_51 0 rfl ?_
    refine z_getf 52 C 32 z_dX6 (⟨rfl, rfl⟩) 3 (by decide) q204 (.ref (z_ad G 42)) rfl dX6_append_52 ?_
    refine z_aload_n 55 C dX6_append_55 0 rfl ?_
    refine z_getf 56 C 32 z_dX6 (⟨rfl, rfl⟩) 5 (by decide) q208 (.int (nI w)) (z_ci hw) dX6_append_56 ?_
    refine z_aload_n 59 C dX6_append_59 1 rfl ?_
    refine z_iconst 60 C dX6_append_60 (nI 1) rfl ?_
    refine z_iconst 61 C dX6_append_61 (nI 1) rfl ?_
    refine z_callSN 62 C (As := [.ref (z_ad G r), .int (nI 1), .int (nI 1)]) (rest := [.int (nI w), .ref (z_ad G 42)]) (m_X7_coefficient (σ := z_ul (z_ui (z_uL σ (34 + w) (va_cpy (σ.2 r) (σ.2 (34 + w)) 0 0 24)) 40 w x) 41 w (z_cf (σ.2 r) 0 1)) r 1 1 (hr) (by omega) (by omega)) k_X7_coefficient (List.mem_of_getElem? (i := 41) rfl) ⟨rfl, rfl⟩ ⟨Nat.le_of_ble_eq_true rfl, Nat.le_of_ble_eq_true rfl⟩ rfl (Nat.le_of_ble_eq_true rfl) ⟨Nat.le_of_ble_eq_true rfl, Nat.le_of_ble_eq_true rfl⟩ rfl dX6_append_62 (z_k1 ?_)
    refine z_cv (lv1 := [(0, .ref (z_ad G 32)), (1, .ref (z_ad G r)), (2, .int x)]) (st1 := [.long (z_cf (σ.2 r) 1 1), .int (nI w), .ref (z_ad G 42)]) (σ1 := z_ul (z_ui (z_uL σ (34 + w) (va_cpy (σ.2 r) (σ.2 (34 + w)) 0 0 24)) 40 w x) 41 w (z_cf (σ.2 r) 0 1)) rfl (by rw [z_ul2n (z_ne24 hr).1, z_ui2, z_uL2n hne]) rfl ?_
    refine z_lastN 65 C 42 (n := 6) (⟨rfl, rfl⟩) w rfl (by omega) (by decide) dX6_append_65 ?_
    refine z_aload_n 66 C dX6_append_66 0 rfl ?_
    refine z_getf 67 C 32 z_dX6 (⟨rfl, rfl⟩) 4 (by decide) q206 (.ref (z_ad G 43)) rfl dX6_append_67 ?_
    refine z_aload_n 70 C dX6_append_70 0 rfl ?_
    refine z_getf 71 C 32 z_dX6 (⟨rfl, rfl⟩) 5 (by decide) q208 (.int (nI w)) (z_ci hw) dX6_append_71 ?_
    refine z_aload_n 74 C dX6_append_74 1 rfl ?_
    refine z_iconst 75 C dX6_append_75 (nI 0) rfl ?_
    refine z_iconst 76 C dX6_append_76 (nI 0) rfl ?_
    refine z_callSN 77 C (As := [.ref (z_ad G r), .int (nI 0), .int (nI 0)]) (rest := [.int (nI w), .ref (z_ad G 43)]) (m_X7_coefficient (σ := z_ul (z_ul (z_ui (z_uL σ (34 + w) (va_cpy (σ.2 r) (σ.2 (34 + w)) 0 0 24)) 40 w x) 41 w (z_cf (σ.2 r) 0 1)) 42 w (z_cf (σ.2 r) 1 1)) r 0 0 (hr) (by omega) (by omega)) k_X7_coefficient (List.mem_of_getElem? (i := 41) rfl) ⟨rfl, rfl⟩ ⟨Nat.le_of_ble_eq_true rfl, Nat.le_of_ble_eq_true rfl⟩ rfl (Nat.le_of_ble_eq_true rfl) ⟨Nat.le_of_ble_eq_true rfl, Nat.le_of_ble_eq_true rfl⟩ rfl dX6_append_77 (z_k1 ?_)
    refine z_cv (lv1 := [(0, .ref (z_ad G 32)), (1, .ref (z_ad G r)), (2, .int x)]) (st1 := [.long (z_cf (σ.2 r) 0 0), .int (nI w), .ref (z_ad G 43)]) (σ1 := z_ul (z_ul (z_ui (z_uL σ (34 + w) (va_cpy (σ.2 r) (σ.2 (34 + w)) 0 0 24)) 40 w x) 41 w (z_cf (σ.2 r) 0 1)) 42 w (z_cf (σ.2 r) 1 1)) rfl (by rw [z_ul2n (z_ne24 hr).2.1, z_ul2n (z_ne24 hr).1, z_ui2, z_uL2n hne]) rfl ?_
    refine z_lastN 80 C 43 (n := 6) (⟨rfl, rfl⟩) w rfl (by omega) (by decide) dX6_append_80 ?_
    refine z_aload_n 81 C dX6_append_81 0 rfl ?_
    refine z_dup 82 C dX6_append_82 rfl ?_
    refine z_getf 83 C 32 z_dX6 (⟨rfl, rfl⟩) 5 (by decide) q208 (.int (nI w)) (z_ci hw) dX6_append_83 ?_
    refine z_iconst 86 C dX6_append_86 (nI 1) rfl ?_
    refine z_iaddN 87 C w 1 rfl rfl dX6_append_87 ?_
    refine z_puti 88 C 32 z_dX6 (⟨rfl, rfl⟩) 5 (by decide) q208 rfl (rfl) rfl ⟨Nat.le_of_ble_eq_true rfl, rfl⟩ dX6_append_88 ?_
    refine z_vret 91 C dX6_append_91 ?_
    exact ⟨rfl, rfl⟩
theorem dX6_axisAt_0 : decode cX6_axisAt 0 = .ok (.iload_n 2, 1) := by decide +kernel
theorem dX6_axisAt_1 : decode cX6_axisAt 1 = .ok (.ifCond .eq 10, 3) := by decide +kernel
theorem dX6_axisAt_4 : decode cX6_axisAt 4 = .ok (.aload_n 0, 1) := by decide +kernel
theorem dX6_axisAt_5 : decode cX6_axisAt 5 = .ok (.getfield 24, 3) := by decide +kernel
theorem dX6_axisAt_8 : decode cX6_axisAt 8 = .ok (.goto 7, 3) := by decide +kernel
theorem dX6_axisAt_11 : decode cX6_axisAt 11 = .ok (.aload_n 0, 1) := by decide +kernel
theorem dX6_axisAt_12 : decode cX6_axisAt 12 = .ok (.getfield 20, 3) := by decide +kernel
theorem dX6_axisAt_15 : decode cX6_axisAt 15 = .ok (.astore_n 3, 1) := by decide +kernel
theorem dX6_axisAt_16 : decode cX6_axisAt 16 = .ok (.lconst 0, 1) := by decide +kernel
theorem dX6_axisAt_17 : decode cX6_axisAt 17 = .ok (.lstore 4, 2) := by decide +kernel
theorem dX6_axisAt_19 : decode cX6_axisAt 19 = .ok (.lconst 0, 1) := by decide +kernel
theorem dX6_axisAt_20 : decode cX6_axisAt 20 = .ok (.lstore 6, 2) := by decide +kernel
theorem dX6_axisAt_22 : decode cX6_axisAt 22 = .ok (.lconst 0, 1) := by decide +kernel
theorem dX6_axisAt_23 : decode cX6_axisAt 23 = .ok (.lstore 8, 2) := by decide +kernel
theorem dX6_axisAt_25 : decode cX6_axisAt 25 = .ok (.lconst 0, 1) := by decide +kernel
theorem dX6_axisAt_26 : decode cX6_axisAt 26 = .ok (.lstore 10, 2) := by decide +kernel
theorem dX6_axisAt_28 : decode cX6_axisAt 28 = .ok (.iconst 0, 1) := by decide +kernel
theorem dX6_axisAt_29 : decode cX6_axisAt 29 = .ok (.istore 12, 2) := by decide +kernel
theorem dX6_axisAt_31 : decode cX6_axisAt 31 = .ok (.iload 12, 2) := by decide +kernel
theorem dX6_axisAt_33 : decode cX6_axisAt 33 = .ok (.aload_n 0, 1) := by decide +kernel
theorem dX6_axisAt_34 : decode cX6_axisAt 34 = .ok (.getfield 30, 3) := by decide +kernel
theorem dX6_axisAt_37 : decode cX6_axisAt 37 = .ok (.if_icmp .ge 57, 3) := by decide +kernel
theorem dX6_axisAt_40 : decode cX6_axisAt 40 = .ok (.aload_n 0, 1) := by decide +kernel
theorem dX6_axisAt_41 : decode cX6_axisAt 41 = .ok (.getfield 16, 3) := by decide +kernel
theorem dX6_axisAt_44 : decode cX6_axisAt 44 = .ok (.iload 12, 2) := by decide +kernel
theorem dX6_axisAt_46 : decode cX6_axisAt 46 = .ok (.iaload, 1) := by decide +kernel
theorem dX6_axisAt_47 : decode cX6_axisAt 47 = .ok (.i2l, 1) := by decide +kernel
theorem dX6_axisAt_48 : decode cX6_axisAt 48 = .ok (.lstore 13, 2) := by decide +kernel
theorem dX6_axisAt_50 : decode cX6_axisAt 50 = .ok (.lload 4, 2) := by decide +kernel
theorem dX6_axisAt_52 : decode cX6_axisAt 52 = .ok (.lload 13, 2) := by decide +kernel
theorem dX6_axisAt_54 : decode cX6_axisAt 54 = .ok (.ladd, 1) := by decide +kernel
theorem dX6_axisAt_55 : decode cX6_axisAt 55 = .ok (.lstore 4, 2) := by decide +kernel
theorem dX6_axisAt_57 : decode cX6_axisAt 57 = .ok (.lload 6, 2) := by decide +kernel
theorem dX6_axisAt_59 : decode cX6_axisAt 59 = .ok (.lload 13, 2) := by decide +kernel
theorem dX6_axisAt_61 : decode cX6_axisAt 61 = .ok (.lload 13, 2) := by decide +kernel
theorem dX6_axisAt_63 : decode cX6_axisAt 63 = .ok (.lmul, 1) := by decide +kernel
theorem dX6_axisAt_64 : decode cX6_axisAt 64 = .ok (.ladd, 1) := by decide +kernel
theorem dX6_axisAt_65 : decode cX6_axisAt 65 = .ok (.lstore 6, 2) := by decide +kernel
theorem dX6_axisAt_67 : decode cX6_axisAt 67 = .ok (.lload 8, 2) := by decide +kernel
theorem dX6_axisAt_69 : decode cX6_axisAt 69 = .ok (.aload_n 3, 1) := by decide +kernel
theorem dX6_axisAt_70 : decode cX6_axisAt 70 = .ok (.iload 12, 2) := by decide +kernel
theorem dX6_axisAt_72 : decode cX6_axisAt 72 = .ok (.laload, 1) := by decide +kernel
theorem dX6_axisAt_73 : decode cX6_axisAt 73 = .ok (.ladd, 1) := by decide +kernel
theorem dX6_axisAt_74 : decode cX6_axisAt 74 = .ok (.lstore 8, 2) := by decide +kernel
theorem dX6_axisAt_76 : decode cX6_axisAt 76 = .ok (.lload 10, 2) := by decide +kernel
theorem dX6_axisAt_78 : decode cX6_axisAt 78 = .ok (.lload 13, 2) := by decide +kernel
theorem dX6_axisAt_80 : decode cX6_axisAt 80 = .ok (.aload_n 3, 1) := by decide +kernel
theorem dX6_axisAt_81 : decode cX6_axisAt 81 = .ok (.iload 12, 2) := by decide +kernel
theorem dX6_axisAt_83 : decode cX6_axisAt 83 = .ok (.laload, 1) := by decide +kernel
theorem dX6_axisAt_84 : decode cX6_axisAt 84 = .ok (.lmul, 1) := by decide +kernel
theorem dX6_axisAt_85 : decode cX6_axisAt 85 = .ok (.ladd, 1) := by decide +kernel
theorem dX6_axisAt_86 : decode cX6_axisAt 86 = .ok (.lstore 10, 2) := by decide +kernel
theorem dX6_axisAt_88 : decode cX6_axisAt 88 = .ok (.iinc 12 1, 3) := by decide +kernel
theorem dX6_axisAt_91 : decode cX6_axisAt 91 = .ok (.goto (-60), 3) := by decide +kernel
theorem dX6_axisAt_94 : decode cX6_axisAt 94 = .ok (.aload_n 0, 1) := by decide +kernel
theorem dX6_axisAt_95 : decode cX6_axisAt 95 = .ok (.getfield 30, 3) := by decide +kernel
theorem dX6_axisAt_98 : decode cX6_axisAt 98 = .ok (.i2l, 1) := by decide +kernel
theorem dX6_axisAt_99 : decode cX6_axisAt 99 = .ok (.lload 10, 2) := by decide +kernel
theorem dX6_axisAt_101 : decode cX6_axisAt 101 = .ok (.lmul, 1) := by decide +kernel
theorem dX6_axisAt_102 : decode cX6_axisAt 102 = .ok (.lload 4, 2) := by decide +kernel
theorem dX6_axisAt_104 : decode cX6_axisAt 104 = .ok (.lload 8, 2) := by decide +kernel
theorem dX6_axisAt_106 : decode cX6_axisAt 106 = .ok (.lmul, 1) := by decide +kernel
theorem dX6_axisAt_107 : decode cX6_axisAt 107 = .ok (.lsub, 1) := by decide +kernel
theorem dX6_axisAt_108 : decode cX6_axisAt 108 = .ok (.lstore 12, 2) := by decide +kernel
theorem dX6_axisAt_110 : decode cX6_axisAt 110 = .ok (.lload 6, 2) := by decide +kernel
theorem dX6_axisAt_112 : decode cX6_axisAt 112 = .ok (.lload 8, 2) := by decide +kernel
theorem dX6_axisAt_114 : decode cX6_axisAt 114 = .ok (.lmul, 1) := by decide +kernel
theorem dX6_axisAt_115 : decode cX6_axisAt 115 = .ok (.lload 4, 2) := by decide +kernel
theorem dX6_axisAt_117 : decode cX6_axisAt 117 = .ok (.lload 10, 2) := by decide +kernel
theorem dX6_axisAt_119 : decode cX6_axisAt 119 = .ok (.lmul, 1) := by decide +kernel
theorem dX6_axisAt_120 : decode cX6_axisAt 120 = .ok (.lsub, 1) := by decide +kernel
theorem dX6_axisAt_121 : decode cX6_axisAt 121 = .ok (.iload_n 1, 1) := by decide +kernel
theorem dX6_axisAt_122 : decode cX6_axisAt 122 = .ok (.i2l, 1) := by decide +kernel
theorem dX6_axisAt_123 : decode cX6_axisAt 123 = .ok (.lload 12, 2) := by decide +kernel
theorem dX6_axisAt_125 : decode cX6_axisAt 125 = .ok (.lmul, 1) := by decide +kernel
theorem dX6_axisAt_126 : decode cX6_axisAt 126 = .ok (.ladd, 1) := by decide +kernel
theorem dX6_axisAt_127 : decode cX6_axisAt 127 = .ok (.aload_n 0, 1) := by decide +kernel
theorem dX6_axisAt_128 : decode cX6_axisAt 128 = .ok (.getfield 30, 3) := by decide +kernel
theorem dX6_axisAt_131 : decode cX6_axisAt 131 = .ok (.i2l, 1) := by decide +kernel
theorem dX6_axisAt_132 : decode cX6_axisAt 132 = .ok (.lload 6, 2) := by decide +kernel
theorem dX6_axisAt_134 : decode cX6_axisAt 134 = .ok (.lmul, 1) := by decide +kernel
theorem dX6_axisAt_135 : decode cX6_axisAt 135 = .ok (.lload 4, 2) := by decide +kernel
theorem dX6_axisAt_137 : decode cX6_axisAt 137 = .ok (.lload 4, 2) := by decide +kernel
theorem dX6_axisAt_139 : decode cX6_axisAt 139 = .ok (.lmul, 1) := by decide +kernel
theorem dX6_axisAt_140 : decode cX6_axisAt 140 = .ok (.lsub, 1) := by decide +kernel
theorem dX6_axisAt_141 : decode cX6_axisAt 141 = .ok (.invokestatic 48, 3) := by decide +kernel
theorem dX6_axisAt_144 : decode cX6_axisAt 144 = .ok (.lreturn, 1) := by decide +kernel
set_option maxRecDepth 100000 in
set_option maxHeartbeats 4000000 in
theorem m_X6_axisAt {l : Launch} {G : z_Gl} {σ : z_St} (w : Nat) (hw : σ.1 32 5 = nI w) (hw6 : w ≤ 6) (x : Int32) (t : Nat) (ht : t < 2) (hpos : 0 < z_den (σ.1 40) w) : z_M l G yX6_axisAt cX6_axisAt 15 (some .long) (z_rm 2 48) [.ref (z_ad G 32), .int x, .int (nI t)] σ (z_p1 (.long (z_ax (σ.1 40) (σ.2 (41 + t)) w x)) σ) := by
  refine z_M.of (by decide) (Nat.le_of_ble_eq_true rfl) (fun p e s m below meth c C => ?_)
  refine z_sub [0, 1, 2] (lv1 := [(0, .ref (z_ad G 32)), (1, .int x), (2, .int (nI t))]) rfl ?_
  refine z_iload_n 0 C dX6_axisAt_0 2 rfl ?_
  refine z_if_eq 1 C 11 dX6_axisAt_1 (by decide) (fun c1 => ?_) (fun c1 => ?_)
  · skip
    have et : t = 0 := (z_nI0 (by omega)).mp c1
    subst et
    refine z_aload_n 11 C dX6_axisAt_11 0 rfl ?_
    refine z_getf 12 C 32 z_dX6 (⟨rfl, rfl⟩) 2 (by decide) q202 (.ref (z_ad G 41)) rfl dX6_axisAt_12 ?_
    refine z_astore_n 15 C dX6_axisAt_15 [(3, .ref (z_ad G 41)), (0, .ref (z_ad G 32)), (1, .int x), (2, .int (nI 0))] (by decide) rfl ?_
    refine z_lconst 16 C dX6_axisAt_16 0 rfl ?_
    refine z_lstore 17 C dX6_axisAt_17 [(4, .long 0), (3, .ref (z_ad G 41)), (0, .ref (z_ad G 32)), (1, .int x), (2, .int (nI 0))] (by decide) rfl ?_
    refine z_lconst 19 C dX6_axisAt_19 0 rfl ?_
    refine z_lstore 20 C dX6_axisAt_20 [(6, .long 0), (4, .long 0), (3, .ref (z_ad G 41)), (0, .ref (z_ad G 32)), (1, .int x), (2, .int (nI 0))] (by decide) rfl ?_
    refine z_lconst 22 C dX6_axisAt_22 0 rfl ?_
    refine z_lstore 23 C dX6_axisAt_23 [(8, .long 0), (6, .long 0), (4, .long 0), (3, .ref (z_ad G 41)), (0, .ref (z_ad G 32)), (1, .int x), (2, .int (nI 0))] (by decide) rfl ?_
    refine z_lconst 25 C dX6_axisAt_25 0 rfl ?_
    refine z_lstore 26 C dX6_axisAt_26 [(10, .long 0), (8, .long 0), (6, .long 0), (4, .long 0), (3, .ref (z_ad G 41)), (0, .ref (z_ad G 32)), (1, .int x), (2, .int (nI 0))] (by decide) rfl ?_
    refine z_iconst 28 C dX6_axisAt_28 (nI 0) rfl ?_
    refine z_istore 29 C dX6_axisAt_29 [(12, .int (nI 0)), (10, .long 0), (8, .long 0), (6, .long 0), (4, .long 0), (3, .ref (z_ad G 41)), (0, .ref (z_ad G 32)), (1, .int x), (2, .int (nI 0))] (by decide) rfl ?_
    refine z_sub [6, 7, 8, 5, 4, 3, 2, 1, 0] (lv1 := [(0, .ref (z_ad G 32)), (1, .int x), (2, .int (nI 0)), (3, .ref (z_ad G 41)), (4, .long 0), (6, .long 0), (8, .long 0), (10, .long 0), (12, .int (nI 0))]) rfl ?_
    refine z_cv (lv1 := [(0, .ref (z_ad G 32)), (1, .int x), (2, .int (nI 0)), (3, .ref (z_ad G 41)), (4, .long (z_hs (σ.1 40) 0)), (6, .long (z_hq (σ.1 40) 0)), (8, .long (z_xs (σ.2 41) 0)), (10, .long (z_hx (σ.1 40) (σ.2 41) 0)), (12, .int (nI 0))]) (st1 := []) (σ1 := σ) rfl rfl rfl ?_
    refine z_lp1 (fun (k : Nat) => k ≤ w) (fun (k : Nat) => w - k) (fun (k : Nat) => [(0, .ref (z_ad G 32)), (1, .int x), (2, .int (nI 0)), (3, .ref (z_ad G 41)), (4, .long (z_hs (σ.1 40) k)), (6, .long (z_hq (σ.1 40) k)), (8, .long (z_xs (σ.2 41) k)), (10, .long (z_hx (σ.1 40) (σ.2 41) k)), (12, .int (nI k))]) (fun (k : Nat) => σ) (fun k hi_31 ih_31 => ?_) 0 (by omega)
    try dsimp only
    refine z_iload 31 C dX6_axisAt_31 8 rfl ?_
    refine z_aload_n 33 C dX6_axisAt_33 0 rfl ?_
    refine z_getf 34 C 32 z_dX6 (⟨rfl, rfl⟩) 5 (by decide) q208 (.int (nI w)) (z_ci hw) dX6_axisAt_34 ?_
    refine z_icmp_geN 37 C k w rfl rfl (by omega) (by omega) 94 dX6_axisAt_37 (by decide) (fun c37 => ?_) (fun c37 => ?_)
    · skip
      have ek : w = k := by omega
      subst ek
      refine z_aload_n 94 C dX6_axisAt_94 0 rfl ?_
      refine z_getf 95 C 32 z_dX6 (⟨rfl, rfl⟩) 5 (by decide) q208 (.int (nI w)) (z_ci hw) dX6_axisAt_95 ?_
      refine z_i2l 98 C dX6_axisAt_98 ?_
      refine z_cv (lv1 := [(0, .ref (z_ad G 32)), (1, .int x), (2, .int (nI 0)), (3, .ref (z_ad G 41)), (4, .long (z_hs (σ.1 40) w)), (6, .long (z_hq (σ.1 40) w)), (8, .long (z_xs (σ.2 41) w)), (10, .long (z_hx (σ.1 40) (σ.2 41) w)), (12, .int (nI w))]) (st1 := [.long (lN w)]) (σ1 := σ) rfl (by rw [nI_l (by omega)]) rfl ?_
      refine z_lload 99 C dX6_axisAt_99 7 rfl ?_
      refine z_lmul 101 C dX6_axisAt_101 ?_
      refine z_lload 102 C dX6_axisAt_102 4 rfl ?_
      refine z_lload 104 C dX6_axisAt_104 6 rfl ?_
      refine z_lmul 106 C dX6_axisAt_106 ?_
      refine z_lsub 107 C dX6_axisAt_107 ?_
      refine z_lstore 108 C dX6_axisAt_108 [(12, .long (((lN w) * (z_hx (σ.1 40) (σ.2 41) w)) - ((z_hs (σ.1 40) w) * (z_xs (σ.2 41) w)))), (0, .ref (z_ad G 32)), (1, .int x), (2, .int (nI 0)), (3, .ref (z_ad G 41)), (4, .long (z_hs (σ.1 40) w)), (6, .long (z_hq (σ.1 40) w)), (8, .long (z_xs (σ.2 41) w)), (10, .long (z_hx (σ.1 40) (σ.2 41) w))] (by decide) rfl ?_
      refine z_lload 110 C dX6_axisAt_110 6 rfl ?_
      refine z_lload 112 C dX6_axisAt_112 7 rfl ?_
      refine z_lmul 114 C dX6_axisAt_114 ?_
      refine z_lload 115 C dX6_axisAt_115 5 rfl ?_
      refine z_lload 117 C dX6_axisAt_117 8 rfl ?_
      refine z_lmul 119 C dX6_axisAt_119 ?_
      refine z_lsub 120 C dX6_axisAt_120 ?_
      refine z_iload_n 121 C dX6_axisAt_121 2 rfl ?_
      refine z_i2l 122 C dX6_axisAt_122 ?_
      refine z_lload 123 C dX6_axisAt_123 0 rfl ?_
      refine z_lmul 125 C dX6_axisAt_125 ?_
      refine z_ladd 126 C dX6_axisAt_126 ?_
      refine z_aload_n 127 C dX6_axisAt_127 1 rfl ?_
      refine z_getf 128 C 32 z_dX6 (⟨rfl, rfl⟩) 5 (by decide) q208 (.int (nI w)) (z_ci hw) dX6_axisAt_128 ?_
      refine z_i2l 131 C dX6_axisAt_131 ?_
      refine z_cv (lv1 := [(12, .long (((lN w) * (z_hx (σ.1 40) (σ.2 41) w)) - ((z_hs (σ.1 40) w) * (z_xs (σ.2 41) w)))), (0, .ref (z_ad G 32)), (1, .int x), (2, .int (nI 0)), (3, .ref (z_ad G 41)), (4, .long (z_hs (σ.1 40) w)), (6, .long (z_hq (σ.1 40) w)), (8, .long (z_xs (σ.2 41) w)), (10, .long (z_hx (σ.1 40) (σ.2 41) w))]) (st1 := [.long (lN w), .long ((((z_hq (σ.1 40) w) * (z_xs (σ.2 41) w)) - ((z_hs (σ.1 40) w) * (z_hx (σ.1 40) (σ.2 41) w))) + ((Int32.toInt64 x) * (((lN w) * (z_hx (σ.1 40) (σ.2 41) w)) - ((z_hs (σ.1 40) w) * (z_xs (σ.2 41) w)))))]) (σ1 := σ) rfl (by rw [nI_l (by omega)]) rfl ?_
      refine z_lload 132 C dX6_axisAt_132 6 rfl ?_
      refine z_lmul 134 C dX6_axisAt_134 ?_
      refine z_lload 135 C dX6_axisAt_135 5 rfl ?_
      refine z_lload 137 C dX6_axisAt_137 5 rfl ?_
      refine z_lmul 139 C dX6_axisAt_139 ?_
      refine z_lsub 140 C dX6_axisAt_140 ?_
      refine z_callSN 141 C (As := [.long ((((z_hq (σ.1 40) w) * (z_xs (σ.2 41) w)) - ((z_hs (σ.1 40) w) * (z_hx (σ.1 40) (σ.2 41) w))) + ((Int32.toInt64 x) * (((lN w) * (z_hx (σ.1 40) (σ.2 41) w)) - ((z_hs (σ.1 40) w) * (z_xs (σ.2 41) w))))), .long (((lN w) * (z_hq (σ.1 40) w)) - ((z_hs (σ.1 40) w) * (z_hs (σ.1 40) w)))]) (rest := []) (m_X7_divide ((((z_hq (σ.1 40) w) * (z_xs (σ.2 41) w)) - ((z_hs (σ.1 40) w) * (z_hx (σ.1 40) (σ.2 41) w))) + ((Int32.toInt64 x) * (((lN w) * (z_hx (σ.1 40) (σ.2 41) w)) - ((z_hs (σ.1 40) w) * (z_xs (σ.2 41) w))))) (((lN w) * (z_hq (σ.1 40) w)) - ((z_hs (σ.1 40) w) * (z_hs (σ.1 40) w))) (hpos)) k_X7_divide (List.mem_of_getElem? (i := 45) rfl) ⟨rfl, rfl⟩ ⟨Nat.le_of_ble_eq_true rfl, Nat.le_of_ble_eq_true rfl⟩ rfl (Nat.le_of_ble_eq_true rfl) ⟨Nat.le_of_ble_eq_true rfl, Nat.le_of_ble_eq_true rfl⟩ rfl dX6_axisAt_141 (z_k1 ?_)
      refine z_lret 144 C dX6_axisAt_144 ?_
      exact ⟨rfl, rfl⟩
    · skip
      refine z_aload_n 40 C dX6_axisAt_40 0 rfl ?_
      refine z_getf 41 C 32 z_dX6 (⟨rfl, rfl⟩) 1 (by decide) q200 (.ref (z_ad G 40)) rfl dX6_axisAt_41 ?_
      refine z_iload 44 C dX6_axisAt_44 8 rfl ?_
      refine z_ialdN 46 C 40 (n := 6) (⟨rfl, rfl⟩) k rfl (by omega) (by decide) dX6_axisAt_46 ?_
      refine z_i2l 47 C dX6_axisAt_47 ?_
      refine z_lstore 48 C dX6_axisAt_48 [(13, .long (Int32.toInt64 (σ.1 40 k))), (0, .ref (z_ad G 32)), (1, .int x), (2, .int (nI 0)), (3, .ref (z_ad G 41)), (4, .long (z_hs (σ.1 40) k)), (6, .long (z_hq (σ.1 40) k)), (8, .long (z_xs (σ.2 41) k)), (10, .long (z_hx (σ.1 40) (σ.2 41) k)), (12, .int (nI k))] (by decide) rfl ?_
      refine z_lload 50 C dX6_axisAt_50 5 rfl ?_
      refine z_lload 52 C dX6_axisAt_52 0 rfl ?_
      refine z_ladd 54 C dX6_axisAt_54 ?_
      refine z_lstore 55 C dX6_axisAt_55 [(4, .long ((z_hs (σ.1 40) k) + (Int32.toInt64 (σ.1 40 k)))), (13, .long (Int32.toInt64 (σ.1 40 k))), (0, .ref (z_ad G 32)), (1, .int x), (2, .int (nI 0)), (3, .ref (z_ad G 41)), (6, .long (z_hq (σ.1 40) k)), (8, .long (z_xs (σ.2 41) k)), (10, .long (z_hx (σ.1 40) (σ.2 41) k)), (12, .int (nI k))] (by decide) rfl ?_
      refine z_lload 57 C dX6_axisAt_57 6 rfl ?_
      refine z_lload 59 C dX6_axisAt_59 1 rfl ?_
      refine z_lload 61 C dX6_axisAt_61 1 rfl ?_
      refine z_lmul 63 C dX6_axisAt_63 ?_
      refine z_ladd 64 C dX6_axisAt_64 ?_
      refine z_lstore 65 C dX6_axisAt_65 [(6, .long ((z_hq (σ.1 40) k) + ((Int32.toInt64 (σ.1 40 k)) * (Int32.toInt64 (σ.1 40 k))))), (4, .long ((z_hs (σ.1 40) k) + (Int32.toInt64 (σ.1 40 k)))), (13, .long (Int32.toInt64 (σ.1 40 k))), (0, .ref (z_ad G 32)), (1, .int x), (2, .int (nI 0)), (3, .ref (z_ad G 41)), (8, .long (z_xs (σ.2 41) k)), (10, .long (z_hx (σ.1 40) (σ.2 41) k)), (12, .int (nI k))] (by decide) rfl ?_
      refine z_lload 67 C dX6_axisAt_67 7 rfl ?_
      refine z_aload_n 69 C dX6_axisAt_69 6 rfl ?_
      refine z_iload 70 C dX6_axisAt_70 9 rfl ?_
      refine z_laldN 72 C 41 (n := 6) (⟨rfl, rfl⟩) k rfl (by omega) (by decide) dX6_axisAt_72 ?_
      refine z_ladd 73 C dX6_axisAt_73 ?_
      refine z_lstore 74 C dX6_axisAt_74 [(8, .long ((z_xs (σ.2 41) k) + (σ.2 41 k))), (6, .long ((z_hq (σ.1 40) k) + ((Int32.toInt64 (σ.1 40 k)) * (Int32.toInt64 (σ.1 40 k))))), (4, .long ((z_hs (σ.1 40) k) + (Int32.toInt64 (σ.1 40 k)))), (13, .long (Int32.toInt64 (σ.1 40 k))), (0, .ref (z_ad G 32)), (1, .int x), (2, .int (nI 0)), (3, .ref (z_ad G 41)), (10, .long (z_hx (σ.1 40) (σ.2 41) k)), (12, .int (nI k))] (by decide) rfl ?_
      refine z_lload 76 C dX6_axisAt_76 8 rfl ?_
      refine z_lload 78 C dX6_axisAt_78 3 rfl ?_
      refine z_aload_n 80 C dX6_axisAt_80 7 rfl ?_
      refine z_iload 81 C dX6_axisAt_81 9 rfl ?_
      refine z_laldN 83 C 41 (n := 6) (⟨rfl, rfl⟩) k rfl (by omega) (by decide) dX6_axisAt_83 ?_
      refine z_lmul 84 C dX6_axisAt_84 ?_
      refine z_ladd 85 C dX6_axisAt_85 ?_
      refine z_lstore 86 C dX6_axisAt_86 [(10, .long ((z_hx (σ.1 40) (σ.2 41) k) + ((Int32.toInt64 (σ.1 40 k)) * (σ.2 41 k)))), (8, .long ((z_xs (σ.2 41) k) + (σ.2 41 k))), (6, .long ((z_hq (σ.1 40) k) + ((Int32.toInt64 (σ.1 40 k)) * (Int32.toInt64 (σ.1 40 k))))), (4, .long ((z_hs (σ.1 40) k) + (Int32.toInt64 (σ.1 40 k)))), (13, .long (Int32.toInt64 (σ.1 40 k))), (0, .ref (z_ad G 32)), (1, .int x), (2, .int (nI 0)), (3, .ref (z_ad G 41)), (12, .int (nI k))] (by decide) rfl ?_
      refine z_iincN 88 C 9 k [(12, .int (nI (k + 1))), (10, .long ((z_hx (σ.1 40) (σ.2 41) k) + ((Int32.toInt64 (σ.1 40 k)) * (σ.2 41 k)))), (8, .long ((z_xs (σ.2 41) k) + (σ.2 41 k))), (6, .long ((z_hq (σ.1 40) k) + ((Int32.toInt64 (σ.1 40 k)) * (Int32.toInt64 (σ.1 40 k))))), (4, .long ((z_hs (σ.1 40) k) + (Int32.toInt64 (σ.1 40 k)))), (13, .long (Int32.toInt64 (σ.1 40 k))), (0, .ref (z_ad G 32)), (1, .int x), (2, .int (nI 0)), (3, .ref (z_ad G 41))] rfl rfl (by decide) rfl dX6_axisAt_88 ?_
      refine z_goto 91 C 31 dX6_axisAt_91 (by decide) ?_
      refine z_sub [6, 7, 8, 9, 4, 3, 2, 1, 0] (lv1 := [(0, .ref (z_ad G 32)), (1, .int x), (2, .int (nI 0)), (3, .ref (z_ad G 41)), (4, .long ((z_hs (σ.1 40) k) + (Int32.toInt64 (σ.1 40 k)))), (6, .long ((z_hq (σ.1 40) k) + ((Int32.toInt64 (σ.1 40 k)) * (Int32.toInt64 (σ.1 40 k))))), (8, .long ((z_xs (σ.2 41) k) + (σ.2 41 k))), (10, .long ((z_hx (σ.1 40) (σ.2 41) k) + ((Int32.toInt64 (σ.1 40 k)) * (σ.2 41 k)))), (12, .int (nI (k + 1)))]) rfl ?_
      refine z_cv (lv1 := [(0, .ref (z_ad G 32)), (1, .int x), (2, .int (nI 0)), (3, .ref (z_ad G 41)), (4, .long (z_hs (σ.1 40) (k + 1))), (6, .long (z_hq (σ.1 40) (k + 1))), (8, .long (z_xs (σ.2 41) (k + 1))), (10, .long (z_hx (σ.1 40) (σ.2 41) (k + 1))), (12, .int (nI (k + 1)))]) (st1 := []) (σ1 := σ) rfl rfl rfl ?_
      exact ih_31 (k + 1) (by omega) (by omega)
  · skip
    have et : t = 1 := by
      have : ¬ t = 0 := fun z => c1 ((z_nI0 (t := t) (by omega)).mpr z)
      omega
    subst et
    refine z_aload_n 4 C dX6_axisAt_4 0 rfl ?_
    refine z_getf 5 C 32 z_dX6 (⟨rfl, rfl⟩) 3 (by decide) q204 (.ref (z_ad G 42)) rfl dX6_axisAt_5 ?_
    refine z_goto 8 C 15 dX6_axisAt_8 (by decide) ?_
    refine z_astore_n 15 C dX6_axisAt_15 [(3, .ref (z_ad G 42)), (0, .ref (z_ad G 32)), (1, .int x), (2, .int (nI 1))] (by decide) rfl ?_
    refine z_lconst 16 C dX6_axisAt_16 0 rfl ?_
    refine z_lstore 17 C dX6_axisAt_17 [(4, .long 0), (3, .ref (z_ad G 42)), (0, .ref (z_ad G 32)), (1, .int x), (2, .int (nI 1))] (by decide) rfl ?_
    refine z_lconst 19 C dX6_axisAt_19 0 rfl ?_
    refine z_lstore 20 C dX6_axisAt_20 [(6, .long 0), (4, .long 0), (3, .ref (z_ad G 42)), (0, .ref (z_ad G 32)), (1, .int x), (2, .int (nI 1))] (by decide) rfl ?_
    refine z_lconst 22 C dX6_axisAt_22 0 rfl ?_
    refine z_lstore 23 C dX6_axisAt_23 [(8, .long 0), (6, .long 0), (4, .long 0), (3, .ref (z_ad G 42)), (0, .ref (z_ad G 32)), (1, .int x), (2, .int (nI 1))] (by decide) rfl ?_
    refine z_lconst 25 C dX6_axisAt_25 0 rfl ?_
    refine z_lstore 26 C dX6_axisAt_26 [(10, .long 0), (8, .long 0), (6, .long 0), (4, .long 0), (3, .ref (z_ad G 42)), (0, .ref (z_ad G 32)), (1, .int x), (2, .int (nI 1))] (by decide) rfl ?_
    refine z_iconst 28 C dX6_axisAt_28 (nI 0) rfl ?_
    refine z_istore 29 C dX6_axisAt_29 [(12, .int (nI 0)), (10, .long 0), (8, .long 0), (6, .long 0), (4, .long 0), (3, .ref (z_ad G 42)), (0, .ref (z_ad G 32)), (1, .int x), (2, .int (nI 1))] (by decide) rfl ?_
    refine z_sub [6, 7, 8, 5, 4, 3, 2, 1, 0] (lv1 := [(0, .ref (z_ad G 32)), (1, .int x), (2, .int (nI 1)), (3, .ref (z_ad G 42)), (4, .long 0), (6, .long 0), (8, .long 0), (10, .long 0), (12, .int (nI 0))]) rfl ?_
    refine z_cv (lv1 := [(0, .ref (z_ad G 32)), (1, .int x), (2, .int (nI 1)), (3, .ref (z_ad G 42)), (4, .long (z_hs (σ.1 40) 0)), (6, .long (z_hq (σ.1 40) 0)), (8, .long (z_xs (σ.2 42) 0)), (10, .long (z_hx (σ.1 40) (σ.2 42) 0)), (12, .int (nI 0))]) (st1 := []) (σ1 := σ) rfl rfl rfl ?_
    refine z_lp1 (fun (k : Nat) => k ≤ w) (fun (k : Nat) => w - k) (fun (k : Nat) => [(0, .ref (z_ad G 32)), (1, .int x), (2, .int (nI 1)), (3, .ref (z_ad G 42)), (4, .long (z_hs (σ.1 40) k)), (6, .long (z_hq (σ.1 40) k)), (8, .long (z_xs (σ.2 42) k)), (10, .long (z_hx (σ.1 40) (σ.2 42) k)), (12, .int (nI k))]) (fun (k : Nat) => σ) (fun k hi_31 ih_31 => ?_) 0 (by omega)
    try dsimp only
    refine z_iload 31 C dX6_axisAt_31 8 rfl ?_
    refine z_aload_n 33 C dX6_axisAt_33 0 rfl ?_
    refine z_getf 34 C 32 z_dX6 (⟨rfl, rfl⟩) 5 (by decide) q208 (.int (nI w)) (z_ci hw) dX6_axisAt_34 ?_
    refine z_icmp_geN 37 C k w rfl rfl (by omega) (by omega) 94 dX6_axisAt_37 (by decide) (fun c37 => ?_) (fun c37 => ?_)
    · skip
      have ek : w = k := by omega
      subst ek
      refine z_aload_n 94 C dX6_axisAt_94 0 rfl ?_
      refine z_getf 95 C 32 z_dX6 (⟨rfl, rfl⟩) 5 (by decide) q208 (.int (nI w)) (z_ci hw) dX6_axisAt_95 ?_
      refine z_i2l 98 C dX6_axisAt_98 ?_
      refine z_cv (lv1 := [(0, .ref (z_ad G 32)), (1, .int x), (2, .int (nI 1)), (3, .ref (z_ad G 42)), (4, .long (z_hs (σ.1 40) w)), (6, .long (z_hq (σ.1 40) w)), (8, .long (z_xs (σ.2 42) w)), (10, .long (z_hx (σ.1 40) (σ.2 42) w)), (12, .int (nI w))]) (st1 := [.long (lN w)]) (σ1 := σ) rfl (by rw [nI_l (by omega)]) rfl ?_
      refine z_lload 99 C dX6_axisAt_99 7 rfl ?_
      refine z_lmul 101 C dX6_axisAt_101 ?_
      refine z_lload 102 C dX6_axisAt_102 4 rfl ?_
      refine z_lload 104 C dX6_axisAt_104 6 rfl ?_
      refine z_lmul 106 C dX6_axisAt_106 ?_
      refine z_lsub 107 C dX6_axisAt_107 ?_
      refine z_lstore 108 C dX6_axisAt_108 [(12, .long (((lN w) * (z_hx (σ.1 40) (σ.2 42) w)) - ((z_hs (σ.1 40) w) * (z_xs (σ.2 42) w)))), (0, .ref (z_ad G 32)), (1, .int x), (2, .int (nI 1)), (3, .ref (z_ad G 42)), (4, .long (z_hs (σ.1 40) w)), (6, .long (z_hq (σ.1 40) w)), (8, .long (z_xs (σ.2 42) w)), (10, .long (z_hx (σ.1 40) (σ.2 42) w))] (by decide) rfl ?_
      refine z_lload 110 C dX6_axisAt_110 6 rfl ?_
      refine z_lload 112 C dX6_axisAt_112 7 rfl ?_
      refine z_lmul 114 C dX6_axisAt_114 ?_
      refine z_lload 115 C dX6_axisAt_115 5 rfl ?_
      refine z_lload 117 C dX6_axisAt_117 8 rfl ?_
      refine z_lmul 119 C dX6_axisAt_119 ?_
      refine z_lsub 120 C dX6_axisAt_120 ?_
      refine z_iload_n 121 C dX6_axisAt_121 2 rfl ?_
      refine z_i2l 122 C dX6_axisAt_122 ?_
      refine z_lload 123 C dX6_axisAt_123 0 rfl ?_
      refine z_lmul 125 C dX6_axisAt_125 ?_
      refine z_ladd 126 C dX6_axisAt_126 ?_
      refine z_aload_n 127 C dX6_axisAt_127 1 rfl ?_
      refine z_getf 128 C 32 z_dX6 (⟨rfl, rfl⟩) 5 (by decide) q208 (.int (nI w)) (z_ci hw) dX6_axisAt_128 ?_
      refine z_i2l 131 C dX6_axisAt_131 ?_
      refine z_cv (lv1 := [(12, .long (((lN w) * (z_hx (σ.1 40) (σ.2 42) w)) - ((z_hs (σ.1 40) w) * (z_xs (σ.2 42) w)))), (0, .ref (z_ad G 32)), (1, .int x), (2, .int (nI 1)), (3, .ref (z_ad G 42)), (4, .long (z_hs (σ.1 40) w)), (6, .long (z_hq (σ.1 40) w)), (8, .long (z_xs (σ.2 42) w)), (10, .long (z_hx (σ.1 40) (σ.2 42) w))]) (st1 := [.long (lN w), .long ((((z_hq (σ.1 40) w) * (z_xs (σ.2 42) w)) - ((z_hs (σ.1 40) w) * (z_hx (σ.1 40) (σ.2 42) w))) + ((Int32.toInt64 x) * (((lN w) * (z_hx (σ.1 40) (σ.2 42) w)) - ((z_hs (σ.1 40) w) * (z_xs (σ.2 42) w)))))]) (σ1 := σ) rfl (by rw [nI_l (by omega)]) rfl ?_
      refine z_lload 132 C dX6_axisAt_132 6 rfl ?_
      refine z_lmul 134 C dX6_axisAt_134 ?_
      refine z_lload 135 C dX6_axisAt_135 5 rfl ?_
      refine z_lload 137 C dX6_axisAt_137 5 rfl ?_
      refine z_lmul 139 C dX6_axisAt_139 ?_
      refine z_lsub 140 C dX6_axisAt_140 ?_
      refine z_callSN 141 C (As := [.long ((((z_hq (σ.1 40) w) * (z_xs (σ.2 42) w)) - ((z_hs (σ.1 40) w) * (z_hx (σ.1 40) (σ.2 42) w))) + ((Int32.toInt64 x) * (((lN w) * (z_hx (σ.1 40) (σ.2 42) w)) - ((z_hs (σ.1 40) w) * (z_xs (σ.2 42) w))))), .long (((lN w) * (z_hq (σ.1 40) w)) - ((z_hs (σ.1 40) w) * (z_hs (σ.1 40) w)))]) (rest := []) (m_X7_divide ((((z_hq (σ.1 40) w) * (z_xs (σ.2 42) w)) - ((z_hs (σ.1 40) w) * (z_hx (σ.1 40) (σ.2 42) w))) + ((Int32.toInt64 x) * (((lN w) * (z_hx (σ.1 40) (σ.2 42) w)) - ((z_hs (σ.1 40) w) * (z_xs (σ.2 42) w))))) (((lN w) * (z_hq (σ.1 40) w)) - ((z_hs (σ.1 40) w) * (z_hs (σ.1 40) w))) (hpos)) k_X7_divide (List.mem_of_getElem? (i := 45) rfl) ⟨rfl, rfl⟩ ⟨Nat.le_of_ble_eq_true rfl, Nat.le_of_ble_eq_true rfl⟩ rfl (Nat.le_of_ble_eq_true rfl) ⟨Nat.le_of_ble_eq_true rfl, Nat.le_of_ble_eq_true rfl⟩ rfl dX6_axisAt_141 (z_k1 ?_)
      refine z_lret 144 C dX6_axisAt_144 ?_
      exact ⟨rfl, rfl⟩
    · skip
      refine z_aload_n 40 C dX6_axisAt_40 0 rfl ?_
      refine z_getf 41 C 32 z_dX6 (⟨rfl, rfl⟩) 1 (by decide) q200 (.ref (z_ad G 40)) rfl dX6_axisAt_41 ?_
      refine z_iload 44 C dX6_axisAt_44 8 rfl ?_
      refine z_ialdN 46 C 40 (n := 6) (⟨rfl, rfl⟩) k rfl (by omega) (by decide) dX6_axisAt_46 ?_
      refine z_i2l 47 C dX6_axisAt_47 ?_
      refine z_lstore 48 C dX6_axisAt_48 [(13, .long (Int32.toInt64 (σ.1 40 k))), (0, .ref (z_ad G 32)), (1, .int x), (2, .int (nI 1)), (3, .ref (z_ad G 42)), (4, .long (z_hs (σ.1 40) k)), (6, .long (z_hq (σ.1 40) k)), (8, .long (z_xs (σ.2 42) k)), (10, .long (z_hx (σ.1 40) (σ.2 42) k)), (12, .int (nI k))] (by decide) rfl ?_
      refine z_lload 50 C dX6_axisAt_50 5 rfl ?_
      refine z_lload 52 C dX6_axisAt_52 0 rfl ?_
      refine z_ladd 54 C dX6_axisAt_54 ?_
      refine z_lstore 55 C dX6_axisAt_55 [(4, .long ((z_hs (σ.1 40) k) + (Int32.toInt64 (σ.1 40 k)))), (13, .long (Int32.toInt64 (σ.1 40 k))), (0, .ref (z_ad G 32)), (1, .int x), (2, .int (nI 1)), (3, .ref (z_ad G 42)), (6, .long (z_hq (σ.1 40) k)), (8, .long (z_xs (σ.2 42) k)), (10, .long (z_hx (σ.1 40) (σ.2 42) k)), (12, .int (nI k))] (by decide) rfl ?_
      refine z_lload 57 C dX6_axisAt_57 6 rfl ?_
      refine z_lload 59 C dX6_axisAt_59 1 rfl ?_
      refine z_lload 61 C dX6_axisAt_61 1 rfl ?_
      refine z_lmul 63 C dX6_axisAt_63 ?_
      refine z_ladd 64 C dX6_axisAt_64 ?_
      refine z_lstore 65 C dX6_axisAt_65 [(6, .long ((z_hq (σ.1 40) k) + ((Int32.toInt64 (σ.1 40 k)) * (Int32.toInt64 (σ.1 40 k))))), (4, .long ((z_hs (σ.1 40) k) + (Int32.toInt64 (σ.1 40 k)))), (13, .long (Int32.toInt64 (σ.1 40 k))), (0, .ref (z_ad G 32)), (1, .int x), (2, .int (nI 1)), (3, .ref (z_ad G 42)), (8, .long (z_xs (σ.2 42) k)), (10, .long (z_hx (σ.1 40) (σ.2 42) k)), (12, .int (nI k))] (by decide) rfl ?_
      refine z_lload 67 C dX6_axisAt_67 7 rfl ?_
      refine z_aload_n 69 C dX6_axisAt_69 6 rfl ?_
      refine z_iload 70 C dX6_axisAt_70 9 rfl ?_
      refine z_laldN 72 C 42 (n := 6) (⟨rfl, rfl⟩) k rfl (by omega) (by decide) dX6_axisAt_72 ?_
      refine z_ladd 73 C dX6_axisAt_73 ?_
      refine z_lstore 74 C dX6_axisAt_74 [(8, .long ((z_xs (σ.2 42) k) + (σ.2 42 k))), (6, .long ((z_hq (σ.1 40) k) + ((Int32.toInt64 (σ.1 40 k)) * (Int32.toInt64 (σ.1 40 k))))), (4, .long ((z_hs (σ.1 40) k) + (Int32.toInt64 (σ.1 40 k)))), (13, .long (Int32.toInt64 (σ.1 40 k))), (0, .ref (z_ad G 32)), (1, .int x), (2, .int (nI 1)), (3, .ref (z_ad G 42)), (10, .long (z_hx (σ.1 40) (σ.2 42) k)), (12, .int (nI k))] (by decide) rfl ?_
      refine z_lload 76 C dX6_axisAt_76 8 rfl ?_
      refine z_lload 78 C dX6_axisAt_78 3 rfl ?_
      refine z_aload_n 80 C dX6_axisAt_80 7 rfl ?_
      refine z_iload 81 C dX6_axisAt_81 9 rfl ?_
      refine z_laldN 83 C 42 (n := 6) (⟨rfl, rfl⟩) k rfl (by omega) (by decide) dX6_axisAt_83 ?_
      refine z_lmul 84 C dX6_axisAt_84 ?_
      refine z_ladd 85 C dX6_axisAt_85 ?_
      refine z_lstore 86 C dX6_axisAt_86 [(10, .long ((z_hx (σ.1 40) (σ.2 42) k) + ((Int32.toInt64 (σ.1 40 k)) * (σ.2 42 k)))), (8, .long ((z_xs (σ.2 42) k) + (σ.2 42 k))), (6, .long ((z_hq (σ.1 40) k) + ((Int32.toInt64 (σ.1 40 k)) * (Int32.toInt64 (σ.1 40 k))))), (4, .long ((z_hs (σ.1 40) k) + (Int32.toInt64 (σ.1 40 k)))), (13, .long (Int32.toInt64 (σ.1 40 k))), (0, .ref (z_ad G 32)), (1, .int x), (2, .int (nI 1)), (3, .ref (z_ad G 42)), (12, .int (nI k))] (by decide) rfl ?_
      refine z_iincN 88 C 9 k [(12, .int (nI (k + 1))), (10, .long ((z_hx (σ.1 40) (σ.2 42) k) + ((Int32.toInt64 (σ.1 40 k)) * (σ.2 42 k)))), (8, .long ((z_xs (σ.2 42) k) + (σ.2 42 k))), (6, .long ((z_hq (σ.1 40) k) + ((Int32.toInt64 (σ.1 40 k)) * (Int32.toInt64 (σ.1 40 k))))), (4, .long ((z_hs (σ.1 40) k) + (Int32.toInt64 (σ.1 40 k)))), (13, .long (Int32.toInt64 (σ.1 40 k))), (0, .ref (z_ad G 32)), (1, .int x), (2, .int (nI 1)), (3, .ref (z_ad G 42))] rfl rfl (by decide) rfl dX6_axisAt_88 ?_
      refine z_goto 91 C 31 dX6_axisAt_91 (by decide) ?_
      refine z_sub [6, 7, 8, 9, 4, 3, 2, 1, 0] (lv1 := [(0, .ref (z_ad G 32)), (1, .int x), (2, .int (nI 1)), (3, .ref (z_ad G 42)), (4, .long ((z_hs (σ.1 40) k) + (Int32.toInt64 (σ.1 40 k)))), (6, .long ((z_hq (σ.1 40) k) + ((Int32.toInt64 (σ.1 40 k)) * (Int32.toInt64 (σ.1 40 k))))), (8, .long ((z_xs (σ.2 42) k) + (σ.2 42 k))), (10, .long ((z_hx (σ.1 40) (σ.2 42) k) + ((Int32.toInt64 (σ.1 40 k)) * (σ.2 42 k)))), (12, .int (nI (k + 1)))]) rfl ?_
      refine z_cv (lv1 := [(0, .ref (z_ad G 32)), (1, .int x), (2, .int (nI 1)), (3, .ref (z_ad G 42)), (4, .long (z_hs (σ.1 40) (k + 1))), (6, .long (z_hq (σ.1 40) (k + 1))), (8, .long (z_xs (σ.2 42) (k + 1))), (10, .long (z_hx (σ.1 40) (σ.2 42) (k + 1))), (12, .int (nI (k + 1)))]) (st1 := []) (σ1 := σ) rfl rfl rfl ?_
      exact ih_31 (k + 1) (by omega) (by omega)
theorem dX6_cylinderWidth_0 : decode cX6_cylinderWidth 0 = .ok (.ldc2_w 54, 3) := by decide +kernel
theorem dX6_cylinderWidth_3 : decode cX6_cylinderWidth 3 = .ok (.lstore_n 1, 1) := by decide +kernel
theorem dX6_cylinderWidth_4 : decode cX6_cylinderWidth 4 = .ok (.ldc2_w 56, 3) := by decide +kernel
theorem dX6_cylinderWidth_7 : decode cX6_cylinderWidth 7 = .ok (.lstore_n 3, 1) := by decide +kernel
theorem dX6_cylinderWidth_8 : decode cX6_cylinderWidth 8 = .ok (.iconst 0, 1) := by decide +kernel
theorem dX6_cylinderWidth_9 : decode cX6_cylinderWidth 9 = .ok (.istore 5, 2) := by decide +kernel
theorem dX6_cylinderWidth_11 : decode cX6_cylinderWidth 11 = .ok (.iload 5, 2) := by decide +kernel
theorem dX6_cylinderWidth_13 : decode cX6_cylinderWidth 13 = .ok (.aload_n 0, 1) := by decide +kernel
theorem dX6_cylinderWidth_14 : decode cX6_cylinderWidth 14 = .ok (.getfield 30, 3) := by decide +kernel
theorem dX6_cylinderWidth_17 : decode cX6_cylinderWidth 17 = .ok (.if_icmp .ge 89, 3) := by decide +kernel
theorem dX6_cylinderWidth_20 : decode cX6_cylinderWidth 20 = .ok (.aload_n 0, 1) := by decide +kernel
theorem dX6_cylinderWidth_21 : decode cX6_cylinderWidth 21 = .ok (.aload_n 0, 1) := by decide +kernel
theorem dX6_cylinderWidth_22 : decode cX6_cylinderWidth 22 = .ok (.getfield 16, 3) := by decide +kernel
theorem dX6_cylinderWidth_25 : decode cX6_cylinderWidth 25 = .ok (.iload 5, 2) := by decide +kernel
theorem dX6_cylinderWidth_27 : decode cX6_cylinderWidth 27 = .ok (.iaload, 1) := by decide +kernel
theorem dX6_cylinderWidth_28 : decode cX6_cylinderWidth 28 = .ok (.iconst 0, 1) := by decide +kernel
theorem dX6_cylinderWidth_29 : decode cX6_cylinderWidth 29 = .ok (.invokevirtual 58, 3) := by decide +kernel
theorem dX6_cylinderWidth_32 : decode cX6_cylinderWidth 32 = .ok (.lstore 6, 2) := by decide +kernel
theorem dX6_cylinderWidth_34 : decode cX6_cylinderWidth 34 = .ok (.aload_n 0, 1) := by decide +kernel
theorem dX6_cylinderWidth_35 : decode cX6_cylinderWidth 35 = .ok (.aload_n 0, 1) := by decide +kernel
theorem dX6_cylinderWidth_36 : decode cX6_cylinderWidth 36 = .ok (.getfield 16, 3) := by decide +kernel
theorem dX6_cylinderWidth_39 : decode cX6_cylinderWidth 39 = .ok (.iload 5, 2) := by decide +kernel
theorem dX6_cylinderWidth_41 : decode cX6_cylinderWidth 41 = .ok (.iaload, 1) := by decide +kernel
theorem dX6_cylinderWidth_42 : decode cX6_cylinderWidth 42 = .ok (.iconst 1, 1) := by decide +kernel
theorem dX6_cylinderWidth_43 : decode cX6_cylinderWidth 43 = .ok (.invokevirtual 58, 3) := by decide +kernel
theorem dX6_cylinderWidth_46 : decode cX6_cylinderWidth 46 = .ok (.lstore 8, 2) := by decide +kernel
theorem dX6_cylinderWidth_48 : decode cX6_cylinderWidth 48 = .ok (.iconst 0, 1) := by decide +kernel
theorem dX6_cylinderWidth_49 : decode cX6_cylinderWidth 49 = .ok (.istore 10, 2) := by decide +kernel
theorem dX6_cylinderWidth_51 : decode cX6_cylinderWidth 51 = .ok (.iload 10, 2) := by decide +kernel
theorem dX6_cylinderWidth_53 : decode cX6_cylinderWidth 53 = .ok (.bipush 24, 2) := by decide +kernel
theorem dX6_cylinderWidth_55 : decode cX6_cylinderWidth 55 = .ok (.if_icmp .ge 45, 3) := by decide +kernel
theorem dX6_cylinderWidth_58 : decode cX6_cylinderWidth 58 = .ok (.aload_n 0, 1) := by decide +kernel
theorem dX6_cylinderWidth_59 : decode cX6_cylinderWidth 59 = .ok (.getfield 13, 3) := by decide +kernel
theorem dX6_cylinderWidth_62 : decode cX6_cylinderWidth 62 = .ok (.iload 5, 2) := by decide +kernel
theorem dX6_cylinderWidth_64 : decode cX6_cylinderWidth 64 = .ok (.aaload, 1) := by decide +kernel
theorem dX6_cylinderWidth_65 : decode cX6_cylinderWidth 65 = .ok (.iload 10, 2) := by decide +kernel
theorem dX6_cylinderWidth_67 : decode cX6_cylinderWidth 67 = .ok (.laload, 1) := by decide +kernel
theorem dX6_cylinderWidth_68 : decode cX6_cylinderWidth 68 = .ok (.lload 6, 2) := by decide +kernel
theorem dX6_cylinderWidth_70 : decode cX6_cylinderWidth 70 = .ok (.lload 8, 2) := by decide +kernel
theorem dX6_cylinderWidth_72 : decode cX6_cylinderWidth 72 = .ok (.iload 10, 2) := by decide +kernel
theorem dX6_cylinderWidth_74 : decode cX6_cylinderWidth 74 = .ok (.invokestatic 62, 3) := by decide +kernel
theorem dX6_cylinderWidth_77 : decode cX6_cylinderWidth 77 = .ok (.lsub, 1) := by decide +kernel
theorem dX6_cylinderWidth_78 : decode cX6_cylinderWidth 78 = .ok (.lstore 11, 2) := by decide +kernel
theorem dX6_cylinderWidth_80 : decode cX6_cylinderWidth 80 = .ok (.lload_n 1, 1) := by decide +kernel
theorem dX6_cylinderWidth_81 : decode cX6_cylinderWidth 81 = .ok (.lload 11, 2) := by decide +kernel
theorem dX6_cylinderWidth_83 : decode cX6_cylinderWidth 83 = .ok (.invokestatic 66, 3) := by decide +kernel
theorem dX6_cylinderWidth_86 : decode cX6_cylinderWidth 86 = .ok (.lstore_n 1, 1) := by decide +kernel
theorem dX6_cylinderWidth_87 : decode cX6_cylinderWidth 87 = .ok (.lload_n 3, 1) := by decide +kernel
theorem dX6_cylinderWidth_88 : decode cX6_cylinderWidth 88 = .ok (.lload 11, 2) := by decide +kernel
theorem dX6_cylinderWidth_90 : decode cX6_cylinderWidth 90 = .ok (.invokestatic 71, 3) := by decide +kernel
theorem dX6_cylinderWidth_93 : decode cX6_cylinderWidth 93 = .ok (.lstore_n 3, 1) := by decide +kernel
theorem dX6_cylinderWidth_94 : decode cX6_cylinderWidth 94 = .ok (.iinc 10 1, 3) := by decide +kernel
theorem dX6_cylinderWidth_97 : decode cX6_cylinderWidth 97 = .ok (.goto (-46), 3) := by decide +kernel
theorem dX6_cylinderWidth_100 : decode cX6_cylinderWidth 100 = .ok (.iinc 5 1, 3) := by decide +kernel
theorem dX6_cylinderWidth_103 : decode cX6_cylinderWidth 103 = .ok (.goto (-92), 3) := by decide +kernel
theorem dX6_cylinderWidth_106 : decode cX6_cylinderWidth 106 = .ok (.lload_n 1, 1) := by decide +kernel
theorem dX6_cylinderWidth_107 : decode cX6_cylinderWidth 107 = .ok (.lload_n 3, 1) := by decide +kernel
theorem dX6_cylinderWidth_108 : decode cX6_cylinderWidth 108 = .ok (.lsub, 1) := by decide +kernel
theorem dX6_cylinderWidth_109 : decode cX6_cylinderWidth 109 = .ok (.lreturn, 1) := by decide +kernel
set_option maxRecDepth 100000 in
set_option maxHeartbeats 4000000 in
theorem m_X6_cylinderWidth {l : Launch} {G : z_Gl} {σ : z_St} (w : Nat) (hw : σ.1 32 5 = nI w) (hw6 : w ≤ 6) (hpos : 0 < z_den (σ.1 40) w) : z_M l G yX6_cylinderWidth cX6_cylinderWidth 13 (some .long) (z_rm 3 82) [.ref (z_ad G 32)] σ (z_p1 (.long (z_fmx2 (z_cdv (σ.1 40) (σ.2 41) (σ.2 42) (z_tr σ.2) w) (-9223372036854775808) w - z_fmn2 (z_cdv (σ.1 40) (σ.2 41) (σ.2 42) (z_tr σ.2) w) 9223372036854775807 w)) σ) := by
  refine z_M.of (by decide) (Nat.le_of_ble_eq_true rfl) (fun p e s m below meth c C => ?_)
  refine z_sub [0] (lv1 := [(0, .ref (z_ad G 32))]) rfl ?_
  refine z_ldc2 0 C dX6_cylinderWidth_0 q790 ?_
  refine z_lstore_n 3 C dX6_cylinderWidth_3 [(1, .long (-9223372036854775808)), (0, .ref (z_ad G 32))] (by decide) rfl ?_
  refine z_ldc2 4 C dX6_cylinderWidth_4 q791 ?_
  refine z_lstore_n 7 C dX6_cylinderWidth_7 [(3, .long 9223372036854775807), (1, .long (-9223372036854775808)), (0, .ref (z_ad G 32))] (by decide) rfl ?_
  refine z_iconst 8 C dX6_cylinderWidth_8 (nI 0) rfl ?_
  refine z_istore 9 C dX6_cylinderWidth_9 [(5, .int (nI 0)), (3, .long 9223372036854775807), (1, .long (-9223372036854775808)), (0, .ref (z_ad G 32))] (by decide) rfl ?_
  refine z_sub [3, 2, 1, 0] (lv1 := [(0, .ref (z_ad G 32)), (1, .long (-9223372036854775808)), (3, .long 9223372036854775807), (5, .int (nI 0))]) rfl ?_
  refine z_cv (lv1 := [(0, .ref (z_ad G 32)), (1, .long (z_fmx2 (z_cdv (σ.1 40) (σ.2 41) (σ.2 42) (z_tr σ.2) w) (-9223372036854775808) 0)), (3, .long (z_fmn2 (z_cdv (σ.1 40) (σ.2 41) (σ.2 42) (z_tr σ.2) w) 9223372036854775807 0)), (5, .int (nI 0))]) (st1 := []) (σ1 := σ) rfl rfl rfl ?_
  refine z_lp1 (fun (i : Nat) => i ≤ w) (fun (i : Nat) => w - i) (fun (i : Nat) => [(0, .ref (z_ad G 32)), (1, .long (z_fmx2 (z_cdv (σ.1 40) (σ.2 41) (σ.2 42) (z_tr σ.2) w) (-9223372036854775808) i)), (3, .long (z_fmn2 (z_cdv (σ.1 40) (σ.2 41) (σ.2 42) (z_tr σ.2) w) 9223372036854775807 i)), (5, .int (nI i))]) (fun (i : Nat) => σ) (fun i hi_11 ih_11 => ?_) 0 (by omega)
  try dsimp only
  refine z_iload 11 C dX6_cylinderWidth_11 3 rfl ?_
  refine z_aload_n 13 C dX6_cylinderWidth_13 0 rfl ?_
  refine z_getf 14 C 32 z_dX6 (⟨rfl, rfl⟩) 5 (by decide) q208 (.int (nI w)) (z_ci hw) dX6_cylinderWidth_14 ?_
  refine z_icmp_geN 17 C i w rfl rfl (by omega) (by omega) 106 dX6_cylinderWidth_17 (by decide) (fun c17 => ?_) (fun c17 => ?_)
  · skip
    have ei : w = i := by omega
    subst ei
    refine z_lload_n 106 C dX6_cylinderWidth_106 1 rfl ?_
    refine z_lload_n 107 C dX6_cylinderWidth_107 2 rfl ?_
    refine z_lsub 108 C dX6_cylinderWidth_108 ?_
    refine z_lret 109 C dX6_cylinderWidth_109 ?_
    exact ⟨rfl, rfl⟩
  · skip
    refine z_aload_n 20 C dX6_cylinderWidth_20 0 rfl ?_
    refine z_aload_n 21 C dX6_cylinderWidth_21 0 rfl ?_
    refine z_getf 22 C 32 z_dX6 (⟨rfl, rfl⟩) 1 (by decide) q200 (.ref (z_ad G 40)) rfl dX6_cylinderWidth_22 ?_
    refine z_iload 25 C dX6_cylinderWidth_25 3 rfl ?_
    refine z_ialdN 27 C 40 (n := 6) (⟨rfl, rfl⟩) i rfl (by omega) (by decide) dX6_cylinderWidth_27 ?_
    refine z_iconst 28 C dX6_cylinderWidth_28 (nI 0) rfl ?_
    refine z_callV 29 C 32 (⟨rfl, rfl⟩) rfl (As := [.int (σ.1 40 i), .int (nI 0)]) (rest := []) (m_X6_axisAt w hw (by omega) (σ.1 40 i) 0 (by omega) (hpos)) k_X6_axisAt q792 ⟨rfl, rfl⟩ ⟨Nat.le_of_ble_eq_true rfl, Nat.le_of_ble_eq_true rfl⟩ rfl (Nat.le_of_ble_eq_true rfl) ⟨Nat.le_of_ble_eq_true rfl, Nat.le_of_ble_eq_true rfl⟩ rfl dX6_cylinderWidth_29 (z_k1 ?_)
    refine z_lstore 32 C dX6_cylinderWidth_32 [(6, .long (z_ax (σ.1 40) (σ.2 (41 + 0)) w (σ.1 40 i))), (0, .ref (z_ad G 32)), (1, .long (z_fmx2 (z_cdv (σ.1 40) (σ.2 41) (σ.2 42) (z_tr σ.2) w) (-9223372036854775808) i)), (3, .long (z_fmn2 (z_cdv (σ.1 40) (σ.2 41) (σ.2 42) (z_tr σ.2) w) 9223372036854775807 i)), (5, .int (nI i))] (by decide) rfl ?_
    refine z_aload_n 34 C dX6_cylinderWidth_34 1 rfl ?_
    refine z_aload_n 35 C dX6_cylinderWidth_35 1 rfl ?_
    refine z_getf 36 C 32 z_dX6 (⟨rfl, rfl⟩) 1 (by decide) q200 (.ref (z_ad G 40)) rfl dX6_cylinderWidth_36 ?_
    refine z_iload 39 C dX6_cylinderWidth_39 4 rfl ?_
    refine z_ialdN 41 C 40 (n := 6) (⟨rfl, rfl⟩) i rfl (by omega) (by decide) dX6_cylinderWidth_41 ?_
    refine z_iconst 42 C dX6_cylinderWidth_42 (nI 1) rfl ?_
    refine z_callV 43 C 32 (⟨rfl, rfl⟩) rfl (As := [.int (σ.1 40 i), .int (nI 1)]) (rest := []) (m_X6_axisAt w hw (by omega) (σ.1 40 i) 1 (by omega) (hpos)) k_X6_axisAt q792 ⟨rfl, rfl⟩ ⟨Nat.le_of_ble_eq_true rfl, Nat.le_of_ble_eq_true rfl⟩ rfl (Nat.le_of_ble_eq_true rfl) ⟨Nat.le_of_ble_eq_true rfl, Nat.le_of_ble_eq_true rfl⟩ rfl dX6_cylinderWidth_43 (z_k1 ?_)
    refine z_lstore 46 C dX6_cylinderWidth_46 [(8, .long (z_ax (σ.1 40) (σ.2 (41 + 1)) w (σ.1 40 i))), (6, .long (z_ax (σ.1 40) (σ.2 (41 + 0)) w (σ.1 40 i))), (0, .ref (z_ad G 32)), (1, .long (z_fmx2 (z_cdv (σ.1 40) (σ.2 41) (σ.2 42) (z_tr σ.2) w) (-9223372036854775808) i)), (3, .long (z_fmn2 (z_cdv (σ.1 40) (σ.2 41) (σ.2 42) (z_tr σ.2) w) 9223372036854775807 i)), (5, .int (nI i))] (by decide) rfl ?_
    refine z_iconst 48 C dX6_cylinderWidth_48 (nI 0) rfl ?_
    refine z_istore 49 C dX6_cylinderWidth_49 [(10, .int (nI 0)), (8, .long (z_ax (σ.1 40) (σ.2 (41 + 1)) w (σ.1 40 i))), (6, .long (z_ax (σ.1 40) (σ.2 (41 + 0)) w (σ.1 40 i))), (0, .ref (z_ad G 32)), (1, .long (z_fmx2 (z_cdv (σ.1 40) (σ.2 41) (σ.2 42) (z_tr σ.2) w) (-9223372036854775808) i)), (3, .long (z_fmn2 (z_cdv (σ.1 40) (σ.2 41) (σ.2 42) (z_tr σ.2) w) 9223372036854775807 i)), (5, .int (nI i))] (by decide) rfl ?_
    refine z_sub [3, 4, 5, 6, 2, 1, 0] (lv1 := [(0, .ref (z_ad G 32)), (1, .long (z_fmx2 (z_cdv (σ.1 40) (σ.2 41) (σ.2 42) (z_tr σ.2) w) (-9223372036854775808) i)), (3, .long (z_fmn2 (z_cdv (σ.1 40) (σ.2 41) (σ.2 42) (z_tr σ.2) w) 9223372036854775807 i)), (5, .int (nI i)), (6, .long (z_ax (σ.1 40) (σ.2 (41 + 0)) w (σ.1 40 i))), (8, .long (z_ax (σ.1 40) (σ.2 (41 + 1)) w (σ.1 40 i))), (10, .int (nI 0))]) rfl ?_
    refine z_cv (lv1 := [(0, .ref (z_ad G 32)), (1, .long (z_fmx (z_cdv (σ.1 40) (σ.2 41) (σ.2 42) (z_tr σ.2) w i) (z_fmx2 (z_cdv (σ.1 40) (σ.2 41) (σ.2 42) (z_tr σ.2) w) (-9223372036854775808) i) 0)), (3, .long (z_fmn (z_cdv (σ.1 40) (σ.2 41) (σ.2 42) (z_tr σ.2) w i) (z_fmn2 (z_cdv (σ.1 40) (σ.2 41) (σ.2 42) (z_tr σ.2) w) 9223372036854775807 i) 0)), (5, .int (nI i)), (6, .long (z_ax (σ.1 40) (σ.2 (41 + 0)) w (σ.1 40 i))), (8, .long (z_ax (σ.1 40) (σ.2 (41 + 1)) w (σ.1 40 i))), (10, .int (nI 0))]) (st1 := []) (σ1 := σ) rfl rfl rfl ?_
    refine z_lp1 (fun (k : Nat) => k ≤ 24) (fun (k : Nat) => 24 - k) (fun (k : Nat) => [(0, .ref (z_ad G 32)), (1, .long (z_fmx (z_cdv (σ.1 40) (σ.2 41) (σ.2 42) (z_tr σ.2) w i) (z_fmx2 (z_cdv (σ.1 40) (σ.2 41) (σ.2 42) (z_tr σ.2) w) (-9223372036854775808) i) k)), (3, .long (z_fmn (z_cdv (σ.1 40) (σ.2 41) (σ.2 42) (z_tr σ.2) w i) (z_fmn2 (z_cdv (σ.1 40) (σ.2 41) (σ.2 42) (z_tr σ.2) w) 9223372036854775807 i) k)), (5, .int (nI i)), (6, .long (z_ax (σ.1 40) (σ.2 (41 + 0)) w (σ.1 40 i))), (8, .long (z_ax (σ.1 40) (σ.2 (41 + 1)) w (σ.1 40 i))), (10, .int (nI k))]) (fun (k : Nat) => σ) (fun k hi_51 ih_51 => ?_) 0 (by omega)
    try dsimp only
    refine z_iload 51 C dX6_cylinderWidth_51 6 rfl ?_
    refine z_bipush 53 C dX6_cylinderWidth_53 (nI 24) rfl ?_
    refine z_icmp_geN 55 C k 24 rfl rfl (by omega) (by omega) 100 dX6_cylinderWidth_55 (by decide) (fun c55 => ?_) (fun c55 => ?_)
    · skip
      have ek : k = 24 := by omega
      subst ek
      refine z_iincN 100 C 3 i [(5, .int (nI (i + 1))), (0, .ref (z_ad G 32)), (1, .long (z_fmx (z_cdv (σ.1 40) (σ.2 41) (σ.2 42) (z_tr σ.2) w i) (z_fmx2 (z_cdv (σ.1 40) (σ.2 41) (σ.2 42) (z_tr σ.2) w) (-9223372036854775808) i) 24)), (3, .long (z_fmn (z_cdv (σ.1 40) (σ.2 41) (σ.2 42) (z_tr σ.2) w i) (z_fmn2 (z_cdv (σ.1 40) (σ.2 41) (σ.2 42) (z_tr σ.2) w) 9223372036854775807 i) 24)), (6, .long (z_ax (σ.1 40) (σ.2 (41 + 0)) w (σ.1 40 i))), (8, .long (z_ax (σ.1 40) (σ.2 (41 + 1)) w (σ.1 40 i))), (10, .int (nI 24))] rfl rfl (by decide) rfl dX6_cylinderWidth_100 ?_
      refine z_goto 103 C 11 dX6_cylinderWidth_103 (by decide) ?_
      refine z_sub [1, 2, 3, 0] (lv1 := [(0, .ref (z_ad G 32)), (1, .long (z_fmx (z_cdv (σ.1 40) (σ.2 41) (σ.2 42) (z_tr σ.2) w i) (z_fmx2 (z_cdv (σ.1 40) (σ.2 41) (σ.2 42) (z_tr σ.2) w) (-9223372036854775808) i) 24)), (3, .long (z_fmn (z_cdv (σ.1 40) (σ.2 41) (σ.2 42) (z_tr σ.2) w i) (z_fmn2 (z_cdv (σ.1 40) (σ.2 41) (σ.2 42) (z_tr σ.2) w) 9223372036854775807 i) 24)), (5, .int (nI (i + 1)))]) rfl ?_
      refine z_cv (lv1 := [(0, .ref (z_ad G 32)), (1, .long (z_fmx2 (z_cdv (σ.1 40) (σ.2 41) (σ.2 42) (z_tr σ.2) w) (-9223372036854775808) (i + 1))), (3, .long (z_fmn2 (z_cdv (σ.1 40) (σ.2 41) (σ.2 42) (z_tr σ.2) w) 9223372036854775807 (i + 1))), (5, .int (nI (i + 1)))]) (st1 := []) (σ1 := σ) rfl rfl rfl ?_
      exact ih_11 (i + 1) (by omega) (by omega)
    · skip
      refine z_aload_n 58 C dX6_cylinderWidth_58 0 rfl ?_
      refine z_getf 59 C 32 z_dX6 (⟨rfl, rfl⟩) 0 (by decide) q198 (.ref (z_ad G 33)) rfl dX6_cylinderWidth_59 ?_
      refine z_iload 62 C dX6_cylinderWidth_62 3 rfl ?_
      refine z_aaldN 64 C 33 (n := 6) ⟨Or.inr rfl, rfl⟩ i (34 + i) rfl (by omega) (by decide) rfl dX6_cylinderWidth_64 ?_
      refine z_iload 65 C dX6_cylinderWidth_65 6 rfl ?_
      refine z_laldN 67 C (34 + i) (n := 24) (z_trK _ (by omega)) k rfl (by omega) (by decide) dX6_cylinderWidth_67 ?_
      refine z_lload 68 C dX6_cylinderWidth_68 4 rfl ?_
      refine z_lload 70 C dX6_cylinderWidth_70 5 rfl ?_
      refine z_iload 72 C dX6_cylinderWidth_72 6 rfl ?_
      refine z_callSN 74 C (As := [.long (z_ax (σ.1 40) (σ.2 (41 + 0)) w (σ.1 40 i)), .long (z_ax (σ.1 40) (σ.2 (41 + 1)) w (σ.1 40 i)), .int (nI k)]) (rest := [.long (σ.2 (34 + i) k)]) (m_X7_wave_n (z_ax (σ.1 40) (σ.2 (41 + 0)) w (σ.1 40 i)) (z_ax (σ.1 40) (σ.2 (41 + 1)) w (σ.1 40 i)) k (by omega)) k_X7_wave (List.mem_of_getElem? (i := 47) rfl) ⟨rfl, rfl⟩ ⟨Nat.le_of_ble_eq_true rfl, Nat.le_of_ble_eq_true rfl⟩ rfl (Nat.le_of_ble_eq_true rfl) ⟨Nat.le_of_ble_eq_true rfl, Nat.le_of_ble_eq_true rfl⟩ rfl dX6_cylinderWidth_74 (z_k1 ?_)
      refine z_lsub 77 C dX6_cylinderWidth_77 ?_
      refine z_lstore 78 C dX6_cylinderWidth_78 [(11, .long ((σ.2 (34 + i) k) - (z_wv (z_ax (σ.1 40) (σ.2 (41 + 0)) w (σ.1 40 i)) (z_ax (σ.1 40) (σ.2 (41 + 1)) w (σ.1 40 i)) (k % 24)))), (0, .ref (z_ad G 32)), (1, .long (z_fmx (z_cdv (σ.1 40) (σ.2 41) (σ.2 42) (z_tr σ.2) w i) (z_fmx2 (z_cdv (σ.1 40) (σ.2 41) (σ.2 42) (z_tr σ.2) w) (-9223372036854775808) i) k)), (3, .long (z_fmn (z_cdv (σ.1 40) (σ.2 41) (σ.2 42) (z_tr σ.2) w i) (z_fmn2 (z_cdv (σ.1 40) (σ.2 41) (σ.2 42) (z_tr σ.2) w) 9223372036854775807 i) k)), (5, .int (nI i)), (6, .long (z_ax (σ.1 40) (σ.2 (41 + 0)) w (σ.1 40 i))), (8, .long (z_ax (σ.1 40) (σ.2 (41 + 1)) w (σ.1 40 i))), (10, .int (nI k))] (by decide) rfl ?_
      refine z_lload_n 80 C dX6_cylinderWidth_80 2 rfl ?_
      refine z_lload 81 C dX6_cylinderWidth_81 0 rfl ?_
      refine z_callS 83 C (As := [.long (z_fmx (z_cdv (σ.1 40) (σ.2 41) (σ.2 42) (z_tr σ.2) w i) (z_fmx2 (z_cdv (σ.1 40) (σ.2 41) (σ.2 42) (z_tr σ.2) w) (-9223372036854775808) i) k), .long ((σ.2 (34 + i) k) - (z_wv (z_ax (σ.1 40) (σ.2 (41 + 0)) w (σ.1 40 i)) (z_ax (σ.1 40) (σ.2 (41 + 1)) w (σ.1 40 i)) (k % 24)))]) (rest := []) (m_J9_max_f86c9 (z_fmx (z_cdv (σ.1 40) (σ.2 41) (σ.2 42) (z_tr σ.2) w i) (z_fmx2 (z_cdv (σ.1 40) (σ.2 41) (σ.2 42) (z_tr σ.2) w) (-9223372036854775808) i) k) ((σ.2 (34 + i) k) - (z_wv (z_ax (σ.1 40) (σ.2 (41 + 0)) w (σ.1 40 i)) (z_ax (σ.1 40) (σ.2 (41 + 1)) w (σ.1 40 i)) (k % 24)))) k_J9_max_f86c9 q794 ⟨rfl, rfl⟩ ⟨Nat.le_of_ble_eq_true rfl, Nat.le_of_ble_eq_true rfl⟩ rfl (Nat.le_of_ble_eq_true rfl) ⟨Nat.le_of_ble_eq_true rfl, Nat.le_of_ble_eq_true rfl⟩ rfl dX6_cylinderWidth_83 (z_k1 ?_)
      refine z_lstore_n 86 C dX6_cylinderWidth_86 [(1, .long (z_mx (z_fmx (z_cdv (σ.1 40) (σ.2 41) (σ.2 42) (z_tr σ.2) w i) (z_fmx2 (z_cdv (σ.1 40) (σ.2 41) (σ.2 42) (z_tr σ.2) w) (-9223372036854775808) i) k) ((σ.2 (34 + i) k) - (z_wv (z_ax (σ.1 40) (σ.2 (41 + 0)) w (σ.1 40 i)) (z_ax (σ.1 40) (σ.2 (41 + 1)) w (σ.1 40 i)) (k % 24))))), (11, .long ((σ.2 (34 + i) k) - (z_wv (z_ax (σ.1 40) (σ.2 (41 + 0)) w (σ.1 40 i)) (z_ax (σ.1 40) (σ.2 (41 + 1)) w (σ.1 40 i)) (k % 24)))), (0, .ref (z_ad G 32)), (3, .long (z_fmn (z_cdv (σ.1 40) (σ.2 41) (σ.2 42) (z_tr σ.2) w i) (z_fmn2 (z_cdv (σ.1 40) (σ.2 41) (σ.2 42) (z_tr σ.2) w) 9223372036854775807 i) k)), (5, .int (nI i)), (6, .long (z_ax (σ.1 40) (σ.2 (41 + 0)) w (σ.1 40 i))), (8, .long (z_ax (σ.1 40) (σ.2 (41 + 1)) w (σ.1 40 i))), (10, .int (nI k))] (by decide) rfl ?_
      refine z_lload_n 87 C dX6_cylinderWidth_87 3 rfl ?_
      refine z_lload 88 C dX6_cylinderWidth_88 1 rfl ?_
      refine z_callS 90 C (As := [.long (z_fmn (z_cdv (σ.1 40) (σ.2 41) (σ.2 42) (z_tr σ.2) w i) (z_fmn2 (z_cdv (σ.1 40) (σ.2 41) (σ.2 42) (z_tr σ.2) w) 9223372036854775807 i) k), .long ((σ.2 (34 + i) k) - (z_wv (z_ax (σ.1 40) (σ.2 (41 + 0)) w (σ.1 40 i)) (z_ax (σ.1 40) (σ.2 (41 + 1)) w (σ.1 40 i)) (k % 24)))]) (rest := []) (m_J9_min_f86c9 (z_fmn (z_cdv (σ.1 40) (σ.2 41) (σ.2 42) (z_tr σ.2) w i) (z_fmn2 (z_cdv (σ.1 40) (σ.2 41) (σ.2 42) (z_tr σ.2) w) 9223372036854775807 i) k) ((σ.2 (34 + i) k) - (z_wv (z_ax (σ.1 40) (σ.2 (41 + 0)) w (σ.1 40 i)) (z_ax (σ.1 40) (σ.2 (41 + 1)) w (σ.1 40 i)) (k % 24)))) k_J9_min_f86c9 q795 ⟨rfl, rfl⟩ ⟨Nat.le_of_ble_eq_true rfl, Nat.le_of_ble_eq_true rfl⟩ rfl (Nat.le_of_ble_eq_true rfl) ⟨Nat.le_of_ble_eq_true rfl, Nat.le_of_ble_eq_true rfl⟩ rfl dX6_cylinderWidth_90 (z_k1 ?_)
      refine z_lstore_n 93 C dX6_cylinderWidth_93 [(3, .long (z_mn (z_fmn (z_cdv (σ.1 40) (σ.2 41) (σ.2 42) (z_tr σ.2) w i) (z_fmn2 (z_cdv (σ.1 40) (σ.2 41) (σ.2 42) (z_tr σ.2) w) 9223372036854775807 i) k) ((σ.2 (34 + i) k) - (z_wv (z_ax (σ.1 40) (σ.2 (41 + 0)) w (σ.1 40 i)) (z_ax (σ.1 40) (σ.2 (41 + 1)) w (σ.1 40 i)) (k % 24))))), (1, .long (z_mx (z_fmx (z_cdv (σ.1 40) (σ.2 41) (σ.2 42) (z_tr σ.2) w i) (z_fmx2 (z_cdv (σ.1 40) (σ.2 41) (σ.2 42) (z_tr σ.2) w) (-9223372036854775808) i) k) ((σ.2 (34 + i) k) - (z_wv (z_ax (σ.1 40) (σ.2 (41 + 0)) w (σ.1 40 i)) (z_ax (σ.1 40) (σ.2 (41 + 1)) w (σ.1 40 i)) (k % 24))))), (11, .long ((σ.2 (34 + i) k) - (z_wv (z_ax (σ.1 40) (σ.2 (41 + 0)) w (σ.1 40 i)) (z_ax (σ.1 40) (σ.2 (41 + 1)) w (σ.1 40 i)) (k % 24)))), (0, .ref (z_ad G 32)), (5, .int (nI i)), (6, .long (z_ax (σ.1 40) (σ.2 (41 + 0)) w (σ.1 40 i))), (8, .long (z_ax (σ.1 40) (σ.2 (41 + 1)) w (σ.1 40 i))), (10, .int (nI k))] (by decide) rfl ?_
      refine z_iincN 94 C 7 k [(10, .int (nI (k + 1))), (3, .long (z_mn (z_fmn (z_cdv (σ.1 40) (σ.2 41) (σ.2 42) (z_tr σ.2) w i) (z_fmn2 (z_cdv (σ.1 40) (σ.2 41) (σ.2 42) (z_tr σ.2) w) 9223372036854775807 i) k) ((σ.2 (34 + i) k) - (z_wv (z_ax (σ.1 40) (σ.2 (41 + 0)) w (σ.1 40 i)) (z_ax (σ.1 40) (σ.2 (41 + 1)) w (σ.1 40 i)) (k % 24))))), (1, .long (z_mx (z_fmx (z_cdv (σ.1 40) (σ.2 41) (σ.2 42) (z_tr σ.2) w i) (z_fmx2 (z_cdv (σ.1 40) (σ.2 41) (σ.2 42) (z_tr σ.2) w) (-9223372036854775808) i) k) ((σ.2 (34 + i) k) - (z_wv (z_ax (σ.1 40) (σ.2 (41 + 0)) w (σ.1 40 i)) (z_ax (σ.1 40) (σ.2 (41 + 1)) w (σ.1 40 i)) (k % 24))))), (11, .long ((σ.2 (34 + i) k) - (z_wv (z_ax (σ.1 40) (σ.2 (41 + 0)) w (σ.1 40 i)) (z_ax (σ.1 40) (σ.2 (41 + 1)) w (σ.1 40 i)) (k % 24)))), (0, .ref (z_ad G 32)), (5, .int (nI i)), (6, .long (z_ax (σ.1 40) (σ.2 (41 + 0)) w (σ.1 40 i))), (8, .long (z_ax (σ.1 40) (σ.2 (41 + 1)) w (σ.1 40 i)))] rfl rfl (by decide) rfl dX6_cylinderWidth_94 ?_
      refine z_goto 97 C 51 dX6_cylinderWidth_97 (by decide) ?_
      refine z_sub [4, 2, 1, 5, 6, 7, 0] (lv1 := [(0, .ref (z_ad G 32)), (1, .long (z_mx (z_fmx (z_cdv (σ.1 40) (σ.2 41) (σ.2 42) (z_tr σ.2) w i) (z_fmx2 (z_cdv (σ.1 40) (σ.2 41) (σ.2 42) (z_tr σ.2) w) (-9223372036854775808) i) k) ((σ.2 (34 + i) k) - (z_wv (z_ax (σ.1 40) (σ.2 (41 + 0)) w (σ.1 40 i)) (z_ax (σ.1 40) (σ.2 (41 + 1)) w (σ.1 40 i)) (k % 24))))), (3, .long (z_mn (z_fmn (z_cdv (σ.1 40) (σ.2 41) (σ.2 42) (z_tr σ.2) w i) (z_fmn2 (z_cdv (σ.1 40) (σ.2 41) (σ.2 42) (z_tr σ.2) w) 9223372036854775807 i) k) ((σ.2 (34 + i) k) - (z_wv (z_ax (σ.1 40) (σ.2 (41 + 0)) w (σ.1 40 i)) (z_ax (σ.1 40) (σ.2 (41 + 1)) w (σ.1 40 i)) (k % 24))))), (5, .int (nI i)), (6, .long (z_ax (σ.1 40) (σ.2 (41 + 0)) w (σ.1 40 i))), (8, .long (z_ax (σ.1 40) (σ.2 (41 + 1)) w (σ.1 40 i))), (10, .int (nI (k + 1)))]) rfl ?_
      refine z_cv (lv1 := [(0, .ref (z_ad G 32)), (1, .long (z_fmx (z_cdv (σ.1 40) (σ.2 41) (σ.2 42) (z_tr σ.2) w i) (z_fmx2 (z_cdv (σ.1 40) (σ.2 41) (σ.2 42) (z_tr σ.2) w) (-9223372036854775808) i) (k + 1))), (3, .long (z_fmn (z_cdv (σ.1 40) (σ.2 41) (σ.2 42) (z_tr σ.2) w i) (z_fmn2 (z_cdv (σ.1 40) (σ.2 41) (σ.2 42) (z_tr σ.2) w) 9223372036854775807 i) (k + 1))), (5, .int (nI i)), (6, .long (z_ax (σ.1 40) (σ.2 (41 + 0)) w (σ.1 40 i))), (8, .long (z_ax (σ.1 40) (σ.2 (41 + 1)) w (σ.1 40 i))), (10, .int (nI (k + 1)))]) (st1 := []) (σ1 := σ) rfl rfl rfl ?_
      exact ih_51 (k + 1) (by omega) (by omega)
theorem dX6_distanceFromAxis_0 : decode cX6_distanceFromAxis 0 = .ok (.aload_n 0, 1) := by decide +kernel
theorem dX6_distanceFromAxis_1 : decode cX6_distanceFromAxis 1 = .ok (.getfield 16, 3) := by decide +kernel
theorem dX6_distanceFromAxis_4 : decode cX6_distanceFromAxis 4 = .ok (.iload_n 1, 1) := by decide +kernel
theorem dX6_distanceFromAxis_5 : decode cX6_distanceFromAxis 5 = .ok (.iaload, 1) := by decide +kernel
theorem dX6_distanceFromAxis_6 : decode cX6_distanceFromAxis 6 = .ok (.istore_n 2, 1) := by decide +kernel
theorem dX6_distanceFromAxis_7 : decode cX6_distanceFromAxis 7 = .ok (.aload_n 0, 1) := by decide +kernel
theorem dX6_distanceFromAxis_8 : decode cX6_distanceFromAxis 8 = .ok (.getfield 20, 3) := by decide +kernel
theorem dX6_distanceFromAxis_11 : decode cX6_distanceFromAxis 11 = .ok (.iload_n 1, 1) := by decide +kernel
theorem dX6_distanceFromAxis_12 : decode cX6_distanceFromAxis 12 = .ok (.laload, 1) := by decide +kernel
theorem dX6_distanceFromAxis_13 : decode cX6_distanceFromAxis 13 = .ok (.aload_n 0, 1) := by decide +kernel
theorem dX6_distanceFromAxis_14 : decode cX6_distanceFromAxis 14 = .ok (.iload_n 2, 1) := by decide +kernel
theorem dX6_distanceFromAxis_15 : decode cX6_distanceFromAxis 15 = .ok (.iconst 0, 1) := by decide +kernel
theorem dX6_distanceFromAxis_16 : decode cX6_distanceFromAxis 16 = .ok (.invokevirtual 58, 3) := by decide +kernel
theorem dX6_distanceFromAxis_19 : decode cX6_distanceFromAxis 19 = .ok (.lsub, 1) := by decide +kernel
theorem dX6_distanceFromAxis_20 : decode cX6_distanceFromAxis 20 = .ok (.invokestatic 74, 3) := by decide +kernel
theorem dX6_distanceFromAxis_23 : decode cX6_distanceFromAxis 23 = .ok (.aload_n 0, 1) := by decide +kernel
theorem dX6_distanceFromAxis_24 : decode cX6_distanceFromAxis 24 = .ok (.getfield 24, 3) := by decide +kernel
theorem dX6_distanceFromAxis_27 : decode cX6_distanceFromAxis 27 = .ok (.iload_n 1, 1) := by decide +kernel
theorem dX6_distanceFromAxis_28 : decode cX6_distanceFromAxis 28 = .ok (.laload, 1) := by decide +kernel
theorem dX6_distanceFromAxis_29 : decode cX6_distanceFromAxis 29 = .ok (.aload_n 0, 1) := by decide +kernel
theorem dX6_distanceFromAxis_30 : decode cX6_distanceFromAxis 30 = .ok (.iload_n 2, 1) := by decide +kernel
theorem dX6_distanceFromAxis_31 : decode cX6_distanceFromAxis 31 = .ok (.iconst 1, 1) := by decide +kernel
theorem dX6_distanceFromAxis_32 : decode cX6_distanceFromAxis 32 = .ok (.invokevirtual 58, 3) := by decide +kernel
theorem dX6_distanceFromAxis_35 : decode cX6_distanceFromAxis 35 = .ok (.lsub, 1) := by decide +kernel
theorem dX6_distanceFromAxis_36 : decode cX6_distanceFromAxis 36 = .ok (.invokestatic 74, 3) := by decide +kernel
theorem dX6_distanceFromAxis_39 : decode cX6_distanceFromAxis 39 = .ok (.ladd, 1) := by decide +kernel
theorem dX6_distanceFromAxis_40 : decode cX6_distanceFromAxis 40 = .ok (.lreturn, 1) := by decide +kernel
set_option maxRecDepth 100000 in
set_option maxHeartbeats 4000000 in
theorem m_X6_distanceFromAxis {l : Launch} {G : z_Gl} {σ : z_St} (w : Nat) (hw : σ.1 32 5 = nI w) (hw6 : w ≤ 6) (hpos : 0 < z_den (σ.1 40) w) (i : Nat) (hi : i < 6) : z_M l G yX6_distanceFromAxis cX6_distanceFromAxis 3 (some .long) (z_rm 3 82) [.ref (z_ad G 32), .int (nI i)] σ (z_p1 (.long (z_dfa (σ.1 40) (σ.2 41) (σ.2 42) w i)) σ) := by
  refine z_M.of (by decide) (Nat.le_of_ble_eq_true rfl) (fun p e s m below meth c C => ?_)
  refine z_sub [0, 1] (lv1 := [(0, .ref (z_ad G 32)), (1, .int (nI i))]) rfl ?_
  refine z_aload_n 0 C dX6_distanceFromAxis_0 0 rfl ?_
  refine z_getf 1 C 32 z_dX6 (⟨rfl, rfl⟩) 1 (by decide) q200 (.ref (z_ad G 40)) rfl dX6_distanceFromAxis_1 ?_
  refine z_iload_n 4 C dX6_distanceFromAxis_4 1 rfl ?_
  refine z_ialdN 5 C 40 (n := 6) (⟨rfl, rfl⟩) i rfl (by omega) (by decide) dX6_distanceFromAxis_5 ?_
  refine z_istore_n 6 C dX6_distanceFromAxis_6 [(2, .int (σ.1 40 i)), (0, .ref (z_ad G 32)), (1, .int (nI i))] (by decide) rfl ?_
  refine z_aload_n 7 C dX6_distanceFromAxis_7 1 rfl ?_
  refine z_getf 8 C 32 z_dX6 (⟨rfl, rfl⟩) 2 (by decide) q202 (.ref (z_ad G 41)) rfl dX6_distanceFromAxis_8 ?_
  refine z_iload_n 11 C dX6_distanceFromAxis_11 2 rfl ?_
  refine z_laldN 12 C 41 (n := 6) (⟨rfl, rfl⟩) i rfl (by omega) (by decide) dX6_distanceFromAxis_12 ?_
  refine z_aload_n 13 C dX6_distanceFromAxis_13 1 rfl ?_
  refine z_iload_n 14 C dX6_distanceFromAxis_14 0 rfl ?_
  refine z_iconst 15 C dX6_distanceFromAxis_15 (nI 0) rfl ?_
  refine z_callV 16 C 32 (⟨rfl, rfl⟩) rfl (As := [.int (σ.1 40 i), .int (nI 0)]) (rest := [.long (σ.2 41 i)]) (m_X6_axisAt w hw (by omega) (σ.1 40 i) 0 (by omega) (hpos)) k_X6_axisAt q792 ⟨rfl, rfl⟩ ⟨Nat.le_of_ble_eq_true rfl, Nat.le_of_ble_eq_true rfl⟩ rfl (Nat.le_of_ble_eq_true rfl) ⟨Nat.le_of_ble_eq_true rfl, Nat.le_of_ble_eq_true rfl⟩ rfl dX6_distanceFromAxis_16 (z_k1 ?_)
  refine z_lsub 19 C dX6_distanceFromAxis_19 ?_
  refine z_callS 20 C (As := [.long ((σ.2 41 i) - (z_ax (σ.1 40) (σ.2 (41 + 0)) w (σ.1 40 i)))]) (rest := []) (m_J9_abs_067f4 ((σ.2 41 i) - (z_ax (σ.1 40) (σ.2 (41 + 0)) w (σ.1 40 i)))) k_J9_abs_067f4 q808 ⟨rfl, rfl⟩ ⟨Nat.le_of_ble_eq_true rfl, Nat.le_of_ble_eq_true rfl⟩ rfl (Nat.le_of_ble_eq_true rfl) ⟨Nat.le_of_ble_eq_true rfl, Nat.le_of_ble_eq_true rfl⟩ rfl dX6_distanceFromAxis_20 (z_k1 ?_)
  refine z_aload_n 23 C dX6_distanceFromAxis_23 1 rfl ?_
  refine z_getf 24 C 32 z_dX6 (⟨rfl, rfl⟩) 3 (by decide) q204 (.ref (z_ad G 42)) rfl dX6_distanceFromAxis_24 ?_
  refine z_iload_n 27 C dX6_distanceFromAxis_27 2 rfl ?_
  refine z_laldN 28 C 42 (n := 6) (⟨rfl, rfl⟩) i rfl (by omega) (by decide) dX6_distanceFromAxis_28 ?_
  refine z_aload_n 29 C dX6_distanceFromAxis_29 1 rfl ?_
  refine z_iload_n 30 C dX6_distanceFromAxis_30 0 rfl ?_
  refine z_iconst 31 C dX6_distanceFromAxis_31 (nI 1) rfl ?_
  refine z_callV 32 C 32 (⟨rfl, rfl⟩) rfl (As := [.int (σ.1 40 i), .int (nI 1)]) (rest := [.long (σ.2 42 i), .long (z_ab ((σ.2 41 i) - (z_ax (σ.1 40) (σ.2 (41 + 0)) w (σ.1 40 i))))]) (m_X6_axisAt w hw (by omega) (σ.1 40 i) 1 (by omega) (hpos)) k_X6_axisAt q792 ⟨rfl, rfl⟩ ⟨Nat.le_of_ble_eq_true rfl, Nat.le_of_ble_eq_true rfl⟩ rfl (Nat.le_of_ble_eq_true rfl) ⟨Nat.le_of_ble_eq_true rfl, Nat.le_of_ble_eq_true rfl⟩ rfl dX6_distanceFromAxis_32 (z_k1 ?_)
  refine z_lsub 35 C dX6_distanceFromAxis_35 ?_
  refine z_callS 36 C (As := [.long ((σ.2 42 i) - (z_ax (σ.1 40) (σ.2 (41 + 1)) w (σ.1 40 i)))]) (rest := [.long (z_ab ((σ.2 41 i) - (z_ax (σ.1 40) (σ.2 (41 + 0)) w (σ.1 40 i))))]) (m_J9_abs_067f4 ((σ.2 42 i) - (z_ax (σ.1 40) (σ.2 (41 + 1)) w (σ.1 40 i)))) k_J9_abs_067f4 q808 ⟨rfl, rfl⟩ ⟨Nat.le_of_ble_eq_true rfl, Nat.le_of_ble_eq_true rfl⟩ rfl (Nat.le_of_ble_eq_true rfl) ⟨Nat.le_of_ble_eq_true rfl, Nat.le_of_ble_eq_true rfl⟩ rfl dX6_distanceFromAxis_36 (z_k1 ?_)
  refine z_ladd 39 C dX6_distanceFromAxis_39 ?_
  refine z_lret 40 C dX6_distanceFromAxis_40 ?_
  exact ⟨rfl, rfl⟩
theorem dX6_farthest_0 : decode cX6_farthest 0 = .ok (.iconst 0, 1) := by decide +kernel
theorem dX6_farthest_1 : decode cX6_farthest 1 = .ok (.istore_n 1, 1) := by decide +kernel
theorem dX6_farthest_2 : decode cX6_farthest 2 = .ok (.aload_n 0, 1) := by decide +kernel
theorem dX6_farthest_3 : decode cX6_farthest 3 = .ok (.iconst 0, 1) := by decide +kernel
theorem dX6_farthest_4 : decode cX6_farthest 4 = .ok (.invokevirtual 78, 3) := by decide +kernel
theorem dX6_farthest_7 : decode cX6_farthest 7 = .ok (.lstore_n 2, 1) := by decide +kernel
theorem dX6_farthest_8 : decode cX6_farthest 8 = .ok (.iconst 1, 1) := by decide +kernel
theorem dX6_farthest_9 : decode cX6_farthest 9 = .ok (.istore 4, 2) := by decide +kernel
theorem dX6_farthest_11 : decode cX6_farthest 11 = .ok (.iload 4, 2) := by decide +kernel
theorem dX6_farthest_13 : decode cX6_farthest 13 = .ok (.aload_n 0, 1) := by decide +kernel
theorem dX6_farthest_14 : decode cX6_farthest 14 = .ok (.getfield 30, 3) := by decide +kernel
theorem dX6_farthest_17 : decode cX6_farthest 17 = .ok (.if_icmp .ge 30, 3) := by decide +kernel
theorem dX6_farthest_20 : decode cX6_farthest 20 = .ok (.aload_n 0, 1) := by decide +kernel
theorem dX6_farthest_21 : decode cX6_farthest 21 = .ok (.iload 4, 2) := by decide +kernel
theorem dX6_farthest_23 : decode cX6_farthest 23 = .ok (.invokevirtual 78, 3) := by decide +kernel
theorem dX6_farthest_26 : decode cX6_farthest 26 = .ok (.lstore 5, 2) := by decide +kernel
theorem dX6_farthest_28 : decode cX6_farthest 28 = .ok (.lload 5, 2) := by decide +kernel
theorem dX6_farthest_30 : decode cX6_farthest 30 = .ok (.lload_n 2, 1) := by decide +kernel
theorem dX6_farthest_31 : decode cX6_farthest 31 = .ok (.lcmp, 1) := by decide +kernel
theorem dX6_farthest_32 : decode cX6_farthest 32 = .ok (.ifCond .le 9, 3) := by decide +kernel
theorem dX6_farthest_35 : decode cX6_farthest 35 = .ok (.lload 5, 2) := by decide +kernel
theorem dX6_farthest_37 : decode cX6_farthest 37 = .ok (.lstore_n 2, 1) := by decide +kernel
theorem dX6_farthest_38 : decode cX6_farthest 38 = .ok (.iload 4, 2) := by decide +kernel
theorem dX6_farthest_40 : decode cX6_farthest 40 = .ok (.istore_n 1, 1) := by decide +kernel
theorem dX6_farthest_41 : decode cX6_farthest 41 = .ok (.iinc 4 1, 3) := by decide +kernel
theorem dX6_farthest_44 : decode cX6_farthest 44 = .ok (.goto (-33), 3) := by decide +kernel
theorem dX6_farthest_47 : decode cX6_farthest 47 = .ok (.iload_n 1, 1) := by decide +kernel
theorem dX6_farthest_48 : decode cX6_farthest 48 = .ok (.ireturn, 1) := by decide +kernel
set_option maxRecDepth 100000 in
set_option maxHeartbeats 4000000 in
theorem m_X6_farthest {l : Launch} {G : z_Gl} {σ : z_St} (w : Nat) (hw : σ.1 32 5 = nI w) (hw6 : w ≤ 6) (hpos : 0 < z_den (σ.1 40) w) (h2 : 2 ≤ w) : z_M l G yX6_farthest cX6_farthest 7 (some .int) (z_rm 4 104) [.ref (z_ad G 32)] σ (z_p1 (.int (nI (z_bm (z_dfa (σ.1 40) (σ.2 41) (σ.2 42) w) w))) σ) := by
  refine z_M.of (by decide) (Nat.le_of_ble_eq_true rfl) (fun p e s m below meth c C => ?_)
  refine z_sub [0] (lv1 := [(0, .ref (z_ad G 32))]) rfl ?_
  refine z_iconst 0 C dX6_farthest_0 (nI 0) rfl ?_
  refine z_istore_n 1 C dX6_farthest_1 [(1, .int (nI 0)), (0, .ref (z_ad G 32))] (by decide) rfl ?_
  refine z_aload_n 2 C dX6_farthest_2 1 rfl ?_
  refine z_iconst 3 C dX6_farthest_3 (nI 0) rfl ?_
  refine z_callV 4 C 32 (⟨rfl, rfl⟩) rfl (As := [.int (nI 0)]) (rest := []) (m_X6_distanceFromAxis w hw (by omega) (hpos) 0 (by omega)) k_X6_distanceFromAxis q804 ⟨rfl, rfl⟩ ⟨Nat.le_of_ble_eq_true rfl, Nat.le_of_ble_eq_true rfl⟩ rfl (Nat.le_of_ble_eq_true rfl) ⟨Nat.le_of_ble_eq_true rfl, Nat.le_of_ble_eq_true rfl⟩ rfl dX6_farthest_4 (z_k1 ?_)
  refine z_lstore_n 7 C dX6_farthest_7 [(2, .long (z_dfa (σ.1 40) (σ.2 41) (σ.2 42) w 0)), (1, .int (nI 0)), (0, .ref (z_ad G 32))] (by decide) rfl ?_
  refine z_iconst 8 C dX6_farthest_8 (nI 1) rfl ?_
  refine z_istore 9 C dX6_farthest_9 [(4, .int (nI 1)), (2, .long (z_dfa (σ.1 40) (σ.2 41) (σ.2 42) w 0)), (1, .int (nI 0)), (0, .ref (z_ad G 32))] (by decide) rfl ?_
  refine z_sub [3, 2, 1, 0] (lv1 := [(0, .ref (z_ad G 32)), (1, .int (nI 0)), (2, .long (z_dfa (σ.1 40) (σ.2 41) (σ.2 42) w 0)), (4, .int (nI 1))]) rfl ?_
  refine z_cv (lv1 := [(0, .ref (z_ad G 32)), (1, .int (nI (z_bm (z_dfa (σ.1 40) (σ.2 41) (σ.2 42) w) 1))), (2, .long (z_dfa (σ.1 40) (σ.2 41) (σ.2 42) w (z_bm (z_dfa (σ.1 40) (σ.2 41) (σ.2 42) w) 1))), (4, .int (nI 1))]) (st1 := []) (σ1 := σ) (by rw [z_bm_1]) rfl rfl ?_
  refine z_lp1 (fun (i : Nat) => 1 ≤ i ∧ i ≤ w) (fun (i : Nat) => w - i) (fun (i : Nat) => [(0, .ref (z_ad G 32)), (1, .int (nI (z_bm (z_dfa (σ.1 40) (σ.2 41) (σ.2 42) w) i))), (2, .long (z_dfa (σ.1 40) (σ.2 41) (σ.2 42) w (z_bm (z_dfa (σ.1 40) (σ.2 41) (σ.2 42) w) i))), (4, .int (nI i))]) (fun (i : Nat) => σ) (fun i hi_11 ih_11 => ?_) 1 (by omega)
  try dsimp only
  refine z_iload 11 C dX6_farthest_11 3 rfl ?_
  refine z_aload_n 13 C dX6_farthest_13 0 rfl ?_
  refine z_getf 14 C 32 z_dX6 (⟨rfl, rfl⟩) 5 (by decide) q208 (.int (nI w)) (z_ci hw) dX6_farthest_14 ?_
  refine z_icmp_geN 17 C i w rfl rfl (by omega) (by omega) 47 dX6_farthest_17 (by decide) (fun c17 => ?_) (fun c17 => ?_)
  · skip
    have ei : w = i := by omega
    subst ei
    refine z_iload_n 47 C dX6_farthest_47 1 rfl ?_
    refine z_iret 48 C dX6_farthest_48 ?_
    exact ⟨rfl, rfl⟩
  · skip
    refine z_aload_n 20 C dX6_farthest_20 0 rfl ?_
    refine z_iload 21 C dX6_farthest_21 3 rfl ?_
    refine z_callV 23 C 32 (⟨rfl, rfl⟩) rfl (As := [.int (nI i)]) (rest := []) (m_X6_distanceFromAxis w hw (by omega) (hpos) i (by omega)) k_X6_distanceFromAxis q804 ⟨rfl, rfl⟩ ⟨Nat.le_of_ble_eq_true rfl, Nat.le_of_ble_eq_true rfl⟩ rfl (Nat.le_of_ble_eq_true rfl) ⟨Nat.le_of_ble_eq_true rfl, Nat.le_of_ble_eq_true rfl⟩ rfl dX6_farthest_23 (z_k1 ?_)
    refine z_lstore 26 C dX6_farthest_26 [(5, .long (z_dfa (σ.1 40) (σ.2 41) (σ.2 42) w i)), (0, .ref (z_ad G 32)), (1, .int (nI (z_bm (z_dfa (σ.1 40) (σ.2 41) (σ.2 42) w) i))), (2, .long (z_dfa (σ.1 40) (σ.2 41) (σ.2 42) w (z_bm (z_dfa (σ.1 40) (σ.2 41) (σ.2 42) w) i))), (4, .int (nI i))] (by decide) rfl ?_
    refine z_lload 28 C dX6_farthest_28 0 rfl ?_
    refine z_lload_n 30 C dX6_farthest_30 3 rfl ?_
    refine z_lcmp_le 31 C 41 dX6_farthest_31 dX6_farthest_32 (by decide) (fun c31 => ?_) (fun c31 => ?_)
    · skip
      refine z_iincN 41 C 4 i [(4, .int (nI (i + 1))), (5, .long (z_dfa (σ.1 40) (σ.2 41) (σ.2 42) w i)), (0, .ref (z_ad G 32)), (1, .int (nI (z_bm (z_dfa (σ.1 40) (σ.2 41) (σ.2 42) w) i))), (2, .long (z_dfa (σ.1 40) (σ.2 41) (σ.2 42) w (z_bm (z_dfa (σ.1 40) (σ.2 41) (σ.2 42) w) i)))] rfl rfl (by decide) rfl dX6_farthest_41 ?_
      refine z_goto 44 C 11 dX6_farthest_44 (by decide) ?_
      refine z_sub [2, 3, 4, 0] (lv1 := [(0, .ref (z_ad G 32)), (1, .int (nI (z_bm (z_dfa (σ.1 40) (σ.2 41) (σ.2 42) w) i))), (2, .long (z_dfa (σ.1 40) (σ.2 41) (σ.2 42) w (z_bm (z_dfa (σ.1 40) (σ.2 41) (σ.2 42) w) i))), (4, .int (nI (i + 1)))]) rfl ?_
      refine z_cv (lv1 := [(0, .ref (z_ad G 32)), (1, .int (nI (z_bm (z_dfa (σ.1 40) (σ.2 41) (σ.2 42) w) (i + 1)))), (2, .long (z_dfa (σ.1 40) (σ.2 41) (σ.2 42) w (z_bm (z_dfa (σ.1 40) (σ.2 41) (σ.2 42) w) (i + 1)))), (4, .int (nI (i + 1)))]) (st1 := []) (σ1 := σ) (by first | rw [z_bm_n (Int64.not_lt.mpr c31)] | rw [z_bm_s (Int64.not_le.mp c31)]) rfl rfl ?_
      exact ih_11 (i + 1) (by omega) (by omega)
    · skip
      refine z_lload 35 C dX6_farthest_35 0 rfl ?_
      refine z_lstore_n 37 C dX6_farthest_37 [(2, .long (z_dfa (σ.1 40) (σ.2 41) (σ.2 42) w i)), (5, .long (z_dfa (σ.1 40) (σ.2 41) (σ.2 42) w i)), (0, .ref (z_ad G 32)), (1, .int (nI (z_bm (z_dfa (σ.1 40) (σ.2 41) (σ.2 42) w) i))), (4, .int (nI i))] (by decide) rfl ?_
      refine z_iload 38 C dX6_farthest_38 4 rfl ?_
      refine z_istore_n 40 C dX6_farthest_40 [(1, .int (nI i)), (2, .long (z_dfa (σ.1 40) (σ.2 41) (σ.2 42) w i)), (5, .long (z_dfa (σ.1 40) (σ.2 41) (σ.2 42) w i)), (0, .ref (z_ad G 32)), (4, .int (nI i))] (by decide) rfl ?_
      refine z_iincN 41 C 4 i [(4, .int (nI (i + 1))), (1, .int (nI i)), (2, .long (z_dfa (σ.1 40) (σ.2 41) (σ.2 42) w i)), (5, .long (z_dfa (σ.1 40) (σ.2 41) (σ.2 42) w i)), (0, .ref (z_ad G 32))] rfl rfl (by decide) rfl dX6_farthest_41 ?_
      refine z_goto 44 C 11 dX6_farthest_44 (by decide) ?_
      refine z_sub [4, 1, 2, 0] (lv1 := [(0, .ref (z_ad G 32)), (1, .int (nI i)), (2, .long (z_dfa (σ.1 40) (σ.2 41) (σ.2 42) w i)), (4, .int (nI (i + 1)))]) rfl ?_
      refine z_cv (lv1 := [(0, .ref (z_ad G 32)), (1, .int (nI (z_bm (z_dfa (σ.1 40) (σ.2 41) (σ.2 42) w) (i + 1)))), (2, .long (z_dfa (σ.1 40) (σ.2 41) (σ.2 42) w (z_bm (z_dfa (σ.1 40) (σ.2 41) (σ.2 42) w) (i + 1)))), (4, .int (nI (i + 1)))]) (st1 := []) (σ1 := σ) (by first | rw [z_bm_n (Int64.not_lt.mpr c31)] | rw [z_bm_s (Int64.not_le.mp c31)]) rfl rfl ?_
      exact ih_11 (i + 1) (by omega) (by omega)
theorem dX6_spreadOfMeans_0 : decode cX6_spreadOfMeans 0 = .ok (.aload_n 0, 1) := by decide +kernel
theorem dX6_spreadOfMeans_1 : decode cX6_spreadOfMeans 1 = .ok (.getfield 27, 3) := by decide +kernel
theorem dX6_spreadOfMeans_4 : decode cX6_spreadOfMeans 4 = .ok (.iconst 0, 1) := by decide +kernel
theorem dX6_spreadOfMeans_5 : decode cX6_spreadOfMeans 5 = .ok (.laload, 1) := by decide +kernel
theorem dX6_spreadOfMeans_6 : decode cX6_spreadOfMeans 6 = .ok (.lstore_n 1, 1) := by decide +kernel
theorem dX6_spreadOfMeans_7 : decode cX6_spreadOfMeans 7 = .ok (.aload_n 0, 1) := by decide +kernel
theorem dX6_spreadOfMeans_8 : decode cX6_spreadOfMeans 8 = .ok (.getfield 27, 3) := by decide +kernel
theorem dX6_spreadOfMeans_11 : decode cX6_spreadOfMeans 11 = .ok (.iconst 0, 1) := by decide +kernel
theorem dX6_spreadOfMeans_12 : decode cX6_spreadOfMeans 12 = .ok (.laload, 1) := by decide +kernel
theorem dX6_spreadOfMeans_13 : decode cX6_spreadOfMeans 13 = .ok (.lstore_n 3, 1) := by decide +kernel
theorem dX6_spreadOfMeans_14 : decode cX6_spreadOfMeans 14 = .ok (.iconst 1, 1) := by decide +kernel
theorem dX6_spreadOfMeans_15 : decode cX6_spreadOfMeans 15 = .ok (.istore 5, 2) := by decide +kernel
theorem dX6_spreadOfMeans_17 : decode cX6_spreadOfMeans 17 = .ok (.iload 5, 2) := by decide +kernel
theorem dX6_spreadOfMeans_19 : decode cX6_spreadOfMeans 19 = .ok (.aload_n 0, 1) := by decide +kernel
theorem dX6_spreadOfMeans_20 : decode cX6_spreadOfMeans 20 = .ok (.getfield 30, 3) := by decide +kernel
theorem dX6_spreadOfMeans_23 : decode cX6_spreadOfMeans 23 = .ok (.if_icmp .ge 33, 3) := by decide +kernel
theorem dX6_spreadOfMeans_26 : decode cX6_spreadOfMeans 26 = .ok (.lload_n 1, 1) := by decide +kernel
theorem dX6_spreadOfMeans_27 : decode cX6_spreadOfMeans 27 = .ok (.aload_n 0, 1) := by decide +kernel
theorem dX6_spreadOfMeans_28 : decode cX6_spreadOfMeans 28 = .ok (.getfield 27, 3) := by decide +kernel
theorem dX6_spreadOfMeans_31 : decode cX6_spreadOfMeans 31 = .ok (.iload 5, 2) := by decide +kernel
theorem dX6_spreadOfMeans_33 : decode cX6_spreadOfMeans 33 = .ok (.laload, 1) := by decide +kernel
theorem dX6_spreadOfMeans_34 : decode cX6_spreadOfMeans 34 = .ok (.invokestatic 66, 3) := by decide +kernel
theorem dX6_spreadOfMeans_37 : decode cX6_spreadOfMeans 37 = .ok (.lstore_n 1, 1) := by decide +kernel
theorem dX6_spreadOfMeans_38 : decode cX6_spreadOfMeans 38 = .ok (.lload_n 3, 1) := by decide +kernel
theorem dX6_spreadOfMeans_39 : decode cX6_spreadOfMeans 39 = .ok (.aload_n 0, 1) := by decide +kernel
theorem dX6_spreadOfMeans_40 : decode cX6_spreadOfMeans 40 = .ok (.getfield 27, 3) := by decide +kernel
theorem dX6_spreadOfMeans_43 : decode cX6_spreadOfMeans 43 = .ok (.iload 5, 2) := by decide +kernel
theorem dX6_spreadOfMeans_45 : decode cX6_spreadOfMeans 45 = .ok (.laload, 1) := by decide +kernel
theorem dX6_spreadOfMeans_46 : decode cX6_spreadOfMeans 46 = .ok (.invokestatic 71, 3) := by decide +kernel
theorem dX6_spreadOfMeans_49 : decode cX6_spreadOfMeans 49 = .ok (.lstore_n 3, 1) := by decide +kernel
theorem dX6_spreadOfMeans_50 : decode cX6_spreadOfMeans 50 = .ok (.iinc 5 1, 3) := by decide +kernel
theorem dX6_spreadOfMeans_53 : decode cX6_spreadOfMeans 53 = .ok (.goto (-36), 3) := by decide +kernel
theorem dX6_spreadOfMeans_56 : decode cX6_spreadOfMeans 56 = .ok (.lload_n 1, 1) := by decide +kernel
theorem dX6_spreadOfMeans_57 : decode cX6_spreadOfMeans 57 = .ok (.lload_n 3, 1) := by decide +kernel
theorem dX6_spreadOfMeans_58 : decode cX6_spreadOfMeans 58 = .ok (.lsub, 1) := by decide +kernel
theorem dX6_spreadOfMeans_59 : decode cX6_spreadOfMeans 59 = .ok (.lreturn, 1) := by decide +kernel
set_option maxRecDepth 100000 in
set_option maxHeartbeats 4000000 in
theorem m_X6_spreadOfMeans {l : Launch} {G : z_Gl} {σ : z_St} (w : Nat) (hw : σ.1 32 5 = nI w) (hw6 : w ≤ 6) (h1 : 1 ≤ w) : z_M l G yX6_spreadOfMeans cX6_spreadOfMeans 6 (some .long) (z_rm 1 23) [.ref (z_ad G 32)] σ (z_p1 (.long (z_fmx (σ.2 43) (σ.2 43 0) w - z_fmn (σ.2 43) (σ.2 43 0) w)) σ) := by
  refine z_M.of (by decide) (Nat.le_of_ble_eq_true rfl) (fun p e s m below meth c C => ?_)
  refine z_sub [0] (lv1 := [(0, .ref (z_ad G 32))]) rfl ?_
  refine z_aload_n 0 C dX6_spreadOfMeans_0 0 rfl ?_
  refine z_getf 1 C 32 z_dX6 (⟨rfl, rfl⟩) 4 (by decide) q206 (.ref (z_ad G 43)) rfl dX6_spreadOfMeans_1 ?_
  refine z_iconst 4 C dX6_spreadOfMeans_4 (nI 0) rfl ?_
  refine z_laldN 5 C 43 (n := 6) (⟨rfl, rfl⟩) 0 rfl (by omega) (by decide) dX6_spreadOfMeans_5 ?_
  refine z_lstore_n 6 C dX6_spreadOfMeans_6 [(1, .long (σ.2 43 0)), (0, .ref (z_ad G 32))] (by decide) rfl ?_
  refine z_aload_n 7 C dX6_spreadOfMeans_7 1 rfl ?_
  refine z_getf 8 C 32 z_dX6 (⟨rfl, rfl⟩) 4 (by decide) q206 (.ref (z_ad G 43)) rfl dX6_spreadOfMeans_8 ?_
  refine z_iconst 11 C dX6_spreadOfMeans_11 (nI 0) rfl ?_
  refine z_laldN 12 C 43 (n := 6) (⟨rfl, rfl⟩) 0 rfl (by omega) (by decide) dX6_spreadOfMeans_12 ?_
  refine z_lstore_n 13 C dX6_spreadOfMeans_13 [(3, .long (σ.2 43 0)), (1, .long (σ.2 43 0)), (0, .ref (z_ad G 32))] (by decide) rfl ?_
  refine z_iconst 14 C dX6_spreadOfMeans_14 (nI 1) rfl ?_
  refine z_istore 15 C dX6_spreadOfMeans_15 [(5, .int (nI 1)), (3, .long (σ.2 43 0)), (1, .long (σ.2 43 0)), (0, .ref (z_ad G 32))] (by decide) rfl ?_
  refine z_sub [3, 2, 1, 0] (lv1 := [(0, .ref (z_ad G 32)), (1, .long (σ.2 43 0)), (3, .long (σ.2 43 0)), (5, .int (nI 1))]) rfl ?_
  refine z_cv (lv1 := [(0, .ref (z_ad G 32)), (1, .long (z_fmx (σ.2 43) (σ.2 43 0) 1)), (3, .long (z_fmn (σ.2 43) (σ.2 43 0) 1)), (5, .int (nI 1))]) (st1 := []) (σ1 := σ) (by rw [← z_fmx_1, ← z_fmn_1]) rfl rfl ?_
  refine z_lp1 (fun (i : Nat) => 1 ≤ i ∧ i ≤ w) (fun (i : Nat) => w - i) (fun (i : Nat) => [(0, .ref (z_ad G 32)), (1, .long (z_fmx (σ.2 43) (σ.2 43 0) i)), (3, .long (z_fmn (σ.2 43) (σ.2 43 0) i)), (5, .int (nI i))]) (fun (i : Nat) => σ) (fun i hi_17 ih_17 => ?_) 1 (by omega)
  try dsimp only
  refine z_iload 17 C dX6_spreadOfMeans_17 3 rfl ?_
  refine z_aload_n 19 C dX6_spreadOfMeans_19 0 rfl ?_
  refine z_getf 20 C 32 z_dX6 (⟨rfl, rfl⟩) 5 (by decide) q208 (.int (nI w)) (z_ci hw) dX6_spreadOfMeans_20 ?_
  refine z_icmp_geN 23 C i w rfl rfl (by omega) (by omega) 56 dX6_spreadOfMeans_23 (by decide) (fun c23 => ?_) (fun c23 => ?_)
  · skip
    have ei : w = i := by omega
    subst ei
    refine z_lload_n 56 C dX6_spreadOfMeans_56 1 rfl ?_
    refine z_lload_n 57 C dX6_spreadOfMeans_57 2 rfl ?_
    refine z_lsub 58 C dX6_spreadOfMeans_58 ?_
    refine z_lret 59 C dX6_spreadOfMeans_59 ?_
    exact ⟨rfl, rfl⟩
  · skip
    refine z_lload_n 26 C dX6_spreadOfMeans_26 1 rfl ?_
    refine z_aload_n 27 C dX6_spreadOfMeans_27 0 rfl ?_
    refine z_getf 28 C 32 z_dX6 (⟨rfl, rfl⟩) 4 (by decide) q206 (.ref (z_ad G 43)) rfl dX6_spreadOfMeans_28 ?_
    refine z_iload 31 C dX6_spreadOfMeans_31 3 rfl ?_
    refine z_laldN 33 C 43 (n := 6) (⟨rfl, rfl⟩) i rfl (by omega) (by decide) dX6_spreadOfMeans_33 ?_
    refine z_callS 34 C (As := [.long (z_fmx (σ.2 43) (σ.2 43 0) i), .long (σ.2 43 i)]) (rest := []) (m_J9_max_f86c9 (z_fmx (σ.2 43) (σ.2 43 0) i) (σ.2 43 i)) k_J9_max_f86c9 q794 ⟨rfl, rfl⟩ ⟨Nat.le_of_ble_eq_true rfl, Nat.le_of_ble_eq_true rfl⟩ rfl (Nat.le_of_ble_eq_true rfl) ⟨Nat.le_of_ble_eq_true rfl, Nat.le_of_ble_eq_true rfl⟩ rfl dX6_spreadOfMeans_34 (z_k1 ?_)
    refine z_lstore_n 37 C dX6_spreadOfMeans_37 [(1, .long (z_mx (z_fmx (σ.2 43) (σ.2 43 0) i) (σ.2 43 i))), (0, .ref (z_ad G 32)), (3, .long (z_fmn (σ.2 43) (σ.2 43 0) i)), (5, .int (nI i))] (by decide) rfl ?_
    refine z_lload_n 38 C dX6_spreadOfMeans_38 2 rfl ?_
    refine z_aload_n 39 C dX6_spreadOfMeans_39 1 rfl ?_
    refine z_getf 40 C 32 z_dX6 (⟨rfl, rfl⟩) 4 (by decide) q206 (.ref (z_ad G 43)) rfl dX6_spreadOfMeans_40 ?_
    refine z_iload 43 C dX6_spreadOfMeans_43 3 rfl ?_
    refine z_laldN 45 C 43 (n := 6) (⟨rfl, rfl⟩) i rfl (by omega) (by decide) dX6_spreadOfMeans_45 ?_
    refine z_callS 46 C (As := [.long (z_fmn (σ.2 43) (σ.2 43 0) i), .long (σ.2 43 i)]) (rest := []) (m_J9_min_f86c9 (z_fmn (σ.2 43) (σ.2 43 0) i) (σ.2 43 i)) k_J9_min_f86c9 q795 ⟨rfl, rfl⟩ ⟨Nat.le_of_ble_eq_true rfl, Nat.le_of_ble_eq_true rfl⟩ rfl (Nat.le_of_ble_eq_true rfl) ⟨Nat.le_of_ble_eq_true rfl, Nat.le_of_ble_eq_true rfl⟩ rfl dX6_spreadOfMeans_46 (z_k1 ?_)
    refine z_lstore_n 49 C dX6_spreadOfMeans_49 [(3, .long (z_mn (z_fmn (σ.2 43) (σ.2 43 0) i) (σ.2 43 i))), (1, .long (z_mx (z_fmx (σ.2 43) (σ.2 43 0) i) (σ.2 43 i))), (0, .ref (z_ad G 32)), (5, .int (nI i))] (by decide) rfl ?_
    refine z_iincN 50 C 3 i [(5, .int (nI (i + 1))), (3, .long (z_mn (z_fmn (σ.2 43) (σ.2 43 0) i) (σ.2 43 i))), (1, .long (z_mx (z_fmx (σ.2 43) (σ.2 43 0) i) (σ.2 43 i))), (0, .ref (z_ad G 32))] rfl rfl (by decide) rfl dX6_spreadOfMeans_50 ?_
    refine z_goto 53 C 17 dX6_spreadOfMeans_53 (by decide) ?_
    refine z_sub [3, 2, 1, 0] (lv1 := [(0, .ref (z_ad G 32)), (1, .long (z_mx (z_fmx (σ.2 43) (σ.2 43 0) i) (σ.2 43 i))), (3, .long (z_mn (z_fmn (σ.2 43) (σ.2 43 0) i) (σ.2 43 i))), (5, .int (nI (i + 1)))]) rfl ?_
    refine z_cv (lv1 := [(0, .ref (z_ad G 32)), (1, .long (z_fmx (σ.2 43) (σ.2 43 0) (i + 1))), (3, .long (z_fmn (σ.2 43) (σ.2 43 0) (i + 1))), (5, .int (nI (i + 1)))]) (st1 := []) (σ1 := σ) rfl rfl rfl ?_
    exact ih_17 (i + 1) (by omega) (by omega)
theorem dX6_mismatch_0 : decode cX6_mismatch 0 = .ok (.lconst 0, 1) := by decide +kernel
theorem dX6_mismatch_1 : decode cX6_mismatch 1 = .ok (.lstore 4, 2) := by decide +kernel
theorem dX6_mismatch_3 : decode cX6_mismatch 3 = .ok (.iconst 0, 1) := by decide +kernel
theorem dX6_mismatch_4 : decode cX6_mismatch 4 = .ok (.istore 6, 2) := by decide +kernel
theorem dX6_mismatch_6 : decode cX6_mismatch 6 = .ok (.iload 6, 2) := by decide +kernel
theorem dX6_mismatch_8 : decode cX6_mismatch 8 = .ok (.bipush 24, 2) := by decide +kernel
theorem dX6_mismatch_10 : decode cX6_mismatch 10 = .ok (.if_icmp .ge 41, 3) := by decide +kernel
theorem dX6_mismatch_13 : decode cX6_mismatch 13 = .ok (.lload 4, 2) := by decide +kernel
theorem dX6_mismatch_15 : decode cX6_mismatch 15 = .ok (.aload_n 0, 1) := by decide +kernel
theorem dX6_mismatch_16 : decode cX6_mismatch 16 = .ok (.getfield 13, 3) := by decide +kernel
theorem dX6_mismatch_19 : decode cX6_mismatch 19 = .ok (.iload_n 1, 1) := by decide +kernel
theorem dX6_mismatch_20 : decode cX6_mismatch 20 = .ok (.aaload, 1) := by decide +kernel
theorem dX6_mismatch_21 : decode cX6_mismatch 21 = .ok (.iload 6, 2) := by decide +kernel
theorem dX6_mismatch_23 : decode cX6_mismatch 23 = .ok (.iload_n 3, 1) := by decide +kernel
theorem dX6_mismatch_24 : decode cX6_mismatch 24 = .ok (.isub, 1) := by decide +kernel
theorem dX6_mismatch_25 : decode cX6_mismatch 25 = .ok (.invokestatic 82, 3) := by decide +kernel
theorem dX6_mismatch_28 : decode cX6_mismatch 28 = .ok (.laload, 1) := by decide +kernel
theorem dX6_mismatch_29 : decode cX6_mismatch 29 = .ok (.aload_n 0, 1) := by decide +kernel
theorem dX6_mismatch_30 : decode cX6_mismatch 30 = .ok (.getfield 13, 3) := by decide +kernel
theorem dX6_mismatch_33 : decode cX6_mismatch 33 = .ok (.iload_n 2, 1) := by decide +kernel
theorem dX6_mismatch_34 : decode cX6_mismatch 34 = .ok (.aaload, 1) := by decide +kernel
theorem dX6_mismatch_35 : decode cX6_mismatch 35 = .ok (.iload 6, 2) := by decide +kernel
theorem dX6_mismatch_37 : decode cX6_mismatch 37 = .ok (.laload, 1) := by decide +kernel
theorem dX6_mismatch_38 : decode cX6_mismatch 38 = .ok (.lsub, 1) := by decide +kernel
theorem dX6_mismatch_39 : decode cX6_mismatch 39 = .ok (.invokestatic 74, 3) := by decide +kernel
theorem dX6_mismatch_42 : decode cX6_mismatch 42 = .ok (.ladd, 1) := by decide +kernel
theorem dX6_mismatch_43 : decode cX6_mismatch 43 = .ok (.lstore 4, 2) := by decide +kernel
theorem dX6_mismatch_45 : decode cX6_mismatch 45 = .ok (.iinc 6 1, 3) := by decide +kernel
theorem dX6_mismatch_48 : decode cX6_mismatch 48 = .ok (.goto (-42), 3) := by decide +kernel
theorem dX6_mismatch_51 : decode cX6_mismatch 51 = .ok (.lload 4, 2) := by decide +kernel
theorem dX6_mismatch_53 : decode cX6_mismatch 53 = .ok (.lreturn, 1) := by decide +kernel
set_option maxRecDepth 100000 in
set_option maxHeartbeats 4000000 in
theorem m_X6_mismatch {l : Launch} {G : z_Gl} {σ : z_St} (a b u : Nat) (ha : a < 6) (hb : b < 6) (hu : u < 24) : z_M l G yX6_mismatch cX6_mismatch 7 (some .long) (z_rm 2 42) [.ref (z_ad G 32), .int (nI a), .int (nI b), .int (nI u)] σ (z_p1 (.long (z_mm (σ.2 (34 + a)) (σ.2 (34 + b)) u 24)) σ) := by
  refine z_M.of (by decide) (Nat.le_of_ble_eq_true rfl) (fun p e s m below meth c C => ?_)
  refine z_sub [0, 1, 2, 3] (lv1 := [(0, .ref (z_ad G 32)), (1, .int (nI a)), (2, .int (nI b)), (3, .int (nI u))]) rfl ?_
  refine z_lconst 0 C dX6_mismatch_0 0 rfl ?_
  refine z_lstore 1 C dX6_mismatch_1 [(4, .long 0), (0, .ref (z_ad G 32)), (1, .int (nI a)), (2, .int (nI b)), (3, .int (nI u))] (by decide) rfl ?_
  refine z_iconst 3 C dX6_mismatch_3 (nI 0) rfl ?_
  refine z_istore 4 C dX6_mismatch_4 [(6, .int (nI 0)), (4, .long 0), (0, .ref (z_ad G 32)), (1, .int (nI a)), (2, .int (nI b)), (3, .int (nI u))] (by decide) rfl ?_
  refine z_sub [2, 3, 4, 5, 1, 0] (lv1 := [(0, .ref (z_ad G 32)), (1, .int (nI a)), (2, .int (nI b)), (3, .int (nI u)), (4, .long 0), (6, .int (nI 0))]) rfl ?_
  refine z_cv (lv1 := [(0, .ref (z_ad G 32)), (1, .int (nI a)), (2, .int (nI b)), (3, .int (nI u)), (4, .long (z_mm (σ.2 (34 + a)) (σ.2 (34 + b)) u 0)), (6, .int (nI 0))]) (st1 := []) (σ1 := σ) rfl rfl rfl ?_
  refine z_lp1 (fun (k : Nat) => k ≤ 24) (fun (k : Nat) => 24 - k) (fun (k : Nat) => [(0, .ref (z_ad G 32)), (1, .int (nI a)), (2, .int (nI b)), (3, .int (nI u)), (4, .long (z_mm (σ.2 (34 + a)) (σ.2 (34 + b)) u k)), (6, .int (nI k))]) (fun (k : Nat) => σ) (fun k hi_6 ih_6 => ?_) 0 (by omega)
  try dsimp only
  refine z_iload 6 C dX6_mismatch_6 5 rfl ?_
  refine z_bipush 8 C dX6_mismatch_8 (nI 24) rfl ?_
  refine z_icmp_geN 10 C k 24 rfl rfl (by omega) (by omega) 51 dX6_mismatch_10 (by decide) (fun c10 => ?_) (fun c10 => ?_)
  · skip
    have ek : k = 24 := by omega
    subst ek
    refine z_lload 51 C dX6_mismatch_51 4 rfl ?_
    refine z_lret 53 C dX6_mismatch_53 ?_
    exact ⟨rfl, rfl⟩
  · skip
    refine z_lload 13 C dX6_mismatch_13 4 rfl ?_
    refine z_aload_n 15 C dX6_mismatch_15 0 rfl ?_
    refine z_getf 16 C 32 z_dX6 (⟨rfl, rfl⟩) 0 (by decide) q198 (.ref (z_ad G 33)) rfl dX6_mismatch_16 ?_
    refine z_iload_n 19 C dX6_mismatch_19 1 rfl ?_
    refine z_aaldN 20 C 33 (n := 6) ⟨Or.inr rfl, rfl⟩ a (34 + a) rfl (by omega) (by decide) rfl dX6_mismatch_20 ?_
    refine z_iload 21 C dX6_mismatch_21 5 rfl ?_
    refine z_iload_n 23 C dX6_mismatch_23 3 rfl ?_
    refine z_isub 24 C dX6_mismatch_24 ?_
    refine z_callSN 25 C (As := [.int ((nI k) - (nI u))]) (rest := [.ref (z_ad G (34 + a)), .long (z_mm (σ.2 (34 + a)) (σ.2 (34 + b)) u k)]) (m_X7_place_d k u (by omega) (by omega)) k_X7_place (List.mem_of_getElem? (i := 51) rfl) ⟨rfl, rfl⟩ ⟨Nat.le_of_ble_eq_true rfl, Nat.le_of_ble_eq_true rfl⟩ rfl (Nat.le_of_ble_eq_true rfl) ⟨Nat.le_of_ble_eq_true rfl, Nat.le_of_ble_eq_true rfl⟩ rfl dX6_mismatch_25 (z_k1 ?_)
    refine z_laldN 28 C (34 + a) (n := 24) (z_trK _ (by omega)) ((k + (24 - u % 24)) % 24) rfl (by omega) (by decide) dX6_mismatch_28 ?_
    refine z_aload_n 29 C dX6_mismatch_29 0 rfl ?_
    refine z_getf 30 C 32 z_dX6 (⟨rfl, rfl⟩) 0 (by decide) q198 (.ref (z_ad G 33)) rfl dX6_mismatch_30 ?_
    refine z_iload_n 33 C dX6_mismatch_33 2 rfl ?_
    refine z_aaldN 34 C 33 (n := 6) ⟨Or.inr rfl, rfl⟩ b (34 + b) rfl (by omega) (by decide) rfl dX6_mismatch_34 ?_
    refine z_iload 35 C dX6_mismatch_35 5 rfl ?_
    refine z_laldN 37 C (34 + b) (n := 24) (z_trK _ (by omega)) k rfl (by omega) (by decide) dX6_mismatch_37 ?_
    refine z_lsub 38 C dX6_mismatch_38 ?_
    refine z_callS 39 C (As := [.long ((σ.2 (34 + a) ((k + (24 - u % 24)) % 24)) - (σ.2 (34 + b) k))]) (rest := [.long (z_mm (σ.2 (34 + a)) (σ.2 (34 + b)) u k)]) (m_J9_abs_067f4 ((σ.2 (34 + a) ((k + (24 - u % 24)) % 24)) - (σ.2 (34 + b) k))) k_J9_abs_067f4 q808 ⟨rfl, rfl⟩ ⟨Nat.le_of_ble_eq_true rfl, Nat.le_of_ble_eq_true rfl⟩ rfl (Nat.le_of_ble_eq_true rfl) ⟨Nat.le_of_ble_eq_true rfl, Nat.le_of_ble_eq_true rfl⟩ rfl dX6_mismatch_39 (z_k1 ?_)
    refine z_ladd 42 C dX6_mismatch_42 ?_
    refine z_lstore 43 C dX6_mismatch_43 [(4, .long ((z_mm (σ.2 (34 + a)) (σ.2 (34 + b)) u k) + (z_ab ((σ.2 (34 + a) ((k + (24 - u % 24)) % 24)) - (σ.2 (34 + b) k))))), (0, .ref (z_ad G 32)), (1, .int (nI a)), (2, .int (nI b)), (3, .int (nI u)), (6, .int (nI k))] (by decide) rfl ?_
    refine z_iincN 45 C 5 k [(6, .int (nI (k + 1))), (4, .long ((z_mm (σ.2 (34 + a)) (σ.2 (34 + b)) u k) + (z_ab ((σ.2 (34 + a) ((k + (24 - u % 24)) % 24)) - (σ.2 (34 + b) k))))), (0, .ref (z_ad G 32)), (1, .int (nI a)), (2, .int (nI b)), (3, .int (nI u))] rfl rfl (by decide) rfl dX6_mismatch_45 ?_
    refine z_goto 48 C 6 dX6_mismatch_48 (by decide) ?_
    refine z_sub [2, 3, 4, 5, 1, 0] (lv1 := [(0, .ref (z_ad G 32)), (1, .int (nI a)), (2, .int (nI b)), (3, .int (nI u)), (4, .long ((z_mm (σ.2 (34 + a)) (σ.2 (34 + b)) u k) + (z_ab ((σ.2 (34 + a) ((k + (24 - u % 24)) % 24)) - (σ.2 (34 + b) k))))), (6, .int (nI (k + 1)))]) rfl ?_
    refine z_cv (lv1 := [(0, .ref (z_ad G 32)), (1, .int (nI a)), (2, .int (nI b)), (3, .int (nI u)), (4, .long (z_mm (σ.2 (34 + a)) (σ.2 (34 + b)) u (k + 1))), (6, .int (nI (k + 1)))]) (st1 := []) (σ1 := σ) rfl rfl rfl ?_
    exact ih_6 (k + 1) (by omega) (by omega)
theorem dX6_bestMatch_0 : decode cX6_bestMatch 0 = .ok (.iconst 0, 1) := by decide +kernel
theorem dX6_bestMatch_1 : decode cX6_bestMatch 1 = .ok (.istore_n 3, 1) := by decide +kernel
theorem dX6_bestMatch_2 : decode cX6_bestMatch 2 = .ok (.aload_n 0, 1) := by decide +kernel
theorem dX6_bestMatch_3 : decode cX6_bestMatch 3 = .ok (.iload_n 1, 1) := by decide +kernel
theorem dX6_bestMatch_4 : decode cX6_bestMatch 4 = .ok (.iload_n 2, 1) := by decide +kernel
theorem dX6_bestMatch_5 : decode cX6_bestMatch 5 = .ok (.iconst 0, 1) := by decide +kernel
theorem dX6_bestMatch_6 : decode cX6_bestMatch 6 = .ok (.invokevirtual 86, 3) := by decide +kernel
theorem dX6_bestMatch_9 : decode cX6_bestMatch 9 = .ok (.lstore 4, 2) := by decide +kernel
theorem dX6_bestMatch_11 : decode cX6_bestMatch 11 = .ok (.iconst 1, 1) := by decide +kernel
theorem dX6_bestMatch_12 : decode cX6_bestMatch 12 = .ok (.istore 6, 2) := by decide +kernel
theorem dX6_bestMatch_14 : decode cX6_bestMatch 14 = .ok (.iload 6, 2) := by decide +kernel
theorem dX6_bestMatch_16 : decode cX6_bestMatch 16 = .ok (.bipush 24, 2) := by decide +kernel
theorem dX6_bestMatch_18 : decode cX6_bestMatch 18 = .ok (.if_icmp .ge 34, 3) := by decide +kernel
theorem dX6_bestMatch_21 : decode cX6_bestMatch 21 = .ok (.aload_n 0, 1) := by decide +kernel
theorem dX6_bestMatch_22 : decode cX6_bestMatch 22 = .ok (.iload_n 1, 1) := by decide +kernel
theorem dX6_bestMatch_23 : decode cX6_bestMatch 23 = .ok (.iload_n 2, 1) := by decide +kernel
theorem dX6_bestMatch_24 : decode cX6_bestMatch 24 = .ok (.iload 6, 2) := by decide +kernel
theorem dX6_bestMatch_26 : decode cX6_bestMatch 26 = .ok (.invokevirtual 86, 3) := by decide +kernel
theorem dX6_bestMatch_29 : decode cX6_bestMatch 29 = .ok (.lstore 7, 2) := by decide +kernel
theorem dX6_bestMatch_31 : decode cX6_bestMatch 31 = .ok (.lload 7, 2) := by decide +kernel
theorem dX6_bestMatch_33 : decode cX6_bestMatch 33 = .ok (.lload 4, 2) := by decide +kernel
theorem dX6_bestMatch_35 : decode cX6_bestMatch 35 = .ok (.lcmp, 1) := by decide +kernel
theorem dX6_bestMatch_36 : decode cX6_bestMatch 36 = .ok (.ifCond .ge 10, 3) := by decide +kernel
theorem dX6_bestMatch_39 : decode cX6_bestMatch 39 = .ok (.lload 7, 2) := by decide +kernel
theorem dX6_bestMatch_41 : decode cX6_bestMatch 41 = .ok (.lstore 4, 2) := by decide +kernel
theorem dX6_bestMatch_43 : decode cX6_bestMatch 43 = .ok (.iload 6, 2) := by decide +kernel
theorem dX6_bestMatch_45 : decode cX6_bestMatch 45 = .ok (.istore_n 3, 1) := by decide +kernel
theorem dX6_bestMatch_46 : decode cX6_bestMatch 46 = .ok (.iinc 6 1, 3) := by decide +kernel
theorem dX6_bestMatch_49 : decode cX6_bestMatch 49 = .ok (.goto (-35), 3) := by decide +kernel
theorem dX6_bestMatch_52 : decode cX6_bestMatch 52 = .ok (.iload_n 3, 1) := by decide +kernel
theorem dX6_bestMatch_53 : decode cX6_bestMatch 53 = .ok (.ireturn, 1) := by decide +kernel
set_option maxRecDepth 100000 in
set_option maxHeartbeats 4000000 in
theorem m_X6_bestMatch {l : Launch} {G : z_Gl} {σ : z_St} (a b : Nat) (ha : a < 6) (hb : b < 6) : z_M l G yX6_bestMatch cX6_bestMatch 9 (some .int) (z_rm 3 68) [.ref (z_ad G 32), .int (nI a), .int (nI b)] σ (z_p1 (.int (nI (z_bl (fun u => z_mm (σ.2 (34 + a)) (σ.2 (34 + b)) u 24) 24))) σ) := by
  refine z_M.of (by decide) (Nat.le_of_ble_eq_true rfl) (fun p e s m below meth c C => ?_)
  refine z_sub [0, 1, 2] (lv1 := [(0, .ref (z_ad G 32)), (1, .int (nI a)), (2, .int (nI b))]) rfl ?_
  refine z_iconst 0 C dX6_bestMatch_0 (nI 0) rfl ?_
  refine z_istore_n 1 C dX6_bestMatch_1 [(3, .int (nI 0)), (0, .ref (z_ad G 32)), (1, .int (nI a)), (2, .int (nI b))] (by decide) rfl ?_
  refine z_aload_n 2 C dX6_bestMatch_2 1 rfl ?_
  refine z_iload_n 3 C dX6_bestMatch_3 2 rfl ?_
  refine z_iload_n 4 C dX6_bestMatch_4 3 rfl ?_
  refine z_iconst 5 C dX6_bestMatch_5 (nI 0) rfl ?_
  refine z_callV 6 C 32 (⟨rfl, rfl⟩) rfl (As := [.int (nI a), .int (nI b), .int (nI 0)]) (rest := []) (m_X6_mismatch a b 0 (by omega) (by omega) (by omega)) k_X6_mismatch q834 ⟨rfl, rfl⟩ ⟨Nat.le_of_ble_eq_true rfl, Nat.le_of_ble_eq_true rfl⟩ rfl (Nat.le_of_ble_eq_true rfl) ⟨Nat.le_of_ble_eq_true rfl, Nat.le_of_ble_eq_true rfl⟩ rfl dX6_bestMatch_6 (z_k1 ?_)
  refine z_lstore 9 C dX6_bestMatch_9 [(4, .long (z_mm (σ.2 (34 + a)) (σ.2 (34 + b)) 0 24)), (3, .int (nI 0)), (0, .ref (z_ad G 32)), (1, .int (nI a)), (2, .int (nI b))] (by decide) rfl ?_
  refine z_iconst 11 C dX6_bestMatch_11 (nI 1) rfl ?_
  refine z_istore 12 C dX6_bestMatch_12 [(6, .int (nI 1)), (4, .long (z_mm (σ.2 (34 + a)) (σ.2 (34 + b)) 0 24)), (3, .int (nI 0)), (0, .ref (z_ad G 32)), (1, .int (nI a)), (2, .int (nI b))] (by decide) rfl ?_
  refine z_sub [3, 4, 5, 2, 1, 0] (lv1 := [(0, .ref (z_ad G 32)), (1, .int (nI a)), (2, .int (nI b)), (3, .int (nI 0)), (4, .long (z_mm (σ.2 (34 + a)) (σ.2 (34 + b)) 0 24)), (6, .int (nI 1))]) rfl ?_
  refine z_cv (lv1 := [(0, .ref (z_ad G 32)), (1, .int (nI a)), (2, .int (nI b)), (3, .int (nI (z_bl (fun u => z_mm (σ.2 (34 + a)) (σ.2 (34 + b)) u 24) 1))), (4, .long (z_mm (σ.2 (34 + a)) (σ.2 (34 + b)) (z_bl (fun u => z_mm (σ.2 (34 + a)) (σ.2 (34 + b)) u 24) 1) 24)), (6, .int (nI 1))]) (st1 := []) (σ1 := σ) (by rw [z_bl_1]) rfl rfl ?_
  refine z_lp1 (fun (i : Nat) => 1 ≤ i ∧ i ≤ 24) (fun (i : Nat) => 24 - i) (fun (i : Nat) => [(0, .ref (z_ad G 32)), (1, .int (nI a)), (2, .int (nI b)), (3, .int (nI (z_bl (fun u => z_mm (σ.2 (34 + a)) (σ.2 (34 + b)) u 24) i))), (4, .long (z_mm (σ.2 (34 + a)) (σ.2 (34 + b)) (z_bl (fun u => z_mm (σ.2 (34 + a)) (σ.2 (34 + b)) u 24) i) 24)), (6, .int (nI i))]) (fun (i : Nat) => σ) (fun i hi_14 ih_14 => ?_) 1 (by omega)
  try dsimp only
  refine z_iload 14 C dX6_bestMatch_14 5 rfl ?_
  refine z_bipush 16 C dX6_bestMatch_16 (nI 24) rfl ?_
  refine z_icmp_geN 18 C i 24 rfl rfl (by omega) (by omega) 52 dX6_bestMatch_18 (by decide) (fun c18 => ?_) (fun c18 => ?_)
  · skip
    have ei : i = 24 := by omega
    subst ei
    refine z_iload_n 52 C dX6_bestMatch_52 3 rfl ?_
    refine z_iret 53 C dX6_bestMatch_53 ?_
    exact ⟨rfl, rfl⟩
  · skip
    refine z_aload_n 21 C dX6_bestMatch_21 0 rfl ?_
    refine z_iload_n 22 C dX6_bestMatch_22 1 rfl ?_
    refine z_iload_n 23 C dX6_bestMatch_23 2 rfl ?_
    refine z_iload 24 C dX6_bestMatch_24 5 rfl ?_
    refine z_callV 26 C 32 (⟨rfl, rfl⟩) rfl (As := [.int (nI a), .int (nI b), .int (nI i)]) (rest := []) (m_X6_mismatch a b i (by omega) (by omega) (by omega)) k_X6_mismatch q834 ⟨rfl, rfl⟩ ⟨Nat.le_of_ble_eq_true rfl, Nat.le_of_ble_eq_true rfl⟩ rfl (Nat.le_of_ble_eq_true rfl) ⟨Nat.le_of_ble_eq_true rfl, Nat.le_of_ble_eq_true rfl⟩ rfl dX6_bestMatch_26 (z_k1 ?_)
    refine z_lstore 29 C dX6_bestMatch_29 [(7, .long (z_mm (σ.2 (34 + a)) (σ.2 (34 + b)) i 24)), (0, .ref (z_ad G 32)), (1, .int (nI a)), (2, .int (nI b)), (3, .int (nI (z_bl (fun u => z_mm (σ.2 (34 + a)) (σ.2 (34 + b)) u 24) i))), (4, .long (z_mm (σ.2 (34 + a)) (σ.2 (34 + b)) (z_bl (fun u => z_mm (σ.2 (34 + a)) (σ.2 (34 + b)) u 24) i) 24)), (6, .int (nI i))] (by decide) rfl ?_
    refine z_lload 31 C dX6_bestMatch_31 0 rfl ?_
    refine z_lload 33 C dX6_bestMatch_33 5 rfl ?_
    refine z_lcmp_ge 35 C 46 dX6_bestMatch_35 dX6_bestMatch_36 (by decide) (fun c35 => ?_) (fun c35 => ?_)
    · skip
      refine z_iincN 46 C 6 i [(6, .int (nI (i + 1))), (7, .long (z_mm (σ.2 (34 + a)) (σ.2 (34 + b)) i 24)), (0, .ref (z_ad G 32)), (1, .int (nI a)), (2, .int (nI b)), (3, .int (nI (z_bl (fun u => z_mm (σ.2 (34 + a)) (σ.2 (34 + b)) u 24) i))), (4, .long (z_mm (σ.2 (34 + a)) (σ.2 (34 + b)) (z_bl (fun u => z_mm (σ.2 (34 + a)) (σ.2 (34 + b)) u 24) i) 24))] rfl rfl (by decide) rfl dX6_bestMatch_46 ?_
      refine z_goto 49 C 14 dX6_bestMatch_49 (by decide) ?_
      refine z_sub [2, 3, 4, 5, 6, 0] (lv1 := [(0, .ref (z_ad G 32)), (1, .int (nI a)), (2, .int (nI b)), (3, .int (nI (z_bl (fun u => z_mm (σ.2 (34 + a)) (σ.2 (34 + b)) u 24) i))), (4, .long (z_mm (σ.2 (34 + a)) (σ.2 (34 + b)) (z_bl (fun u => z_mm (σ.2 (34 + a)) (σ.2 (34 + b)) u 24) i) 24)), (6, .int (nI (i + 1)))]) rfl ?_
      refine z_cv (lv1 := [(0, .ref (z_ad G 32)), (1, .int (nI a)), (2, .int (nI b)), (3, .int (nI (z_bl (fun u => z_mm (σ.2 (34 + a)) (σ.2 (34 + b)) u 24) (i + 1)))), (4, .long (z_mm (σ.2 (34 + a)) (σ.2 (34 + b)) (z_bl (fun u => z_mm (σ.2 (34 + a)) (σ.2 (34 + b)) u 24) (i + 1)) 24)), (6, .int (nI (i + 1)))]) (st1 := []) (σ1 := σ) (by first | rw [z_bl_n (f := (fun u => z_mm (σ.2 (34 + a)) (σ.2 (34 + b)) u 24)) (Int64.not_lt.mpr c35)] | rw [z_bl_s (f := (fun u => z_mm (σ.2 (34 + a)) (σ.2 (34 + b)) u 24)) (Int64.not_le.mp c35)]) rfl rfl ?_
      exact ih_14 (i + 1) (by omega) (by omega)
    · skip
      refine z_lload 39 C dX6_bestMatch_39 0 rfl ?_
      refine z_lstore 41 C dX6_bestMatch_41 [(4, .long (z_mm (σ.2 (34 + a)) (σ.2 (34 + b)) i 24)), (7, .long (z_mm (σ.2 (34 + a)) (σ.2 (34 + b)) i 24)), (0, .ref (z_ad G 32)), (1, .int (nI a)), (2, .int (nI b)), (3, .int (nI (z_bl (fun u => z_mm (σ.2 (34 + a)) (σ.2 (34 + b)) u 24) i))), (6, .int (nI i))] (by decide) rfl ?_
      refine z_iload 43 C dX6_bestMatch_43 6 rfl ?_
      refine z_istore_n 45 C dX6_bestMatch_45 [(3, .int (nI i)), (4, .long (z_mm (σ.2 (34 + a)) (σ.2 (34 + b)) i 24)), (7, .long (z_mm (σ.2 (34 + a)) (σ.2 (34 + b)) i 24)), (0, .ref (z_ad G 32)), (1, .int (nI a)), (2, .int (nI b)), (6, .int (nI i))] (by decide) rfl ?_
      refine z_iincN 46 C 6 i [(6, .int (nI (i + 1))), (3, .int (nI i)), (4, .long (z_mm (σ.2 (34 + a)) (σ.2 (34 + b)) i 24)), (7, .long (z_mm (σ.2 (34 + a)) (σ.2 (34 + b)) i 24)), (0, .ref (z_ad G 32)), (1, .int (nI a)), (2, .int (nI b))] rfl rfl (by decide) rfl dX6_bestMatch_46 ?_
      refine z_goto 49 C 14 dX6_bestMatch_49 (by decide) ?_
      refine z_sub [4, 5, 6, 1, 2, 0] (lv1 := [(0, .ref (z_ad G 32)), (1, .int (nI a)), (2, .int (nI b)), (3, .int (nI i)), (4, .long (z_mm (σ.2 (34 + a)) (σ.2 (34 + b)) i 24)), (6, .int (nI (i + 1)))]) rfl ?_
      refine z_cv (lv1 := [(0, .ref (z_ad G 32)), (1, .int (nI a)), (2, .int (nI b)), (3, .int (nI (z_bl (fun u => z_mm (σ.2 (34 + a)) (σ.2 (34 + b)) u 24) (i + 1)))), (4, .long (z_mm (σ.2 (34 + a)) (σ.2 (34 + b)) (z_bl (fun u => z_mm (σ.2 (34 + a)) (σ.2 (34 + b)) u 24) (i + 1)) 24)), (6, .int (nI (i + 1)))]) (st1 := []) (σ1 := σ) (by first | rw [z_bl_n (f := (fun u => z_mm (σ.2 (34 + a)) (σ.2 (34 + b)) u 24)) (Int64.not_lt.mpr c35)] | rw [z_bl_s (f := (fun u => z_mm (σ.2 (34 + a)) (σ.2 (34 + b)) u 24)) (Int64.not_le.mp c35)]) rfl rfl ?_
      exact ih_14 (i + 1) (by omega) (by omega)
