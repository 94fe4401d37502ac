/-! A CIRCLE FITTED; equal profiles have equal circles -/
theorem z_df_ag {f g : Nat → Int64} (h : z_eq24 f g) (x y : Int64) : ∀ k, k < 24 → z_df f x y k = z_df g x y k := fun k hk => by unfold z_df; rw [h k hk]
theorem z_fmx_ag {d e : Nat → Int64} {g : Int64} : ∀ {n : Nat}, (∀ k, k < n → d k = e k) → z_fmx d g n = z_fmx e g n
  | 0, _ => rfl
  | n + 1, h => by rw [z_fmx, z_fmx, z_fmx_ag (n := n) (fun k hk => h k (Nat.lt_succ_of_lt hk)), h n (Nat.lt_succ_self n)]
theorem z_fmn_ag {d e : Nat → Int64} {g : Int64} : ∀ {n : Nat}, (∀ k, k < n → d k = e k) → z_fmn d g n = z_fmn e g n
  | 0, _ => rfl
  | n + 1, h => by rw [z_fmn, z_fmn, z_fmn_ag (n := n) (fun k hk => h k (Nat.lt_succ_of_lt hk)), h n (Nat.lt_succ_self n)]
theorem z_F_ag {f g : Nat → Int64} (h : z_eq24 f g) (me : Int32) (x y : Int64) : z_F f me x y = z_F g me x y := by
  unfold z_F
  rw [z_fmx_ag (z_df_ag h x y), z_fmn_ag (z_df_ag h x y)]
theorem zs_D_ag {f g : Nat → Int64} (h : z_eq24 f g) (me : Int32) (x y s : Int64) : zs_D f me x y s = zs_D g me x y s := funext fun i => by unfold zs_D; rw [z_F_ag h]
theorem z_stp_ag {f g : Nat → Int64} (h : z_eq24 f g) (me : Int32) (q : z_S3) : z_stp f me q = z_stp g me q := by
  unfold z_stp
  rw [zs_D_ag h, z_F_ag h]
theorem zs_go_ag {f g : Nat → Int64} (h : z_eq24 f g) (me : Int32) : ∀ n, zs_go f me n = zs_go g me n
  | 0 => rfl
  | n + 1 => by rw [zs_go, zs_go, zs_go_ag h me n, z_stp_ag h]
theorem z_ce_ag {f g : Nat → Int64} (h : z_eq24 f g) (me : Int32) : z_ce f me = z_ce g me := by
  have e : zs_go f me = zs_go g me := funext (zs_go_ag h me)
  unfold z_ce
  rw [e]
theorem z_sm_ag {f g : Nat → Int64} {t h : Nat} : ∀ {n : Nat}, (∀ k, k < n → f k = g k) → z_sm f t h n = z_sm g t h n
  | 0, _ => rfl
  | n + 1, q => by rw [z_sm, z_sm, z_sm_ag (n := n) (fun k hk => q k (Nat.lt_succ_of_lt hk)), q n (Nat.lt_succ_self n)]
theorem z_cf_ag {f g : Nat → Int64} (h : z_eq24 f g) (t i : Nat) : z_cf f t i = z_cf g t i := by
  unfold z_cf
  rw [z_sm_ag h]
/-- the circle of method mm: centre, ends, deviations -/
noncomputable def z_cx (z : Nat → Int64) (mm : Nat) : Int64 := if mm = 0 then z_cf z 0 1 else (z_ce z (nI mm)).1
noncomputable def z_cy (z : Nat → Int64) (mm : Nat) : Int64 := if mm = 0 then z_cf z 1 1 else (z_ce z (nI mm)).2.1
noncomputable def z_cd (z : Nat → Int64) (mm : Nat) : Nat → Int64 := z_df z (z_cx z mm) (z_cy z mm)
noncomputable def z_tp (z : Nat → Int64) (mm : Nat) : Int64 := z_fmx (z_cd z mm) z_MIN 24
noncomputable def z_bt (z : Nat → Int64) (mm : Nat) : Int64 := z_fmn (z_cd z mm) z_MAX 24
theorem z_cx_ag {f g : Nat → Int64} (h : z_eq24 f g) (mm : Nat) : z_cx f mm = z_cx g mm := by unfold z_cx; rw [z_cf_ag h, z_ce_ag h]
theorem z_cy_ag {f g : Nat → Int64} (h : z_eq24 f g) (mm : Nat) : z_cy f mm = z_cy g mm := by unfold z_cy; rw [z_cf_ag h, z_ce_ag h]
theorem z_cd_ag {f g : Nat → Int64} (h : z_eq24 f g) (mm : Nat) : ∀ k, k < 24 → z_cd f mm k = z_cd g mm k := fun k hk => by unfold z_cd; rw [z_cx_ag h, z_cy_ag h, z_df_ag h _ _ k hk]
theorem z_tp_ag {f g : Nat → Int64} (h : z_eq24 f g) (mm : Nat) : z_tp f mm = z_tp g mm := z_fmx_ag (z_cd_ag h mm)
theorem z_bt_ag {f g : Nat → Int64} (h : z_eq24 f g) (mm : Nat) : z_bt f mm = z_bt g mm := z_fmn_ag (z_cd_ag h mm)
/-- what the circle at b holds behind a fit -/
def z_fit (σ : z_St) (b : Nat) (z : Nat → Int64) (mm : Nat) (σ1 : z_St) : Prop := ∃ (nc : Int32) (pf dv : Nat → Int64) (nr : Nat → Int32), z_eq24 pf z ∧ z_eq24 dv (z_cd z mm) ∧ σ1 = z_cU σ b (nI mm) nc (z_cx z mm) (z_cy z mm) (z_tp z mm) (z_bt z mm) pf dv nr
/-- what a circle holds is right -/
def z_vc0 (me : Int32) (pf : Nat → Int64) (x y g lo : Int64) (dv : Nat → Int64) : Prop := me = -1 ∨ ∃ mm, mm < 4 ∧ me = nI mm ∧ x = z_cx pf mm ∧ y = z_cy pf mm ∧ g = z_tp pf mm ∧ lo = z_bt pf mm ∧ z_eq24 dv (z_cd pf mm)
def z_vc (σ : z_St) (b : Nat) : Prop := z_vc0 (σ.1 b 4) (σ.2 (b + 1)) (σ.2 b 5) (σ.2 b 6) (σ.2 b 7) (σ.2 b 8) (σ.2 (b + 2))
theorem z_eq24.symm {f g : Nat → Int64} (h : z_eq24 f g) : z_eq24 g f := fun k hk => (h k hk).symm
theorem z_eq24.trans {f g d : Nat → Int64} (h : z_eq24 f g) (h2 : z_eq24 g d) : z_eq24 f d := fun k hk => (h k hk).trans (h2 k hk)
theorem z_eq24_fil {f g : Nat → Int64} : z_eq24 (z_fil f g 24) f := fun k hk => z_fil_lt hk
theorem zf_same {σ : z_St} {b mm : Nat} {me nc : Int32} {x y gr lo : Int64} {pf dv z : Nat → Int64} {nr : Nat → Int32} (hv : z_vc0 me pf x y gr lo dv) (hm : me = nI mm) (hmm : mm < 4) (he : z_eq24 pf z) : z_fit σ b z mm (z_cU σ b me nc x y gr lo pf dv nr) := by
  unfold z_vc0 at hv
  rcases hv with hv | ⟨m2, h4, h5, g1, g2, g3, g4, h6⟩
  · rw [hm] at hv
    exact absurd hv (z_nIm1 mm (by omega))
  · have e : m2 = mm := (nI_eq (by omega) (by omega)).mp (h5.symm.trans hm)
    subst e
    subst h5
    refine ⟨nc, pf, dv, nr, he, h6.trans (z_cd_ag he m2), ?_⟩
    rw [g1, g2, g3, g4, z_cx_ag he, z_cy_ag he, z_tp_ag he, z_bt_ag he]
theorem zf_new {σ : z_St} {b mm : Nat} {nc : Int32} {x y : Int64} {pf dv z : Nat → Int64} {nr : Nat → Int32} (hx : x = z_cx z mm) (hy : y = z_cy z mm) : z_fit σ b z mm (z_cU σ b (nI mm) nc x y (z_fmx (z_df (z_fil z pf 24) x y) (-9223372036854775808) 24) (z_fmn (z_df (z_fil z pf 24) x y) 9223372036854775807 24) (z_fil z pf 24) (z_fil (z_df (z_fil z pf 24) x y) dv 24) nr) := by
  subst hx
  subst hy
  have h := z_df_ag (z_eq24_fil (f := z) (g := pf)) (z_cx z mm) (z_cy z mm)
  refine ⟨nc, z_fil z pf 24, z_fil (z_df (z_fil z pf 24) (z_cx z mm) (z_cy z mm)) dv 24, nr, z_eq24_fil, z_eq24_fil.trans h, ?_⟩
  rw [z_fmx_ag h, z_fmn_ag h]
  rfl
theorem z_cx_0 {z : Nat → Int64} {mm : Nat} (h : mm = 0) : z_cf z 0 1 = z_cx z mm := (if_pos h).symm
theorem z_cy_0 {z : Nat → Int64} {mm : Nat} (h : mm = 0) : z_cf z 1 1 = z_cy z mm := (if_pos h).symm
theorem z_cx_1 {z f : Nat → Int64} {mm : Nat} (h : ¬ mm = 0) : (z_ce (z_fil z f 24) (nI mm)).1 = z_cx z mm := by rw [z_ce_ag z_eq24_fil]; exact (if_neg h).symm
theorem z_cy_1 {z f : Nat → Int64} {mm : Nat} (h : ¬ mm = 0) : (z_ce (z_fil z f 24) (nI mm)).2.1 = z_cy z mm := by rw [z_ce_ag z_eq24_fil]; exact (if_neg h).symm
theorem zs_hb_ag {f g : Nat → Int64} (h : z_eq24 f g) (hg : zs_hb g) : zs_hb f := fun k hk => by rw [h k hk]; exact hg k hk
theorem z_cU_c24 {σ : z_St} {b r : Nat} {me nc : Int32} {x y gr lo : Int64} {pf dv : Nat → Int64} {nr : Nat → Int32} (h : ¬ r = b) (h1 : ¬ r = b + 1) (h2 : ¬ r = b + 2) : z_uL (z_cU σ b me nc x y gr lo pf dv nr) (b + 1) (va_cpy ((z_cU σ b me nc x y gr lo pf dv nr).2 r) ((z_cU σ b me nc x y gr lo pf dv nr).2 (b + 1)) 0 0 24) = z_cU σ b me nc x y gr lo (z_fil (σ.2 r) pf 24) dv nr := by
  rw [z_cU_pf, z_cU_r h h1 h2, z_cpy24, z_cU_wpf]
theorem dX0_fit_0 : decode cX0_fit 0 = .ok (.aload_n 0, 1) := by decide +kernel
theorem dX0_fit_1 : decode cX0_fit 1 = .ok (.getfield 26, 3) := by decide +kernel
theorem dX0_fit_4 : decode cX0_fit 4 = .ok (.iload_n 2, 1) := by decide +kernel
theorem dX0_fit_5 : decode cX0_fit 5 = .ok (.if_icmp .ne 15, 3) := by decide +kernel
theorem dX0_fit_8 : decode cX0_fit 8 = .ok (.aload_n 0, 1) := by decide +kernel
theorem dX0_fit_9 : decode cX0_fit 9 = .ok (.getfield 9, 3) := by decide +kernel
theorem dX0_fit_12 : decode cX0_fit 12 = .ok (.aload_n 1, 1) := by decide +kernel
theorem dX0_fit_13 : decode cX0_fit 13 = .ok (.invokestatic 42, 3) := by decide +kernel
theorem dX0_fit_16 : decode cX0_fit 16 = .ok (.ifCond .eq 4, 3) := by decide +kernel
theorem dX0_fit_19 : decode cX0_fit 19 = .ok (.return_, 1) := by decide +kernel
theorem dX0_fit_20 : decode cX0_fit 20 = .ok (.aload_n 1, 1) := by decide +kernel
theorem dX0_fit_21 : decode cX0_fit 21 = .ok (.iconst 0, 1) := by decide +kernel
theorem dX0_fit_22 : decode cX0_fit 22 = .ok (.aload_n 0, 1) := by decide +kernel
theorem dX0_fit_23 : decode cX0_fit 23 = .ok (.getfield 9, 3) := by decide +kernel
theorem dX0_fit_26 : decode cX0_fit 26 = .ok (.iconst 0, 1) := by decide +kernel
theorem dX0_fit_27 : decode cX0_fit 27 = .ok (.bipush 24, 2) := by decide +kernel
theorem dX0_fit_29 : decode cX0_fit 29 = .ok (.invokestatic 46, 3) := by decide +kernel
theorem dX0_fit_32 : decode cX0_fit 32 = .ok (.aload_n 0, 1) := by decide +kernel
theorem dX0_fit_33 : decode cX0_fit 33 = .ok (.iload_n 2, 1) := by decide +kernel
theorem dX0_fit_34 : decode cX0_fit 34 = .ok (.putfield 26, 3) := by decide +kernel
theorem dX0_fit_37 : decode cX0_fit 37 = .ok (.aload_n 0, 1) := by decide +kernel
theorem dX0_fit_38 : decode cX0_fit 38 = .ok (.getfield 26, 3) := by decide +kernel
theorem dX0_fit_41 : decode cX0_fit 41 = .ok (.ifCond .ne 26, 3) := by decide +kernel
theorem dX0_fit_44 : decode cX0_fit 44 = .ok (.aload_n 0, 1) := by decide +kernel
theorem dX0_fit_45 : decode cX0_fit 45 = .ok (.aload_n 1, 1) := by decide +kernel
theorem dX0_fit_46 : decode cX0_fit 46 = .ok (.iconst 1, 1) := by decide +kernel
theorem dX0_fit_47 : decode cX0_fit 47 = .ok (.iconst 0, 1) := by decide +kernel
theorem dX0_fit_48 : decode cX0_fit 48 = .ok (.invokestatic 52, 3) := by decide +kernel
theorem dX0_fit_51 : decode cX0_fit 51 = .ok (.putfield 29, 3) := by decide +kernel
theorem dX0_fit_54 : decode cX0_fit 54 = .ok (.aload_n 0, 1) := by decide +kernel
theorem dX0_fit_55 : decode cX0_fit 55 = .ok (.aload_n 1, 1) := by decide +kernel
theorem dX0_fit_56 : decode cX0_fit 56 = .ok (.iconst 1, 1) := by decide +kernel
theorem dX0_fit_57 : decode cX0_fit 57 = .ok (.iconst 1, 1) := by decide +kernel
theorem dX0_fit_58 : decode cX0_fit 58 = .ok (.invokestatic 52, 3) := by decide +kernel
theorem dX0_fit_61 : decode cX0_fit 61 = .ok (.putfield 33, 3) := by decide +kernel
theorem dX0_fit_64 : decode cX0_fit 64 = .ok (.goto 7, 3) := by decide +kernel
theorem dX0_fit_67 : decode cX0_fit 67 = .ok (.aload_n 0, 1) := by decide +kernel
theorem dX0_fit_68 : decode cX0_fit 68 = .ok (.invokevirtual 56, 3) := by decide +kernel
theorem dX0_fit_71 : decode cX0_fit 71 = .ok (.aload_n 0, 1) := by decide +kernel
theorem dX0_fit_72 : decode cX0_fit 72 = .ok (.invokevirtual 59, 3) := by decide +kernel
theorem dX0_fit_75 : decode cX0_fit 75 = .ok (.return_, 1) := by decide +kernel
set_option maxRecDepth 100000 in
set_option maxHeartbeats 4000000 in
theorem m_X0_fit {l : Launch} {G : z_Gl} {σ : z_St} (b : Nat) (hb : z_iC b) (me nc : Int32) (x y gr lo : Int64) (pf dv : Nat → Int64) (nr : Nat → Int32) (r mm : Nat) (hr : z_kd r = 2 ∧ z_sz r = 24) (h0 : ¬ r = b) (h1 : ¬ r = b + 1) (h2 : ¬ r = b + 2) (hmm : mm < 4) (hvc : z_vc0 me pf x y gr lo dv) (hp : zs_hb (σ.2 r)) : z_M l G yX0_fit cX0_fit 3 none (z_rm 4 104) [.ref (z_ad G b), .ref (z_ad G r), .int (nI mm)] (z_cU σ b me nc x y gr lo pf dv nr) (fun v σ1 => v = none ∧ z_fit σ b (σ.2 r) mm σ1) := by
  refine z_M.of (by decide) (Nat.le_of_ble_eq_true rfl) (fun p e s m below meth c C => ?_)
  refine z_sub [0, 1, 2] (lv1 := [(0, .ref (z_ad G b)), (1, .ref (z_ad G r)), (2, .int (nI mm))]) rfl ?_
  refine z_aload_n 0 C dX0_fit_0 0 rfl ?_
  refine z_getf 1 C b z_dX0 (z_cC hb) 4 (by decide) q240 (.int me) (z_ci z_cU_me) dX0_fit_1 ?_
  refine z_iload_n 4 C dX0_fit_4 2 rfl ?_
  refine z_icmp_ne 5 C 20 dX0_fit_5 (by decide) (fun c5 => ?_) (fun c5 => ?_)
  · skip
    refine z_aload_n 20 C dX0_fit_20 1 rfl ?_
    refine z_iconst 21 C dX0_fit_21 (nI 0) rfl ?_
    refine z_aload_n 22 C dX0_fit_22 0 rfl ?_
    refine z_getf 23 C b z_dX0 (z_cC hb) 0 (by decide) q235 (.ref (z_ad G (b + 1))) rfl dX0_fit_23 ?_
    refine z_iconst 26 C dX0_fit_26 (nI 0) rfl ?_
    refine z_bipush 27 C dX0_fit_27 (nI 24) rfl ?_
    refine z_cpyl 29 C r (b + 1) (n0 := 24) (n1 := 24) (hr) (z_cP hb) q654 0 0 24 rfl rfl rfl (by omega) (by omega) (by decide) (by decide) (Nat.le_of_ble_eq_true rfl) (Nat.le_of_ble_eq_true rfl) dX0_fit_29 ?_
    refine z_cv (lv1 := [(0, .ref (z_ad G b)), (1, .ref (z_ad G r)), (2, .int (nI mm))]) (st1 := []) (σ1 := z_cU σ b me nc x y gr lo (z_fil (σ.2 r) pf 24) dv nr) rfl rfl (z_cU_c24 h0 h1 h2) ?_
    refine z_aload_n 32 C dX0_fit_32 0 rfl ?_
    refine z_iload_n 33 C dX0_fit_33 2 rfl ?_
    refine z_puti 34 C b z_dX0 (z_cC hb) 4 (by decide) q240 rfl (rfl) rfl ⟨Nat.le_of_ble_eq_true rfl, rfl⟩ dX0_fit_34 ?_
    refine z_cv (σ1 := z_cU σ b (nI mm) nc x y gr lo (z_fil (σ.2 r) pf 24) dv nr) rfl rfl z_cU_pme ?_
    refine z_aload_n 37 C dX0_fit_37 0 rfl ?_
    refine z_getf 38 C b z_dX0 (z_cC hb) 4 (by decide) q240 (.int (nI mm)) (z_ci z_cU_me) dX0_fit_38 ?_
    refine z_if_ne 41 C 67 dX0_fit_41 (by decide) (fun c41 => ?_) (fun c41 => ?_)
    · skip
      have hm1 : ¬ mm = 0 := fun z => c41 (by rw [z]; rfl)
      refine z_aload_n 67 C dX0_fit_67 0 rfl ?_
      refine z_callV 68 C b (⟨(z_cC hb).1, by rw [(z_cC hb).2]; rfl⟩) rfl (As := []) (rest := []) (@m_X0_search _ _ σ b (hb) (nI mm) nc x y gr lo (z_fil (σ.2 r) pf 24) dv nr (zs_hb_ag z_eq24_fil hp)) k_X0_search q656 ⟨rfl, rfl⟩ ⟨Nat.le_of_ble_eq_true rfl, Nat.le_of_ble_eq_true rfl⟩ rfl (Nat.le_of_ble_eq_true rfl) ⟨Nat.le_of_ble_eq_true rfl, Nat.le_of_ble_eq_true rfl⟩ rfl dX0_fit_68 (fun v68 σ68 hv68 => ?_)
      rcases hv68 with ⟨rfl, nc1, gr1, lo1, dv1, nr1, rfl⟩
      · skip
        refine z_cv (st1 := []) rfl rfl rfl ?_
        refine z_aload_n 71 C dX0_fit_71 0 rfl ?_
        refine z_callV 72 C b (⟨(z_cC hb).1, by rw [(z_cC hb).2]; rfl⟩) rfl (As := []) (rest := []) (@m_X0_measure _ _ σ b (hb) (nI mm) nc1 ((z_ce (z_fil (σ.2 r) pf 24) (nI mm)).1) ((z_ce (z_fil (σ.2 r) pf 24) (nI mm)).2.1) gr1 lo1 (z_fil (σ.2 r) pf 24) dv1 nr1 ) k_X0_measure q660 ⟨rfl, rfl⟩ ⟨Nat.le_of_ble_eq_true rfl, Nat.le_of_ble_eq_true rfl⟩ rfl (Nat.le_of_ble_eq_true rfl) ⟨Nat.le_of_ble_eq_true rfl, Nat.le_of_ble_eq_true rfl⟩ rfl dX0_fit_72 (z_k0 ?_)
        refine z_vret 75 C dX0_fit_75 ?_
        exact ⟨rfl, zf_new (z_cx_1 hm1) (z_cy_1 hm1)⟩
    · skip
      have hm0 : mm = 0 := (z_nI0 (by omega)).mp c41
      refine z_aload_n 44 C dX0_fit_44 0 rfl ?_
      refine z_aload_n 45 C dX0_fit_45 1 rfl ?_
      refine z_iconst 46 C dX0_fit_46 (nI 1) rfl ?_
      refine z_iconst 47 C dX0_fit_47 (nI 0) rfl ?_
      refine z_callSN 48 C (As := [.ref (z_ad G r), .int (nI 1), .int (nI 0)]) (rest := [.ref (z_ad G b)]) (m_X7_coefficient (σ := z_cU σ b (nI mm) nc x y gr lo (z_fil (σ.2 r) pf 24) dv nr) r 1 0 (hr) (by omega) (by omega)) k_X7_coefficient (List.mem_of_getElem? (i := 33) rfl) ⟨rfl, rfl⟩ ⟨Nat.le_of_ble_eq_true rfl, Nat.le_of_ble_eq_true rfl⟩ rfl (Nat.le_of_ble_eq_true rfl) ⟨Nat.le_of_ble_eq_true rfl, Nat.le_of_ble_eq_true rfl⟩ rfl dX0_fit_48 (z_k1 ?_)
      refine z_cv (lv1 := [(0, .ref (z_ad G b)), (1, .ref (z_ad G r)), (2, .int (nI mm))]) (st1 := [.long (z_cf (σ.2 r) 0 1), .ref (z_ad G b)]) (σ1 := z_cU σ b (nI mm) nc x y gr lo (z_fil (σ.2 r) pf 24) dv nr) rfl (by rw [z_cU_r h0 h1 h2]) rfl ?_
      refine z_putl 51 C b z_dX0 (z_cC hb) 5 (by decide) q241 rfl (rfl) rfl ⟨Nat.le_of_ble_eq_true rfl, rfl⟩ dX0_fit_51 ?_
      refine z_cv (σ1 := z_cU σ b (nI mm) nc (z_cf (σ.2 r) 0 1) y gr lo (z_fil (σ.2 r) pf 24) dv nr) rfl rfl z_cU_px ?_
      refine z_aload_n 54 C dX0_fit_54 0 rfl ?_
      refine z_aload_n 55 C dX0_fit_55 1 rfl ?_
      refine z_iconst 56 C dX0_fit_56 (nI 1) rfl ?_
      refine z_iconst 57 C dX0_fit_57 (nI 1) rfl ?_
      refine z_callSN 58 C (As := [.ref (z_ad G r), .int (nI 1), .int (nI 1)]) (rest := [.ref (z_ad G b)]) (m_X7_coefficient (σ := z_cU σ b (nI mm) nc (z_cf (σ.2 r) 0 1) y gr lo (z_fil (σ.2 r) pf 24) dv nr) r 1 1 (hr) (by omega) (by omega)) k_X7_coefficient (List.mem_of_getElem? (i := 33) rfl) ⟨rfl, rfl⟩ ⟨Nat.le_of_ble_eq_true rfl, Nat.le_of_ble_eq_true rfl⟩ rfl (Nat.le_of_ble_eq_true rfl) ⟨Nat.le_of_ble_eq_true rfl, Nat.le_of_ble_eq_true rfl⟩ rfl dX0_fit_58 (z_k1 ?_)
      refine z_cv (lv1 := [(0, .ref (z_ad G b)), (1, .ref (z_ad G r)), (2, .int (nI mm))]) (st1 := [.long (z_cf (σ.2 r) 1 1), .ref (z_ad G b)]) (σ1 := z_cU σ b (nI mm) nc (z_cf (σ.2 r) 0 1) y gr lo (z_fil (σ.2 r) pf 24) dv nr) rfl (by rw [z_cU_r h0 h1 h2]) rfl ?_
      refine z_putl 61 C b z_dX0 (z_cC hb) 6 (by decide) q243 rfl (rfl) rfl ⟨Nat.le_of_ble_eq_true rfl, rfl⟩ dX0_fit_61 ?_
      refine z_cv (σ1 := z_cU σ b (nI mm) nc (z_cf (σ.2 r) 0 1) (z_cf (σ.2 r) 1 1) gr lo (z_fil (σ.2 r) pf 24) dv nr) rfl rfl z_cU_py ?_
      refine z_goto 64 C 71 dX0_fit_64 (by decide) ?_
      refine z_aload_n 71 C dX0_fit_71 0 rfl ?_
      refine z_callV 72 C b (⟨(z_cC hb).1, by rw [(z_cC hb).2]; rfl⟩) rfl (As := []) (rest := []) (@m_X0_measure _ _ σ b (hb) (nI mm) nc (z_cf (σ.2 r) 0 1) (z_cf (σ.2 r) 1 1) gr lo (z_fil (σ.2 r) pf 24) dv nr ) k_X0_measure q660 ⟨rfl, rfl⟩ ⟨Nat.le_of_ble_eq_true rfl, Nat.le_of_ble_eq_true rfl⟩ rfl (Nat.le_of_ble_eq_true rfl) ⟨Nat.le_of_ble_eq_true rfl, Nat.le_of_ble_eq_true rfl⟩ rfl dX0_fit_72 (z_k0 ?_)
      refine z_vret 75 C dX0_fit_75 ?_
      exact ⟨rfl, zf_new (z_cx_0 hm0) (z_cy_0 hm0)⟩
  · skip
    refine z_aload_n 8 C dX0_fit_8 0 rfl ?_
    refine z_getf 9 C b z_dX0 (z_cC hb) 0 (by decide) q235 (.ref (z_ad G (b + 1))) rfl dX0_fit_9 ?_
    refine z_aload_n 12 C dX0_fit_12 1 rfl ?_
    refine z_callSN 13 C (As := [.ref (z_ad G (b + 1)), .ref (z_ad G r)]) (rest := []) (m_X7_isSame (σ := z_cU σ b me nc x y gr lo pf dv nr) (b + 1) r (z_cP hb) (hr)) k_X7_isSame (List.mem_of_getElem? (i := 32) rfl) ⟨rfl, rfl⟩ ⟨Nat.le_of_ble_eq_true rfl, Nat.le_of_ble_eq_true rfl⟩ rfl (Nat.le_of_ble_eq_true rfl) ⟨Nat.le_of_ble_eq_true rfl, Nat.le_of_ble_eq_true rfl⟩ rfl dX0_fit_13 (z_k1 ?_)
    refine z_if_eqb 16 C 20 dX0_fit_16 (by decide) (fun c16 => ?_) (fun c16 => ?_)
    · skip
      refine z_aload_n 20 C dX0_fit_20 1 rfl ?_
      refine z_iconst 21 C dX0_fit_21 (nI 0) rfl ?_
      refine z_aload_n 22 C dX0_fit_22 0 rfl ?_
      refine z_getf 23 C b z_dX0 (z_cC hb) 0 (by decide) q235 (.ref (z_ad G (b + 1))) rfl dX0_fit_23 ?_
      refine z_iconst 26 C dX0_fit_26 (nI 0) rfl ?_
      refine z_bipush 27 C dX0_fit_27 (nI 24) rfl ?_
      refine z_cpyl 29 C r (b + 1) (n0 := 24) (n1 := 24) (hr) (z_cP hb) q654 0 0 24 rfl rfl rfl (by omega) (by omega) (by decide) (by decide) (Nat.le_of_ble_eq_true rfl) (Nat.le_of_ble_eq_true rfl) dX0_fit_29 ?_
      refine z_cv (lv1 := [(0, .ref (z_ad G b)), (1, .ref (z_ad G r)), (2, .int (nI mm))]) (st1 := []) (σ1 := z_cU σ b me nc x y gr lo (z_fil (σ.2 r) pf 24) dv nr) rfl rfl (z_cU_c24 h0 h1 h2) ?_
      refine z_aload_n 32 C dX0_fit_32 0 rfl ?_
      refine z_iload_n 33 C dX0_fit_33 2 rfl ?_
      refine z_puti 34 C b z_dX0 (z_cC hb) 4 (by decide) q240 rfl (rfl) rfl ⟨Nat.le_of_ble_eq_true rfl, rfl⟩ dX0_fit_34 ?_
      refine z_cv (σ1 := z_cU σ b (nI mm) nc x y gr lo (z_fil (σ.2 r) pf 24) dv nr) rfl rfl z_cU_pme ?_
      refine z_aload_n 37 C dX0_fit_37 0 rfl ?_
      refine z_getf 38 C b z_dX0 (z_cC hb) 4 (by decide) q240 (.int (nI mm)) (z_ci z_cU_me) dX0_fit_38 ?_
      refine z_if_ne 41 C 67 dX0_fit_41 (by decide) (fun c41 => ?_) (fun c41 => ?_)
      · skip
        have hm1 : ¬ mm = 0 := fun z => c41 (by rw [z]; rfl)
        refine z_aload_n 67 C dX0_fit_67 0 rfl ?_
        refine z_callV 68 C b (⟨(z_cC hb).1, by rw [(z_cC hb).2]; rfl⟩) rfl (As := []) (rest := []) (@m_X0_search _ _ σ b (hb) (nI mm) nc x y gr lo (z_fil (σ.2 r) pf 24) dv nr (zs_hb_ag z_eq24_fil hp)) k_X0_search q656 ⟨rfl, rfl⟩ ⟨Nat.le_of_ble_eq_true rfl, Nat.le_of_ble_eq_true rfl⟩ rfl (Nat.le_of_ble_eq_true rfl) ⟨Nat.le_of_ble_eq_true rfl, Nat.le_of_ble_eq_true rfl⟩ rfl dX0_fit_68 (fun v68 σ68 hv68 => ?_)
        rcases hv68 with ⟨rfl, nc1, gr1, lo1, dv1, nr1, rfl⟩
        · skip
          refine z_cv (st1 := []) rfl rfl rfl ?_
          refine z_aload_n 71 C dX0_fit_71 0 rfl ?_
          refine z_callV 72 C b (⟨(z_cC hb).1, by rw [(z_cC hb).2]; rfl⟩) rfl (As := []) (rest := []) (@m_X0_measure _ _ σ b (hb) (nI mm) nc1 ((z_ce (z_fil (σ.2 r) pf 24) (nI mm)).1) ((z_ce (z_fil (σ.2 r) pf 24) (nI mm)).2.1) gr1 lo1 (z_fil (σ.2 r) pf 24) dv1 nr1 ) k_X0_measure q660 ⟨rfl, rfl⟩ ⟨Nat.le_of_ble_eq_true rfl, Nat.le_of_ble_eq_true rfl⟩ rfl (Nat.le_of_ble_eq_true rfl) ⟨Nat.le_of_ble_eq_true rfl, Nat.le_of_ble_eq_true rfl⟩ rfl dX0_fit_72 (z_k0 ?_)
          refine z_vret 75 C dX0_fit_75 ?_
          exact ⟨rfl, zf_new (z_cx_1 hm1) (z_cy_1 hm1)⟩
      · skip
        have hm0 : mm = 0 := (z_nI0 (by omega)).mp c41
        refine z_aload_n 44 C dX0_fit_44 0 rfl ?_
        refine z_aload_n 45 C dX0_fit_45 1 rfl ?_
        refine z_iconst 46 C dX0_fit_46 (nI 1) rfl ?_
        refine z_iconst 47 C dX0_fit_47 (nI 0) rfl ?_
        refine z_callSN 48 C (As := [.ref (z_ad G r), .int (nI 1), .int (nI 0)]) (rest := [.ref (z_ad G b)]) (m_X7_coefficient (σ := z_cU σ b (nI mm) nc x y gr lo (z_fil (σ.2 r) pf 24) dv nr) r 1 0 (hr) (by omega) (by omega)) k_X7_coefficient (List.mem_of_getElem? (i := 33) rfl) ⟨rfl, rfl⟩ ⟨Nat.le_of_ble_eq_true rfl, Nat.le_of_ble_eq_true rfl⟩ rfl (Nat.le_of_ble_eq_true rfl) ⟨Nat.le_of_ble_eq_true rfl, Nat.le_of_ble_eq_true rfl⟩ rfl dX0_fit_48 (z_k1 ?_)
        refine z_cv (lv1 := [(0, .ref (z_ad G b)), (1, .ref (z_ad G r)), (2, .int (nI mm))]) (st1 := [.long (z_cf (σ.2 r) 0 1), .ref (z_ad G b)]) (σ1 := z_cU σ b (nI mm) nc x y gr lo (z_fil (σ.2 r) pf 24) dv nr) rfl (by rw [z_cU_r h0 h1 h2]) rfl ?_
        refine z_putl 51 C b z_dX0 (z_cC hb) 5 (by decide) q241 rfl (rfl) rfl ⟨Nat.le_of_ble_eq_true rfl, rfl⟩ dX0_fit_51 ?_
        refine z_cv (σ1 := z_cU σ b (nI mm) nc (z_cf (σ.2 r) 0 1) y gr lo (z_fil (σ.2 r) pf 24) dv nr) rfl rfl z_cU_px ?_
        refine z_aload_n 54 C dX0_fit_54 0 rfl ?_
        refine z_aload_n 55 C dX0_fit_55 1 rfl ?_
        refine z_iconst 56 C dX0_fit_56 (nI 1) rfl ?_
        refine z_iconst 57 C dX0_fit_57 (nI 1) rfl ?_
        refine z_callSN 58 C (As := [.ref (z_ad G r), .int (nI 1), .int (nI 1)]) (rest := [.ref (z_ad G b)]) (m_X7_coefficient (σ := z_cU σ b (nI mm) nc (z_cf (σ.2 r) 0 1) y gr lo (z_fil (σ.2 r) pf 24) dv nr) r 1 1 (hr) (by omega) (by omega)) k_X7_coefficient (List.mem_of_getElem? (i := 33) rfl) ⟨rfl, rfl⟩ ⟨Nat.le_of_ble_eq_true rfl, Nat.le_of_ble_eq_true rfl⟩ rfl (Nat.le_of_ble_eq_true rfl) ⟨Nat.le_of_ble_eq_true rfl, Nat.le_of_ble_eq_true rfl⟩ rfl dX0_fit_58 (z_k1 ?_)
        refine z_cv (lv1 := [(0, .ref (z_ad G b)), (1, .ref (z_ad G r)), (2, .int (nI mm))]) (st1 := [.long (z_cf (σ.2 r) 1 1), .ref (z_ad G b)]) (σ1 := z_cU σ b (nI mm) nc (z_cf (σ.2 r) 0 1) y gr lo (z_fil (σ.2 r) pf 24) dv nr) rfl (by rw [z_cU_r h0 h1 h2]) rfl ?_
        refine z_putl 61 C b z_dX0 (z_cC hb) 6 (by decide) q243 rfl (rfl) rfl ⟨Nat.le_of_ble_eq_true rfl, rfl⟩ dX0_fit_61 ?_
        refine z_cv (σ1 := z_cU σ b (nI mm) nc (z_cf (σ.2 r) 0 1) (z_cf (σ.2 r) 1 1) gr lo (z_fil (σ.2 r) pf 24) dv nr) rfl rfl z_cU_py ?_
        refine z_goto 64 C 71 dX0_fit_64 (by decide) ?_
        refine z_aload_n 71 C dX0_fit_71 0 rfl ?_
        refine z_callV 72 C b (⟨(z_cC hb).1, by rw [(z_cC hb).2]; rfl⟩) rfl (As := []) (rest := []) (@m_X0_measure _ _ σ b (hb) (nI mm) nc (z_cf (σ.2 r) 0 1) (z_cf (σ.2 r) 1 1) gr lo (z_fil (σ.2 r) pf 24) dv nr ) k_X0_measure q660 ⟨rfl, rfl⟩ ⟨Nat.le_of_ble_eq_true rfl, Nat.le_of_ble_eq_true rfl⟩ rfl (Nat.le_of_ble_eq_true rfl) ⟨Nat.le_of_ble_eq_true rfl, Nat.le_of_ble_eq_true rfl⟩ rfl dX0_fit_72 (z_k0 ?_)
        refine z_vret 75 C dX0_fit_75 ?_
        exact ⟨rfl, zf_new (z_cx_0 hm0) (z_cy_0 hm0)⟩
    · skip
      refine z_vret 19 C dX0_fit_19 ?_
      exact ⟨rfl, zf_same hvc c5 hmm (by rw [z_cU_pf, z_cU_r h0 h1 h2] at c16; exact c16)⟩
theorem m_X0_fit_s {l : Launch} {G : z_Gl} {σ : z_St} (b : Nat) (hb : z_iC b) (r mm : Nat) (hr : z_kd r = 2 ∧ z_sz r = 24) (h0 : ¬ r = b) (h1 : ¬ r = b + 1) (h2 : ¬ r = b + 2) (hmm : mm < 4) (hvc : z_vc σ b) (hp : zs_hb (σ.2 r)) : z_M l G yX0_fit cX0_fit 3 none (z_rm 4 104) [.ref (z_ad G b), .ref (z_ad G r), .int (nI mm)] σ (fun v σ1 => v = none ∧ z_fit σ b (σ.2 r) mm σ1) := by
  have h := m_X0_fit (l := l) (G := G) (σ := σ) b hb (σ.1 b 4) (σ.1 b 3) (σ.2 b 5) (σ.2 b 6) (σ.2 b 7) (σ.2 b 8) (σ.2 (b + 1)) (σ.2 (b + 2)) (σ.1 (b + 3)) r mm hr h0 h1 h2 hmm hvc hp
  rw [z_cU_self] at h
  exact h
/-- the cells of circles, and next -/
def z_cc (a : Nat) : Prop := a = 88 ∨ (50 ≤ a ∧ a < 82) ∨ (89 ≤ a ∧ a < 105)
def z_vcs (σ : z_St) : Prop := ∀ b, z_iC b → z_vc σ b
/-- all but the circles (and next) stands, and the circles are right -/
def z_kp (σ σ1 : z_St) : Prop := z_vcs σ1 ∧ ∀ a, ¬ z_cc a → σ1.1 a = σ.1 a ∧ σ1.2 a = σ.2 a
theorem z_iC_cc : ∀ b, z_iC b → ((50 ≤ b ∧ b + 3 < 82) ∨ (89 ≤ b ∧ b + 3 < 105)) ∧ ∀ d, z_iC d → d = b ∨ d + 3 < b ∨ b + 3 < d := by
  have h : ∀ b ∈ z_cs, ((50 ≤ b ∧ b + 3 < 82) ∨ (89 ≤ b ∧ b + 3 < 105)) ∧ ∀ d ∈ z_cs, d = b ∨ d + 3 < b ∨ b + 3 < d := by decide
  exact h
theorem z_fit.vc {σ σ1 : z_St} {b mm : Nat} {z : Nat → Int64} (h : z_fit σ b z mm σ1) (hmm : mm < 4) (hb : z_iC b) (hv : z_vcs σ) : z_vcs σ1 := by
  obtain ⟨nc, pf, dv, nr, h1, h2, rfl⟩ := h
  intro d hd
  rcases (z_iC_cc b hb).2 d hd with q | q
  · subst q
    right
    rw [z_cU_me, z_cU_x, z_cU_y, z_cU_g, z_cU_l, z_cU_pf, z_cU_dv]
    exact ⟨mm, hmm, rfl, (z_cx_ag h1 mm).symm, (z_cy_ag h1 mm).symm, (z_tp_ag h1 mm).symm, (z_bt_ag h1 mm).symm, h2.trans (z_cd_ag h1.symm mm)⟩
  · have hh := hv d hd
    unfold z_vc at hh ⊢
    have n0 : ¬ d = b := by omega
    have n3 : ¬ d = b + 3 := by omega
    have n1 : ¬ d = b + 1 := by omega
    have n2 : ¬ d = b + 2 := by omega
    have m0 : ¬ d + 1 = b := by omega
    have m1 : ¬ d = b := by omega
    have m2 : ¬ d + 1 = b + 2 := by omega
    have k0 : ¬ d + 2 = b := by omega
    have k1 : ¬ d + 2 = b + 1 := by omega
    have e1 : (z_cU σ b (nI mm) nc (z_cx z mm) (z_cy z mm) (z_tp z mm) (z_bt z mm) pf dv nr).1 d = σ.1 d := by simp [z_cU, n0, n3]
    have e2 : (z_cU σ b (nI mm) nc (z_cx z mm) (z_cy z mm) (z_tp z mm) (z_bt z mm) pf dv nr).2 d = σ.2 d := z_cU_r n0 n1 n2
    have e3 : (z_cU σ b (nI mm) nc (z_cx z mm) (z_cy z mm) (z_tp z mm) (z_bt z mm) pf dv nr).2 (d + 1) = σ.2 (d + 1) := z_cU_r m0 (by omega) m2
    have e4 : (z_cU σ b (nI mm) nc (z_cx z mm) (z_cy z mm) (z_tp z mm) (z_bt z mm) pf dv nr).2 (d + 2) = σ.2 (d + 2) := z_cU_r k0 k1 (by omega)
    rw [e1, e2, e3, e4]
    exact hh
theorem z_fit.fr {σ σ1 : z_St} {b mm : Nat} {z : Nat → Int64} (h : z_fit σ b z mm σ1) (hb : z_iC b) : ∀ a, ¬ z_cc a → σ1.1 a = σ.1 a ∧ σ1.2 a = σ.2 a := by
  obtain ⟨nc, pf, dv, nr, h1, h2, rfl⟩ := h
  intro a ha
  have hq := (z_iC_cc b hb).1
  unfold z_cc at ha
  have n0 : ¬ a = b := by omega
  have n3 : ¬ a = b + 3 := by omega
  exact ⟨by simp [z_cU, n0, n3], z_cU_r n0 (by omega) (by omega)⟩
theorem z_kp.refl {σ : z_St} (h : z_vcs σ) : z_kp σ σ := ⟨h, fun _ _ => ⟨rfl, rfl⟩⟩
theorem z_kp.trans {σ σ1 σ2 : z_St} (h : z_kp σ σ1) (h2 : z_kp σ1 σ2) : z_kp σ σ2 := ⟨h2.1, fun a ha => ⟨(h2.2 a ha).1.trans (h.2 a ha).1, (h2.2 a ha).2.trans (h.2 a ha).2⟩⟩
theorem z_fit.kp {σ σ1 : z_St} {b mm : Nat} {z : Nat → Int64} (h : z_fit σ b z mm σ1) (hmm : mm < 4) (hb : z_iC b) (hv : z_vcs σ) : z_kp σ σ1 := ⟨h.vc hmm hb hv, h.fr hb⟩
theorem z_vcs.u88 {σ : z_St} {f : Nat → Int64} (h : z_vcs σ) : z_vcs (z_uL σ 88 f) := by
  intro b hb
  have hq := (z_iC_cc b hb).1
  have hh := h b hb
  unfold z_vc at hh ⊢
  rw [z_uL2n (by omega), z_uL2n (by omega), z_uL2n (by omega)]
  exact hh
theorem z_kp.u88 {σ : z_St} {f : Nat → Int64} (h : z_vcs σ) : z_kp σ (z_uL σ 88 f) := ⟨h.u88, fun a ha => ⟨rfl, z_uL2n (fun z => ha (Or.inl z))⟩⟩
