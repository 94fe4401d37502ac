/-! A circle: all that it holds, at once -/
def z_cU (σ : z_St) (b : Nat) (me nc : Int32) (x y g l : Int64) (pf dv : Nat → Int64) (nr : Nat → Int32) : z_St :=
  (fun a => if a = b then (fun k => if k = 3 then nc else if k = 4 then me else σ.1 b k) else if a = b + 3 then nr else σ.1 a,
   fun a => if a = b then (fun k => if k = 5 then x else if k = 6 then y else if k = 7 then g else if k = 8 then l else σ.2 b k) else if a = b + 1 then pf else if a = b + 2 then dv else σ.2 a)
theorem z_cU_nc {σ : z_St} {b : Nat} {me nc : Int32} {x y g l : Int64} {pf dv : Nat → Int64} {nr : Nat → Int32} : (z_cU σ b me nc x y g l pf dv nr).1 b 3 = nc := by simp [z_cU]
theorem z_cU_me {σ : z_St} {b : Nat} {me nc : Int32} {x y g l : Int64} {pf dv : Nat → Int64} {nr : Nat → Int32} : (z_cU σ b me nc x y g l pf dv nr).1 b 4 = me := by simp [z_cU]
theorem z_cU_x {σ : z_St} {b : Nat} {me nc : Int32} {x y g l : Int64} {pf dv : Nat → Int64} {nr : Nat → Int32} : (z_cU σ b me nc x y g l pf dv nr).2 b 5 = x := by simp [z_cU]
theorem z_cU_y {σ : z_St} {b : Nat} {me nc : Int32} {x y g l : Int64} {pf dv : Nat → Int64} {nr : Nat → Int32} : (z_cU σ b me nc x y g l pf dv nr).2 b 6 = y := by simp [z_cU]
theorem z_cU_g {σ : z_St} {b : Nat} {me nc : Int32} {x y g l : Int64} {pf dv : Nat → Int64} {nr : Nat → Int32} : (z_cU σ b me nc x y g l pf dv nr).2 b 7 = g := by simp [z_cU]
theorem z_cU_l {σ : z_St} {b : Nat} {me nc : Int32} {x y g l : Int64} {pf dv : Nat → Int64} {nr : Nat → Int32} : (z_cU σ b me nc x y g l pf dv nr).2 b 8 = l := by simp [z_cU]
theorem z_cU_pf {σ : z_St} {b : Nat} {me nc : Int32} {x y g l : Int64} {pf dv : Nat → Int64} {nr : Nat → Int32} : (z_cU σ b me nc x y g l pf dv nr).2 (b + 1) = pf := by simp [z_cU]
theorem z_cU_dv {σ : z_St} {b : Nat} {me nc : Int32} {x y g l : Int64} {pf dv : Nat → Int64} {nr : Nat → Int32} : (z_cU σ b me nc x y g l pf dv nr).2 (b + 2) = dv := by simp [z_cU]
theorem z_cU_nr {σ : z_St} {b : Nat} {me nc : Int32} {x y g l : Int64} {pf dv : Nat → Int64} {nr : Nat → Int32} : (z_cU σ b me nc x y g l pf dv nr).1 (b + 3) = nr := by simp [z_cU]
theorem z_cU_pnc {σ : z_St} {b : Nat} {me nc : Int32} {x y g l : Int64} {pf dv : Nat → Int64} {nr : Nat → Int32} {v : Int32} : z_ui (z_cU σ b me nc x y g l pf dv nr) b 3 v = z_cU σ b me v x y g l pf dv nr := by
  unfold z_ui z_cU
  refine Prod.ext ?_ rfl
  funext a
  by_cases h : a = b
  · subst h
    funext k
    simp only [if_true, upd]
    by_cases h2 : k = 3
    · subst h2; simp
    · simp [h2]
  · simp [h]
theorem z_cU_pme {σ : z_St} {b : Nat} {me nc : Int32} {x y g l : Int64} {pf dv : Nat → Int64} {nr : Nat → Int32} {v : Int32} : z_ui (z_cU σ b me nc x y g l pf dv nr) b 4 v = z_cU σ b v nc x y g l pf dv nr := by
  unfold z_ui z_cU
  refine Prod.ext ?_ rfl
  funext a
  by_cases h : a = b
  · subst h
    funext k
    simp only [if_true, upd]
    by_cases h2 : k = 4
    · subst h2; simp
    · simp [h2]
  · simp [h]
theorem z_cU_px {σ : z_St} {b : Nat} {me nc : Int32} {x y g l : Int64} {pf dv : Nat → Int64} {nr : Nat → Int32} {v : Int64} : z_ul (z_cU σ b me nc x y g l pf dv nr) b 5 v = z_cU σ b me nc v y g l pf dv nr := by
  unfold z_ul z_cU
  refine Prod.ext rfl ?_
  funext a
  by_cases h : a = b
  · subst h
    funext k
    simp only [if_true, vp_updL]
    by_cases h2 : k = 5
    · subst h2; simp
    · simp [h2]
  · simp [h]
theorem z_cU_py {σ : z_St} {b : Nat} {me nc : Int32} {x y g l : Int64} {pf dv : Nat → Int64} {nr : Nat → Int32} {v : Int64} : z_ul (z_cU σ b me nc x y g l pf dv nr) b 6 v = z_cU σ b me nc x v g l pf dv nr := by
  unfold z_ul z_cU
  refine Prod.ext rfl ?_
  funext a
  by_cases h : a = b
  · subst h
    funext k
    simp only [if_true, vp_updL]
    by_cases h2 : k = 6
    · subst h2; simp
    · simp [h2]
  · simp [h]
theorem z_cU_pg {σ : z_St} {b : Nat} {me nc : Int32} {x y g l : Int64} {pf dv : Nat → Int64} {nr : Nat → Int32} {v : Int64} : z_ul (z_cU σ b me nc x y g l pf dv nr) b 7 v = z_cU σ b me nc x y v l pf dv nr := by
  unfold z_ul z_cU
  refine Prod.ext rfl ?_
  funext a
  by_cases h : a = b
  · subst h
    funext k
    simp only [if_true, vp_updL]
    by_cases h2 : k = 7
    · subst h2; simp
    · simp [h2]
  · simp [h]
theorem z_cU_pl {σ : z_St} {b : Nat} {me nc : Int32} {x y g l : Int64} {pf dv : Nat → Int64} {nr : Nat → Int32} {v : Int64} : z_ul (z_cU σ b me nc x y g l pf dv nr) b 8 v = z_cU σ b me nc x y g v pf dv nr := by
  unfold z_ul z_cU
  refine Prod.ext rfl ?_
  funext a
  by_cases h : a = b
  · subst h
    funext k
    simp only [if_true, vp_updL]
    by_cases h2 : k = 8
    · subst h2; simp
    · simp [h2]
  · simp [h]
theorem z_cU_wdv {σ : z_St} {b : Nat} {me nc : Int32} {x y g l : Int64} {pf dv : Nat → Int64} {nr : Nat → Int32} {j : Nat} {v : Int64} : z_ul (z_cU σ b me nc x y g l pf dv nr) (b + 2) j v = z_cU σ b me nc x y g l pf (vp_updL dv j v) nr := by
  unfold z_ul z_cU
  refine Prod.ext rfl ?_
  funext a
  by_cases h : a = b + 2
  · subst h; simp
  · simp [h]
theorem z_cU_wnr {σ : z_St} {b : Nat} {me nc : Int32} {x y g l : Int64} {pf dv : Nat → Int64} {nr : Nat → Int32} {j : Nat} {v : Int32} : z_ui (z_cU σ b me nc x y g l pf dv nr) (b + 3) j v = z_cU σ b me nc x y g l pf dv (upd nr j v) := by
  unfold z_ui z_cU
  refine Prod.ext ?_ rfl
  funext a
  by_cases h : a = b + 3
  · subst h; simp
  · simp [h]
theorem z_cU_wpf {σ : z_St} {b : Nat} {me nc : Int32} {x y g l : Int64} {pf dv : Nat → Int64} {nr : Nat → Int32} {f : Nat → Int64} : z_uL (z_cU σ b me nc x y g l pf dv nr) (b + 1) f = z_cU σ b me nc x y g l f dv nr := by
  unfold z_uL z_cU
  refine Prod.ext rfl ?_
  funext a
  by_cases h : a = b + 1
  · subst h; simp
  · simp [h]
theorem z_cU_self (σ : z_St) (b : Nat) : z_cU σ b (σ.1 b 4) (σ.1 b 3) (σ.2 b 5) (σ.2 b 6) (σ.2 b 7) (σ.2 b 8) (σ.2 (b + 1)) (σ.2 (b + 2)) (σ.1 (b + 3)) = σ := by
  unfold z_cU
  refine Prod.ext ?_ ?_
  · funext a
    by_cases h : a = b
    · subst h
      funext k
      by_cases h3 : k = 3
      · subst h3; simp
      · by_cases h4 : k = 4
        · subst h4; simp
        · simp [h3, h4]
    · by_cases h2 : a = b + 3
      · subst h2; simp
      · simp [h, h2]
  · funext a
    by_cases h : a = b
    · subst h
      funext k
      by_cases h5 : k = 5
      · subst h5; simp
      · by_cases h6 : k = 6
        · subst h6; simp
        · by_cases h7 : k = 7
          · subst h7; simp
          · by_cases h8 : k = 8
            · subst h8; simp
            · simp [h5, h6, h7, h8]
    · by_cases h1 : a = b + 1
      · subst h1; simp
      · by_cases h2 : a = b + 2
        · subst h2; simp
        · simp [h, h1, h2]
theorem z_cU_r {σ : z_St} {b : Nat} {me nc : Int32} {x y g l : Int64} {pf dv : Nat → Int64} {nr : Nat → Int32} {r : Nat} (h : ¬ r = b) (h1 : ¬ r = b + 1) (h2 : ¬ r = b + 2) : (z_cU σ b me nc x y g l pf dv nr).2 r = σ.2 r := by simp [z_cU, h, h1, h2]
/-- the deviation at k about (x, y) -/
def z_df (pf : Nat → Int64) (x y : Int64) (k : Nat) : Int64 := pf k - z_wv x y (k % 24)
def z_vo (me : Int32) (a b : Int64) : Int64 := if me = nI 1 then a - b else if me = nI 2 then a else -b
/-- the first place from k on, of n, where d is v; 0 if there is none -/
def z_fs (d : Nat → Int64) (v : Int64) : Nat → Nat → Nat
  | 0, _ => 0
  | n + 1, k => if d k = v then k else z_fs d v n (k + 1)
/-- how many lie no deeper than t below g -/
def z_cn (g : Int64) (d : Nat → Int64) (t : Int64) : Nat → Nat
  | 0 => 0
  | k + 1 => z_cn g d t k + if g - d k ≤ t then 1 else 0
theorem z_cn_1 {g t : Int64} {d : Nat → Int64} {k : Nat} (h : g - d k ≤ t) : z_cn g d t (k + 1) = z_cn g d t k + 1 := by rw [z_cn, if_pos h]
theorem z_cn_0 {g t : Int64} {d : Nat → Int64} {k : Nat} (h : ¬ g - d k ≤ t) : z_cn g d t (k + 1) = z_cn g d t k := by rw [z_cn, if_neg h]; rfl
theorem z_cn_le (g t : Int64) (d : Nat → Int64) : ∀ k, z_cn g d t k ≤ k
  | 0 => Nat.le_refl 0
  | k + 1 => by have := z_cn_le g t d k; unfold z_cn; split <;> omega
def z_ld (g l : Int64) (d : Nat → Int64) (c : Nat) : Nat → Int64
  | 0 => g - l
  | k + 1 => if g - d k < z_ld g l d c k ∧ c ≤ z_cn g d (g - d k) 24 then g - d k else z_ld g l d c k
theorem z_ld_1 {g l : Int64} {d : Nat → Int64} {c k : Nat} (h : g - d k < z_ld g l d c k) (h2 : c ≤ z_cn g d (g - d k) 24) : z_ld g l d c (k + 1) = g - d k := if_pos ⟨h, h2⟩
theorem z_ld_0 {g l : Int64} {d : Nat → Int64} {c k : Nat} (h : ¬ (g - d k < z_ld g l d c k ∧ c ≤ z_cn g d (g - d k) 24)) : z_ld g l d c (k + 1) = z_ld g l d c k := if_neg h
/-- the positions near the ends -/
abbrev z_pk (g l sl : Int64) (d : Nat → Int64) (k : Nat) : Prop := g - sl ≤ d k ∨ d k ≤ l + sl
def z_nN (g l sl : Int64) (d : Nat → Int64) : Nat → Nat
  | 0 => 0
  | k + 1 => z_nN g l sl d k + if z_pk g l sl d k then 1 else 0
def z_nA (g l sl : Int64) (d : Nat → Int64) (nr : Nat → Int32) : Nat → Nat → Int32
  | 0 => nr
  | k + 1 => if z_pk g l sl d k then upd (z_nA g l sl d nr k) (z_nN g l sl d k) (nI k) else z_nA g l sl d nr k
theorem z_nN_le (g l sl : Int64) (d : Nat → Int64) : ∀ k, z_nN g l sl d k ≤ k
  | 0 => Nat.le_refl 0
  | k + 1 => by have := z_nN_le g l sl d k; unfold z_nN; split <;> omega
theorem z_nN_1 {g l sl : Int64} {d : Nat → Int64} {k : Nat} (h : z_pk g l sl d k) : z_nN g l sl d (k + 1) = z_nN g l sl d k + 1 := by rw [z_nN, if_pos h]
theorem z_nN_0 {g l sl : Int64} {d : Nat → Int64} {k : Nat} (h : ¬ z_pk g l sl d k) : z_nN g l sl d (k + 1) = z_nN g l sl d k := by rw [z_nN, if_neg h]; rfl
theorem z_nA_1 {g l sl : Int64} {d : Nat → Int64} {nr : Nat → Int32} {k : Nat} (h : z_pk g l sl d k) : z_nA g l sl d nr (k + 1) = upd (z_nA g l sl d nr k) (z_nN g l sl d k) (nI k) := if_pos h
theorem z_nA_0 {g l sl : Int64} {d : Nat → Int64} {nr : Nat → Int32} {k : Nat} (h : ¬ z_pk g l sl d k) : z_nA g l sl d nr (k + 1) = z_nA g l sl d nr k := if_neg h
/-- the deviation of near place i -/
def z_vn (pf : Nat → Int64) (x y : Int64) (ne : Nat → Nat) (i : Nat) : Int64 := pf (ne i) - z_wv x y (ne i)
theorem z_filS1 {F f : Nat → Int64} {k : Nat} : z_fil F f (k + 1) = vp_updL (z_fil F f k) k (F k) := by
  funext j
  unfold vp_updL z_fil
  by_cases hj : j = k
  · subst hj; simp
  · by_cases h2 : j < k
    · simp [hj, h2, Nat.lt_succ_of_lt h2]
    · simp [hj, h2, show ¬ j < k + 1 by omega]
theorem dX0_width_0 : decode cX0_width 0 = .ok (.aload_n 0, 1) := by decide +kernel
theorem dX0_width_1 : decode cX0_width 1 = .ok (.getfield 36, 3) := by decide +kernel
theorem dX0_width_4 : decode cX0_width 4 = .ok (.aload_n 0, 1) := by decide +kernel
theorem dX0_width_5 : decode cX0_width 5 = .ok (.getfield 39, 3) := by decide +kernel
theorem dX0_width_8 : decode cX0_width 8 = .ok (.lsub, 1) := by decide +kernel
theorem dX0_width_9 : decode cX0_width 9 = .ok (.lreturn, 1) := by decide +kernel
set_option maxRecDepth 100000 in
set_option maxHeartbeats 4000000 in
theorem m_X0_width {l : Launch} {G : z_Gl} {σ : z_St} (b : Nat) (hb : z_iC b) (me nc : Int32) (x y gr lo : Int64) (pf dv : Nat → Int64) (nr : Nat → Int32) : z_M l G yX0_width cX0_width 1 (some .long) (z_rm 0 0) [.ref (z_ad G b)] (z_cU σ b me nc x y gr lo pf dv nr) (z_p1 (.long (gr - lo)) (z_cU σ b me nc x y gr lo pf dv nr)) := by
  refine z_M.of (by decide) (Nat.le_of_ble_eq_true rfl) (fun p e s m below meth c C => ?_)
  refine z_sub [0] (lv1 := [(0, .ref (z_ad G b))]) rfl ?_
  refine z_aload_n 0 C dX0_width_0 0 rfl ?_
  refine z_getf 1 C b z_dX0 (z_cC hb) 7 (by decide) q245 (.long gr) (z_cl z_cU_g) dX0_width_1 ?_
  refine z_aload_n 4 C dX0_width_4 0 rfl ?_
  refine z_getf 5 C b z_dX0 (z_cC hb) 8 (by decide) q247 (.long lo) (z_cl z_cU_l) dX0_width_5 ?_
  refine z_lsub 8 C dX0_width_8 ?_
  refine z_lret 9 C dX0_width_9 ?_
  exact ⟨rfl, rfl⟩
theorem dX0_valueOf_0 : decode cX0_valueOf 0 = .ok (.aload_n 0, 1) := by decide +kernel
theorem dX0_valueOf_1 : decode cX0_valueOf 1 = .ok (.getfield 26, 3) := by decide +kernel
theorem dX0_valueOf_4 : decode cX0_valueOf 4 = .ok (.iconst 1, 1) := by decide +kernel
theorem dX0_valueOf_5 : decode cX0_valueOf 5 = .ok (.if_icmp .ne 7, 3) := by decide +kernel
theorem dX0_valueOf_8 : decode cX0_valueOf 8 = .ok (.lload_n 1, 1) := by decide +kernel
theorem dX0_valueOf_9 : decode cX0_valueOf 9 = .ok (.lload_n 3, 1) := by decide +kernel
theorem dX0_valueOf_10 : decode cX0_valueOf 10 = .ok (.lsub, 1) := by decide +kernel
theorem dX0_valueOf_11 : decode cX0_valueOf 11 = .ok (.lreturn, 1) := by decide +kernel
theorem dX0_valueOf_12 : decode cX0_valueOf 12 = .ok (.aload_n 0, 1) := by decide +kernel
theorem dX0_valueOf_13 : decode cX0_valueOf 13 = .ok (.getfield 26, 3) := by decide +kernel
theorem dX0_valueOf_16 : decode cX0_valueOf 16 = .ok (.iconst 2, 1) := by decide +kernel
theorem dX0_valueOf_17 : decode cX0_valueOf 17 = .ok (.if_icmp .ne 7, 3) := by decide +kernel
theorem dX0_valueOf_20 : decode cX0_valueOf 20 = .ok (.lload_n 1, 1) := by decide +kernel
theorem dX0_valueOf_21 : decode cX0_valueOf 21 = .ok (.goto 5, 3) := by decide +kernel
theorem dX0_valueOf_24 : decode cX0_valueOf 24 = .ok (.lload_n 3, 1) := by decide +kernel
theorem dX0_valueOf_25 : decode cX0_valueOf 25 = .ok (.lneg, 1) := by decide +kernel
theorem dX0_valueOf_26 : decode cX0_valueOf 26 = .ok (.lreturn, 1) := by decide +kernel
set_option maxRecDepth 100000 in
set_option maxHeartbeats 4000000 in
theorem m_X0_valueOf {l : Launch} {G : z_Gl} {σ : z_St} (b : Nat) (hb : z_iC b) (me nc : Int32) (x y gr lo : Int64) (pf dv : Nat → Int64) (nr : Nat → Int32) (u : Int64) (w : Int64) : z_M l G yX0_valueOf cX0_valueOf 5 (some .long) (z_rm 0 0) [.ref (z_ad G b), .long u, .long w] (z_cU σ b me nc x y gr lo pf dv nr) (z_p1 (.long (z_vo me u w)) (z_cU σ b me nc x y gr lo pf dv nr)) := by
  refine z_M.of (by decide) (Nat.le_of_ble_eq_true rfl) (fun p e s m below meth c C => ?_)
  refine z_sub [0, 1, 2] (lv1 := [(0, .ref (z_ad G b)), (1, .long u), (3, .long w)]) rfl ?_
  refine z_aload_n 0 C dX0_valueOf_0 0 rfl ?_
  refine z_getf 1 C b z_dX0 (z_cC hb) 4 (by decide) q240 (.int me) (z_ci z_cU_me) dX0_valueOf_1 ?_
  refine z_iconst 4 C dX0_valueOf_4 (nI 1) rfl ?_
  refine z_icmp_ne 5 C 12 dX0_valueOf_5 (by decide) (fun c5 => ?_) (fun c5 => ?_)
  · skip
    refine z_aload_n 12 C dX0_valueOf_12 0 rfl ?_
    refine z_getf 13 C b z_dX0 (z_cC hb) 4 (by decide) q240 (.int me) (z_ci z_cU_me) dX0_valueOf_13 ?_
    refine z_iconst 16 C dX0_valueOf_16 (nI 2) rfl ?_
    refine z_icmp_ne 17 C 24 dX0_valueOf_17 (by decide) (fun c17 => ?_) (fun c17 => ?_)
    · skip
      refine z_lload_n 24 C dX0_valueOf_24 2 rfl ?_
      refine z_lneg 25 C dX0_valueOf_25 ?_
      refine z_lret 26 C dX0_valueOf_26 ?_
      first | exact ⟨z_cl (by unfold z_vo; rw [if_neg c5, if_pos c17]), rfl⟩ | exact ⟨z_cl (by unfold z_vo; rw [if_neg c5, if_neg c17]), rfl⟩
    · skip
      refine z_lload_n 20 C dX0_valueOf_20 1 rfl ?_
      refine z_goto 21 C 26 dX0_valueOf_21 (by decide) ?_
      refine z_lret 26 C dX0_valueOf_26 ?_
      first | exact ⟨z_cl (by unfold z_vo; rw [if_neg c5, if_pos c17]), rfl⟩ | exact ⟨z_cl (by unfold z_vo; rw [if_neg c5, if_neg c17]), rfl⟩
  · skip
    refine z_lload_n 8 C dX0_valueOf_8 1 rfl ?_
    refine z_lload_n 9 C dX0_valueOf_9 2 rfl ?_
    refine z_lsub 10 C dX0_valueOf_10 ?_
    refine z_lret 11 C dX0_valueOf_11 ?_
    exact ⟨z_cl (by unfold z_vo; rw [if_pos c5]), rfl⟩
theorem dX0_firstWith_0 : decode cX0_firstWith 0 = .ok (.iconst 0, 1) := by decide +kernel
theorem dX0_firstWith_1 : decode cX0_firstWith 1 = .ok (.istore_n 3, 1) := by decide +kernel
theorem dX0_firstWith_2 : decode cX0_firstWith 2 = .ok (.iload_n 3, 1) := by decide +kernel
theorem dX0_firstWith_3 : decode cX0_firstWith 3 = .ok (.bipush 24, 2) := by decide +kernel
theorem dX0_firstWith_5 : decode cX0_firstWith 5 = .ok (.if_icmp .ge 22, 3) := by decide +kernel
theorem dX0_firstWith_8 : decode cX0_firstWith 8 = .ok (.aload_n 0, 1) := by decide +kernel
theorem dX0_firstWith_9 : decode cX0_firstWith 9 = .ok (.getfield 15, 3) := by decide +kernel
theorem dX0_firstWith_12 : decode cX0_firstWith 12 = .ok (.iload_n 3, 1) := by decide +kernel
theorem dX0_firstWith_13 : decode cX0_firstWith 13 = .ok (.laload, 1) := by decide +kernel
theorem dX0_firstWith_14 : decode cX0_firstWith 14 = .ok (.lload_n 1, 1) := by decide +kernel
theorem dX0_firstWith_15 : decode cX0_firstWith 15 = .ok (.lcmp, 1) := by decide +kernel
theorem dX0_firstWith_16 : decode cX0_firstWith 16 = .ok (.ifCond .ne 5, 3) := by decide +kernel
theorem dX0_firstWith_19 : decode cX0_firstWith 19 = .ok (.iload_n 3, 1) := by decide +kernel
theorem dX0_firstWith_20 : decode cX0_firstWith 20 = .ok (.ireturn, 1) := by decide +kernel
theorem dX0_firstWith_21 : decode cX0_firstWith 21 = .ok (.iinc 3 1, 3) := by decide +kernel
theorem dX0_firstWith_24 : decode cX0_firstWith 24 = .ok (.goto (-22), 3) := by decide +kernel
theorem dX0_firstWith_27 : decode cX0_firstWith 27 = .ok (.iconst 0, 1) := by decide +kernel
theorem dX0_firstWith_28 : decode cX0_firstWith 28 = .ok (.ireturn, 1) := by decide +kernel
set_option maxRecDepth 100000 in
set_option maxHeartbeats 4000000 in
theorem m_X0_firstWith {l : Launch} {G : z_Gl} {σ : z_St} (b : Nat) (hb : z_iC b) (me nc : Int32) (x y gr lo : Int64) (pf dv : Nat → Int64) (nr : Nat → Int32) (u : Int64) : z_M l G yX0_firstWith cX0_firstWith 4 (some .int) (z_rm 0 0) [.ref (z_ad G b), .long u] (z_cU σ b me nc x y gr lo pf dv nr) (z_p1 (.int (nI (z_fs dv u 24 0))) (z_cU σ b me nc x y gr lo pf dv nr)) := by
  refine z_M.of (by decide) (Nat.le_of_ble_eq_true rfl) (fun p e s m below meth c C => ?_)
  refine z_sub [0, 1] (lv1 := [(0, .ref (z_ad G b)), (1, .long u)]) rfl ?_
  refine z_iconst 0 C dX0_firstWith_0 (nI 0) rfl ?_
  refine z_istore_n 1 C dX0_firstWith_1 [(3, .int (nI 0)), (0, .ref (z_ad G b)), (1, .long u)] (by decide) rfl ?_
  refine z_sub [1, 2, 0] (lv1 := [(0, .ref (z_ad G b)), (1, .long u), (3, .int (nI 0))]) rfl ?_
  refine z_cv (lv1 := [(0, .ref (z_ad G b)), (1, .long u), (3, .int (nI 0))]) (st1 := []) (σ1 := z_cU σ b me nc x y gr lo pf dv nr) rfl rfl rfl ?_
  refine z_lp1 (fun (k : Nat) => k ≤ 24 ∧ z_fs dv u (24 - k) k = z_fs dv u 24 0) (fun (k : Nat) => 24 - k) (fun (k : Nat) => [(0, .ref (z_ad G b)), (1, .long u), (3, .int (nI k))]) (fun (k : Nat) => z_cU σ b me nc x y gr lo pf dv nr) (fun k hi_2 ih_2 => ?_) 0 (⟨by omega, rfl⟩)
  try dsimp only
  obtain ⟨hk, hf⟩ := hi_2
  refine z_iload_n 2 C dX0_firstWith_2 2 rfl ?_
  refine z_bipush 3 C dX0_firstWith_3 (nI 24) rfl ?_
  refine z_icmp_geN 5 C k 24 rfl rfl (by omega) (by omega) 27 dX0_firstWith_5 (by decide) (fun c5 => ?_) (fun c5 => ?_)
  · skip
    have ek : k = 24 := by omega
    subst ek
    refine z_iconst 27 C dX0_firstWith_27 (nI 0) rfl ?_
    refine z_iret 28 C dX0_firstWith_28 ?_
    exact ⟨z_ci (by rw [← hf]; rfl), rfl⟩
  · skip
    refine z_aload_n 8 C dX0_firstWith_8 0 rfl ?_
    refine z_getf 9 C b z_dX0 (z_cC hb) 1 (by decide) q236 (.ref (z_ad G (b + 2))) rfl dX0_firstWith_9 ?_
    refine z_iload_n 12 C dX0_firstWith_12 2 rfl ?_
    refine z_laldN 13 C (b + 2) (n := 24) (z_cV hb) k rfl (by omega) (by decide) dX0_firstWith_13 ?_
    refine z_cv (st1 := [.long (dv k)]) rfl (by rw [z_cU_dv]) rfl ?_
    refine z_lload_n 14 C dX0_firstWith_14 1 rfl ?_
    refine z_lcmp_ne 15 C 21 dX0_firstWith_15 dX0_firstWith_16 (by decide) (fun c15 => ?_) (fun c15 => ?_)
    · skip
      refine z_iincN 21 C 2 k [(3, .int (nI (k + 1))), (0, .ref (z_ad G b)), (1, .long u)] rfl rfl (by decide) rfl dX0_firstWith_21 ?_
      refine z_goto 24 C 2 dX0_firstWith_24 (by decide) ?_
      refine z_sub [1, 2, 0] (lv1 := [(0, .ref (z_ad G b)), (1, .long u), (3, .int (nI (k + 1)))]) rfl ?_
      refine z_cv (lv1 := [(0, .ref (z_ad G b)), (1, .long u), (3, .int (nI (k + 1)))]) (st1 := []) (σ1 := z_cU σ b me nc x y gr lo pf dv nr) rfl rfl rfl ?_
      exact ih_2 (k + 1) (⟨by omega, by rw [← hf, show 24 - k = 24 - (k + 1) + 1 by omega, z_fs, if_neg c15]⟩) (by omega)
    · skip
      refine z_iload_n 19 C dX0_firstWith_19 2 rfl ?_
      refine z_iret 20 C dX0_firstWith_20 ?_
      exact ⟨z_ci (by rw [← hf, show 24 - k = 24 - (k + 1) + 1 by omega, z_fs, if_pos c15]), rfl⟩
theorem dX0_countDownTo_0 : decode cX0_countDownTo 0 = .ok (.iconst 0, 1) := by decide +kernel
theorem dX0_countDownTo_1 : decode cX0_countDownTo 1 = .ok (.istore_n 3, 1) := by decide +kernel
theorem dX0_countDownTo_2 : decode cX0_countDownTo 2 = .ok (.iconst 0, 1) := by decide +kernel
theorem dX0_countDownTo_3 : decode cX0_countDownTo 3 = .ok (.istore 4, 2) := by decide +kernel
theorem dX0_countDownTo_5 : decode cX0_countDownTo 5 = .ok (.iload 4, 2) := by decide +kernel
theorem dX0_countDownTo_7 : decode cX0_countDownTo 7 = .ok (.bipush 24, 2) := by decide +kernel
theorem dX0_countDownTo_9 : decode cX0_countDownTo 9 = .ok (.if_icmp .ge 29, 3) := by decide +kernel
theorem dX0_countDownTo_12 : decode cX0_countDownTo 12 = .ok (.aload_n 0, 1) := by decide +kernel
theorem dX0_countDownTo_13 : decode cX0_countDownTo 13 = .ok (.getfield 36, 3) := by decide +kernel
theorem dX0_countDownTo_16 : decode cX0_countDownTo 16 = .ok (.aload_n 0, 1) := by decide +kernel
theorem dX0_countDownTo_17 : decode cX0_countDownTo 17 = .ok (.getfield 15, 3) := by decide +kernel
theorem dX0_countDownTo_20 : decode cX0_countDownTo 20 = .ok (.iload 4, 2) := by decide +kernel
theorem dX0_countDownTo_22 : decode cX0_countDownTo 22 = .ok (.laload, 1) := by decide +kernel
theorem dX0_countDownTo_23 : decode cX0_countDownTo 23 = .ok (.lsub, 1) := by decide +kernel
theorem dX0_countDownTo_24 : decode cX0_countDownTo 24 = .ok (.lload_n 1, 1) := by decide +kernel
theorem dX0_countDownTo_25 : decode cX0_countDownTo 25 = .ok (.lcmp, 1) := by decide +kernel
theorem dX0_countDownTo_26 : decode cX0_countDownTo 26 = .ok (.ifCond .gt 6, 3) := by decide +kernel
theorem dX0_countDownTo_29 : decode cX0_countDownTo 29 = .ok (.iinc 3 1, 3) := by decide +kernel
theorem dX0_countDownTo_32 : decode cX0_countDownTo 32 = .ok (.iinc 4 1, 3) := by decide +kernel
theorem dX0_countDownTo_35 : decode cX0_countDownTo 35 = .ok (.goto (-30), 3) := by decide +kernel
theorem dX0_countDownTo_38 : decode cX0_countDownTo 38 = .ok (.iload_n 3, 1) := by decide +kernel
theorem dX0_countDownTo_39 : decode cX0_countDownTo 39 = .ok (.ireturn, 1) := by decide +kernel
set_option maxRecDepth 100000 in
set_option maxHeartbeats 4000000 in
theorem m_X0_countDownTo {l : Launch} {G : z_Gl} {σ : z_St} (b : Nat) (hb : z_iC b) (me nc : Int32) (x y gr lo : Int64) (pf dv : Nat → Int64) (nr : Nat → Int32) (u : Int64) : z_M l G yX0_countDownTo cX0_countDownTo 5 (some .int) (z_rm 0 0) [.ref (z_ad G b), .long u] (z_cU σ b me nc x y gr lo pf dv nr) (z_p1 (.int (nI (z_cn gr dv u 24))) (z_cU σ b me nc x y gr lo pf dv nr)) := by
  refine z_M.of (by decide) (Nat.le_of_ble_eq_true rfl) (fun p e s m below meth c C => ?_)
  refine z_sub [0, 1] (lv1 := [(0, .ref (z_ad G b)), (1, .long u)]) rfl ?_
  refine z_iconst 0 C dX0_countDownTo_0 (nI 0) rfl ?_
  refine z_istore_n 1 C dX0_countDownTo_1 [(3, .int (nI 0)), (0, .ref (z_ad G b)), (1, .long u)] (by decide) rfl ?_
  refine z_iconst 2 C dX0_countDownTo_2 (nI 0) rfl ?_
  refine z_istore 3 C dX0_countDownTo_3 [(4, .int (nI 0)), (3, .int (nI 0)), (0, .ref (z_ad G b)), (1, .long u)] (by decide) rfl ?_
  refine z_sub [2, 3, 1, 0] (lv1 := [(0, .ref (z_ad G b)), (1, .long u), (3, .int (nI 0)), (4, .int (nI 0))]) rfl ?_
  refine z_cv (lv1 := [(0, .ref (z_ad G b)), (1, .long u), (3, .int (nI (z_cn gr dv u 0))), (4, .int (nI 0))]) (st1 := []) (σ1 := z_cU σ b me nc x y gr lo pf dv nr) rfl rfl rfl ?_
  refine z_lp1 (fun (k : Nat) => k ≤ 24) (fun (k : Nat) => 24 - k) (fun (k : Nat) => [(0, .ref (z_ad G b)), (1, .long u), (3, .int (nI (z_cn gr dv u k))), (4, .int (nI k))]) (fun (k : Nat) => z_cU σ b me nc x y gr lo pf dv nr) (fun k hi_5 ih_5 => ?_) 0 (by omega)
  try dsimp only
  refine z_iload 5 C dX0_countDownTo_5 3 rfl ?_
  refine z_bipush 7 C dX0_countDownTo_7 (nI 24) rfl ?_
  refine z_icmp_geN 9 C k 24 rfl rfl (by omega) (by omega) 38 dX0_countDownTo_9 (by decide) (fun c9 => ?_) (fun c9 => ?_)
  · skip
    have ek : k = 24 := by omega
    subst ek
    refine z_iload_n 38 C dX0_countDownTo_38 2 rfl ?_
    refine z_iret 39 C dX0_countDownTo_39 ?_
    exact ⟨rfl, rfl⟩
  · skip
    refine z_aload_n 12 C dX0_countDownTo_12 0 rfl ?_
    refine z_getf 13 C b z_dX0 (z_cC hb) 7 (by decide) q245 (.long gr) (z_cl z_cU_g) dX0_countDownTo_13 ?_
    refine z_aload_n 16 C dX0_countDownTo_16 0 rfl ?_
    refine z_getf 17 C b z_dX0 (z_cC hb) 1 (by decide) q236 (.ref (z_ad G (b + 2))) rfl dX0_countDownTo_17 ?_
    refine z_iload 20 C dX0_countDownTo_20 3 rfl ?_
    refine z_laldN 22 C (b + 2) (n := 24) (z_cV hb) k rfl (by omega) (by decide) dX0_countDownTo_22 ?_
    refine z_cv (st1 := [.long (dv k), .long gr]) rfl (by rw [z_cU_dv]) rfl ?_
    refine z_lsub 23 C dX0_countDownTo_23 ?_
    refine z_lload_n 24 C dX0_countDownTo_24 1 rfl ?_
    refine z_lcmp_gt 25 C 32 dX0_countDownTo_25 dX0_countDownTo_26 (by decide) (fun c25 => ?_) (fun c25 => ?_)
    · skip
      refine z_iincN 32 C 3 k [(4, .int (nI (k + 1))), (0, .ref (z_ad G b)), (1, .long u), (3, .int (nI (z_cn gr dv u k)))] rfl rfl (by decide) rfl dX0_countDownTo_32 ?_
      refine z_goto 35 C 5 dX0_countDownTo_35 (by decide) ?_
      refine z_sub [1, 2, 3, 0] (lv1 := [(0, .ref (z_ad G b)), (1, .long u), (3, .int (nI (z_cn gr dv u k))), (4, .int (nI (k + 1)))]) rfl ?_
      refine z_cv (lv1 := [(0, .ref (z_ad G b)), (1, .long u), (3, .int (nI (z_cn gr dv u (k + 1)))), (4, .int (nI (k + 1)))]) (st1 := []) (σ1 := z_cU σ b me nc x y gr lo pf dv nr) (by first | rw [z_cn_1 (Int64.not_lt.mp c25)] | rw [z_cn_0 (Int64.not_le.mpr c25)]) rfl rfl ?_
      exact ih_5 (k + 1) (by omega) (by omega)
    · skip
      refine z_iincN 29 C 2 (z_cn gr dv u k) [(3, .int (nI (z_cn gr dv u k + 1))), (0, .ref (z_ad G b)), (1, .long u), (4, .int (nI k))] rfl rfl (by decide) rfl dX0_countDownTo_29 ?_
      refine z_iincN 32 C 3 k [(4, .int (nI (k + 1))), (3, .int (nI (z_cn gr dv u k + 1))), (0, .ref (z_ad G b)), (1, .long u)] rfl rfl (by decide) rfl dX0_countDownTo_32 ?_
      refine z_goto 35 C 5 dX0_countDownTo_35 (by decide) ?_
      refine z_sub [2, 3, 1, 0] (lv1 := [(0, .ref (z_ad G b)), (1, .long u), (3, .int (nI (z_cn gr dv u k + 1))), (4, .int (nI (k + 1)))]) rfl ?_
      refine z_cv (lv1 := [(0, .ref (z_ad G b)), (1, .long u), (3, .int (nI (z_cn gr dv u (k + 1)))), (4, .int (nI (k + 1)))]) (st1 := []) (σ1 := z_cU σ b me nc x y gr lo pf dv nr) (by first | rw [z_cn_1 (Int64.not_lt.mp c25)] | rw [z_cn_0 (Int64.not_le.mpr c25)]) rfl rfl ?_
      exact ih_5 (k + 1) (by omega) (by omega)
theorem dX0_leastDepth_0 : decode cX0_leastDepth 0 = .ok (.aload_n 0, 1) := by decide +kernel
theorem dX0_leastDepth_1 : decode cX0_leastDepth 1 = .ok (.invokevirtual 116, 3) := by decide +kernel
theorem dX0_leastDepth_4 : decode cX0_leastDepth 4 = .ok (.lstore_n 2, 1) := by decide +kernel
theorem dX0_leastDepth_5 : decode cX0_leastDepth 5 = .ok (.iconst 0, 1) := by decide +kernel
theorem dX0_leastDepth_6 : decode cX0_leastDepth 6 = .ok (.istore 4, 2) := by decide +kernel
theorem dX0_leastDepth_8 : decode cX0_leastDepth 8 = .ok (.iload 4, 2) := by decide +kernel
theorem dX0_leastDepth_10 : decode cX0_leastDepth 10 = .ok (.bipush 24, 2) := by decide +kernel
theorem dX0_leastDepth_12 : decode cX0_leastDepth 12 = .ok (.if_icmp .ge 43, 3) := by decide +kernel
theorem dX0_leastDepth_15 : decode cX0_leastDepth 15 = .ok (.aload_n 0, 1) := by decide +kernel
theorem dX0_leastDepth_16 : decode cX0_leastDepth 16 = .ok (.getfield 36, 3) := by decide +kernel
theorem dX0_leastDepth_19 : decode cX0_leastDepth 19 = .ok (.aload_n 0, 1) := by decide +kernel
theorem dX0_leastDepth_20 : decode cX0_leastDepth 20 = .ok (.getfield 15, 3) := by decide +kernel
theorem dX0_leastDepth_23 : decode cX0_leastDepth 23 = .ok (.iload 4, 2) := by decide +kernel
theorem dX0_leastDepth_25 : decode cX0_leastDepth 25 = .ok (.laload, 1) := by decide +kernel
theorem dX0_leastDepth_26 : decode cX0_leastDepth 26 = .ok (.lsub, 1) := by decide +kernel
theorem dX0_leastDepth_27 : decode cX0_leastDepth 27 = .ok (.lstore 5, 2) := by decide +kernel
theorem dX0_leastDepth_29 : decode cX0_leastDepth 29 = .ok (.lload 5, 2) := by decide +kernel
theorem dX0_leastDepth_31 : decode cX0_leastDepth 31 = .ok (.lload_n 2, 1) := by decide +kernel
theorem dX0_leastDepth_32 : decode cX0_leastDepth 32 = .ok (.lcmp, 1) := by decide +kernel
theorem dX0_leastDepth_33 : decode cX0_leastDepth 33 = .ok (.ifCond .ge 16, 3) := by decide +kernel
theorem dX0_leastDepth_36 : decode cX0_leastDepth 36 = .ok (.aload_n 0, 1) := by decide +kernel
theorem dX0_leastDepth_37 : decode cX0_leastDepth 37 = .ok (.lload 5, 2) := by decide +kernel
theorem dX0_leastDepth_39 : decode cX0_leastDepth 39 = .ok (.invokevirtual 120, 3) := by decide +kernel
theorem dX0_leastDepth_42 : decode cX0_leastDepth 42 = .ok (.iload_n 1, 1) := by decide +kernel
theorem dX0_leastDepth_43 : decode cX0_leastDepth 43 = .ok (.if_icmp .lt 6, 3) := by decide +kernel
theorem dX0_leastDepth_46 : decode cX0_leastDepth 46 = .ok (.lload 5, 2) := by decide +kernel
theorem dX0_leastDepth_48 : decode cX0_leastDepth 48 = .ok (.lstore_n 2, 1) := by decide +kernel
theorem dX0_leastDepth_49 : decode cX0_leastDepth 49 = .ok (.iinc 4 1, 3) := by decide +kernel
theorem dX0_leastDepth_52 : decode cX0_leastDepth 52 = .ok (.goto (-44), 3) := by decide +kernel
theorem dX0_leastDepth_55 : decode cX0_leastDepth 55 = .ok (.lload_n 2, 1) := by decide +kernel
theorem dX0_leastDepth_56 : decode cX0_leastDepth 56 = .ok (.lreturn, 1) := by decide +kernel
set_option maxRecDepth 100000 in
set_option maxHeartbeats 4000000 in
theorem m_X0_leastDepth {l : Launch} {G : z_Gl} {σ : z_St} (b : Nat) (hb : z_iC b) (me nc : Int32) (x y gr lo : Int64) (pf dv : Nat → Int64) (nr : Nat → Int32)  (cc : Nat) (hcc : cc ≤ 24) : z_M l G yX0_leastDepth cX0_leastDepth 7 (some .long) (z_rm 1 24) [.ref (z_ad G b), .int (nI cc)] (z_cU σ b me nc x y gr lo pf dv nr) (z_p1 (.long (z_ld gr lo dv cc 24)) (z_cU σ b me nc x y gr lo pf dv nr)) := by
  refine z_M.of (by decide) (Nat.le_of_ble_eq_true rfl) (fun p e s m below meth c C => ?_)
  refine z_sub [0, 1] (lv1 := [(0, .ref (z_ad G b)), (1, .int (nI cc))]) rfl ?_
  refine z_aload_n 0 C dX0_leastDepth_0 0 rfl ?_
  refine z_callV 1 C b (⟨(z_cC hb).1, by rw [(z_cC hb).2]; rfl⟩) rfl (As := []) (rest := []) (@m_X0_width _ _ σ b (hb) me nc x y gr lo pf dv nr ) k_X0_width q738 ⟨rfl, rfl⟩ ⟨Nat.le_of_ble_eq_true rfl, Nat.le_of_ble_eq_true rfl⟩ rfl (Nat.le_of_ble_eq_true rfl) ⟨Nat.le_of_ble_eq_true rfl, Nat.le_of_ble_eq_true rfl⟩ rfl dX0_leastDepth_1 (z_k1 ?_)
  refine z_lstore_n 4 C dX0_leastDepth_4 [(2, .long (gr - lo)), (0, .ref (z_ad G b)), (1, .int (nI cc))] (by decide) rfl ?_
  refine z_iconst 5 C dX0_leastDepth_5 (nI 0) rfl ?_
  refine z_istore 6 C dX0_leastDepth_6 [(4, .int (nI 0)), (2, .long (gr - lo)), (0, .ref (z_ad G b)), (1, .int (nI cc))] (by decide) rfl ?_
  refine z_sub [2, 3, 1, 0] (lv1 := [(0, .ref (z_ad G b)), (1, .int (nI cc)), (2, .long (gr - lo)), (4, .int (nI 0))]) rfl ?_
  refine z_cv (lv1 := [(0, .ref (z_ad G b)), (1, .int (nI cc)), (2, .long (z_ld gr lo dv cc 0)), (4, .int (nI 0))]) (st1 := []) (σ1 := z_cU σ b me nc x y gr lo pf dv nr) rfl rfl rfl ?_
  refine z_lp1 (fun (k : Nat) => k ≤ 24) (fun (k : Nat) => 24 - k) (fun (k : Nat) => [(0, .ref (z_ad G b)), (1, .int (nI cc)), (2, .long (z_ld gr lo dv cc k)), (4, .int (nI k))]) (fun (k : Nat) => z_cU σ b me nc x y gr lo pf dv nr) (fun k hi_8 ih_8 => ?_) 0 (by omega)
  try dsimp only
  refine z_iload 8 C dX0_leastDepth_8 3 rfl ?_
  refine z_bipush 10 C dX0_leastDepth_10 (nI 24) rfl ?_
  refine z_icmp_geN 12 C k 24 rfl rfl (by omega) (by omega) 55 dX0_leastDepth_12 (by decide) (fun c12 => ?_) (fun c12 => ?_)
  · skip
    have ek : k = 24 := by omega
    subst ek
    refine z_lload_n 55 C dX0_leastDepth_55 2 rfl ?_
    refine z_lret 56 C dX0_leastDepth_56 ?_
    exact ⟨rfl, rfl⟩
  · skip
    refine z_aload_n 15 C dX0_leastDepth_15 0 rfl ?_
    refine z_getf 16 C b z_dX0 (z_cC hb) 7 (by decide) q245 (.long gr) (z_cl z_cU_g) dX0_leastDepth_16 ?_
    refine z_aload_n 19 C dX0_leastDepth_19 0 rfl ?_
    refine z_getf 20 C b z_dX0 (z_cC hb) 1 (by decide) q236 (.ref (z_ad G (b + 2))) rfl dX0_leastDepth_20 ?_
    refine z_iload 23 C dX0_leastDepth_23 3 rfl ?_
    refine z_laldN 25 C (b + 2) (n := 24) (z_cV hb) k rfl (by omega) (by decide) dX0_leastDepth_25 ?_
    refine z_cv (st1 := [.long (dv k), .long gr]) rfl (by rw [z_cU_dv]) rfl ?_
    refine z_lsub 26 C dX0_leastDepth_26 ?_
    refine z_lstore 27 C dX0_leastDepth_27 [(5, .long (gr - (dv k))), (0, .ref (z_ad G b)), (1, .int (nI cc)), (2, .long (z_ld gr lo dv cc k)), (4, .int (nI k))] (by decide) rfl ?_
    refine z_lload 29 C dX0_leastDepth_29 0 rfl ?_
    refine z_lload_n 31 C dX0_leastDepth_31 3 rfl ?_
    refine z_lcmp_ge 32 C 49 dX0_leastDepth_32 dX0_leastDepth_33 (by decide) (fun c32 => ?_) (fun c32 => ?_)
    · skip
      refine z_iincN 49 C 4 k [(4, .int (nI (k + 1))), (5, .long (gr - (dv k))), (0, .ref (z_ad G b)), (1, .int (nI cc)), (2, .long (z_ld gr lo dv cc k))] rfl rfl (by decide) rfl dX0_leastDepth_49 ?_
      refine z_goto 52 C 8 dX0_leastDepth_52 (by decide) ?_
      refine z_sub [2, 3, 4, 0] (lv1 := [(0, .ref (z_ad G b)), (1, .int (nI cc)), (2, .long (z_ld gr lo dv cc k)), (4, .int (nI (k + 1)))]) rfl ?_
      refine z_cv (lv1 := [(0, .ref (z_ad G b)), (1, .int (nI cc)), (2, .long (z_ld gr lo dv cc (k + 1))), (4, .int (nI (k + 1)))]) (st1 := []) (σ1 := z_cU σ b me nc x y gr lo pf dv nr) (by first | rw [z_ld_1 (Int64.not_le.mp c32) c43] | rw [z_ld_0 (fun z => Int64.not_lt.mpr c32 z.1)] | rw [z_ld_0 (fun z => Nat.not_le.mpr c43 z.2)]) rfl rfl ?_
      exact ih_8 (k + 1) (by omega) (by omega)
    · skip
      refine z_aload_n 36 C dX0_leastDepth_36 1 rfl ?_
      refine z_lload 37 C dX0_leastDepth_37 0 rfl ?_
      refine z_callV 39 C b (⟨(z_cC hb).1, by rw [(z_cC hb).2]; rfl⟩) rfl (As := [.long (gr - (dv k))]) (rest := []) (@m_X0_countDownTo _ _ σ b (hb) me nc x y gr lo pf dv nr (gr - (dv k))) k_X0_countDownTo q739 ⟨rfl, rfl⟩ ⟨Nat.le_of_ble_eq_true rfl, Nat.le_of_ble_eq_true rfl⟩ rfl (Nat.le_of_ble_eq_true rfl) ⟨Nat.le_of_ble_eq_true rfl, Nat.le_of_ble_eq_true rfl⟩ rfl dX0_leastDepth_39 (z_k1 ?_)
      refine z_iload_n 42 C dX0_leastDepth_42 2 rfl ?_
      have hcn := z_cn_le gr (gr - dv k) dv 24
      refine z_icmp_ltN 43 C (z_cn gr dv (gr - (dv k)) 24) cc rfl rfl (by omega) (by omega) 49 dX0_leastDepth_43 (by decide) (fun c43 => ?_) (fun c43 => ?_)
      · skip
        refine z_iincN 49 C 4 k [(4, .int (nI (k + 1))), (5, .long (gr - (dv k))), (0, .ref (z_ad G b)), (1, .int (nI cc)), (2, .long (z_ld gr lo dv cc k))] rfl rfl (by decide) rfl dX0_leastDepth_49 ?_
        refine z_goto 52 C 8 dX0_leastDepth_52 (by decide) ?_
        refine z_sub [2, 3, 4, 0] (lv1 := [(0, .ref (z_ad G b)), (1, .int (nI cc)), (2, .long (z_ld gr lo dv cc k)), (4, .int (nI (k + 1)))]) rfl ?_
        refine z_cv (lv1 := [(0, .ref (z_ad G b)), (1, .int (nI cc)), (2, .long (z_ld gr lo dv cc (k + 1))), (4, .int (nI (k + 1)))]) (st1 := []) (σ1 := z_cU σ b me nc x y gr lo pf dv nr) (by first | rw [z_ld_1 (Int64.not_le.mp c32) c43] | rw [z_ld_0 (fun z => Int64.not_lt.mpr c32 z.1)] | rw [z_ld_0 (fun z => Nat.not_le.mpr c43 z.2)]) rfl rfl ?_
        exact ih_8 (k + 1) (by omega) (by omega)
      · skip
        refine z_lload 46 C dX0_leastDepth_46 0 rfl ?_
        refine z_lstore_n 48 C dX0_leastDepth_48 [(2, .long (gr - (dv k))), (5, .long (gr - (dv k))), (0, .ref (z_ad G b)), (1, .int (nI cc)), (4, .int (nI k))] (by decide) rfl ?_
        refine z_iincN 49 C 4 k [(4, .int (nI (k + 1))), (2, .long (gr - (dv k))), (5, .long (gr - (dv k))), (0, .ref (z_ad G b)), (1, .int (nI cc))] rfl rfl (by decide) rfl dX0_leastDepth_49 ?_
        refine z_goto 52 C 8 dX0_leastDepth_52 (by decide) ?_
        refine z_sub [3, 4, 1, 0] (lv1 := [(0, .ref (z_ad G b)), (1, .int (nI cc)), (2, .long (gr - (dv k))), (4, .int (nI (k + 1)))]) rfl ?_
        refine z_cv (lv1 := [(0, .ref (z_ad G b)), (1, .int (nI cc)), (2, .long (z_ld gr lo dv cc (k + 1))), (4, .int (nI (k + 1)))]) (st1 := []) (σ1 := z_cU σ b me nc x y gr lo pf dv nr) (by first | rw [z_ld_1 (Int64.not_le.mp c32) c43] | rw [z_ld_0 (fun z => Int64.not_lt.mpr c32 z.1)] | rw [z_ld_0 (fun z => Nat.not_le.mpr c43 z.2)]) rfl rfl ?_
        exact ih_8 (k + 1) (by omega) (by omega)
theorem dX0_measure_0 : decode cX0_measure 0 = .ok (.aload_n 0, 1) := by decide +kernel
theorem dX0_measure_1 : decode cX0_measure 1 = .ok (.ldc2_w 89, 3) := by decide +kernel
theorem dX0_measure_4 : decode cX0_measure 4 = .ok (.putfield 36, 3) := by decide +kernel
theorem dX0_measure_7 : decode cX0_measure 7 = .ok (.aload_n 0, 1) := by decide +kernel
theorem dX0_measure_8 : decode cX0_measure 8 = .ok (.ldc2_w 91, 3) := by decide +kernel
theorem dX0_measure_11 : decode cX0_measure 11 = .ok (.putfield 39, 3) := by decide +kernel
theorem dX0_measure_14 : decode cX0_measure 14 = .ok (.iconst 0, 1) := by decide +kernel
theorem dX0_measure_15 : decode cX0_measure 15 = .ok (.istore_n 1, 1) := by decide +kernel
theorem dX0_measure_16 : decode cX0_measure 16 = .ok (.iload_n 1, 1) := by decide +kernel
theorem dX0_measure_17 : decode cX0_measure 17 = .ok (.bipush 24, 2) := by decide +kernel
theorem dX0_measure_19 : decode cX0_measure 19 = .ok (.if_icmp .ge 60, 3) := by decide +kernel
theorem dX0_measure_22 : decode cX0_measure 22 = .ok (.aload_n 0, 1) := by decide +kernel
theorem dX0_measure_23 : decode cX0_measure 23 = .ok (.getfield 9, 3) := by decide +kernel
theorem dX0_measure_26 : decode cX0_measure 26 = .ok (.iload_n 1, 1) := by decide +kernel
theorem dX0_measure_27 : decode cX0_measure 27 = .ok (.laload, 1) := by decide +kernel
theorem dX0_measure_28 : decode cX0_measure 28 = .ok (.aload_n 0, 1) := by decide +kernel
theorem dX0_measure_29 : decode cX0_measure 29 = .ok (.getfield 29, 3) := by decide +kernel
theorem dX0_measure_32 : decode cX0_measure 32 = .ok (.aload_n 0, 1) := by decide +kernel
theorem dX0_measure_33 : decode cX0_measure 33 = .ok (.getfield 33, 3) := by decide +kernel
theorem dX0_measure_36 : decode cX0_measure 36 = .ok (.iload_n 1, 1) := by decide +kernel
theorem dX0_measure_37 : decode cX0_measure 37 = .ok (.invokestatic 112, 3) := by decide +kernel
theorem dX0_measure_40 : decode cX0_measure 40 = .ok (.lsub, 1) := by decide +kernel
theorem dX0_measure_41 : decode cX0_measure 41 = .ok (.lstore_n 2, 1) := by decide +kernel
theorem dX0_measure_42 : decode cX0_measure 42 = .ok (.aload_n 0, 1) := by decide +kernel
theorem dX0_measure_43 : decode cX0_measure 43 = .ok (.getfield 15, 3) := by decide +kernel
theorem dX0_measure_46 : decode cX0_measure 46 = .ok (.iload_n 1, 1) := by decide +kernel
theorem dX0_measure_47 : decode cX0_measure 47 = .ok (.lload_n 2, 1) := by decide +kernel
theorem dX0_measure_48 : decode cX0_measure 48 = .ok (.lastore, 1) := by decide +kernel
theorem dX0_measure_49 : decode cX0_measure 49 = .ok (.aload_n 0, 1) := by decide +kernel
theorem dX0_measure_50 : decode cX0_measure 50 = .ok (.aload_n 0, 1) := by decide +kernel
theorem dX0_measure_51 : decode cX0_measure 51 = .ok (.getfield 36, 3) := by decide +kernel
theorem dX0_measure_54 : decode cX0_measure 54 = .ok (.lload_n 2, 1) := by decide +kernel
theorem dX0_measure_55 : decode cX0_measure 55 = .ok (.invokestatic 106, 3) := by decide +kernel
theorem dX0_measure_58 : decode cX0_measure 58 = .ok (.putfield 36, 3) := by decide +kernel
theorem dX0_measure_61 : decode cX0_measure 61 = .ok (.aload_n 0, 1) := by decide +kernel
theorem dX0_measure_62 : decode cX0_measure 62 = .ok (.aload_n 0, 1) := by decide +kernel
theorem dX0_measure_63 : decode cX0_measure 63 = .ok (.getfield 39, 3) := by decide +kernel
theorem dX0_measure_66 : decode cX0_measure 66 = .ok (.lload_n 2, 1) := by decide +kernel
theorem dX0_measure_67 : decode cX0_measure 67 = .ok (.invokestatic 109, 3) := by decide +kernel
theorem dX0_measure_70 : decode cX0_measure 70 = .ok (.putfield 39, 3) := by decide +kernel
theorem dX0_measure_73 : decode cX0_measure 73 = .ok (.iinc 1 1, 3) := by decide +kernel
theorem dX0_measure_76 : decode cX0_measure 76 = .ok (.goto (-60), 3) := by decide +kernel
theorem dX0_measure_79 : decode cX0_measure 79 = .ok (.return_, 1) := by decide +kernel
set_option maxRecDepth 100000 in
set_option maxHeartbeats 4000000 in
theorem m_X0_measure {l : Launch} {G : z_Gl} {σ : z_St} (b : Nat) (hb : z_iC b) (me nc : Int32) (x y gr lo : Int64) (pf dv : Nat → Int64) (nr : Nat → Int32) : z_M l G yX0_measure cX0_measure 4 none (z_rm 2 50) [.ref (z_ad G b)] (z_cU σ b me nc x y gr lo pf dv nr) (z_p0 (z_cU σ b me nc x y (z_fmx (z_df pf x y) (-9223372036854775808) 24) (z_fmn (z_df pf x y) 9223372036854775807 24) pf (z_fil (z_df pf x y) dv 24) nr)) := by
  refine z_M.of (by decide) (Nat.le_of_ble_eq_true rfl) (fun p e s m below meth c C => ?_)
  refine z_sub [0] (lv1 := [(0, .ref (z_ad G b))]) rfl ?_
  refine z_aload_n 0 C dX0_measure_0 0 rfl ?_
  refine z_ldc2 1 C dX0_measure_1 q664 ?_
  refine z_putl 4 C b z_dX0 (z_cC hb) 7 (by decide) q245 rfl (rfl) rfl ⟨Nat.le_of_ble_eq_true rfl, rfl⟩ dX0_measure_4 ?_
  refine z_cv (σ1 := z_cU σ b me nc x y (-9223372036854775808) lo pf dv nr) rfl rfl z_cU_pg ?_
  refine z_aload_n 7 C dX0_measure_7 0 rfl ?_
  refine z_ldc2 8 C dX0_measure_8 q665 ?_
  refine z_putl 11 C b z_dX0 (z_cC hb) 8 (by decide) q247 rfl (rfl) rfl ⟨Nat.le_of_ble_eq_true rfl, rfl⟩ dX0_measure_11 ?_
  refine z_cv (σ1 := z_cU σ b me nc x y (-9223372036854775808) 9223372036854775807 pf dv nr) rfl rfl z_cU_pl ?_
  refine z_iconst 14 C dX0_measure_14 (nI 0) rfl ?_
  refine z_istore_n 15 C dX0_measure_15 [(1, .int (nI 0)), (0, .ref (z_ad G b))] (by decide) rfl ?_
  refine z_sub [1, 0] (lv1 := [(0, .ref (z_ad G b)), (1, .int (nI 0))]) rfl ?_
  refine z_cv (lv1 := [(0, .ref (z_ad G b)), (1, .int (nI 0))]) (st1 := []) (σ1 := z_cU σ b me nc x y (z_fmx (z_df pf x y) (-9223372036854775808) 0) (z_fmn (z_df pf x y) 9223372036854775807 0) pf (z_fil (z_df pf x y) dv 0) nr) rfl rfl (by rw [z_fil_0]; rfl) ?_
  refine z_lp1 (fun (k : Nat) => k ≤ 24) (fun (k : Nat) => 24 - k) (fun (k : Nat) => [(0, .ref (z_ad G b)), (1, .int (nI k))]) (fun (k : Nat) => z_cU σ b me nc x y (z_fmx (z_df pf x y) (-9223372036854775808) k) (z_fmn (z_df pf x y) 9223372036854775807 k) pf (z_fil (z_df pf x y) dv k) nr) (fun k hi_16 ih_16 => ?_) 0 (by omega)
  try dsimp only
  refine z_iload_n 16 C dX0_measure_16 1 rfl ?_
  refine z_bipush 17 C dX0_measure_17 (nI 24) rfl ?_
  refine z_icmp_geN 19 C k 24 rfl rfl (by omega) (by omega) 79 dX0_measure_19 (by decide) (fun c19 => ?_) (fun c19 => ?_)
  · skip
    have ek : k = 24 := by omega
    subst ek
    refine z_vret 79 C dX0_measure_79 ?_
    exact ⟨rfl, rfl⟩
  · skip
    refine z_aload_n 22 C dX0_measure_22 0 rfl ?_
    refine z_getf 23 C b z_dX0 (z_cC hb) 0 (by decide) q235 (.ref (z_ad G (b + 1))) rfl dX0_measure_23 ?_
    refine z_iload_n 26 C dX0_measure_26 1 rfl ?_
    refine z_laldN 27 C (b + 1) (n := 24) (z_cP hb) k rfl (by omega) (by decide) dX0_measure_27 ?_
    refine z_cv (st1 := [.long (pf k)]) rfl (by rw [z_cU_pf]) rfl ?_
    refine z_aload_n 28 C dX0_measure_28 0 rfl ?_
    refine z_getf 29 C b z_dX0 (z_cC hb) 5 (by decide) q241 (.long x) (z_cl z_cU_x) dX0_measure_29 ?_
    refine z_aload_n 32 C dX0_measure_32 0 rfl ?_
    refine z_getf 33 C b z_dX0 (z_cC hb) 6 (by decide) q243 (.long y) (z_cl z_cU_y) dX0_measure_33 ?_
    refine z_iload_n 36 C dX0_measure_36 1 rfl ?_
    refine z_callSN 37 C (As := [.long x, .long y, .int (nI k)]) (rest := [.long (pf k)]) (m_X7_wave_n (σ := z_cU σ b me nc x y (z_fmx (z_df pf x y) (-9223372036854775808) k) (z_fmn (z_df pf x y) 9223372036854775807 k) pf (z_fil (z_df pf x y) dv k) nr) x y k (by omega)) k_X7_wave (List.mem_of_getElem? (i := 34) rfl) ⟨rfl, rfl⟩ ⟨Nat.le_of_ble_eq_true rfl, Nat.le_of_ble_eq_true rfl⟩ rfl (Nat.le_of_ble_eq_true rfl) ⟨Nat.le_of_ble_eq_true rfl, Nat.le_of_ble_eq_true rfl⟩ rfl dX0_measure_37 (z_k1 ?_)
    refine z_lsub 40 C dX0_measure_40 ?_
    refine z_lstore_n 41 C dX0_measure_41 [(2, .long ((pf k) - (z_wv x y (k % 24)))), (0, .ref (z_ad G b)), (1, .int (nI k))] (by decide) rfl ?_
    refine z_aload_n 42 C dX0_measure_42 1 rfl ?_
    refine z_getf 43 C b z_dX0 (z_cC hb) 1 (by decide) q236 (.ref (z_ad G (b + 2))) rfl dX0_measure_43 ?_
    refine z_iload_n 46 C dX0_measure_46 2 rfl ?_
    refine z_lload_n 47 C dX0_measure_47 0 rfl ?_
    refine z_lastN 48 C (b + 2) (n := 24) (z_cV hb) k rfl (by omega) (by decide) dX0_measure_48 ?_
    refine z_cv (σ1 := z_cU σ b me nc x y (z_fmx (z_df pf x y) (-9223372036854775808) k) (z_fmn (z_df pf x y) 9223372036854775807 k) pf (vp_updL (z_fil (z_df pf x y) dv k) k ((pf k) - (z_wv x y (k % 24)))) nr) rfl rfl z_cU_wdv ?_
    refine z_aload_n 49 C dX0_measure_49 1 rfl ?_
    refine z_aload_n 50 C dX0_measure_50 1 rfl ?_
    refine z_getf 51 C b z_dX0 (z_cC hb) 7 (by decide) q245 (.long (z_fmx (z_df pf x y) (-9223372036854775808) k)) (z_cl z_cU_g) dX0_measure_51 ?_
    refine z_lload_n 54 C dX0_measure_54 0 rfl ?_
    refine z_callS 55 C (As := [.long (z_fmx (z_df pf x y) (-9223372036854775808) k), .long ((pf k) - (z_wv x y (k % 24)))]) (rest := [.ref (z_ad G b)]) (m_J9_max_f86c9 (σ := z_cU σ b me nc x y (z_fmx (z_df pf x y) (-9223372036854775808) k) (z_fmn (z_df pf x y) 9223372036854775807 k) pf (vp_updL (z_fil (z_df pf x y) dv k) k ((pf k) - (z_wv x y (k % 24)))) nr) (z_fmx (z_df pf x y) (-9223372036854775808) k) ((pf k) - (z_wv x y (k % 24)))) k_J9_max_f86c9 q667 ⟨rfl, rfl⟩ ⟨Nat.le_of_ble_eq_true rfl, Nat.le_of_ble_eq_true rfl⟩ rfl (Nat.le_of_ble_eq_true rfl) ⟨Nat.le_of_ble_eq_true rfl, Nat.le_of_ble_eq_true rfl⟩ rfl dX0_measure_55 (z_k1 ?_)
    refine z_putl 58 C b z_dX0 (z_cC hb) 7 (by decide) q245 rfl (rfl) rfl ⟨Nat.le_of_ble_eq_true rfl, rfl⟩ dX0_measure_58 ?_
    refine z_cv (σ1 := z_cU σ b me nc x y (z_mx (z_fmx (z_df pf x y) (-9223372036854775808) k) ((pf k) - (z_wv x y (k % 24)))) (z_fmn (z_df pf x y) 9223372036854775807 k) pf (vp_updL (z_fil (z_df pf x y) dv k) k ((pf k) - (z_wv x y (k % 24)))) nr) rfl rfl z_cU_pg ?_
    refine z_aload_n 61 C dX0_measure_61 1 rfl ?_
    refine z_aload_n 62 C dX0_measure_62 1 rfl ?_
    refine z_getf 63 C b z_dX0 (z_cC hb) 8 (by decide) q247 (.long (z_fmn (z_df pf x y) 9223372036854775807 k)) (z_cl z_cU_l) dX0_measure_63 ?_
    refine z_lload_n 66 C dX0_measure_66 0 rfl ?_
    refine z_callS 67 C (As := [.long (z_fmn (z_df pf x y) 9223372036854775807 k), .long ((pf k) - (z_wv x y (k % 24)))]) (rest := [.ref (z_ad G b)]) (m_J9_min_f86c9 (σ := z_cU σ b me nc x y (z_mx (z_fmx (z_df pf x y) (-9223372036854775808) k) ((pf k) - (z_wv x y (k % 24)))) (z_fmn (z_df pf x y) 9223372036854775807 k) pf (vp_updL (z_fil (z_df pf x y) dv k) k ((pf k) - (z_wv x y (k % 24)))) nr) (z_fmn (z_df pf x y) 9223372036854775807 k) ((pf k) - (z_wv x y (k % 24)))) k_J9_min_f86c9 q668 ⟨rfl, rfl⟩ ⟨Nat.le_of_ble_eq_true rfl, Nat.le_of_ble_eq_true rfl⟩ rfl (Nat.le_of_ble_eq_true rfl) ⟨Nat.le_of_ble_eq_true rfl, Nat.le_of_ble_eq_true rfl⟩ rfl dX0_measure_67 (z_k1 ?_)
    refine z_putl 70 C b z_dX0 (z_cC hb) 8 (by decide) q247 rfl (rfl) rfl ⟨Nat.le_of_ble_eq_true rfl, rfl⟩ dX0_measure_70 ?_
    refine z_cv (σ1 := z_cU σ b me nc x y (z_mx (z_fmx (z_df pf x y) (-9223372036854775808) k) ((pf k) - (z_wv x y (k % 24)))) (z_mn (z_fmn (z_df pf x y) 9223372036854775807 k) ((pf k) - (z_wv x y (k % 24)))) pf (vp_updL (z_fil (z_df pf x y) dv k) k ((pf k) - (z_wv x y (k % 24)))) nr) rfl rfl z_cU_pl ?_
    refine z_iincN 73 C 2 k [(1, .int (nI (k + 1))), (2, .long ((pf k) - (z_wv x y (k % 24)))), (0, .ref (z_ad G b))] rfl rfl (by decide) rfl dX0_measure_73 ?_
    refine z_goto 76 C 16 dX0_measure_76 (by decide) ?_
    refine z_sub [2, 0] (lv1 := [(0, .ref (z_ad G b)), (1, .int (nI (k + 1)))]) rfl ?_
    refine z_cv (lv1 := [(0, .ref (z_ad G b)), (1, .int (nI (k + 1)))]) (st1 := []) (σ1 := z_cU σ b me nc x y (z_fmx (z_df pf x y) (-9223372036854775808) (k + 1)) (z_fmn (z_df pf x y) 9223372036854775807 (k + 1)) pf (z_fil (z_df pf x y) dv (k + 1)) nr) rfl rfl (by rw [z_filS1]; rfl) ?_
    exact ih_16 (k + 1) (by omega) (by omega)
theorem dX0_pickNear_0 : decode cX0_pickNear 0 = .ok (.ldc2_w 85, 3) := by decide +kernel
theorem dX0_pickNear_3 : decode cX0_pickNear 3 = .ok (.ldc2_w 85, 3) := by decide +kernel
theorem dX0_pickNear_6 : decode cX0_pickNear 6 = .ok (.lload_n 1, 1) := by decide +kernel
theorem dX0_pickNear_7 : decode cX0_pickNear 7 = .ok (.lmul, 1) := by decide +kernel
theorem dX0_pickNear_8 : decode cX0_pickNear 8 = .ok (.lconst 1, 1) := by decide +kernel
theorem dX0_pickNear_9 : decode cX0_pickNear 9 = .ok (.ladd, 1) := by decide +kernel
theorem dX0_pickNear_10 : decode cX0_pickNear 10 = .ok (.lmul, 1) := by decide +kernel
theorem dX0_pickNear_11 : decode cX0_pickNear 11 = .ok (.lstore_n 3, 1) := by decide +kernel
theorem dX0_pickNear_12 : decode cX0_pickNear 12 = .ok (.aload_n 0, 1) := by decide +kernel
theorem dX0_pickNear_13 : decode cX0_pickNear 13 = .ok (.iconst 0, 1) := by decide +kernel
theorem dX0_pickNear_14 : decode cX0_pickNear 14 = .ok (.putfield 22, 3) := by decide +kernel
theorem dX0_pickNear_17 : decode cX0_pickNear 17 = .ok (.iconst 0, 1) := by decide +kernel
theorem dX0_pickNear_18 : decode cX0_pickNear 18 = .ok (.istore 5, 2) := by decide +kernel
theorem dX0_pickNear_20 : decode cX0_pickNear 20 = .ok (.iload 5, 2) := by decide +kernel
theorem dX0_pickNear_22 : decode cX0_pickNear 22 = .ok (.bipush 24, 2) := by decide +kernel
theorem dX0_pickNear_24 : decode cX0_pickNear 24 = .ok (.if_icmp .ge 64, 3) := by decide +kernel
theorem dX0_pickNear_27 : decode cX0_pickNear 27 = .ok (.aload_n 0, 1) := by decide +kernel
theorem dX0_pickNear_28 : decode cX0_pickNear 28 = .ok (.getfield 15, 3) := by decide +kernel
theorem dX0_pickNear_31 : decode cX0_pickNear 31 = .ok (.iload 5, 2) := by decide +kernel
theorem dX0_pickNear_33 : decode cX0_pickNear 33 = .ok (.laload, 1) := by decide +kernel
theorem dX0_pickNear_34 : decode cX0_pickNear 34 = .ok (.aload_n 0, 1) := by decide +kernel
theorem dX0_pickNear_35 : decode cX0_pickNear 35 = .ok (.getfield 36, 3) := by decide +kernel
theorem dX0_pickNear_38 : decode cX0_pickNear 38 = .ok (.lload_n 3, 1) := by decide +kernel
theorem dX0_pickNear_39 : decode cX0_pickNear 39 = .ok (.lsub, 1) := by decide +kernel
theorem dX0_pickNear_40 : decode cX0_pickNear 40 = .ok (.lcmp, 1) := by decide +kernel
theorem dX0_pickNear_41 : decode cX0_pickNear 41 = .ok (.ifCond .ge 20, 3) := by decide +kernel
theorem dX0_pickNear_44 : decode cX0_pickNear 44 = .ok (.aload_n 0, 1) := by decide +kernel
theorem dX0_pickNear_45 : decode cX0_pickNear 45 = .ok (.getfield 15, 3) := by decide +kernel
theorem dX0_pickNear_48 : decode cX0_pickNear 48 = .ok (.iload 5, 2) := by decide +kernel
theorem dX0_pickNear_50 : decode cX0_pickNear 50 = .ok (.laload, 1) := by decide +kernel
theorem dX0_pickNear_51 : decode cX0_pickNear 51 = .ok (.aload_n 0, 1) := by decide +kernel
theorem dX0_pickNear_52 : decode cX0_pickNear 52 = .ok (.getfield 39, 3) := by decide +kernel
theorem dX0_pickNear_55 : decode cX0_pickNear 55 = .ok (.lload_n 3, 1) := by decide +kernel
theorem dX0_pickNear_56 : decode cX0_pickNear 56 = .ok (.ladd, 1) := by decide +kernel
theorem dX0_pickNear_57 : decode cX0_pickNear 57 = .ok (.lcmp, 1) := by decide +kernel
theorem dX0_pickNear_58 : decode cX0_pickNear 58 = .ok (.ifCond .gt 24, 3) := by decide +kernel
theorem dX0_pickNear_61 : decode cX0_pickNear 61 = .ok (.aload_n 0, 1) := by decide +kernel
theorem dX0_pickNear_62 : decode cX0_pickNear 62 = .ok (.getfield 18, 3) := by decide +kernel
theorem dX0_pickNear_65 : decode cX0_pickNear 65 = .ok (.aload_n 0, 1) := by decide +kernel
theorem dX0_pickNear_66 : decode cX0_pickNear 66 = .ok (.getfield 22, 3) := by decide +kernel
theorem dX0_pickNear_69 : decode cX0_pickNear 69 = .ok (.iload 5, 2) := by decide +kernel
theorem dX0_pickNear_71 : decode cX0_pickNear 71 = .ok (.iastore, 1) := by decide +kernel
theorem dX0_pickNear_72 : decode cX0_pickNear 72 = .ok (.aload_n 0, 1) := by decide +kernel
theorem dX0_pickNear_73 : decode cX0_pickNear 73 = .ok (.dup, 1) := by decide +kernel
theorem dX0_pickNear_74 : decode cX0_pickNear 74 = .ok (.getfield 22, 3) := by decide +kernel
theorem dX0_pickNear_77 : decode cX0_pickNear 77 = .ok (.iconst 1, 1) := by decide +kernel
theorem dX0_pickNear_78 : decode cX0_pickNear 78 = .ok (.iadd, 1) := by decide +kernel
theorem dX0_pickNear_79 : decode cX0_pickNear 79 = .ok (.putfield 22, 3) := by decide +kernel
theorem dX0_pickNear_82 : decode cX0_pickNear 82 = .ok (.iinc 5 1, 3) := by decide +kernel
theorem dX0_pickNear_85 : decode cX0_pickNear 85 = .ok (.goto (-65), 3) := by decide +kernel
theorem dX0_pickNear_88 : decode cX0_pickNear 88 = .ok (.return_, 1) := by decide +kernel
set_option maxRecDepth 100000 in
set_option maxHeartbeats 4000000 in
theorem m_X0_pickNear {l : Launch} {G : z_Gl} {σ : z_St} (b : Nat) (hb : z_iC b) (me nc : Int32) (x y gr lo : Int64) (pf dv : Nat → Int64) (nr : Nat → Int32) (u : Int64) : z_M l G yX0_pickNear cX0_pickNear 6 none (z_rm 0 0) [.ref (z_ad G b), .long u] (z_cU σ b me nc x y gr lo pf dv nr) (z_p0 (z_cU σ b me (nI (z_nN gr lo (2 * (2 * u + 1)) dv 24)) x y gr lo pf dv (z_nA gr lo (2 * (2 * u + 1)) dv nr 24))) := by
  refine z_M.of (by decide) (Nat.le_of_ble_eq_true rfl) (fun p e s m below meth c C => ?_)
  refine z_sub [0, 1] (lv1 := [(0, .ref (z_ad G b)), (1, .long u)]) rfl ?_
  refine z_ldc2 0 C dX0_pickNear_0 q682 ?_
  refine z_ldc2 3 C dX0_pickNear_3 q682 ?_
  refine z_lload_n 6 C dX0_pickNear_6 1 rfl ?_
  refine z_lmul 7 C dX0_pickNear_7 ?_
  refine z_lconst 8 C dX0_pickNear_8 1 rfl ?_
  refine z_ladd 9 C dX0_pickNear_9 ?_
  refine z_lmul 10 C dX0_pickNear_10 ?_
  refine z_lstore_n 11 C dX0_pickNear_11 [(3, .long (2 * ((2 * u) + 1))), (0, .ref (z_ad G b)), (1, .long u)] (by decide) rfl ?_
  refine z_aload_n 12 C dX0_pickNear_12 1 rfl ?_
  refine z_iconst 13 C dX0_pickNear_13 (nI 0) rfl ?_
  refine z_puti 14 C b z_dX0 (z_cC hb) 3 (by decide) q239 rfl (rfl) rfl ⟨Nat.le_of_ble_eq_true rfl, rfl⟩ dX0_pickNear_14 ?_
  refine z_cv (σ1 := z_cU σ b me (nI 0) x y gr lo pf dv nr) rfl rfl z_cU_pnc ?_
  refine z_iconst 17 C dX0_pickNear_17 (nI 0) rfl ?_
  refine z_istore 18 C dX0_pickNear_18 [(5, .int (nI 0)), (3, .long (2 * ((2 * u) + 1))), (0, .ref (z_ad G b)), (1, .long u)] (by decide) rfl ?_
  refine z_sub [2, 3, 1, 0] (lv1 := [(0, .ref (z_ad G b)), (1, .long u), (3, .long (2 * ((2 * u) + 1))), (5, .int (nI 0))]) rfl ?_
  refine z_cv (lv1 := [(0, .ref (z_ad G b)), (1, .long u), (3, .long (2 * ((2 * u) + 1))), (5, .int (nI 0))]) (st1 := []) (σ1 := z_cU σ b me (nI (z_nN gr lo (2 * (2 * u + 1)) dv 0)) x y gr lo pf dv (z_nA gr lo (2 * (2 * u + 1)) dv nr 0)) rfl rfl rfl ?_
  refine z_lp1 (fun (k : Nat) => k ≤ 24) (fun (k : Nat) => 24 - k) (fun (k : Nat) => [(0, .ref (z_ad G b)), (1, .long u), (3, .long (2 * ((2 * u) + 1))), (5, .int (nI k))]) (fun (k : Nat) => z_cU σ b me (nI (z_nN gr lo (2 * (2 * u + 1)) dv k)) x y gr lo pf dv (z_nA gr lo (2 * (2 * u + 1)) dv nr k)) (fun k hi_20 ih_20 => ?_) 0 (by omega)
  try dsimp only
  refine z_iload 20 C dX0_pickNear_20 3 rfl ?_
  refine z_bipush 22 C dX0_pickNear_22 (nI 24) rfl ?_
  refine z_icmp_geN 24 C k 24 rfl rfl (by omega) (by omega) 88 dX0_pickNear_24 (by decide) (fun c24 => ?_) (fun c24 => ?_)
  · skip
    have ek : k = 24 := by omega
    subst ek
    refine z_vret 88 C dX0_pickNear_88 ?_
    exact ⟨rfl, rfl⟩
  · skip
    refine z_aload_n 27 C dX0_pickNear_27 0 rfl ?_
    refine z_getf 28 C b z_dX0 (z_cC hb) 1 (by decide) q236 (.ref (z_ad G (b + 2))) rfl dX0_pickNear_28 ?_
    refine z_iload 31 C dX0_pickNear_31 3 rfl ?_
    refine z_laldN 33 C (b + 2) (n := 24) (z_cV hb) k rfl (by omega) (by decide) dX0_pickNear_33 ?_
    refine z_cv (st1 := [.long (dv k)]) rfl (by rw [z_cU_dv]) rfl ?_
    refine z_aload_n 34 C dX0_pickNear_34 0 rfl ?_
    refine z_getf 35 C b z_dX0 (z_cC hb) 7 (by decide) q245 (.long gr) (z_cl z_cU_g) dX0_pickNear_35 ?_
    refine z_lload_n 38 C dX0_pickNear_38 2 rfl ?_
    refine z_lsub 39 C dX0_pickNear_39 ?_
    refine z_lcmp_ge 40 C 61 dX0_pickNear_40 dX0_pickNear_41 (by decide) (fun c40 => ?_) (fun c40 => ?_)
    · skip
      refine z_aload_n 61 C dX0_pickNear_61 0 rfl ?_
      refine z_getf 62 C b z_dX0 (z_cC hb) 2 (by decide) q238 (.ref (z_ad G (b + 3))) rfl dX0_pickNear_62 ?_
      refine z_aload_n 65 C dX0_pickNear_65 0 rfl ?_
      refine z_getf 66 C b z_dX0 (z_cC hb) 3 (by decide) q239 (.int (nI (z_nN gr lo (2 * (2 * u + 1)) dv k))) (z_ci z_cU_nc) dX0_pickNear_66 ?_
      refine z_iload 69 C dX0_pickNear_69 3 rfl ?_
      have hnn := z_nN_le gr lo (2 * (2 * u + 1)) dv k
      refine z_iastN 71 C (b + 3) (n := 24) (z_cN hb) (z_nN gr lo (2 * (2 * u + 1)) dv k) rfl (by omega) (by decide) dX0_pickNear_71 ?_
      refine z_cv (σ1 := z_cU σ b me (nI (z_nN gr lo (2 * (2 * u + 1)) dv k)) x y gr lo pf dv (upd (z_nA gr lo (2 * (2 * u + 1)) dv nr k) (z_nN gr lo (2 * (2 * u + 1)) dv k) (nI k))) rfl rfl z_cU_wnr ?_
      refine z_aload_n 72 C dX0_pickNear_72 0 rfl ?_
      refine z_dup 73 C dX0_pickNear_73 rfl ?_
      refine z_getf 74 C b z_dX0 (z_cC hb) 3 (by decide) q239 (.int (nI (z_nN gr lo (2 * (2 * u + 1)) dv k))) (z_ci z_cU_nc) dX0_pickNear_74 ?_
      refine z_iconst 77 C dX0_pickNear_77 (nI 1) rfl ?_
      refine z_iaddN 78 C (z_nN gr lo (2 * (2 * u + 1)) dv k) 1 rfl rfl dX0_pickNear_78 ?_
      refine z_puti 79 C b z_dX0 (z_cC hb) 3 (by decide) q239 rfl (rfl) rfl ⟨Nat.le_of_ble_eq_true rfl, rfl⟩ dX0_pickNear_79 ?_
      refine z_cv (σ1 := z_cU σ b me (nI ((z_nN gr lo (2 * (2 * u + 1)) dv k) + 1)) x y gr lo pf dv (upd (z_nA gr lo (2 * (2 * u + 1)) dv nr k) (z_nN gr lo (2 * (2 * u + 1)) dv k) (nI k))) rfl rfl z_cU_pnc ?_
      refine z_iincN 82 C 3 k [(5, .int (nI (k + 1))), (0, .ref (z_ad G b)), (1, .long u), (3, .long (2 * ((2 * u) + 1)))] rfl rfl (by decide) rfl dX0_pickNear_82 ?_
      refine z_goto 85 C 20 dX0_pickNear_85 (by decide) ?_
      refine z_sub [1, 2, 3, 0] (lv1 := [(0, .ref (z_ad G b)), (1, .long u), (3, .long (2 * ((2 * u) + 1))), (5, .int (nI (k + 1)))]) rfl ?_
      refine z_cv (lv1 := [(0, .ref (z_ad G b)), (1, .long u), (3, .long (2 * ((2 * u) + 1))), (5, .int (nI (k + 1)))]) (st1 := []) (σ1 := z_cU σ b me (nI (z_nN gr lo (2 * (2 * u + 1)) dv (k + 1))) x y gr lo pf dv (z_nA gr lo (2 * (2 * u + 1)) dv nr (k + 1))) rfl rfl (by first | rw [z_nN_1 (Or.inl c40), z_nA_1 (Or.inl c40)] | rw [z_nN_1 (Or.inr (Int64.not_lt.mp c57)), z_nA_1 (Or.inr (Int64.not_lt.mp c57))] | rw [z_nN_0 (fun z => z.elim c40 (Int64.not_le.mpr c57)), z_nA_0 (fun z => z.elim c40 (Int64.not_le.mpr c57))]) ?_
      exact ih_20 (k + 1) (by omega) (by omega)
    · skip
      refine z_aload_n 44 C dX0_pickNear_44 0 rfl ?_
      refine z_getf 45 C b z_dX0 (z_cC hb) 1 (by decide) q236 (.ref (z_ad G (b + 2))) rfl dX0_pickNear_45 ?_
      refine z_iload 48 C dX0_pickNear_48 3 rfl ?_
      refine z_laldN 50 C (b + 2) (n := 24) (z_cV hb) k rfl (by omega) (by decide) dX0_pickNear_50 ?_
      refine z_cv (st1 := [.long (dv k)]) rfl (by rw [z_cU_dv]) rfl ?_
      refine z_aload_n 51 C dX0_pickNear_51 0 rfl ?_
      refine z_getf 52 C b z_dX0 (z_cC hb) 8 (by decide) q247 (.long lo) (z_cl z_cU_l) dX0_pickNear_52 ?_
      refine z_lload_n 55 C dX0_pickNear_55 2 rfl ?_
      refine z_ladd 56 C dX0_pickNear_56 ?_
      refine z_lcmp_gt 57 C 82 dX0_pickNear_57 dX0_pickNear_58 (by decide) (fun c57 => ?_) (fun c57 => ?_)
      · skip
        refine z_iincN 82 C 3 k [(5, .int (nI (k + 1))), (0, .ref (z_ad G b)), (1, .long u), (3, .long (2 * ((2 * u) + 1)))] rfl rfl (by decide) rfl dX0_pickNear_82 ?_
        refine z_goto 85 C 20 dX0_pickNear_85 (by decide) ?_
        refine z_sub [1, 2, 3, 0] (lv1 := [(0, .ref (z_ad G b)), (1, .long u), (3, .long (2 * ((2 * u) + 1))), (5, .int (nI (k + 1)))]) rfl ?_
        refine z_cv (lv1 := [(0, .ref (z_ad G b)), (1, .long u), (3, .long (2 * ((2 * u) + 1))), (5, .int (nI (k + 1)))]) (st1 := []) (σ1 := z_cU σ b me (nI (z_nN gr lo (2 * (2 * u + 1)) dv (k + 1))) x y gr lo pf dv (z_nA gr lo (2 * (2 * u + 1)) dv nr (k + 1))) rfl rfl (by first | rw [z_nN_1 (Or.inl c40), z_nA_1 (Or.inl c40)] | rw [z_nN_1 (Or.inr (Int64.not_lt.mp c57)), z_nA_1 (Or.inr (Int64.not_lt.mp c57))] | rw [z_nN_0 (fun z => z.elim c40 (Int64.not_le.mpr c57)), z_nA_0 (fun z => z.elim c40 (Int64.not_le.mpr c57))]) ?_
        exact ih_20 (k + 1) (by omega) (by omega)
      · skip
        refine z_aload_n 61 C dX0_pickNear_61 0 rfl ?_
        refine z_getf 62 C b z_dX0 (z_cC hb) 2 (by decide) q238 (.ref (z_ad G (b + 3))) rfl dX0_pickNear_62 ?_
        refine z_aload_n 65 C dX0_pickNear_65 0 rfl ?_
        refine z_getf 66 C b z_dX0 (z_cC hb) 3 (by decide) q239 (.int (nI (z_nN gr lo (2 * (2 * u + 1)) dv k))) (z_ci z_cU_nc) dX0_pickNear_66 ?_
        refine z_iload 69 C dX0_pickNear_69 3 rfl ?_
        have hnn := z_nN_le gr lo (2 * (2 * u + 1)) dv k
        refine z_iastN 71 C (b + 3) (n := 24) (z_cN hb) (z_nN gr lo (2 * (2 * u + 1)) dv k) rfl (by omega) (by decide) dX0_pickNear_71 ?_
        refine z_cv (σ1 := z_cU σ b me (nI (z_nN gr lo (2 * (2 * u + 1)) dv k)) x y gr lo pf dv (upd (z_nA gr lo (2 * (2 * u + 1)) dv nr k) (z_nN gr lo (2 * (2 * u + 1)) dv k) (nI k))) rfl rfl z_cU_wnr ?_
        refine z_aload_n 72 C dX0_pickNear_72 0 rfl ?_
        refine z_dup 73 C dX0_pickNear_73 rfl ?_
        refine z_getf 74 C b z_dX0 (z_cC hb) 3 (by decide) q239 (.int (nI (z_nN gr lo (2 * (2 * u + 1)) dv k))) (z_ci z_cU_nc) dX0_pickNear_74 ?_
        refine z_iconst 77 C dX0_pickNear_77 (nI 1) rfl ?_
        refine z_iaddN 78 C (z_nN gr lo (2 * (2 * u + 1)) dv k) 1 rfl rfl dX0_pickNear_78 ?_
        refine z_puti 79 C b z_dX0 (z_cC hb) 3 (by decide) q239 rfl (rfl) rfl ⟨Nat.le_of_ble_eq_true rfl, rfl⟩ dX0_pickNear_79 ?_
        refine z_cv (σ1 := z_cU σ b me (nI ((z_nN gr lo (2 * (2 * u + 1)) dv k) + 1)) x y gr lo pf dv (upd (z_nA gr lo (2 * (2 * u + 1)) dv nr k) (z_nN gr lo (2 * (2 * u + 1)) dv k) (nI k))) rfl rfl z_cU_pnc ?_
        refine z_iincN 82 C 3 k [(5, .int (nI (k + 1))), (0, .ref (z_ad G b)), (1, .long u), (3, .long (2 * ((2 * u) + 1)))] rfl rfl (by decide) rfl dX0_pickNear_82 ?_
        refine z_goto 85 C 20 dX0_pickNear_85 (by decide) ?_
        refine z_sub [1, 2, 3, 0] (lv1 := [(0, .ref (z_ad G b)), (1, .long u), (3, .long (2 * ((2 * u) + 1))), (5, .int (nI (k + 1)))]) rfl ?_
        refine z_cv (lv1 := [(0, .ref (z_ad G b)), (1, .long u), (3, .long (2 * ((2 * u) + 1))), (5, .int (nI (k + 1)))]) (st1 := []) (σ1 := z_cU σ b me (nI (z_nN gr lo (2 * (2 * u + 1)) dv (k + 1))) x y gr lo pf dv (z_nA gr lo (2 * (2 * u + 1)) dv nr (k + 1))) rfl rfl (by first | rw [z_nN_1 (Or.inl c40), z_nA_1 (Or.inl c40)] | rw [z_nN_1 (Or.inr (Int64.not_lt.mp c57)), z_nA_1 (Or.inr (Int64.not_lt.mp c57))] | rw [z_nN_0 (fun z => z.elim c40 (Int64.not_le.mpr c57)), z_nA_0 (fun z => z.elim c40 (Int64.not_le.mpr c57))]) ?_
        exact ih_20 (k + 1) (by omega) (by omega)
theorem dX0_valueAt_0 : decode cX0_valueAt 0 = .ok (.ldc2_w 89, 3) := by decide +kernel
theorem dX0_valueAt_3 : decode cX0_valueAt 3 = .ok (.lstore 5, 2) := by decide +kernel
theorem dX0_valueAt_5 : decode cX0_valueAt 5 = .ok (.ldc2_w 91, 3) := by decide +kernel
theorem dX0_valueAt_8 : decode cX0_valueAt 8 = .ok (.lstore 7, 2) := by decide +kernel
theorem dX0_valueAt_10 : decode cX0_valueAt 10 = .ok (.iconst 0, 1) := by decide +kernel
theorem dX0_valueAt_11 : decode cX0_valueAt 11 = .ok (.istore 9, 2) := by decide +kernel
theorem dX0_valueAt_13 : decode cX0_valueAt 13 = .ok (.iload 9, 2) := by decide +kernel
theorem dX0_valueAt_15 : decode cX0_valueAt 15 = .ok (.aload_n 0, 1) := by decide +kernel
theorem dX0_valueAt_16 : decode cX0_valueAt 16 = .ok (.getfield 22, 3) := by decide +kernel
theorem dX0_valueAt_19 : decode cX0_valueAt 19 = .ok (.if_icmp .ge 71, 3) := by decide +kernel
theorem dX0_valueAt_22 : decode cX0_valueAt 22 = .ok (.aload_n 0, 1) := by decide +kernel
theorem dX0_valueAt_23 : decode cX0_valueAt 23 = .ok (.getfield 18, 3) := by decide +kernel
theorem dX0_valueAt_26 : decode cX0_valueAt 26 = .ok (.iload 9, 2) := by decide +kernel
theorem dX0_valueAt_28 : decode cX0_valueAt 28 = .ok (.iaload, 1) := by decide +kernel
theorem dX0_valueAt_29 : decode cX0_valueAt 29 = .ok (.istore 10, 2) := by decide +kernel
theorem dX0_valueAt_31 : decode cX0_valueAt 31 = .ok (.aload_n 0, 1) := by decide +kernel
theorem dX0_valueAt_32 : decode cX0_valueAt 32 = .ok (.getfield 9, 3) := by decide +kernel
theorem dX0_valueAt_35 : decode cX0_valueAt 35 = .ok (.iload 10, 2) := by decide +kernel
theorem dX0_valueAt_37 : decode cX0_valueAt 37 = .ok (.laload, 1) := by decide +kernel
theorem dX0_valueAt_38 : decode cX0_valueAt 38 = .ok (.lload_n 1, 1) := by decide +kernel
theorem dX0_valueAt_39 : decode cX0_valueAt 39 = .ok (.getstatic 93, 3) := by decide +kernel
theorem dX0_valueAt_42 : decode cX0_valueAt 42 = .ok (.iload 10, 2) := by decide +kernel
theorem dX0_valueAt_44 : decode cX0_valueAt 44 = .ok (.iaload, 1) := by decide +kernel
theorem dX0_valueAt_45 : decode cX0_valueAt 45 = .ok (.i2l, 1) := by decide +kernel
theorem dX0_valueAt_46 : decode cX0_valueAt 46 = .ok (.lmul, 1) := by decide +kernel
theorem dX0_valueAt_47 : decode cX0_valueAt 47 = .ok (.lload_n 3, 1) := by decide +kernel
theorem dX0_valueAt_48 : decode cX0_valueAt 48 = .ok (.getstatic 96, 3) := by decide +kernel
theorem dX0_valueAt_51 : decode cX0_valueAt 51 = .ok (.iload 10, 2) := by decide +kernel
theorem dX0_valueAt_53 : decode cX0_valueAt 53 = .ok (.iaload, 1) := by decide +kernel
theorem dX0_valueAt_54 : decode cX0_valueAt 54 = .ok (.i2l, 1) := by decide +kernel
theorem dX0_valueAt_55 : decode cX0_valueAt 55 = .ok (.lmul, 1) := by decide +kernel
theorem dX0_valueAt_56 : decode cX0_valueAt 56 = .ok (.ladd, 1) := by decide +kernel
theorem dX0_valueAt_57 : decode cX0_valueAt 57 = .ok (.ldc2_w 99, 3) := by decide +kernel
theorem dX0_valueAt_60 : decode cX0_valueAt 60 = .ok (.invokestatic 101, 3) := by decide +kernel
theorem dX0_valueAt_63 : decode cX0_valueAt 63 = .ok (.lsub, 1) := by decide +kernel
theorem dX0_valueAt_64 : decode cX0_valueAt 64 = .ok (.lstore 11, 2) := by decide +kernel
theorem dX0_valueAt_66 : decode cX0_valueAt 66 = .ok (.lload 5, 2) := by decide +kernel
theorem dX0_valueAt_68 : decode cX0_valueAt 68 = .ok (.lload 11, 2) := by decide +kernel
theorem dX0_valueAt_70 : decode cX0_valueAt 70 = .ok (.invokestatic 106, 3) := by decide +kernel
theorem dX0_valueAt_73 : decode cX0_valueAt 73 = .ok (.lstore 5, 2) := by decide +kernel
theorem dX0_valueAt_75 : decode cX0_valueAt 75 = .ok (.lload 7, 2) := by decide +kernel
theorem dX0_valueAt_77 : decode cX0_valueAt 77 = .ok (.lload 11, 2) := by decide +kernel
theorem dX0_valueAt_79 : decode cX0_valueAt 79 = .ok (.invokestatic 109, 3) := by decide +kernel
theorem dX0_valueAt_82 : decode cX0_valueAt 82 = .ok (.lstore 7, 2) := by decide +kernel
theorem dX0_valueAt_84 : decode cX0_valueAt 84 = .ok (.iinc 9 1, 3) := by decide +kernel
theorem dX0_valueAt_87 : decode cX0_valueAt 87 = .ok (.goto (-74), 3) := by decide +kernel
theorem dX0_valueAt_90 : decode cX0_valueAt 90 = .ok (.aload_n 0, 1) := by decide +kernel
theorem dX0_valueAt_91 : decode cX0_valueAt 91 = .ok (.lload 5, 2) := by decide +kernel
theorem dX0_valueAt_93 : decode cX0_valueAt 93 = .ok (.lload 7, 2) := by decide +kernel
theorem dX0_valueAt_95 : decode cX0_valueAt 95 = .ok (.invokevirtual 62, 3) := by decide +kernel
theorem dX0_valueAt_98 : decode cX0_valueAt 98 = .ok (.lreturn, 1) := by decide +kernel
set_option maxRecDepth 100000 in
set_option maxHeartbeats 4000000 in
theorem m_X0_valueAt {l : Launch} {G : z_Gl} {σ : z_St} (b : Nat) (hb : z_iC b) (me : Int32) (N : Nat) (x y gr lo : Int64) (pf dv : Nat → Int64) (nr : Nat → Int32) (u : Int64) (w : Int64) (ne : Nat → Nat) (hN : N ≤ 24) (hnr : ∀ i, i < N → nr i = nI (ne i)) (hne : ∀ i, i < N → ne i < 24) : z_M l G yX0_valueAt cX0_valueAt 13 (some .long) (z_rm 1 25) [.ref (z_ad G b), .long u, .long w] (z_cU σ b me (nI N) x y gr lo pf dv nr) (z_p1 (.long (z_vo me (z_fmx (z_vn pf u w ne) (-9223372036854775808) N) (z_fmn (z_vn pf u w ne) 9223372036854775807 N))) (z_cU σ b me (nI N) x y gr lo pf dv nr)) := by
  refine z_M.of (by decide) (Nat.le_of_ble_eq_true rfl) (fun p e s m below meth c C => ?_)
  refine z_sub [0, 1, 2] (lv1 := [(0, .ref (z_ad G b)), (1, .long u), (3, .long w)]) rfl ?_
  refine z_ldc2 0 C dX0_valueAt_0 q664 ?_
  refine z_lstore 3 C dX0_valueAt_3 [(5, .long (-9223372036854775808)), (0, .ref (z_ad G b)), (1, .long u), (3, .long w)] (by decide) rfl ?_
  refine z_ldc2 5 C dX0_valueAt_5 q665 ?_
  refine z_lstore 8 C dX0_valueAt_8 [(7, .long 9223372036854775807), (5, .long (-9223372036854775808)), (0, .ref (z_ad G b)), (1, .long u), (3, .long w)] (by decide) rfl ?_
  refine z_iconst 10 C dX0_valueAt_10 (nI 0) rfl ?_
  refine z_istore 11 C dX0_valueAt_11 [(9, .int (nI 0)), (7, .long 9223372036854775807), (5, .long (-9223372036854775808)), (0, .ref (z_ad G b)), (1, .long u), (3, .long w)] (by decide) rfl ?_
  refine z_sub [3, 4, 5, 2, 1, 0] (lv1 := [(0, .ref (z_ad G b)), (1, .long u), (3, .long w), (5, .long (-9223372036854775808)), (7, .long 9223372036854775807), (9, .int (nI 0))]) rfl ?_
  refine z_cv (lv1 := [(0, .ref (z_ad G b)), (1, .long u), (3, .long w), (5, .long (z_fmx (z_vn pf u w ne) (-9223372036854775808) 0)), (7, .long (z_fmn (z_vn pf u w ne) 9223372036854775807 0)), (9, .int (nI 0))]) (st1 := []) (σ1 := z_cU σ b me (nI N) x y gr lo pf dv nr) rfl rfl rfl ?_
  refine z_lp1 (fun (i : Nat) => i ≤ N) (fun (i : Nat) => N - i) (fun (i : Nat) => [(0, .ref (z_ad G b)), (1, .long u), (3, .long w), (5, .long (z_fmx (z_vn pf u w ne) (-9223372036854775808) i)), (7, .long (z_fmn (z_vn pf u w ne) 9223372036854775807 i)), (9, .int (nI i))]) (fun (i : Nat) => z_cU σ b me (nI N) x y gr lo pf dv nr) (fun i hi_13 ih_13 => ?_) 0 (by omega)
  try dsimp only
  refine z_iload 13 C dX0_valueAt_13 5 rfl ?_
  refine z_aload_n 15 C dX0_valueAt_15 0 rfl ?_
  refine z_getf 16 C b z_dX0 (z_cC hb) 3 (by decide) q239 (.int (nI N)) (z_ci z_cU_nc) dX0_valueAt_16 ?_
  refine z_icmp_geN 19 C i N rfl rfl (by omega) (by omega) 90 dX0_valueAt_19 (by decide) (fun c19 => ?_) (fun c19 => ?_)
  · skip
    have ek : N = i := by omega
    subst ek
    refine z_aload_n 90 C dX0_valueAt_90 0 rfl ?_
    refine z_lload 91 C dX0_valueAt_91 3 rfl ?_
    refine z_lload 93 C dX0_valueAt_93 4 rfl ?_
    refine z_callV 95 C b (⟨(z_cC hb).1, by rw [(z_cC hb).2]; rfl⟩) rfl (As := [.long (z_fmx (z_vn pf u w ne) (-9223372036854775808) N), .long (z_fmn (z_vn pf u w ne) 9223372036854775807 N)]) (rest := []) (@m_X0_valueOf _ _ σ b (hb) me (nI N) x y gr lo pf dv nr (z_fmx (z_vn pf u w ne) (-9223372036854775808) N) (z_fmn (z_vn pf u w ne) 9223372036854775807 N)) k_X0_valueOf q671 ⟨rfl, rfl⟩ ⟨Nat.le_of_ble_eq_true rfl, Nat.le_of_ble_eq_true rfl⟩ rfl (Nat.le_of_ble_eq_true rfl) ⟨Nat.le_of_ble_eq_true rfl, Nat.le_of_ble_eq_true rfl⟩ rfl dX0_valueAt_95 (z_k1 ?_)
    refine z_lret 98 C dX0_valueAt_98 ?_
    exact ⟨rfl, rfl⟩
  · skip
    refine z_aload_n 22 C dX0_valueAt_22 0 rfl ?_
    refine z_getf 23 C b z_dX0 (z_cC hb) 2 (by decide) q238 (.ref (z_ad G (b + 3))) rfl dX0_valueAt_23 ?_
    refine z_iload 26 C dX0_valueAt_26 5 rfl ?_
    refine z_ialdN 28 C (b + 3) (n := 24) (z_cN hb) i rfl (by omega) (by decide) dX0_valueAt_28 ?_
    refine z_cv (st1 := [.int (nr i)]) rfl (by rw [z_cU_nr]) rfl ?_
    have hnr1 := hnr i (by omega)
    have hne1 := hne i (by omega)
    refine z_cv (lv1 := [(0, .ref (z_ad G b)), (1, .long u), (3, .long w), (5, .long (z_fmx (z_vn pf u w ne) (-9223372036854775808) i)), (7, .long (z_fmn (z_vn pf u w ne) 9223372036854775807 i)), (9, .int (nI i))]) (st1 := [.int (nI (ne i))]) (σ1 := z_cU σ b me (nI N) x y gr lo pf dv nr) rfl (by rw [hnr1]) rfl ?_
    refine z_istore 29 C dX0_valueAt_29 [(10, .int (nI (ne i))), (0, .ref (z_ad G b)), (1, .long u), (3, .long w), (5, .long (z_fmx (z_vn pf u w ne) (-9223372036854775808) i)), (7, .long (z_fmn (z_vn pf u w ne) 9223372036854775807 i)), (9, .int (nI i))] (by decide) rfl ?_
    refine z_aload_n 31 C dX0_valueAt_31 1 rfl ?_
    refine z_getf 32 C b z_dX0 (z_cC hb) 0 (by decide) q235 (.ref (z_ad G (b + 1))) rfl dX0_valueAt_32 ?_
    refine z_iload 35 C dX0_valueAt_35 0 rfl ?_
    refine z_laldN 37 C (b + 1) (n := 24) (z_cP hb) (ne i) rfl (by omega) (by decide) dX0_valueAt_37 ?_
    refine z_cv (st1 := [.long (pf (ne i))]) rfl (by rw [z_cU_pf]) rfl ?_
    refine z_lload_n 38 C dX0_valueAt_38 2 rfl ?_
    refine z_getsN 39 C 0 (by decide) (List.mem_of_getElem? (i := 28) rfl) dX0_valueAt_39 ?_
    refine z_iload 42 C dX0_valueAt_42 0 rfl ?_
    refine z_taldN 44 C 0 (by decide) (ne i) rfl (show _ < 24 from (by omega)) dX0_valueAt_44 ?_
    refine z_i2l 45 C dX0_valueAt_45 ?_
    refine z_lmul 46 C dX0_valueAt_46 ?_
    refine z_lload_n 47 C dX0_valueAt_47 3 rfl ?_
    refine z_getsN 48 C 1 (by decide) (List.mem_of_getElem? (i := 29) rfl) dX0_valueAt_48 ?_
    refine z_iload 51 C dX0_valueAt_51 0 rfl ?_
    refine z_taldN 53 C 1 (by decide) (ne i) rfl (show _ < 24 from (by omega)) dX0_valueAt_53 ?_
    refine z_i2l 54 C dX0_valueAt_54 ?_
    refine z_lmul 55 C dX0_valueAt_55 ?_
    refine z_ladd 56 C dX0_valueAt_56 ?_
    refine z_ldc2 57 C dX0_valueAt_57 q693 ?_
    refine z_callS 60 C (As := [.long ((u * (Int32.toInt64 (z_tv 0 (ne i)))) + (w * (Int32.toInt64 (z_tv 1 (ne i))))), .long 1000000]) (rest := [.long (pf (ne i))]) (m_J9_floorDiv_f86c9 (σ := z_cU σ b me (nI N) x y gr lo pf dv nr) ((u * (Int32.toInt64 (z_tv 0 (ne i)))) + (w * (Int32.toInt64 (z_tv 1 (ne i))))) 1000000 (by decide)) k_J9_floorDiv_f86c9 q694 ⟨rfl, rfl⟩ ⟨Nat.le_of_ble_eq_true rfl, Nat.le_of_ble_eq_true rfl⟩ rfl (Nat.le_of_ble_eq_true rfl) ⟨Nat.le_of_ble_eq_true rfl, Nat.le_of_ble_eq_true rfl⟩ rfl dX0_valueAt_60 (z_k1 ?_)
    refine z_lsub 63 C dX0_valueAt_63 ?_
    refine z_lstore 64 C dX0_valueAt_64 [(11, .long ((pf (ne i)) - (z_fd ((u * (Int32.toInt64 (z_tv 0 (ne i)))) + (w * (Int32.toInt64 (z_tv 1 (ne i))))) 1000000))), (10, .int (nI (ne i))), (0, .ref (z_ad G b)), (1, .long u), (3, .long w), (5, .long (z_fmx (z_vn pf u w ne) (-9223372036854775808) i)), (7, .long (z_fmn (z_vn pf u w ne) 9223372036854775807 i)), (9, .int (nI i))] (by decide) rfl ?_
    refine z_lload 66 C dX0_valueAt_66 5 rfl ?_
    refine z_lload 68 C dX0_valueAt_68 0 rfl ?_
    refine z_callS 70 C (As := [.long (z_fmx (z_vn pf u w ne) (-9223372036854775808) i), .long ((pf (ne i)) - (z_fd ((u * (Int32.toInt64 (z_tv 0 (ne i)))) + (w * (Int32.toInt64 (z_tv 1 (ne i))))) 1000000))]) (rest := []) (m_J9_max_f86c9 (σ := z_cU σ b me (nI N) x y gr lo pf dv nr) (z_fmx (z_vn pf u w ne) (-9223372036854775808) i) ((pf (ne i)) - (z_fd ((u * (Int32.toInt64 (z_tv 0 (ne i)))) + (w * (Int32.toInt64 (z_tv 1 (ne i))))) 1000000))) k_J9_max_f86c9 q667 ⟨rfl, rfl⟩ ⟨Nat.le_of_ble_eq_true rfl, Nat.le_of_ble_eq_true rfl⟩ rfl (Nat.le_of_ble_eq_true rfl) ⟨Nat.le_of_ble_eq_true rfl, Nat.le_of_ble_eq_true rfl⟩ rfl dX0_valueAt_70 (z_k1 ?_)
    refine z_lstore 73 C dX0_valueAt_73 [(5, .long (z_mx (z_fmx (z_vn pf u w ne) (-9223372036854775808) i) ((pf (ne i)) - (z_fd ((u * (Int32.toInt64 (z_tv 0 (ne i)))) + (w * (Int32.toInt64 (z_tv 1 (ne i))))) 1000000)))), (11, .long ((pf (ne i)) - (z_fd ((u * (Int32.toInt64 (z_tv 0 (ne i)))) + (w * (Int32.toInt64 (z_tv 1 (ne i))))) 1000000))), (10, .int (nI (ne i))), (0, .ref (z_ad G b)), (1, .long u), (3, .long w), (7, .long (z_fmn (z_vn pf u w ne) 9223372036854775807 i)), (9, .int (nI i))] (by decide) rfl ?_
    refine z_lload 75 C dX0_valueAt_75 6 rfl ?_
    refine z_lload 77 C dX0_valueAt_77 1 rfl ?_
    refine z_callS 79 C (As := [.long (z_fmn (z_vn pf u w ne) 9223372036854775807 i), .long ((pf (ne i)) - (z_fd ((u * (Int32.toInt64 (z_tv 0 (ne i)))) + (w * (Int32.toInt64 (z_tv 1 (ne i))))) 1000000))]) (rest := []) (m_J9_min_f86c9 (σ := z_cU σ b me (nI N) x y gr lo pf dv nr) (z_fmn (z_vn pf u w ne) 9223372036854775807 i) ((pf (ne i)) - (z_fd ((u * (Int32.toInt64 (z_tv 0 (ne i)))) + (w * (Int32.toInt64 (z_tv 1 (ne i))))) 1000000))) k_J9_min_f86c9 q668 ⟨rfl, rfl⟩ ⟨Nat.le_of_ble_eq_true rfl, Nat.le_of_ble_eq_true rfl⟩ rfl (Nat.le_of_ble_eq_true rfl) ⟨Nat.le_of_ble_eq_true rfl, Nat.le_of_ble_eq_true rfl⟩ rfl dX0_valueAt_79 (z_k1 ?_)
    refine z_lstore 82 C dX0_valueAt_82 [(7, .long (z_mn (z_fmn (z_vn pf u w ne) 9223372036854775807 i) ((pf (ne i)) - (z_fd ((u * (Int32.toInt64 (z_tv 0 (ne i)))) + (w * (Int32.toInt64 (z_tv 1 (ne i))))) 1000000)))), (5, .long (z_mx (z_fmx (z_vn pf u w ne) (-9223372036854775808) i) ((pf (ne i)) - (z_fd ((u * (Int32.toInt64 (z_tv 0 (ne i)))) + (w * (Int32.toInt64 (z_tv 1 (ne i))))) 1000000)))), (11, .long ((pf (ne i)) - (z_fd ((u * (Int32.toInt64 (z_tv 0 (ne i)))) + (w * (Int32.toInt64 (z_tv 1 (ne i))))) 1000000))), (10, .int (nI (ne i))), (0, .ref (z_ad G b)), (1, .long u), (3, .long w), (9, .int (nI i))] (by decide) rfl ?_
    refine z_iincN 84 C 7 i [(9, .int (nI (i + 1))), (7, .long (z_mn (z_fmn (z_vn pf u w ne) 9223372036854775807 i) ((pf (ne i)) - (z_fd ((u * (Int32.toInt64 (z_tv 0 (ne i)))) + (w * (Int32.toInt64 (z_tv 1 (ne i))))) 1000000)))), (5, .long (z_mx (z_fmx (z_vn pf u w ne) (-9223372036854775808) i) ((pf (ne i)) - (z_fd ((u * (Int32.toInt64 (z_tv 0 (ne i)))) + (w * (Int32.toInt64 (z_tv 1 (ne i))))) 1000000)))), (11, .long ((pf (ne i)) - (z_fd ((u * (Int32.toInt64 (z_tv 0 (ne i)))) + (w * (Int32.toInt64 (z_tv 1 (ne i))))) 1000000))), (10, .int (nI (ne i))), (0, .ref (z_ad G b)), (1, .long u), (3, .long w)] rfl rfl (by decide) rfl dX0_valueAt_84 ?_
    refine z_goto 87 C 13 dX0_valueAt_87 (by decide) ?_
    refine z_sub [5, 6, 7, 2, 1, 0] (lv1 := [(0, .ref (z_ad G b)), (1, .long u), (3, .long w), (5, .long (z_mx (z_fmx (z_vn pf u w ne) (-9223372036854775808) i) ((pf (ne i)) - (z_fd ((u * (Int32.toInt64 (z_tv 0 (ne i)))) + (w * (Int32.toInt64 (z_tv 1 (ne i))))) 1000000)))), (7, .long (z_mn (z_fmn (z_vn pf u w ne) 9223372036854775807 i) ((pf (ne i)) - (z_fd ((u * (Int32.toInt64 (z_tv 0 (ne i)))) + (w * (Int32.toInt64 (z_tv 1 (ne i))))) 1000000)))), (9, .int (nI (i + 1)))]) rfl ?_
    refine z_cv (lv1 := [(0, .ref (z_ad G b)), (1, .long u), (3, .long w), (5, .long (z_fmx (z_vn pf u w ne) (-9223372036854775808) (i + 1))), (7, .long (z_fmn (z_vn pf u w ne) 9223372036854775807 (i + 1))), (9, .int (nI (i + 1)))]) (st1 := []) (σ1 := z_cU σ b me (nI N) x y gr lo pf dv nr) rfl rfl rfl ?_
    exact ih_13 (i + 1) (by omega) (by omega)
