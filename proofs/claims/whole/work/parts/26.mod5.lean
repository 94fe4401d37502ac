/-! THE REFERENCE: circles. What its searches write, at once -/
def z_mU (σ : z_St) (cx cy mo le : Int64) (as_ of_ : Nat → Int64) : z_St :=
  (σ.1, fun a => if a = 105 then (fun k => if k = 10 then cx else if k = 11 then cy else if k = 12 then mo else if k = 13 then le else σ.2 105 k) else if a = 109 then as_ else if a = 114 then of_ else σ.2 a)
theorem z_mU_self (σ : z_St) : z_mU σ (σ.2 105 10) (σ.2 105 11) (σ.2 105 12) (σ.2 105 13) (σ.2 109) (σ.2 114) = σ := by
  unfold z_mU
  refine Prod.ext rfl ?_
  funext a
  by_cases h : a = 105
  · subst h
    funext k
    by_cases h6 : k = 10
    · subst h6; simp
    · by_cases h7 : k = 11
      · subst h7; simp
      · by_cases h8 : k = 12
        · subst h8; simp
        · by_cases h9 : k = 13
          · subst h9; simp
          · simp [h6, h7, h8, h9]
  · by_cases h4 : a = 109
    · subst h4; simp
    · by_cases h5 : a = 114
      · subst h5; simp
      · simp [h, h4, h5]
theorem zm_f1 (D : Nat → Int64) : D 0 = z_fmx D (-9223372036854775808) 1 ∧ D 0 = z_fmn D 9223372036854775807 1 := by
  constructor
  · show D 0 = z_mx z_MIN (D 0)
    exact Int64.le_antisymm (z_mx_r _ _) (by unfold z_mx; split; exact Int64.le_refl _; exact z_MIN_le _)
  · show D 0 = z_mn z_MAX (D 0)
    exact Int64.le_antisymm (by unfold z_mn; split; exact Int64.le_refl _; exact z_le_MAX _) (z_mn_r _ _)
/-- the best of the ways, as the reference keeps it -/
def zm_bst (D : Nat → Int64) : Nat → Int64
  | 0 => 0
  | k + 1 => if k = 0 ∨ D k < zm_bst D k then D k else zm_bst D k
def zm_way (D : Nat → Int64) : Nat → Nat
  | 0 => 0
  | k + 1 => if k = 0 ∨ D k < zm_bst D k then k else zm_way D k
theorem zm_wb1 {D : Nat → Int64} {k : Nat} (h : k = 0 ∨ D k < zm_bst D k) : zm_way D (k + 1) = k ∧ zm_bst D (k + 1) = D k := ⟨if_pos h, if_pos h⟩
theorem zm_wb0 {D : Nat → Int64} {k : Nat} (h0 : ¬ k = 0) (h : zm_bst D k ≤ D k) : zm_way D (k + 1) = zm_way D k ∧ zm_bst D (k + 1) = zm_bst D k := ⟨if_neg (fun z => z.elim h0 (Int64.not_lt.mpr h)), if_neg (fun z => z.elim h0 (Int64.not_lt.mpr h))⟩
theorem zm_rel (D : Nat → Int64) (v : Int64) : ∀ n, zm_way D (n + 1) ≤ n ∧ zm_bst D (n + 1) = D (zm_way D (n + 1)) ∧ ((z_bw D v (n + 1) = -1 ∧ z_fmn D v (n + 1) = v ∧ v ≤ zm_bst D (n + 1)) ∨ (z_bw D v (n + 1) = nI (zm_way D (n + 1)) ∧ z_fmn D v (n + 1) = zm_bst D (n + 1) ∧ zm_bst D (n + 1) < v))
  | 0 => by
    obtain ⟨e1, e2⟩ := zm_wb1 (D := D) (k := 0) (Or.inl rfl)
    rw [e1, e2]
    refine ⟨Nat.le_refl 0, rfl, ?_⟩
    by_cases h : D 0 < v
    · exact Or.inr ⟨if_pos h, if_pos h, h⟩
    · exact Or.inl ⟨if_neg h, if_neg h, Int64.not_lt.mp h⟩
  | n + 1 => by
    obtain ⟨i1, i2, i3⟩ := zm_rel D v n
    by_cases h : D (n + 1) < zm_bst D (n + 1)
    · obtain ⟨e1, e2⟩ := zm_wb1 (D := D) (k := n + 1) (Or.inr h)
      rw [e1, e2]
      refine ⟨Nat.le_refl _, rfl, ?_⟩
      rcases i3 with ⟨a1, a2, a3⟩ | ⟨a1, a2, a3⟩
      · by_cases q : D (n + 1) < v
        · exact Or.inr ⟨if_pos (by rw [a2]; exact q), if_pos (by rw [a2]; exact q), q⟩
        · exact Or.inl ⟨(if_neg (by rw [a2]; exact q)).trans a1, (if_neg (by rw [a2]; exact q)).trans a2, Int64.not_lt.mp q⟩
      · have q : D (n + 1) < v := by rw [fa_lt64] at h a3 ⊢; omega
        exact Or.inr ⟨if_pos (by rw [a2]; exact h), if_pos (by rw [a2]; exact h), q⟩
    · obtain ⟨e1, e2⟩ := zm_wb0 (D := D) (k := n + 1) (by omega) (Int64.not_lt.mp h)
      rw [e1, e2]
      refine ⟨by omega, i2, ?_⟩
      rcases i3 with ⟨a1, a2, a3⟩ | ⟨a1, a2, a3⟩
      · have q : ¬ D (n + 1) < z_fmn D v (n + 1) := by
          rw [a2]
          intro z
          apply h
          rw [fa_lt64] at z ⊢
          rw [fa_le64] at a3
          omega
        exact Or.inl ⟨(if_neg q).trans a1, (if_neg q).trans a2, a3⟩
      · have q : ¬ D (n + 1) < z_fmn D v (n + 1) := by rw [a2]; exact h
        exact Or.inr ⟨(if_neg q).trans a1, (if_neg q).trans a2, a3⟩
/-- what holds at the head of the reference's search -/
def zm_inv (pf : Nat → Int64) (me : Int32) (x y sd : Int64) : Prop := ∃ n, zs_go pf me n = ⟨x, y, sd⟩
theorem zm_inv.good {pf : Nat → Int64} {me : Int32} {x y sd : Int64} (h : zm_inv pf me x y sd) (hp : zs_hb pf) : z_good pf me ⟨x, y, sd⟩ := by
  obtain ⟨n, hg⟩ := h
  have := zs_go_good me hp n
  rw [hg] at this
  exact this
theorem zm_stepH {pf : Nat → Int64} {me : Int32} {x y sd : Int64} (h : zm_inv pf me x y sd) (hp : zs_hb pf) (hs : ¬ sd ≤ 0) (hb : z_F pf me x y ≤ zm_bst (zs_D pf me x y sd) 8) : zm_inv pf me x y (sd / 2) ∧ z_pot pf me ⟨x, y, sd / 2⟩ < z_pot pf me ⟨x, y, sd⟩ := by
  have hs1 : ¬ sd < 1 := by
    rw [fa_le64] at hs; rw [fa_lt64]; show ¬ _ < (1 : Int)
    have : (0 : Int64).toInt = 0 := by decide
    omega
  have g := h.good hp
  obtain ⟨n, hg⟩ := h
  obtain ⟨-, -, r⟩ := zm_rel (zs_D pf me x y sd) (z_F pf me x y) 7
  have hw : z_bw (zs_D pf me x y sd) (z_F pf me x y) 8 = -1 := by
    rcases r with r | r
    · exact r.1
    · have : zm_bst (zs_D pf me x y sd) 8 < z_F pf me x y := r.2.2
      rw [fa_lt64] at this
      rw [fa_le64] at hb
      omega
  have e := z_stp_0 hw
  have hl := (z_stp_good hp g hs1).2
  rw [e] at hl
  exact ⟨⟨n + 1, by rw [zs_go_s hg hs1, e]⟩, hl⟩
theorem zm_stepM {pf : Nat → Int64} {me : Int32} {x y sd : Int64} (h : zm_inv pf me x y sd) (hp : zs_hb pf) (hs : ¬ sd ≤ 0) (hb : ¬ z_F pf me x y ≤ zm_bst (zs_D pf me x y sd) 8) : zm_way (zs_D pf me x y sd) 8 < 8 ∧ zm_bst (zs_D pf me x y sd) 8 = z_F pf me (x + sd * (z_tv 2 (zm_way (zs_D pf me x y sd) 8)).toInt64) (y + sd * (z_tv 3 (zm_way (zs_D pf me x y sd) 8)).toInt64) ∧ zm_inv pf me (x + sd * (z_tv 2 (zm_way (zs_D pf me x y sd) 8)).toInt64) (y + sd * (z_tv 3 (zm_way (zs_D pf me x y sd) 8)).toInt64) sd ∧ z_pot pf me ⟨x + sd * (z_tv 2 (zm_way (zs_D pf me x y sd) 8)).toInt64, y + sd * (z_tv 3 (zm_way (zs_D pf me x y sd) 8)).toInt64, sd⟩ < z_pot pf me ⟨x, y, sd⟩ := by
  have hs1 : ¬ sd < 1 := by
    rw [fa_le64] at hs; rw [fa_lt64]; show ¬ _ < (1 : Int)
    have : (0 : Int64).toInt = 0 := by decide
    omega
  have g := h.good hp
  obtain ⟨n, hg⟩ := h
  obtain ⟨w1, w2, r⟩ := zm_rel (zs_D pf me x y sd) (z_F pf me x y) 7
  have hw : z_bw (zs_D pf me x y sd) (z_F pf me x y) 8 = nI (zm_way (zs_D pf me x y sd) 8) := by
    rcases r with r | r
    · exact absurd r.2.2 hb
    · exact r.1
  have w8 : zm_way (zs_D pf me x y sd) 8 < 8 := by
    have := w1
    exact Nat.lt_succ_of_le this
  have e := z_stp_w w8 hw
  have hl := (z_stp_good hp g hs1).2
  rw [e] at hl
  exact ⟨w8, w2, ⟨n + 1, by rw [zs_go_s hg hs1, e]⟩, hl⟩
theorem zm_fin {pf : Nat → Int64} {mm : Nat} {x y sd : Int64} (h : zm_inv pf (nI mm) x y sd) (hm : ¬ mm = 0) (hs : sd ≤ 0) : x = z_cx pf mm ∧ y = z_cy pf mm := by
  obtain ⟨n, hg⟩ := h
  have hs1 : sd < 1 := by
    rw [fa_le64] at hs; rw [fa_lt64]; show _ < (1 : Int)
    have : (0 : Int64).toInt = 0 := by decide
    omega
  have e := z_ce_eq hg hs1
  constructor
  · unfold z_cx; rw [if_neg hm, e]
  · unfold z_cy; rw [if_neg hm, e]
/-- the first of the greatest, of the least -/
def zm_ex (d : Nat → Int64) : Nat → Nat
  | 0 => 0
  | k + 1 => if d (zm_ex d k) < d k then k else zm_ex d k
def zm_en (d : Nat → Int64) : Nat → Nat
  | 0 => 0
  | k + 1 => if d k < d (zm_en d k) then k else zm_en d k
def zm_xe (t : Nat) (d : Nat → Int64) (k : Nat) : Nat := if t = 0 then zm_en d k else zm_ex d k
theorem zm_xe1 (t : Nat) (d : Nat → Int64) : 0 = zm_xe t d 1 := by
  unfold zm_xe
  split
  · show 0 = if d 0 < d 0 then 0 else 0
    split <;> rfl
  · show 0 = if d 0 < d 0 then 0 else 0
    split <;> rfl
theorem zm_ex_lt (d : Nat → Int64) : ∀ n, zm_ex d (n + 1) ≤ n
  | 0 => by show (if d 0 < d 0 then 0 else 0) ≤ 0; split <;> exact Nat.le_refl 0
  | n + 1 => by
    have := zm_ex_lt d n
    rw [zm_ex]
    split <;> omega
theorem zm_en_lt (d : Nat → Int64) : ∀ n, zm_en d (n + 1) ≤ n
  | 0 => by show (if d 0 < d 0 then 0 else 0) ≤ 0; split <;> exact Nat.le_refl 0
  | n + 1 => by
    have := zm_en_lt d n
    rw [zm_en]
    split <;> omega
theorem zm_xe_lt (t : Nat) (d : Nat → Int64) {k : Nat} (h : 1 ≤ k) : zm_xe t d k < k := by
  obtain ⟨n, rfl⟩ : ∃ n, k = n + 1 := ⟨k - 1, by omega⟩
  unfold zm_xe
  split
  · have := zm_en_lt d n; omega
  · have := zm_ex_lt d n; omega
theorem zm_xe_a {t : Nat} {d : Nat → Int64} {k : Nat} (ht : ¬ t = 0) (h : ¬ d k ≤ d (zm_xe t d k)) : zm_xe t d (k + 1) = k := by
  unfold zm_xe at h ⊢
  rw [if_neg ht] at h ⊢
  exact if_pos (Int64.not_le.mp h)
theorem zm_xe_b {t : Nat} {d : Nat → Int64} {k : Nat} (ht : ¬ t = 0) (h : d k ≤ d (zm_xe t d k)) : zm_xe t d (k + 1) = zm_xe t d k := by
  unfold zm_xe at h ⊢
  rw [if_neg ht] at h
  rw [if_neg ht, if_neg ht]
  exact if_neg (Int64.not_lt.mpr h)
theorem zm_xe_c {t : Nat} {d : Nat → Int64} {k : Nat} (ht : t = 0) (h : ¬ d (zm_xe t d k) ≤ d k) : zm_xe t d (k + 1) = k := by
  unfold zm_xe at h ⊢
  rw [if_pos ht] at h ⊢
  exact if_pos (Int64.not_le.mp h)
theorem zm_xe_d {t : Nat} {d : Nat → Int64} {k : Nat} (ht : t = 0) (h : d (zm_xe t d k) ≤ d k) : zm_xe t d (k + 1) = zm_xe t d k := by
  unfold zm_xe at h ⊢
  rw [if_pos ht] at h
  rw [if_pos ht, if_pos ht]
  exact if_neg (Int64.not_lt.mpr h)
/-- how deep, as the reference finds it -/
def zm_dp (top : Int64) (d : Nat → Int64) (cc : Nat) : Nat → Int64
  | 0 => -1
  | k + 1 => if cc ≤ z_cn top d (top - d k) 24 ∧ (zm_dp top d cc k < 0 ∨ top - d k < zm_dp top d cc k) then top - d k else zm_dp top d cc k
theorem zm_dp1 {top : Int64} {d : Nat → Int64} {cc k : Nat} (h : cc ≤ z_cn top d (top - d k) 24) (h2 : zm_dp top d cc k < 0 ∨ top - d k < zm_dp top d cc k) : zm_dp top d cc (k + 1) = top - d k := if_pos ⟨h, h2⟩
theorem zm_dp0 {top : Int64} {d : Nat → Int64} {cc k : Nat} (h : ¬ (cc ≤ z_cn top d (top - d k) 24 ∧ (zm_dp top d cc k < 0 ∨ top - d k < zm_dp top d cc k))) : zm_dp top d cc (k + 1) = zm_dp top d cc k := if_neg h
theorem z_mU_pcx {σ : z_St} {cx cy mo le : Int64} {as_ of_ : Nat → Int64} {v : Int64} : z_ul (z_mU σ cx cy mo le as_ of_) 105 10 v = z_mU σ v cy mo le as_ of_ := by
  unfold z_ul z_mU
  refine Prod.ext rfl ?_
  funext a
  by_cases h : a = 105
  · subst h
    funext k
    simp only [if_true, vp_updL]
    by_cases h2 : k = 10
    · subst h2; simp
    · simp [h2]
  · simp [h]
theorem z_mU_pcy {σ : z_St} {cx cy mo le : Int64} {as_ of_ : Nat → Int64} {v : Int64} : z_ul (z_mU σ cx cy mo le as_ of_) 105 11 v = z_mU σ cx v mo le as_ of_ := by
  unfold z_ul z_mU
  refine Prod.ext rfl ?_
  funext a
  by_cases h : a = 105
  · subst h
    funext k
    simp only [if_true, vp_updL]
    by_cases h2 : k = 11
    · subst h2; simp
    · simp [h2]
  · simp [h]
theorem z_mU_pmo {σ : z_St} {cx cy mo le : Int64} {as_ of_ : Nat → Int64} {v : Int64} : z_ul (z_mU σ cx cy mo le as_ of_) 105 12 v = z_mU σ cx cy v le as_ of_ := by
  unfold z_ul z_mU
  refine Prod.ext rfl ?_
  funext a
  by_cases h : a = 105
  · subst h
    funext k
    simp only [if_true, vp_updL]
    by_cases h2 : k = 12
    · subst h2; simp
    · simp [h2]
  · simp [h]
theorem z_mU_ple {σ : z_St} {cx cy mo le : Int64} {as_ of_ : Nat → Int64} {v : Int64} : z_ul (z_mU σ cx cy mo le as_ of_) 105 13 v = z_mU σ cx cy mo v as_ of_ := by
  unfold z_ul z_mU
  refine Prod.ext rfl ?_
  funext a
  by_cases h : a = 105
  · subst h
    funext k
    simp only [if_true, vp_updL]
    by_cases h2 : k = 13
    · subst h2; simp
    · simp [h2]
  · simp [h]
theorem z_mU_was_ {σ : z_St} {cx cy mo le : Int64} {as_ of_ : Nat → Int64} {j : Nat} {v : Int64} : z_ul (z_mU σ cx cy mo le as_ of_) 109 j v = z_mU σ cx cy mo le (vp_updL as_ j v) of_ := by
  unfold z_ul z_mU
  refine Prod.ext rfl ?_
  funext a
  by_cases h : a = 109
  · subst h; simp
  · simp [h]
theorem z_mU_wof_ {σ : z_St} {cx cy mo le : Int64} {as_ of_ : Nat → Int64} {j : Nat} {v : Int64} : z_ul (z_mU σ cx cy mo le as_ of_) 114 j v = z_mU σ cx cy mo le as_ (vp_updL of_ j v) := by
  unfold z_ul z_mU
  refine Prod.ext rfl ?_
  funext a
  by_cases h : a = 114
  · subst h; simp
  · simp [h]
theorem z_mU_u9 {σ : z_St} {f : Nat → Int64} : z_uL σ 109 f = z_mU σ (σ.2 105 10) (σ.2 105 11) (σ.2 105 12) (σ.2 105 13) f (σ.2 114) := by
  unfold z_mU z_uL
  refine Prod.ext rfl ?_
  funext a
  by_cases h : a = 105
  · subst h
    funext k
    by_cases h6 : k = 10
    · subst h6; simp
    · by_cases h7 : k = 11
      · subst h7; simp
      · by_cases h8 : k = 12
        · subst h8; simp
        · by_cases h9 : k = 13
          · subst h9; simp
          · simp [h6, h7, h8, h9]
  · by_cases h4 : a = 109
    · subst h4; simp
    · by_cases h5 : a = 114
      · subst h5; simp
      · simp [h, h4, h5]
theorem dX8_off_0 : decode cX8_off 0 = .ok (.lload_n 0, 1) := by decide +kernel
theorem dX8_off_1 : decode cX8_off 1 = .ok (.lload_n 2, 1) := by decide +kernel
theorem dX8_off_2 : decode cX8_off 2 = .ok (.lload 6, 2) := by decide +kernel
theorem dX8_off_4 : decode cX8_off 4 = .ok (.lmul, 1) := by decide +kernel
theorem dX8_off_5 : decode cX8_off 5 = .ok (.lload 4, 2) := by decide +kernel
theorem dX8_off_7 : decode cX8_off 7 = .ok (.lload 8, 2) := by decide +kernel
theorem dX8_off_9 : decode cX8_off 9 = .ok (.lmul, 1) := by decide +kernel
theorem dX8_off_10 : decode cX8_off 10 = .ok (.ladd, 1) := by decide +kernel
theorem dX8_off_11 : decode cX8_off 11 = .ok (.ldc2_w 125, 3) := by decide +kernel
theorem dX8_off_14 : decode cX8_off 14 = .ok (.invokestatic 115, 3) := by decide +kernel
theorem dX8_off_17 : decode cX8_off 17 = .ok (.lsub, 1) := by decide +kernel
theorem dX8_off_18 : decode cX8_off 18 = .ok (.lreturn, 1) := by decide +kernel
set_option maxRecDepth 100000 in
set_option maxHeartbeats 4000000 in
theorem m_X8_off {l : Launch} {G : z_Gl} {σ : z_St} (a1 a2 a3 a4 a5 : Int64) : z_M l G yX8_off cX8_off 10 (some .long) (z_rm 1 25) [.long a1, .long a2, .long a3, .long a4, .long a5] σ (z_p1 (.long (a1 - z_fd (a2 * a4 + a3 * a5) 1000000)) σ) := by
  refine z_M.of (by decide) (Nat.le_of_ble_eq_true rfl) (fun p e s m below meth c C => ?_)
  refine z_sub [0, 1, 2, 3, 4] (lv1 := [(0, .long a1), (2, .long a2), (4, .long a3), (6, .long a4), (8, .long a5)]) rfl ?_
  refine z_lload_n 0 C dX8_off_0 0 rfl ?_
  refine z_lload_n 1 C dX8_off_1 1 rfl ?_
  refine z_lload 2 C dX8_off_2 3 rfl ?_
  refine z_lmul 4 C dX8_off_4 ?_
  refine z_lload 5 C dX8_off_5 2 rfl ?_
  refine z_lload 7 C dX8_off_7 4 rfl ?_
  refine z_lmul 9 C dX8_off_9 ?_
  refine z_ladd 10 C dX8_off_10 ?_
  refine z_ldc2 11 C dX8_off_11 q1139 ?_
  refine z_callS 14 C (As := [.long ((a2 * a4) + (a3 * a5)), .long 1000000]) (rest := [.long a1]) (m_X8_down ((a2 * a4) + (a3 * a5)) 1000000 (by decide)) k_X8_down q1116 ⟨rfl, rfl⟩ ⟨Nat.le_of_ble_eq_true rfl, Nat.le_of_ble_eq_true rfl⟩ rfl (Nat.le_of_ble_eq_true rfl) ⟨Nat.le_of_ble_eq_true rfl, Nat.le_of_ble_eq_true rfl⟩ rfl dX8_off_14 (z_k1 ?_)
  refine z_lsub 17 C dX8_off_17 ?_
  refine z_lret 18 C dX8_off_18 ?_
  exact ⟨rfl, rfl⟩
theorem dX8_offAt_0 : decode cX8_offAt 0 = .ok (.aload_n 1, 1) := by decide +kernel
theorem dX8_offAt_1 : decode cX8_offAt 1 = .ok (.iload_n 2, 1) := by decide +kernel
theorem dX8_offAt_2 : decode cX8_offAt 2 = .ok (.iload_n 3, 1) := by decide +kernel
theorem dX8_offAt_3 : decode cX8_offAt 3 = .ok (.iadd, 1) := by decide +kernel
theorem dX8_offAt_4 : decode cX8_offAt 4 = .ok (.laload, 1) := by decide +kernel
theorem dX8_offAt_5 : decode cX8_offAt 5 = .ok (.lload 4, 2) := by decide +kernel
theorem dX8_offAt_7 : decode cX8_offAt 7 = .ok (.lload 6, 2) := by decide +kernel
theorem dX8_offAt_9 : decode cX8_offAt 9 = .ok (.aload_n 0, 1) := by decide +kernel
theorem dX8_offAt_10 : decode cX8_offAt 10 = .ok (.iload_n 3, 1) := by decide +kernel
theorem dX8_offAt_11 : decode cX8_offAt 11 = .ok (.invokevirtual 76, 3) := by decide +kernel
theorem dX8_offAt_14 : decode cX8_offAt 14 = .ok (.aload_n 0, 1) := by decide +kernel
theorem dX8_offAt_15 : decode cX8_offAt 15 = .ok (.iload_n 3, 1) := by decide +kernel
theorem dX8_offAt_16 : decode cX8_offAt 16 = .ok (.invokevirtual 161, 3) := by decide +kernel
theorem dX8_offAt_19 : decode cX8_offAt 19 = .ok (.invokestatic 195, 3) := by decide +kernel
theorem dX8_offAt_22 : decode cX8_offAt 22 = .ok (.lreturn, 1) := by decide +kernel
set_option maxRecDepth 100000 in
set_option maxHeartbeats 4000000 in
theorem m_X8_offAt {l : Launch} {G : z_Gl} {σ : z_St} (P n u v w rc tl : Nat) (hM : z_mi σ P n u v w rc tl) (r f k sz : Nat) (x y : Int64) (zr : Nat → Int64) (hr : z_kd r = 2 ∧ z_sz r = sz) (hf : f + 24 ≤ sz) (hsz : sz ≤ 480) (hk : k < 24) (hz : σ.2 r = zr) : z_M l G yX8_offAt cX8_offAt 8 (some .long) (z_rm 3 64) [.ref (z_ad G 105), .ref (z_ad G r), .int (nI f), .int (nI k), .long x, .long y] σ (z_p1 (.long (z_df (z_sh zr f) x y k)) σ) := by
  refine z_M.of (by decide) (Nat.le_of_ble_eq_true rfl) (fun p e s m below meth c C => ?_)
  refine z_sub [0, 1, 2, 3, 4, 5] (lv1 := [(0, .ref (z_ad G 105)), (1, .ref (z_ad G r)), (2, .int (nI f)), (3, .int (nI k)), (4, .long x), (6, .long y)]) rfl ?_
  have hM0 := hM
  obtain ⟨⟨hP, hn, hu, hv, hw, hrc, htl⟩, hPs, hnP, huv, hw6, hrc8, htl2, hqt, hah⟩ := hM0
  have h0 : 0 < P := by omega
  have h12 : P ≤ 12 := by omega
  have h288 : n ≤ 288 := by omega
  refine z_aload_n 0 C dX8_offAt_0 1 rfl ?_
  refine z_iload_n 1 C dX8_offAt_1 2 rfl ?_
  refine z_iload_n 2 C dX8_offAt_2 3 rfl ?_
  refine z_iaddN 3 C f k rfl rfl dX8_offAt_3 ?_
  refine z_laldN 4 C r (n := sz) (hr) (f + k) rfl (by omega) (by omega) dX8_offAt_4 ?_
  refine z_cv (lv1 := [(0, .ref (z_ad G 105)), (1, .ref (z_ad G r)), (2, .int (nI f)), (3, .int (nI k)), (4, .long x), (6, .long y)]) (st1 := [.long (zr (f + k))]) (σ1 := σ) rfl (by rw [hz]) rfl ?_
  refine z_lload 5 C dX8_offAt_5 4 rfl ?_
  refine z_lload 7 C dX8_offAt_7 5 rfl ?_
  refine z_aload_n 9 C dX8_offAt_9 0 rfl ?_
  refine z_iload_n 10 C dX8_offAt_10 3 rfl ?_
  refine z_callV 11 C 105 (⟨rfl, rfl⟩) rfl (As := [.int (nI k)]) (rest := [.long y, .long x, .long (zr (f + k))]) (m_X8_cosine_n P n u v w rc tl hM k (by omega)) k_X8_cosine q1203 ⟨rfl, rfl⟩ ⟨Nat.le_of_ble_eq_true rfl, Nat.le_of_ble_eq_true rfl⟩ rfl (Nat.le_of_ble_eq_true rfl) ⟨Nat.le_of_ble_eq_true rfl, Nat.le_of_ble_eq_true rfl⟩ rfl dX8_offAt_11 (z_k1 ?_)
  refine z_aload_n 14 C dX8_offAt_14 0 rfl ?_
  refine z_iload_n 15 C dX8_offAt_15 3 rfl ?_
  refine z_callV 16 C 105 (⟨rfl, rfl⟩) rfl (As := [.int (nI k)]) (rest := [.long (Int32.toInt64 (z_tv 0 (k % 24))), .long y, .long x, .long (zr (f + k))]) (m_X8_sine P n u v w rc tl hM k (by omega)) k_X8_sine q1199 ⟨rfl, rfl⟩ ⟨Nat.le_of_ble_eq_true rfl, Nat.le_of_ble_eq_true rfl⟩ rfl (Nat.le_of_ble_eq_true rfl) ⟨Nat.le_of_ble_eq_true rfl, Nat.le_of_ble_eq_true rfl⟩ rfl dX8_offAt_16 (z_k1 ?_)
  refine z_callS 19 C (As := [.long (zr (f + k)), .long x, .long y, .long (Int32.toInt64 (z_tv 0 (k % 24))), .long (Int32.toInt64 (z_tv 1 (k % 24)))]) (rest := []) (m_X8_off (zr (f + k)) x y (Int32.toInt64 (z_tv 0 (k % 24))) (Int32.toInt64 (z_tv 1 (k % 24)))) k_X8_off q1282 ⟨rfl, rfl⟩ ⟨Nat.le_of_ble_eq_true rfl, Nat.le_of_ble_eq_true rfl⟩ rfl (Nat.le_of_ble_eq_true rfl) ⟨Nat.le_of_ble_eq_true rfl, Nat.le_of_ble_eq_true rfl⟩ rfl dX8_offAt_19 (z_k1 ?_)
  refine z_lret 22 C dX8_offAt_22 ?_
  exact ⟨rfl, rfl⟩
theorem dX8_findEnds_0 : decode cX8_findEnds 0 = .ok (.aload_n 0, 1) := by decide +kernel
theorem dX8_findEnds_1 : decode cX8_findEnds 1 = .ok (.aload_n 0, 1) := by decide +kernel
theorem dX8_findEnds_2 : decode cX8_findEnds 2 = .ok (.aload_n 1, 1) := by decide +kernel
theorem dX8_findEnds_3 : decode cX8_findEnds 3 = .ok (.iload_n 2, 1) := by decide +kernel
theorem dX8_findEnds_4 : decode cX8_findEnds 4 = .ok (.iconst 0, 1) := by decide +kernel
theorem dX8_findEnds_5 : decode cX8_findEnds 5 = .ok (.lload_n 3, 1) := by decide +kernel
theorem dX8_findEnds_6 : decode cX8_findEnds 6 = .ok (.lload 5, 2) := by decide +kernel
theorem dX8_findEnds_8 : decode cX8_findEnds 8 = .ok (.invokevirtual 199, 3) := by decide +kernel
theorem dX8_findEnds_11 : decode cX8_findEnds 11 = .ok (.putfield 203, 3) := by decide +kernel
theorem dX8_findEnds_14 : decode cX8_findEnds 14 = .ok (.aload_n 0, 1) := by decide +kernel
theorem dX8_findEnds_15 : decode cX8_findEnds 15 = .ok (.aload_n 0, 1) := by decide +kernel
theorem dX8_findEnds_16 : decode cX8_findEnds 16 = .ok (.getfield 203, 3) := by decide +kernel
theorem dX8_findEnds_19 : decode cX8_findEnds 19 = .ok (.putfield 207, 3) := by decide +kernel
theorem dX8_findEnds_22 : decode cX8_findEnds 22 = .ok (.iconst 1, 1) := by decide +kernel
theorem dX8_findEnds_23 : decode cX8_findEnds 23 = .ok (.istore 7, 2) := by decide +kernel
theorem dX8_findEnds_25 : decode cX8_findEnds 25 = .ok (.iload 7, 2) := by decide +kernel
theorem dX8_findEnds_27 : decode cX8_findEnds 27 = .ok (.bipush 24, 2) := by decide +kernel
theorem dX8_findEnds_29 : decode cX8_findEnds 29 = .ok (.if_icmp .ge 68, 3) := by decide +kernel
theorem dX8_findEnds_32 : decode cX8_findEnds 32 = .ok (.aload_n 0, 1) := by decide +kernel
theorem dX8_findEnds_33 : decode cX8_findEnds 33 = .ok (.aload_n 1, 1) := by decide +kernel
theorem dX8_findEnds_34 : decode cX8_findEnds 34 = .ok (.iload_n 2, 1) := by decide +kernel
theorem dX8_findEnds_35 : decode cX8_findEnds 35 = .ok (.iload 7, 2) := by decide +kernel
theorem dX8_findEnds_37 : decode cX8_findEnds 37 = .ok (.lload_n 3, 1) := by decide +kernel
theorem dX8_findEnds_38 : decode cX8_findEnds 38 = .ok (.lload 5, 2) := by decide +kernel
theorem dX8_findEnds_40 : decode cX8_findEnds 40 = .ok (.invokevirtual 199, 3) := by decide +kernel
theorem dX8_findEnds_43 : decode cX8_findEnds 43 = .ok (.lstore 8, 2) := by decide +kernel
theorem dX8_findEnds_45 : decode cX8_findEnds 45 = .ok (.aload_n 0, 1) := by decide +kernel
theorem dX8_findEnds_46 : decode cX8_findEnds 46 = .ok (.lload 8, 2) := by decide +kernel
theorem dX8_findEnds_48 : decode cX8_findEnds 48 = .ok (.aload_n 0, 1) := by decide +kernel
theorem dX8_findEnds_49 : decode cX8_findEnds 49 = .ok (.getfield 203, 3) := by decide +kernel
theorem dX8_findEnds_52 : decode cX8_findEnds 52 = .ok (.lcmp, 1) := by decide +kernel
theorem dX8_findEnds_53 : decode cX8_findEnds 53 = .ok (.ifCond .le 8, 3) := by decide +kernel
theorem dX8_findEnds_56 : decode cX8_findEnds 56 = .ok (.lload 8, 2) := by decide +kernel
theorem dX8_findEnds_58 : decode cX8_findEnds 58 = .ok (.goto 7, 3) := by decide +kernel
theorem dX8_findEnds_61 : decode cX8_findEnds 61 = .ok (.aload_n 0, 1) := by decide +kernel
theorem dX8_findEnds_62 : decode cX8_findEnds 62 = .ok (.getfield 203, 3) := by decide +kernel
theorem dX8_findEnds_65 : decode cX8_findEnds 65 = .ok (.putfield 203, 3) := by decide +kernel
theorem dX8_findEnds_68 : decode cX8_findEnds 68 = .ok (.aload_n 0, 1) := by decide +kernel
theorem dX8_findEnds_69 : decode cX8_findEnds 69 = .ok (.lload 8, 2) := by decide +kernel
theorem dX8_findEnds_71 : decode cX8_findEnds 71 = .ok (.aload_n 0, 1) := by decide +kernel
theorem dX8_findEnds_72 : decode cX8_findEnds 72 = .ok (.getfield 207, 3) := by decide +kernel
theorem dX8_findEnds_75 : decode cX8_findEnds 75 = .ok (.lcmp, 1) := by decide +kernel
theorem dX8_findEnds_76 : decode cX8_findEnds 76 = .ok (.ifCond .ge 8, 3) := by decide +kernel
theorem dX8_findEnds_79 : decode cX8_findEnds 79 = .ok (.lload 8, 2) := by decide +kernel
theorem dX8_findEnds_81 : decode cX8_findEnds 81 = .ok (.goto 7, 3) := by decide +kernel
theorem dX8_findEnds_84 : decode cX8_findEnds 84 = .ok (.aload_n 0, 1) := by decide +kernel
theorem dX8_findEnds_85 : decode cX8_findEnds 85 = .ok (.getfield 207, 3) := by decide +kernel
theorem dX8_findEnds_88 : decode cX8_findEnds 88 = .ok (.putfield 207, 3) := by decide +kernel
theorem dX8_findEnds_91 : decode cX8_findEnds 91 = .ok (.iinc 7 1, 3) := by decide +kernel
theorem dX8_findEnds_94 : decode cX8_findEnds 94 = .ok (.goto (-69), 3) := by decide +kernel
theorem dX8_findEnds_97 : decode cX8_findEnds 97 = .ok (.return_, 1) := by decide +kernel
set_option maxRecDepth 100000 in
set_option maxHeartbeats 4000000 in
theorem m_X8_findEnds {l : Launch} {G : z_Gl} {σ : z_St} (P n u v w rc tl : Nat) (hM : z_mi σ P n u v w rc tl) (cx cy mo le : Int64) (as_ of_ : Nat → Int64) (r f sz : Nat) (x y : Int64) (zr : Nat → Int64) (hr : z_kd r = 2 ∧ z_sz r = sz) (hf : f + 24 ≤ sz) (hsz : sz ≤ 480) (hz : ∀ cx cy mo le, (z_mU σ cx cy mo le as_ of_).2 r = zr) : z_M l G yX8_findEnds cX8_findEnds 10 none (z_rm 4 91) [.ref (z_ad G 105), .ref (z_ad G r), .int (nI f), .long x, .long y] (z_mU σ cx cy mo le as_ of_) (z_p0 (z_mU σ cx cy (z_fmx (z_df (z_sh zr f) x y) (-9223372036854775808) 24) (z_fmn (z_df (z_sh zr f) x y) 9223372036854775807 24) as_ of_)) := by
  refine z_M.of (by decide) (Nat.le_of_ble_eq_true rfl) (fun p e s m below meth c C => ?_)
  refine z_sub [0, 1, 2, 3, 4] (lv1 := [(0, .ref (z_ad G 105)), (1, .ref (z_ad G r)), (2, .int (nI f)), (3, .long x), (5, .long y)]) rfl ?_
  have hM0 := hM
  obtain ⟨⟨hP, hn, hu, hv, hw, hrc, htl⟩, hPs, hnP, huv, hw6, hrc8, htl2, hqt, hah⟩ := hM0
  have h0 : 0 < P := by omega
  have h12 : P ≤ 12 := by omega
  have h288 : n ≤ 288 := by omega
  refine z_aload_n 0 C dX8_findEnds_0 0 rfl ?_
  refine z_aload_n 1 C dX8_findEnds_1 0 rfl ?_
  refine z_aload_n 2 C dX8_findEnds_2 1 rfl ?_
  refine z_iload_n 3 C dX8_findEnds_3 2 rfl ?_
  refine z_iconst 4 C dX8_findEnds_4 (nI 0) rfl ?_
  refine z_lload_n 5 C dX8_findEnds_5 3 rfl ?_
  refine z_lload 6 C dX8_findEnds_6 4 rfl ?_
  refine z_callV 8 C 105 (⟨rfl, rfl⟩) rfl (As := [.ref (z_ad G r), .int (nI f), .int (nI 0), .long x, .long y]) (rest := [.ref (z_ad G 105)]) (m_X8_offAt (σ := z_mU σ cx cy mo le as_ of_) P n u v w rc tl hM r f 0 sz x y zr (hr) (by omega) (by omega) (by omega) (hz _ _ _ _)) k_X8_offAt q1278 ⟨rfl, rfl⟩ ⟨Nat.le_of_ble_eq_true rfl, Nat.le_of_ble_eq_true rfl⟩ rfl (Nat.le_of_ble_eq_true rfl) ⟨Nat.le_of_ble_eq_true rfl, Nat.le_of_ble_eq_true rfl⟩ rfl dX8_findEnds_8 (z_k1 ?_)
  refine z_putl 11 C 105 z_dX8 (⟨rfl, rfl⟩) 12 (by decide) q978 rfl (rfl) rfl ⟨Nat.le_of_ble_eq_true rfl, rfl⟩ dX8_findEnds_11 ?_
  refine z_cv (σ1 := z_mU σ cx cy (z_df (z_sh zr f) x y 0) le as_ of_) rfl rfl z_mU_pmo ?_
  refine z_aload_n 14 C dX8_findEnds_14 0 rfl ?_
  refine z_aload_n 15 C dX8_findEnds_15 0 rfl ?_
  refine z_getf 16 C 105 z_dX8 (⟨rfl, rfl⟩) 12 (by decide) q978 (.long (z_df (z_sh zr f) x y 0)) rfl dX8_findEnds_16 ?_
  refine z_putl 19 C 105 z_dX8 (⟨rfl, rfl⟩) 13 (by decide) q979 rfl (rfl) rfl ⟨Nat.le_of_ble_eq_true rfl, rfl⟩ dX8_findEnds_19 ?_
  refine z_cv (σ1 := z_mU σ cx cy (z_df (z_sh zr f) x y 0) (z_df (z_sh zr f) x y 0) as_ of_) rfl rfl z_mU_ple ?_
  refine z_iconst 22 C dX8_findEnds_22 (nI 1) rfl ?_
  refine z_istore 23 C dX8_findEnds_23 [(7, .int (nI 1)), (0, .ref (z_ad G 105)), (1, .ref (z_ad G r)), (2, .int (nI f)), (3, .long x), (5, .long y)] (by decide) rfl ?_
  refine z_sub [1, 2, 3, 4, 5, 0] (lv1 := [(0, .ref (z_ad G 105)), (1, .ref (z_ad G r)), (2, .int (nI f)), (3, .long x), (5, .long y), (7, .int (nI 1))]) rfl ?_
  refine z_cv (lv1 := [(0, .ref (z_ad G 105)), (1, .ref (z_ad G r)), (2, .int (nI f)), (3, .long x), (5, .long y), (7, .int (nI 1))]) (st1 := []) (σ1 := z_mU σ cx cy (z_fmx (z_df (z_sh zr f) x y) (-9223372036854775808) 1) (z_fmn (z_df (z_sh zr f) x y) 9223372036854775807 1) as_ of_) rfl rfl (by rw [← (zm_f1 (z_df (z_sh zr f) x y)).1, ← (zm_f1 (z_df (z_sh zr f) x y)).2]) ?_
  refine z_lp1 (fun (k : Nat) => 1 ≤ k ∧ k ≤ 24) (fun (k : Nat) => 24 - k) (fun (k : Nat) => [(0, .ref (z_ad G 105)), (1, .ref (z_ad G r)), (2, .int (nI f)), (3, .long x), (5, .long y), (7, .int (nI k))]) (fun (k : Nat) => z_mU σ cx cy (z_fmx (z_df (z_sh zr f) x y) (-9223372036854775808) k) (z_fmn (z_df (z_sh zr f) x y) 9223372036854775807 k) as_ of_) (fun k hi_25 ih_25 => ?_) 1 (by omega)
  try dsimp only
  refine z_iload 25 C dX8_findEnds_25 5 rfl ?_
  refine z_bipush 27 C dX8_findEnds_27 (nI 24) rfl ?_
  refine z_icmp_geN 29 C k 24 rfl rfl (by omega) (by omega) 97 dX8_findEnds_29 (by decide) (fun c29 => ?_) (fun c29 => ?_)
  · skip
    have ek : k = 24 := by omega
    subst ek
    refine z_vret 97 C dX8_findEnds_97 ?_
    exact ⟨rfl, rfl⟩
  · skip
    refine z_aload_n 32 C dX8_findEnds_32 0 rfl ?_
    refine z_aload_n 33 C dX8_findEnds_33 1 rfl ?_
    refine z_iload_n 34 C dX8_findEnds_34 2 rfl ?_
    refine z_iload 35 C dX8_findEnds_35 5 rfl ?_
    refine z_lload_n 37 C dX8_findEnds_37 3 rfl ?_
    refine z_lload 38 C dX8_findEnds_38 4 rfl ?_
    refine z_callV 40 C 105 (⟨rfl, rfl⟩) rfl (As := [.ref (z_ad G r), .int (nI f), .int (nI k), .long x, .long y]) (rest := []) (m_X8_offAt (σ := z_mU σ cx cy (z_fmx (z_df (z_sh zr f) x y) (-9223372036854775808) k) (z_fmn (z_df (z_sh zr f) x y) 9223372036854775807 k) as_ of_) P n u v w rc tl hM r f k sz x y zr (hr) (by omega) (by omega) (by omega) (hz _ _ _ _)) k_X8_offAt q1278 ⟨rfl, rfl⟩ ⟨Nat.le_of_ble_eq_true rfl, Nat.le_of_ble_eq_true rfl⟩ rfl (Nat.le_of_ble_eq_true rfl) ⟨Nat.le_of_ble_eq_true rfl, Nat.le_of_ble_eq_true rfl⟩ rfl dX8_findEnds_40 (z_k1 ?_)
    refine z_lstore 43 C dX8_findEnds_43 [(8, .long (z_df (z_sh zr f) x y k)), (0, .ref (z_ad G 105)), (1, .ref (z_ad G r)), (2, .int (nI f)), (3, .long x), (5, .long y), (7, .int (nI k))] (by decide) rfl ?_
    refine z_aload_n 45 C dX8_findEnds_45 1 rfl ?_
    refine z_lload 46 C dX8_findEnds_46 0 rfl ?_
    refine z_aload_n 48 C dX8_findEnds_48 1 rfl ?_
    refine z_getf 49 C 105 z_dX8 (⟨rfl, rfl⟩) 12 (by decide) q978 (.long (z_fmx (z_df (z_sh zr f) x y) (-9223372036854775808) k)) rfl dX8_findEnds_49 ?_
    refine z_lcmp_le 52 C 61 dX8_findEnds_52 dX8_findEnds_53 (by decide) (fun c52 => ?_) (fun c52 => ?_)
    · skip
      refine z_aload_n 61 C dX8_findEnds_61 1 rfl ?_
      refine z_getf 62 C 105 z_dX8 (⟨rfl, rfl⟩) 12 (by decide) q978 (.long (z_fmx (z_df (z_sh zr f) x y) (-9223372036854775808) k)) rfl dX8_findEnds_62 ?_
      refine z_putl 65 C 105 z_dX8 (⟨rfl, rfl⟩) 12 (by decide) q978 rfl (rfl) rfl ⟨Nat.le_of_ble_eq_true rfl, rfl⟩ dX8_findEnds_65 ?_
      refine z_cv (σ1 := z_mU σ cx cy (z_fmx (z_df (z_sh zr f) x y) (-9223372036854775808) k) (z_fmn (z_df (z_sh zr f) x y) 9223372036854775807 k) as_ of_) rfl rfl z_mU_pmo ?_
      refine z_aload_n 68 C dX8_findEnds_68 1 rfl ?_
      refine z_lload 69 C dX8_findEnds_69 0 rfl ?_
      refine z_aload_n 71 C dX8_findEnds_71 1 rfl ?_
      refine z_getf 72 C 105 z_dX8 (⟨rfl, rfl⟩) 13 (by decide) q979 (.long (z_fmn (z_df (z_sh zr f) x y) 9223372036854775807 k)) rfl dX8_findEnds_72 ?_
      refine z_lcmp_ge 75 C 84 dX8_findEnds_75 dX8_findEnds_76 (by decide) (fun c75 => ?_) (fun c75 => ?_)
      · skip
        refine z_aload_n 84 C dX8_findEnds_84 1 rfl ?_
        refine z_getf 85 C 105 z_dX8 (⟨rfl, rfl⟩) 13 (by decide) q979 (.long (z_fmn (z_df (z_sh zr f) x y) 9223372036854775807 k)) rfl dX8_findEnds_85 ?_
        refine z_putl 88 C 105 z_dX8 (⟨rfl, rfl⟩) 13 (by decide) q979 rfl (rfl) rfl ⟨Nat.le_of_ble_eq_true rfl, rfl⟩ dX8_findEnds_88 ?_
        refine z_cv (σ1 := z_mU σ cx cy (z_fmx (z_df (z_sh zr f) x y) (-9223372036854775808) k) (z_fmn (z_df (z_sh zr f) x y) 9223372036854775807 k) as_ of_) rfl rfl z_mU_ple ?_
        refine z_iincN 91 C 6 k [(7, .int (nI (k + 1))), (8, .long (z_df (z_sh zr f) x y k)), (0, .ref (z_ad G 105)), (1, .ref (z_ad G r)), (2, .int (nI f)), (3, .long x), (5, .long y)] rfl rfl (by decide) rfl dX8_findEnds_91 ?_
        refine z_goto 94 C 25 dX8_findEnds_94 (by decide) ?_
        refine z_sub [2, 3, 4, 5, 6, 0] (lv1 := [(0, .ref (z_ad G 105)), (1, .ref (z_ad G r)), (2, .int (nI f)), (3, .long x), (5, .long y), (7, .int (nI (k + 1)))]) rfl ?_
        refine z_cv (lv1 := [(0, .ref (z_ad G 105)), (1, .ref (z_ad G r)), (2, .int (nI f)), (3, .long x), (5, .long y), (7, .int (nI (k + 1)))]) (st1 := []) (σ1 := z_mU σ cx cy (z_fmx (z_df (z_sh zr f) x y) (-9223372036854775808) (k + 1)) (z_fmn (z_df (z_sh zr f) x y) 9223372036854775807 (k + 1)) as_ of_) rfl rfl (by rw [show z_fmx (z_df (z_sh zr f) x y) (-9223372036854775808) (k + 1) = z_mx (z_fmx (z_df (z_sh zr f) x y) (-9223372036854775808) k) (z_df (z_sh zr f) x y k) from rfl, show z_fmn (z_df (z_sh zr f) x y) 9223372036854775807 (k + 1) = z_mn (z_fmn (z_df (z_sh zr f) x y) 9223372036854775807 k) (z_df (z_sh zr f) x y k) from rfl]; first | rw [← z_mx_0 c52, ← z_mn_0 c75] | rw [← z_mx_1 c52, ← z_mn_0 c75] | rw [← z_mx_0 c52, ← z_mn_1 c75] | rw [← z_mx_1 c52, ← z_mn_1 c75]) ?_
        exact ih_25 (k + 1) (by omega) (by omega)
      · skip
        refine z_lload 79 C dX8_findEnds_79 0 rfl ?_
        refine z_goto 81 C 88 dX8_findEnds_81 (by decide) ?_
        refine z_putl 88 C 105 z_dX8 (⟨rfl, rfl⟩) 13 (by decide) q979 rfl (rfl) rfl ⟨Nat.le_of_ble_eq_true rfl, rfl⟩ dX8_findEnds_88 ?_
        refine z_cv (σ1 := z_mU σ cx cy (z_fmx (z_df (z_sh zr f) x y) (-9223372036854775808) k) (z_df (z_sh zr f) x y k) as_ of_) rfl rfl z_mU_ple ?_
        refine z_iincN 91 C 6 k [(7, .int (nI (k + 1))), (8, .long (z_df (z_sh zr f) x y k)), (0, .ref (z_ad G 105)), (1, .ref (z_ad G r)), (2, .int (nI f)), (3, .long x), (5, .long y)] rfl rfl (by decide) rfl dX8_findEnds_91 ?_
        refine z_goto 94 C 25 dX8_findEnds_94 (by decide) ?_
        refine z_sub [2, 3, 4, 5, 6, 0] (lv1 := [(0, .ref (z_ad G 105)), (1, .ref (z_ad G r)), (2, .int (nI f)), (3, .long x), (5, .long y), (7, .int (nI (k + 1)))]) rfl ?_
        refine z_cv (lv1 := [(0, .ref (z_ad G 105)), (1, .ref (z_ad G r)), (2, .int (nI f)), (3, .long x), (5, .long y), (7, .int (nI (k + 1)))]) (st1 := []) (σ1 := z_mU σ cx cy (z_fmx (z_df (z_sh zr f) x y) (-9223372036854775808) (k + 1)) (z_fmn (z_df (z_sh zr f) x y) 9223372036854775807 (k + 1)) as_ of_) rfl rfl (by rw [show z_fmx (z_df (z_sh zr f) x y) (-9223372036854775808) (k + 1) = z_mx (z_fmx (z_df (z_sh zr f) x y) (-9223372036854775808) k) (z_df (z_sh zr f) x y k) from rfl, show z_fmn (z_df (z_sh zr f) x y) 9223372036854775807 (k + 1) = z_mn (z_fmn (z_df (z_sh zr f) x y) 9223372036854775807 k) (z_df (z_sh zr f) x y k) from rfl]; first | rw [← z_mx_0 c52, ← z_mn_0 c75] | rw [← z_mx_1 c52, ← z_mn_0 c75] | rw [← z_mx_0 c52, ← z_mn_1 c75] | rw [← z_mx_1 c52, ← z_mn_1 c75]) ?_
        exact ih_25 (k + 1) (by omega) (by omega)
    · skip
      refine z_lload 56 C dX8_findEnds_56 0 rfl ?_
      refine z_goto 58 C 65 dX8_findEnds_58 (by decide) ?_
      refine z_putl 65 C 105 z_dX8 (⟨rfl, rfl⟩) 12 (by decide) q978 rfl (rfl) rfl ⟨Nat.le_of_ble_eq_true rfl, rfl⟩ dX8_findEnds_65 ?_
      refine z_cv (σ1 := z_mU σ cx cy (z_df (z_sh zr f) x y k) (z_fmn (z_df (z_sh zr f) x y) 9223372036854775807 k) as_ of_) rfl rfl z_mU_pmo ?_
      refine z_aload_n 68 C dX8_findEnds_68 1 rfl ?_
      refine z_lload 69 C dX8_findEnds_69 0 rfl ?_
      refine z_aload_n 71 C dX8_findEnds_71 1 rfl ?_
      refine z_getf 72 C 105 z_dX8 (⟨rfl, rfl⟩) 13 (by decide) q979 (.long (z_fmn (z_df (z_sh zr f) x y) 9223372036854775807 k)) rfl dX8_findEnds_72 ?_
      refine z_lcmp_ge 75 C 84 dX8_findEnds_75 dX8_findEnds_76 (by decide) (fun c75 => ?_) (fun c75 => ?_)
      · skip
        refine z_aload_n 84 C dX8_findEnds_84 1 rfl ?_
        refine z_getf 85 C 105 z_dX8 (⟨rfl, rfl⟩) 13 (by decide) q979 (.long (z_fmn (z_df (z_sh zr f) x y) 9223372036854775807 k)) rfl dX8_findEnds_85 ?_
        refine z_putl 88 C 105 z_dX8 (⟨rfl, rfl⟩) 13 (by decide) q979 rfl (rfl) rfl ⟨Nat.le_of_ble_eq_true rfl, rfl⟩ dX8_findEnds_88 ?_
        refine z_cv (σ1 := z_mU σ cx cy (z_df (z_sh zr f) x y k) (z_fmn (z_df (z_sh zr f) x y) 9223372036854775807 k) as_ of_) rfl rfl z_mU_ple ?_
        refine z_iincN 91 C 6 k [(7, .int (nI (k + 1))), (8, .long (z_df (z_sh zr f) x y k)), (0, .ref (z_ad G 105)), (1, .ref (z_ad G r)), (2, .int (nI f)), (3, .long x), (5, .long y)] rfl rfl (by decide) rfl dX8_findEnds_91 ?_
        refine z_goto 94 C 25 dX8_findEnds_94 (by decide) ?_
        refine z_sub [2, 3, 4, 5, 6, 0] (lv1 := [(0, .ref (z_ad G 105)), (1, .ref (z_ad G r)), (2, .int (nI f)), (3, .long x), (5, .long y), (7, .int (nI (k + 1)))]) rfl ?_
        refine z_cv (lv1 := [(0, .ref (z_ad G 105)), (1, .ref (z_ad G r)), (2, .int (nI f)), (3, .long x), (5, .long y), (7, .int (nI (k + 1)))]) (st1 := []) (σ1 := z_mU σ cx cy (z_fmx (z_df (z_sh zr f) x y) (-9223372036854775808) (k + 1)) (z_fmn (z_df (z_sh zr f) x y) 9223372036854775807 (k + 1)) as_ of_) rfl rfl (by rw [show z_fmx (z_df (z_sh zr f) x y) (-9223372036854775808) (k + 1) = z_mx (z_fmx (z_df (z_sh zr f) x y) (-9223372036854775808) k) (z_df (z_sh zr f) x y k) from rfl, show z_fmn (z_df (z_sh zr f) x y) 9223372036854775807 (k + 1) = z_mn (z_fmn (z_df (z_sh zr f) x y) 9223372036854775807 k) (z_df (z_sh zr f) x y k) from rfl]; first | rw [← z_mx_0 c52, ← z_mn_0 c75] | rw [← z_mx_1 c52, ← z_mn_0 c75] | rw [← z_mx_0 c52, ← z_mn_1 c75] | rw [← z_mx_1 c52, ← z_mn_1 c75]) ?_
        exact ih_25 (k + 1) (by omega) (by omega)
      · skip
        refine z_lload 79 C dX8_findEnds_79 0 rfl ?_
        refine z_goto 81 C 88 dX8_findEnds_81 (by decide) ?_
        refine z_putl 88 C 105 z_dX8 (⟨rfl, rfl⟩) 13 (by decide) q979 rfl (rfl) rfl ⟨Nat.le_of_ble_eq_true rfl, rfl⟩ dX8_findEnds_88 ?_
        refine z_cv (σ1 := z_mU σ cx cy (z_df (z_sh zr f) x y k) (z_df (z_sh zr f) x y k) as_ of_) rfl rfl z_mU_ple ?_
        refine z_iincN 91 C 6 k [(7, .int (nI (k + 1))), (8, .long (z_df (z_sh zr f) x y k)), (0, .ref (z_ad G 105)), (1, .ref (z_ad G r)), (2, .int (nI f)), (3, .long x), (5, .long y)] rfl rfl (by decide) rfl dX8_findEnds_91 ?_
        refine z_goto 94 C 25 dX8_findEnds_94 (by decide) ?_
        refine z_sub [2, 3, 4, 5, 6, 0] (lv1 := [(0, .ref (z_ad G 105)), (1, .ref (z_ad G r)), (2, .int (nI f)), (3, .long x), (5, .long y), (7, .int (nI (k + 1)))]) rfl ?_
        refine z_cv (lv1 := [(0, .ref (z_ad G 105)), (1, .ref (z_ad G r)), (2, .int (nI f)), (3, .long x), (5, .long y), (7, .int (nI (k + 1)))]) (st1 := []) (σ1 := z_mU σ cx cy (z_fmx (z_df (z_sh zr f) x y) (-9223372036854775808) (k + 1)) (z_fmn (z_df (z_sh zr f) x y) 9223372036854775807 (k + 1)) as_ of_) rfl rfl (by rw [show z_fmx (z_df (z_sh zr f) x y) (-9223372036854775808) (k + 1) = z_mx (z_fmx (z_df (z_sh zr f) x y) (-9223372036854775808) k) (z_df (z_sh zr f) x y k) from rfl, show z_fmn (z_df (z_sh zr f) x y) 9223372036854775807 (k + 1) = z_mn (z_fmn (z_df (z_sh zr f) x y) 9223372036854775807 k) (z_df (z_sh zr f) x y k) from rfl]; first | rw [← z_mx_0 c52, ← z_mn_0 c75] | rw [← z_mx_1 c52, ← z_mn_0 c75] | rw [← z_mx_0 c52, ← z_mn_1 c75] | rw [← z_mx_1 c52, ← z_mn_1 c75]) ?_
        exact ih_25 (k + 1) (by omega) (by omega)
theorem dX8_valueBy_0 : decode cX8_valueBy 0 = .ok (.aload_n 0, 1) := by decide +kernel
theorem dX8_valueBy_1 : decode cX8_valueBy 1 = .ok (.aload_n 1, 1) := by decide +kernel
theorem dX8_valueBy_2 : decode cX8_valueBy 2 = .ok (.iconst 0, 1) := by decide +kernel
theorem dX8_valueBy_3 : decode cX8_valueBy 3 = .ok (.lload_n 3, 1) := by decide +kernel
theorem dX8_valueBy_4 : decode cX8_valueBy 4 = .ok (.lload 5, 2) := by decide +kernel
theorem dX8_valueBy_6 : decode cX8_valueBy 6 = .ok (.invokevirtual 210, 3) := by decide +kernel
theorem dX8_valueBy_9 : decode cX8_valueBy 9 = .ok (.iload_n 2, 1) := by decide +kernel
theorem dX8_valueBy_10 : decode cX8_valueBy 10 = .ok (.iconst 1, 1) := by decide +kernel
theorem dX8_valueBy_11 : decode cX8_valueBy 11 = .ok (.if_icmp .ne 15, 3) := by decide +kernel
theorem dX8_valueBy_14 : decode cX8_valueBy 14 = .ok (.aload_n 0, 1) := by decide +kernel
theorem dX8_valueBy_15 : decode cX8_valueBy 15 = .ok (.getfield 203, 3) := by decide +kernel
theorem dX8_valueBy_18 : decode cX8_valueBy 18 = .ok (.aload_n 0, 1) := by decide +kernel
theorem dX8_valueBy_19 : decode cX8_valueBy 19 = .ok (.getfield 207, 3) := by decide +kernel
theorem dX8_valueBy_22 : decode cX8_valueBy 22 = .ok (.lsub, 1) := by decide +kernel
theorem dX8_valueBy_23 : decode cX8_valueBy 23 = .ok (.goto 20, 3) := by decide +kernel
theorem dX8_valueBy_26 : decode cX8_valueBy 26 = .ok (.iload_n 2, 1) := by decide +kernel
theorem dX8_valueBy_27 : decode cX8_valueBy 27 = .ok (.iconst 2, 1) := by decide +kernel
theorem dX8_valueBy_28 : decode cX8_valueBy 28 = .ok (.if_icmp .ne 10, 3) := by decide +kernel
theorem dX8_valueBy_31 : decode cX8_valueBy 31 = .ok (.aload_n 0, 1) := by decide +kernel
theorem dX8_valueBy_32 : decode cX8_valueBy 32 = .ok (.getfield 203, 3) := by decide +kernel
theorem dX8_valueBy_35 : decode cX8_valueBy 35 = .ok (.goto 8, 3) := by decide +kernel
theorem dX8_valueBy_38 : decode cX8_valueBy 38 = .ok (.aload_n 0, 1) := by decide +kernel
theorem dX8_valueBy_39 : decode cX8_valueBy 39 = .ok (.getfield 207, 3) := by decide +kernel
theorem dX8_valueBy_42 : decode cX8_valueBy 42 = .ok (.lneg, 1) := by decide +kernel
theorem dX8_valueBy_43 : decode cX8_valueBy 43 = .ok (.lreturn, 1) := by decide +kernel
set_option maxRecDepth 100000 in
set_option maxHeartbeats 4000000 in
theorem m_X8_valueBy {l : Launch} {G : z_Gl} {σ : z_St} (P n u v w rc tl : Nat) (hM : z_mi σ P n u v w rc tl) (cx cy mo le : Int64) (as_ of_ : Nat → Int64) (r : Nat) (me : Int32) (x y : Int64) (zr : Nat → Int64) (hr : z_kd r = 2 ∧ z_sz r = 24) (hz : ∀ cx cy mo le, (z_mU σ cx cy mo le as_ of_).2 r = zr) : z_M l G yX8_valueBy cX8_valueBy 7 (some .long) (z_rm 5 120) [.ref (z_ad G 105), .ref (z_ad G r), .int me, .long x, .long y] (z_mU σ cx cy mo le as_ of_) (z_p1 (.long (z_F zr me x y)) (z_mU σ cx cy (z_fmx (z_df zr x y) (-9223372036854775808) 24) (z_fmn (z_df zr x y) 9223372036854775807 24) as_ of_)) := by
  refine z_M.of (by decide) (Nat.le_of_ble_eq_true rfl) (fun p e s m below meth c C => ?_)
  refine z_sub [0, 1, 2, 3, 4] (lv1 := [(0, .ref (z_ad G 105)), (1, .ref (z_ad G r)), (2, .int me), (3, .long x), (5, .long y)]) rfl ?_
  have hM0 := hM
  obtain ⟨⟨hP, hn, hu, hv, hw, hrc, htl⟩, hPs, hnP, huv, hw6, hrc8, htl2, hqt, hah⟩ := hM0
  have h0 : 0 < P := by omega
  have h12 : P ≤ 12 := by omega
  have h288 : n ≤ 288 := by omega
  refine z_aload_n 0 C dX8_valueBy_0 0 rfl ?_
  refine z_aload_n 1 C dX8_valueBy_1 1 rfl ?_
  refine z_iconst 2 C dX8_valueBy_2 (nI 0) rfl ?_
  refine z_lload_n 3 C dX8_valueBy_3 3 rfl ?_
  refine z_lload 4 C dX8_valueBy_4 4 rfl ?_
  refine z_callV 6 C 105 (⟨rfl, rfl⟩) rfl (As := [.ref (z_ad G r), .int (nI 0), .long x, .long y]) (rest := []) (@m_X8_findEnds _ _ σ P n u v w rc tl hM cx cy mo le as_ of_ r 0 24 x y zr (hr) (by omega) (by omega) (hz)) k_X8_findEnds q1274 ⟨rfl, rfl⟩ ⟨Nat.le_of_ble_eq_true rfl, Nat.le_of_ble_eq_true rfl⟩ rfl (Nat.le_of_ble_eq_true rfl) ⟨Nat.le_of_ble_eq_true rfl, Nat.le_of_ble_eq_true rfl⟩ rfl dX8_valueBy_6 (z_k0 ?_)
  refine z_cv (lv1 := [(0, .ref (z_ad G 105)), (1, .ref (z_ad G r)), (2, .int me), (3, .long x), (5, .long y)]) (st1 := []) (σ1 := z_mU σ cx cy (z_fmx (z_df zr x y) (-9223372036854775808) 24) (z_fmn (z_df zr x y) 9223372036854775807 24) as_ of_) rfl rfl (by rw [z_sh0]) ?_
  refine z_iload_n 9 C dX8_valueBy_9 2 rfl ?_
  refine z_iconst 10 C dX8_valueBy_10 (nI 1) rfl ?_
  refine z_icmp_ne 11 C 26 dX8_valueBy_11 (by decide) (fun c11 => ?_) (fun c11 => ?_)
  · skip
    refine z_iload_n 26 C dX8_valueBy_26 2 rfl ?_
    refine z_iconst 27 C dX8_valueBy_27 (nI 2) rfl ?_
    refine z_icmp_ne 28 C 38 dX8_valueBy_28 (by decide) (fun c28 => ?_) (fun c28 => ?_)
    · skip
      refine z_aload_n 38 C dX8_valueBy_38 0 rfl ?_
      refine z_getf 39 C 105 z_dX8 (⟨rfl, rfl⟩) 13 (by decide) q979 (.long (z_fmn (z_df zr x y) 9223372036854775807 24)) rfl dX8_valueBy_39 ?_
      refine z_lneg 42 C dX8_valueBy_42 ?_
      refine z_lret 43 C dX8_valueBy_43 ?_
      first | exact ⟨z_cl (if_pos c11).symm, rfl⟩ | exact ⟨z_cl ((if_neg c11).trans (if_pos c28)).symm, rfl⟩ | exact ⟨z_cl ((if_neg c11).trans (if_neg c28)).symm, rfl⟩
    · skip
      refine z_aload_n 31 C dX8_valueBy_31 0 rfl ?_
      refine z_getf 32 C 105 z_dX8 (⟨rfl, rfl⟩) 12 (by decide) q978 (.long (z_fmx (z_df zr x y) (-9223372036854775808) 24)) rfl dX8_valueBy_32 ?_
      refine z_goto 35 C 43 dX8_valueBy_35 (by decide) ?_
      refine z_lret 43 C dX8_valueBy_43 ?_
      first | exact ⟨z_cl (if_pos c11).symm, rfl⟩ | exact ⟨z_cl ((if_neg c11).trans (if_pos c28)).symm, rfl⟩ | exact ⟨z_cl ((if_neg c11).trans (if_neg c28)).symm, rfl⟩
  · skip
    refine z_aload_n 14 C dX8_valueBy_14 0 rfl ?_
    refine z_getf 15 C 105 z_dX8 (⟨rfl, rfl⟩) 12 (by decide) q978 (.long (z_fmx (z_df zr x y) (-9223372036854775808) 24)) rfl dX8_valueBy_15 ?_
    refine z_aload_n 18 C dX8_valueBy_18 0 rfl ?_
    refine z_getf 19 C 105 z_dX8 (⟨rfl, rfl⟩) 13 (by decide) q979 (.long (z_fmn (z_df zr x y) 9223372036854775807 24)) rfl dX8_valueBy_19 ?_
    refine z_lsub 22 C dX8_valueBy_22 ?_
    refine z_goto 23 C 43 dX8_valueBy_23 (by decide) ?_
    refine z_lret 43 C dX8_valueBy_43 ?_
    first | exact ⟨z_cl (if_pos c11).symm, rfl⟩ | exact ⟨z_cl ((if_neg c11).trans (if_pos c28)).symm, rfl⟩ | exact ⟨z_cl ((if_neg c11).trans (if_neg c28)).symm, rfl⟩
