/-! CLASS AND REFERENCE: traces, extremes, spikes: the same numbers -/
theorem zt4_h {R : Nat → Nat → Int64} {h H : Nat → Int32} {x y m T : Nat → Int64} {w : Nat} (q : zr_4 R h H x y m T w) {i : Nat} (hi : i < w) : h i = H i ∧ z_in 100 (h i).toInt := by
  obtain ⟨-, h2, h3, -⟩ := q.1 i hi
  exact ⟨h2, by omega, by omega⟩
theorem zt4_c {R : Nat → Nat → Int64} {h H : Nat → Int32} {x y m T : Nat → Int64} {w : Nat} (q : zr_4 R h H x y m T w) {i : Nat} (hi : i < w) : x i = zm_x T 0 i ∧ y i = zm_x T 1 i ∧ m i = zm_m T i := by
  obtain ⟨h1, -, -, h4, h5, h6⟩ := q.1 i hi
  have e : z_eq24 (R (34 + i)) (z_sh T (24 * i)) := fun k hk => h1 k hk
  refine ⟨?_, ?_, ?_⟩
  · rw [h4, z_cf_ag e]; rfl
  · rw [h5, z_cf_ag e]; rfl
  · rw [h6, z_cf_ag e]; rfl
theorem zt_hs {h H : Nat → Int32} : ∀ {n : Nat}, (∀ i, i < n → h i = H i) → z_hs h n = z_hs H n
  | 0, _ => rfl
  | n + 1, q => by rw [z_hs, z_hs, zt_hs (n := n) (fun i hi => q i (by omega)), q n (by omega)]
theorem zt_sq {a : Int32} (h : z_in 100 a.toInt) : (a * a).toInt64 = a.toInt64 * a.toInt64 := by
  have q := z_mulb h.1 h.2 h.1 h.2
  rw [fa_eq64, Int32.toInt_toInt64, fb_mulI (by omega) (by omega), fb_mulL (by rw [Int32.toInt_toInt64]; omega) (by rw [Int32.toInt_toInt64]; omega), Int32.toInt_toInt64]
theorem zt_hq {h H : Nat → Int32} : ∀ {n : Nat}, (∀ i, i < n → h i = H i ∧ z_in 100 (h i).toInt) → z_hq h n = zm_hq H n
  | 0, _ => rfl
  | n + 1, q => by
    obtain ⟨e, b⟩ := q n (by omega)
    rw [z_hq, zm_hq, zt_hq (n := n) (fun i hi => q i (by omega)), ← e, zt_sq b]
theorem zt_xs {x y : Nat → Int64} : ∀ {n : Nat}, (∀ i, i < n → x i = y i) → z_xs x n = z_xs y n
  | 0, _ => rfl
  | n + 1, q => by rw [z_xs, z_xs, zt_xs (n := n) (fun i hi => q i (by omega)), q n (by omega)]
theorem zt_hx {h H : Nat → Int32} {x y : Nat → Int64} : ∀ {n : Nat}, (∀ i, i < n → h i = H i ∧ x i = y i) → z_hx h x n = z_hx H y n
  | 0, _ => rfl
  | n + 1, q => by rw [z_hx, z_hx, zt_hx (n := n) (fun i hi => q i (by omega)), (q n (by omega)).1, (q n (by omega)).2]
theorem zt_den {h H : Nat → Int32} {w : Nat} (q : ∀ i, i < w → h i = H i ∧ z_in 100 (h i).toInt) : z_den h w = zm_den H w := by
  unfold z_den zm_den
  rw [zt_hq q, zt_hs (fun i hi => (q i hi).1)]
theorem zt_ax {h H : Nat → Int32} {x y : Nat → Int64} {w : Nat} (q : ∀ i, i < w → h i = H i ∧ z_in 100 (h i).toInt) (qx : ∀ i, i < w → x i = y i) (t : Int32) : z_ax h x w t = zm_ax H y w t := by
  unfold z_ax zm_ax
  rw [zt_den q, zt_hq q, zt_hs (fun i hi => (q i hi).1), zt_xs qx, zt_hx (fun i hi => ⟨(q i hi).1, qx i hi⟩)]
/-- the heights differ: the denominator is no 0 -/
def zt_Q (h : Nat → Int32) : Nat → Int
  | 0 => 0
  | i + 1 => zt_Q h i + (h i).toInt * (h i).toInt
def zt_S (h : Nat → Int32) : Nat → Int
  | 0 => 0
  | i + 1 => zt_S h i + (h i).toInt
def zt_E (h : Nat → Int32) (a : Int) : Nat → Int
  | 0 => 0
  | i + 1 => zt_E h a i + (a - (h i).toInt) * (a - (h i).toInt)
theorem zt_E_e (h : Nat → Int32) (a : Int) : ∀ n : Nat, zt_E h a n = n * (a * a) - 2 * (a * zt_S h n) + zt_Q h n
  | 0 => by simp [zt_E, zt_S, zt_Q]
  | n + 1 => by
    rw [zt_E, zt_S, zt_Q, zt_E_e h a n, Int.natCast_add, Int.add_mul, Int.mul_add]
    simp only [Int.sub_mul, Int.mul_sub]
    rw [Int.mul_comm (h n).toInt a]
    omega
theorem zt_E_nn (h : Nat → Int32) (a : Int) : ∀ n : Nat, 0 ≤ zt_E h a n
  | 0 => Int.le_refl 0
  | n + 1 => by
    have := zt_E_nn h a n
    have := ze_sq (a - (h n).toInt)
    rw [zt_E]
    omega
theorem zt_E_pos (h : Nat → Int32) (a : Int) (n : Nat) (hd : ¬ a = (h n).toInt) : 0 < zt_E h a (n + 1) := by
  have q := zt_E_nn h a n
  rw [zt_E]
  have q2 : 0 < (a - (h n).toInt) * (a - (h n).toInt) := by
    rcases Int.lt_or_gt_of_ne hd with g | g
    · have := Int.mul_pos (show 0 < (h n).toInt - a by omega) (show 0 < (h n).toInt - a by omega)
      rw [← Int.neg_mul_neg, Int.neg_sub]
      exact this
    · exact Int.mul_pos (by omega) (by omega)
  omega
theorem zt_D (h : Nat → Int32) (n : Nat) : ((n + 1 : Nat) : Int) * zt_Q h (n + 1) - zt_S h (n + 1) * zt_S h (n + 1) = (n * zt_Q h n - zt_S h n * zt_S h n) + zt_E h (h n).toInt n := by
  rw [zt_E_e, zt_Q, zt_S, Int.natCast_add]
  simp only [Int.add_mul, Int.mul_add]
  rw [Int.mul_comm (zt_S h n) (h n).toInt]
  omega
theorem zt_D_nn (h : Nat → Int32) : ∀ n : Nat, 0 ≤ (n : Int) * zt_Q h n - zt_S h n * zt_S h n
  | 0 => by simp [zt_Q, zt_S]
  | n + 1 => by
    have q1 := zt_D_nn h n
    have q2 := zt_E_nn h (h n).toInt n
    rw [zt_D]
    omega
theorem zt_D_pos (h : Nat → Int32) {n : Nat} (hd : ¬ h (n + 1) = h n) : 0 < ((n + 2 : Nat) : Int) * zt_Q h (n + 2) - zt_S h (n + 2) * zt_S h (n + 2) := by
  have q1 := zt_D_nn h (n + 1)
  have q2 := zt_E_pos h (h (n + 1)).toInt n (fun z => hd (by rw [fa_eq]; exact z))
  rw [zt_D]
  omega
theorem zt_QS {h : Nat → Int32} : ∀ n : Nat, n ≤ 6 → (∀ i, i < n → z_in 100 (h i).toInt) → (z_hq h n).toInt = zt_Q h n ∧ (z_hs h n).toInt = zt_S h n ∧ z_in (n * 10000) (zt_Q h n) ∧ z_in (n * 100) (zt_S h n)
  | 0, _, _ => ⟨rfl, rfl, by show z_in (((0 : Nat) : Int) * 10000) 0; constructor <;> decide, by show z_in (((0 : Nat) : Int) * 100) 0; constructor <;> decide⟩
  | n + 1, hn, hb => by
    obtain ⟨e1, e2, b1, b2⟩ := zt_QS n (by omega) (fun i hi => hb i (by omega))
    have b := hb n (by omega)
    have q := z_mulb b.1 b.2 b.1 b.2
    have p1 := b.1; have p2 := b.2; have r1 := b1.1; have r2 := b1.2; have t1 := b2.1; have t2 := b2.2
    have f1 : ((h n).toInt64 * (h n).toInt64).toInt = (h n).toInt * (h n).toInt := by
      rw [fb_mulL (by rw [Int32.toInt_toInt64]; omega) (by rw [Int32.toInt_toInt64]; omega), Int32.toInt_toInt64]
    refine ⟨?_, ?_, ?_, ?_⟩
    · rw [z_hq, zt_Q, fb_addL (by rw [e1, f1]; omega) (by rw [e1, f1]; omega), e1, f1]
    · rw [z_hs, zt_S, fb_addL (by rw [e2, Int32.toInt_toInt64]; omega) (by rw [e2, Int32.toInt_toInt64]; omega), e2, Int32.toInt_toInt64]
    · rw [zt_Q]; constructor <;> omega
    · rw [zt_S]; constructor <;> omega
theorem zt_pos {h : Nat → Int32} {w : Nat} (hw : w ≤ 6) (h2 : 2 ≤ w) (hb : ∀ i, i < w → z_in 100 (h i).toInt) (hd : ∀ i j, i < w → j < w → h i = h j → i = j) : 0 < z_den h w := by
  obtain ⟨n, rfl⟩ : ∃ n, w = n + 2 := ⟨w - 2, by omega⟩
  obtain ⟨e1, e2, b1, b2⟩ := zt_QS (n + 2) hw hb
  have pos := zt_D_pos h (n := n) (fun z => absurd (hd (n + 1) n (by omega) (by omega) z) (by omega))
  have r1 := b1.1; have r2 := b1.2; have t1 := b2.1; have t2 := b2.2
  have eN : (lN (n + 2)).toInt = ((n + 2 : Nat) : Int) := lN_toInt (by omega)
  have m1 := z_mulb (show -(6 : Int) ≤ ((n + 2 : Nat) : Int) by omega) (show ((n + 2 : Nat) : Int) ≤ 6 by omega) (show -(60000 : Int) ≤ zt_Q h (n + 2) by omega) (show zt_Q h (n + 2) ≤ 60000 by omega)
  have m2 := z_mulb (show -(600 : Int) ≤ zt_S h (n + 2) by omega) (show zt_S h (n + 2) ≤ 600 by omega) (show -(600 : Int) ≤ zt_S h (n + 2) by omega) (show zt_S h (n + 2) ≤ 600 by omega)
  have f1 : (lN (n + 2) * z_hq h (n + 2)).toInt = ((n + 2 : Nat) : Int) * zt_Q h (n + 2) := by
    rw [fb_mulL (by rw [eN, e1]; omega) (by rw [eN, e1]; omega), eN, e1]
  have f2 : (z_hs h (n + 2) * z_hs h (n + 2)).toInt = zt_S h (n + 2) * zt_S h (n + 2) := by
    rw [fb_mulL (by rw [e2]; omega) (by rw [e2]; omega), e2]
  unfold z_den
  rw [fa_lt64, fb_subL (by rw [f1, f2]; omega) (by rw [f1, f2]; omega), f1, f2]
  have e0 : (0 : Int64).toInt = 0 := by decide
  rw [e0]
  exact pos
/-- ends, cylinder -/
theorem zt_fmx (d : Nat → Int64) (g : Int64) : ∀ n, z_fmx d g n = z_mx g (z_fmx d z_MIN n)
  | 0 => by
    show g = z_mx g z_MIN
    exact Int64.le_antisymm (z_mx_l _ _) (zr_mxl (Int64.le_refl g) (z_MIN_le g))
  | n + 1 => by
    show z_mx (z_fmx d g n) (d n) = z_mx g (z_mx (z_fmx d z_MIN n) (d n))
    rw [zt_fmx d g n]
    generalize z_fmx d z_MIN n = a
    refine Int64.le_antisymm (zr_mxl (zr_mxl (z_mx_l _ _) (Int64.le_trans (z_mx_l _ _) (z_mx_r _ _))) (Int64.le_trans (z_mx_r _ _) (z_mx_r _ _))) (zr_mxl (Int64.le_trans (z_mx_l _ _) (z_mx_l _ _)) (zr_mxl (Int64.le_trans (z_mx_r _ _) (z_mx_l _ _)) (z_mx_r _ _)))
theorem zr_mnl {a b m : Int64} (h1 : m ≤ a) (h2 : m ≤ b) : m ≤ z_mn a b := by
  unfold z_mn
  split <;> assumption
theorem zt_mnl (a b : Int64) : z_mn a b ≤ a := by
  unfold z_mn
  split
  · rename_i h; rw [fa_le64]; rw [fa_lt64] at h; omega
  · exact Int64.le_refl a
theorem zt_fmn (d : Nat → Int64) (g : Int64) : ∀ n, z_fmn d g n = z_mn g (z_fmn d z_MAX n)
  | 0 => by
    show g = z_mn g z_MAX
    exact Int64.le_antisymm (zr_mnl (Int64.le_refl g) (z_le_MAX g)) (zt_mnl _ _)
  | n + 1 => by
    show z_mn (z_fmn d g n) (d n) = z_mn g (z_mn (z_fmn d z_MAX n) (d n))
    rw [zt_fmn d g n]
    generalize z_fmn d z_MAX n = a
    refine Int64.le_antisymm (zr_mnl (Int64.le_trans (zt_mnl _ _) (zt_mnl _ _)) (zr_mnl (Int64.le_trans (zt_mnl _ _) (z_mn_r _ _)) (z_mn_r _ _))) (zr_mnl (zr_mnl (zt_mnl _ _) (Int64.le_trans (z_mn_r _ _) (zt_mnl _ _))) (Int64.le_trans (z_mn_r _ _) (z_mn_r _ _)))
theorem zt_hi {d : Nat → Nat → Int64} {D : Nat → Int64} : ∀ {n : Nat}, (∀ i, i < n + 1 → z_fmx (d i) z_MIN 24 = D i) → z_fmx2 d z_MIN (n + 1) = zm_hi D (n + 1)
  | 0, h => by
    rw [zm_hi1 (Or.inl rfl), ← h 0 (by omega)]
    rfl
  | n + 1, h => by
    have ih := zt_hi (n := n) (fun i hi => h i (by omega))
    show z_fmx (d (n + 1)) (z_fmx2 d z_MIN (n + 1)) 24 = _
    rw [zt_fmx, ih, h (n + 1) (by omega)]
    show z_mx (zm_hi D (n + 1)) (D (n + 1)) = if n + 1 = 0 ∨ zm_hi D (n + 1) < D (n + 1) then D (n + 1) else zm_hi D (n + 1)
    unfold z_mx
    by_cases q : zm_hi D (n + 1) < D (n + 1)
    · rw [if_pos q, if_pos (Or.inr q)]
    · rw [if_neg q, if_neg (fun z => z.elim (by omega) q)]
theorem zt_lo {d : Nat → Nat → Int64} {D : Nat → Int64} : ∀ {n : Nat}, (∀ i, i < n + 1 → z_fmn (d i) z_MAX 24 = D i) → z_fmn2 d z_MAX (n + 1) = zm_bst D (n + 1)
  | 0, h => by
    rw [(zm_wb1 (Or.inl rfl)).2, ← h 0 (by omega)]
    rfl
  | n + 1, h => by
    have ih := zt_lo (n := n) (fun i hi => h i (by omega))
    show z_fmn (d (n + 1)) (z_fmn2 d z_MAX (n + 1)) 24 = _
    rw [zt_fmn, ih, h (n + 1) (by omega)]
    show z_mn (zm_bst D (n + 1)) (D (n + 1)) = if n + 1 = 0 ∨ D (n + 1) < zm_bst D (n + 1) then D (n + 1) else zm_bst D (n + 1)
    unfold z_mn
    by_cases q : D (n + 1) < zm_bst D (n + 1)
    · rw [if_pos q, if_pos (Or.inr q)]
    · rw [if_neg q, if_neg (fun z => z.elim (by omega) q)]
theorem zt_bm {f g : Nat → Int64} : ∀ {n : Nat}, (∀ i, i < n → f i = g i) → z_bm f n = z_bm g n
  | 0, _ => rfl
  | n + 1, h => by
    have ih := zt_bm (n := n) (fun i hi => h i (by omega))
    rw [z_bm, z_bm, ← ih]
    by_cases q : n = 0
    · subst q
      show (if f 0 < f 0 then 0 else 0) = (if g 0 < g 0 then 0 else 0)
      rw [h 0 (by omega)]
    · have hl := zm_bm_l f (k := n) (by omega)
      rw [h n (by omega), h (z_bm f n) (by omega)]
theorem zt_mm {f g a b : Nat → Int64} (h : z_eq24 f a) (h2 : z_eq24 g b) (u : Nat) : ∀ n, n ≤ 24 → z_mm f g u n = z_mm a b u n
  | 0, _ => rfl
  | n + 1, hn => by rw [z_mm, z_mm, zt_mm h h2 u n (by omega), h _ (Nat.mod_lt _ (by decide)), h2 n (by omega)]

/-! extremes -/
theorem zt_fs {d : Nat → Int64} {v : Int64} {j : Nat} (hv : d j = v) : ∀ {n k : Nat}, k ≤ j → j < k + n → (∀ i, k ≤ i → i < j → ¬ d i = v) → z_fs d v n k = j
  | 0, k, h1, h2, _ => absurd h2 (by omega)
  | n + 1, k, h1, h2, h3 => by
    rw [z_fs]
    by_cases e : k = j
    · subst e
      rw [if_pos hv]
    · rw [if_neg (h3 k (Nat.le_refl k) (by omega))]
      exact zt_fs hv (n := n) (k := k + 1) (by omega) (by omega) (fun i hi hj => h3 i (by omega) hj)
theorem zt_ex (d : Nat → Int64) : ∀ n, (∀ i, i < n + 1 → d i ≤ d (zm_ex d (n + 1))) ∧ ∀ i, i < zm_ex d (n + 1) → d i < d (zm_ex d (n + 1))
  | 0 => by
    have e : zm_ex d 1 = 0 := by have : zm_ex d 1 ≤ 0 := zm_ex_lt d 0; omega
    rw [e]
    refine ⟨fun i hi => ?_, fun i hi => absurd hi (Nat.not_lt_zero i)⟩
    rw [show i = 0 by omega]
    exact Int64.le_refl _
  | n + 1 => by
    obtain ⟨h1, h2⟩ := zt_ex d n
    by_cases q : d (zm_ex d (n + 1)) < d (n + 1)
    · have e : zm_ex d (n + 1 + 1) = n + 1 := if_pos q
      rw [e]
      have lt : ∀ i, i < n + 1 → d i < d (n + 1) := fun i hi => by
        have := h1 i hi
        rw [fa_le64] at this
        rw [fa_lt64] at q ⊢
        omega
      refine ⟨fun i hi => ?_, lt⟩
      by_cases z : i = n + 1
      · rw [z]; exact Int64.le_refl _
      · have := lt i (by omega)
        rw [fa_lt64] at this
        rw [fa_le64]
        omega
    · have e : zm_ex d (n + 1 + 1) = zm_ex d (n + 1) := if_neg q
      rw [e]
      refine ⟨fun i hi => ?_, h2⟩
      by_cases z : i = n + 1
      · rw [z]; exact Int64.not_lt.mp q
      · exact h1 i (by omega)
theorem zt_en (d : Nat → Int64) : ∀ n, (∀ i, i < n + 1 → d (zm_en d (n + 1)) ≤ d i) ∧ ∀ i, i < zm_en d (n + 1) → d (zm_en d (n + 1)) < d i
  | 0 => by
    have e : zm_en d 1 = 0 := by have : zm_en d 1 ≤ 0 := zm_en_lt d 0; omega
    rw [e]
    refine ⟨fun i hi => ?_, fun i hi => absurd hi (Nat.not_lt_zero i)⟩
    rw [show i = 0 by omega]
    exact Int64.le_refl _
  | n + 1 => by
    obtain ⟨h1, h2⟩ := zt_en d n
    by_cases q : d (n + 1) < d (zm_en d (n + 1))
    · have e : zm_en d (n + 1 + 1) = n + 1 := if_pos q
      rw [e]
      have lt : ∀ i, i < n + 1 → d (n + 1) < d i := fun i hi => by
        have := h1 i hi
        rw [fa_le64] at this
        rw [fa_lt64] at q ⊢
        omega
      refine ⟨fun i hi => ?_, lt⟩
      by_cases z : i = n + 1
      · rw [z]; exact Int64.le_refl _
      · have := lt i (by omega)
        rw [fa_lt64] at this
        rw [fa_le64]
        omega
    · have e : zm_en d (n + 1 + 1) = zm_en d (n + 1) := if_neg q
      rw [e]
      refine ⟨fun i hi => ?_, h2⟩
      by_cases z : i = n + 1
      · rw [z]; exact Int64.not_lt.mp q
      · exact h1 i (by omega)
theorem zt_fmx_l (d : Nat → Int64) (g : Int64) : ∀ {n k : Nat}, k < n → d k ≤ z_fmx d g n
  | 0, k, h => absurd h (Nat.not_lt_zero k)
  | n + 1, k, h => by
    show d k ≤ z_mx (z_fmx d g n) (d n)
    by_cases e : k = n
    · subst e; exact z_mx_r _ _
    · exact Int64.le_trans (zt_fmx_l d g (n := n) (by omega)) (z_mx_l _ _)
theorem zt_fmx_u {d : Nat → Int64} {g M : Int64} (hg : g ≤ M) : ∀ {n : Nat}, (∀ k, k < n → d k ≤ M) → z_fmx d g n ≤ M
  | 0, _ => hg
  | n + 1, h => zr_mxl (zt_fmx_u hg (n := n) (fun k hk => h k (by omega))) (h n (by omega))
theorem zt_fmn_l (d : Nat → Int64) (g : Int64) : ∀ {n k : Nat}, k < n → z_fmn d g n ≤ d k
  | 0, k, h => absurd h (Nat.not_lt_zero k)
  | n + 1, k, h => by
    show z_mn (z_fmn d g n) (d n) ≤ d k
    by_cases e : k = n
    · subst e; exact z_mn_r _ _
    · exact Int64.le_trans (zt_mnl _ _) (zt_fmn_l d g (n := n) (by omega))
theorem zt_fmn_u {d : Nat → Int64} {g M : Int64} (hg : M ≤ g) : ∀ {n : Nat}, (∀ k, k < n → M ≤ d k) → M ≤ z_fmn d g n
  | 0, _ => hg
  | n + 1, h => zr_mnl (zt_fmn_u hg (n := n) (fun k hk => h k (by omega))) (h n (by omega))
theorem zt_top (d : Nat → Int64) : z_fmx d z_MIN 24 = d (zm_ex d 24) := by
  have h : (∀ i, i < 24 → d i ≤ d (zm_ex d 24)) ∧ ∀ i, i < zm_ex d 24 → d i < d (zm_ex d 24) := zt_ex d 23
  have l : zm_ex d 24 ≤ 23 := zm_ex_lt d 23
  exact Int64.le_antisymm (zt_fmx_u (z_MIN_le _) h.1) (zt_fmx_l d _ (by omega))
theorem zt_bot (d : Nat → Int64) : z_fmn d z_MAX 24 = d (zm_en d 24) := by
  have h : (∀ i, i < 24 → d (zm_en d 24) ≤ d i) ∧ ∀ i, i < zm_en d 24 → d (zm_en d 24) < d i := zt_en d 23
  have l : zm_en d 24 ≤ 23 := zm_en_lt d 23
  exact Int64.le_antisymm (zt_fmn_l d _ (by omega)) (zt_fmn_u (z_le_MAX _) h.1)
theorem zt_fsx (d : Nat → Int64) : z_fs d (z_fmx d z_MIN 24) 24 0 = zm_ex d 24 := by
  have h : (∀ i, i < 24 → d i ≤ d (zm_ex d 24)) ∧ ∀ i, i < zm_ex d 24 → d i < d (zm_ex d 24) := zt_ex d 23
  have l : zm_ex d 24 ≤ 23 := zm_ex_lt d 23
  rw [zt_top]
  refine zt_fs rfl (Nat.zero_le _) (by omega) (fun i _ hi e => ?_)
  have := h.2 i hi
  rw [e, fa_lt64] at this
  omega
theorem zt_fsn (d : Nat → Int64) : z_fs d (z_fmn d z_MAX 24) 24 0 = zm_en d 24 := by
  have h : (∀ i, i < 24 → d (zm_en d 24) ≤ d i) ∧ ∀ i, i < zm_en d 24 → d (zm_en d 24) < d i := zt_en d 23
  have l : zm_en d 24 ≤ 23 := zm_en_lt d 23
  rw [zt_bot]
  refine zt_fs rfl (Nat.zero_le _) (by omega) (fun i _ hi e => ?_)
  have := h.2 i hi
  rw [e, fa_lt64] at this
  omega
theorem zt_xe_ag {d e : Nat → Int64} (h : z_eq24 d e) (t : Nat) : zm_xe t d 24 = zm_xe t e 24 := by
  unfold zm_xe
  split
  · rw [← zt_fsn, ← zt_fsn, z_fmn_ag h, z_fs_24 h]
  · rw [← zt_fsx, ← zt_fsx, z_fmx_ag h, z_fs_24 h]
/-- the deviations are small -/
theorem zt_cdb {z : Nat → Int64} {mm : Nat} (hp : zs_hb z) : ∀ k, k < 24 → z_in 1000000000000 (z_cd z mm k).toInt := by
  have hc : z_in 400000000000 (z_cx z mm).toInt ∧ z_in 400000000000 (z_cy z mm).toInt := by
    unfold z_cx z_cy
    by_cases h : mm = 0
    · rw [if_pos h, if_pos h]
      exact ⟨(ze_cf hp (by decide)).2, (ze_cf hp (by decide)).2⟩
    · rw [if_neg h, if_neg h]
      unfold z_ce
      split
      · rename_i q
        have g := zs_go_good (nI mm) hp (Classical.choose q)
        exact ⟨g.1, g.2.1⟩
      · exact ⟨by constructor <;> decide, by constructor <;> decide⟩
  intro k hk
  obtain ⟨hx, hy⟩ := hc
  have e := z_df_t (pf := z) (x := z_cx z mm) (y := z_cy z mm) hp hk ⟨by have := hx.1; omega, by have := hx.2; omega⟩ ⟨by have := hy.1; omega, by have := hy.2; omega⟩
  have b := z_di_b hp hk hx hy
  unfold z_cd
  rw [e]
  generalize z_di z (z_cx z mm).toInt (z_cy z mm).toInt k = D at b
  have b1 := b.1; have b2 := b.2
  constructor <;> omega
theorem zt_cn {g t : Int64} {d : Nat → Int64} : ∀ {n : Nat}, (∀ k, k < n → g - d k ≤ t) → z_cn g d t n = n
  | 0, _ => rfl
  | n + 1, h => by rw [z_cn_1 (h n (by omega)), zt_cn (n := n) (fun k hk => h k (by omega))]
/-- the least depth, found either way -/
theorem zt_dp {d : Nat → Int64} {cc : Nat} (hb : ∀ k, k < 24 → z_in 1000000000000 (d k).toInt) (hc : cc ≤ 24) : zm_dp (z_fmx d z_MIN 24) d cc 24 = z_ld (z_fmx d z_MIN 24) (z_fmn d z_MAX 24) d cc 24 := by
  have lx : zm_ex d 24 ≤ 23 := zm_ex_lt d 23
  have ln : zm_en d 24 ≤ 23 := zm_en_lt d 23
  have hx := zt_top d
  have hn := zt_bot d
  have bx := hb (zm_ex d 24) (by omega)
  have bn := hb (zm_en d 24) (by omega)
  rw [← hx] at bx
  rw [← hn] at bn
  have ux : ∀ k, k < 24 → d k ≤ z_fmx d z_MIN 24 := fun k hk => zt_fmx_l d _ hk
  have un : ∀ k, k < 24 → z_fmn d z_MAX 24 ≤ d k := fun k hk => zt_fmn_l d _ hk
  have hk0 : d (zm_en d 24) = z_fmn d z_MAX 24 := hn.symm
  generalize zm_en d 24 = k0 at ln hk0
  generalize z_fmx d z_MIN 24 = g at *
  generalize z_fmn d z_MAX 24 = l at *
  have bx1 := bx.1; have bx2 := bx.2; have bn1 := bn.1; have bn2 := bn.2
  have et : ∀ k, k < 24 → (g - d k).toInt = g.toInt - (d k).toInt := fun k hk => by
    have b := hb k hk
    have b1 := b.1; have b2 := b.2
    exact fb_subL (by omega) (by omega)
  have el : (g - l).toInt = g.toInt - l.toInt := fb_subL (by omega) (by omega)
  have e0 : ∀ k, k < 24 → 0 ≤ (g - d k).toInt := fun k hk => by
    have := ux k hk
    rw [fa_le64] at this
    rw [et k hk]
    omega
  have e1 : ∀ k, k < 24 → g - d k ≤ g - l := fun k hk => by
    have := un k hk
    rw [fa_le64] at this ⊢
    rw [et k hk, el]
    omega
  have key : ∀ n, n ≤ 24 → ((zm_dp g d cc n = -1 ∧ z_ld g l d cc n = g - l ∧ n ≤ k0) ∨ (0 ≤ (zm_dp g d cc n).toInt ∧ z_ld g l d cc n = zm_dp g d cc n)) := by
    intro n
    induction n with
    | zero => exact fun _ => Or.inl ⟨rfl, rfl, Nat.zero_le _⟩
    | succ n ih =>
      intro hn24
      by_cases C : cc ≤ z_cn g d (g - d n) 24
      · rcases ih (by omega) with ⟨a1, a2, a3⟩ | ⟨a1, a2⟩
        · right
          have hneg : zm_dp g d cc n < 0 := by rw [a1]; decide
          rw [zm_dp1 C (Or.inl hneg)]
          refine ⟨e0 n (by omega), ?_⟩
          by_cases q : g - d n < z_ld g l d cc n
          · exact z_ld_1 q C
          · rw [z_ld_0 (fun z => q z.1), a2]
            rw [a2] at q
            exact Int64.le_antisymm (Int64.not_lt.mp q) (e1 n (by omega))
        · right
          have hnn : ¬ zm_dp g d cc n < 0 := by
            rw [fa_lt64]
            have : (0 : Int64).toInt = 0 := by decide
            omega
          by_cases q : g - d n < zm_dp g d cc n
          · rw [zm_dp1 C (Or.inr q)]
            exact ⟨e0 n (by omega), z_ld_1 (by rw [a2]; exact q) C⟩
          · rw [zm_dp0 (fun z => z.2.elim hnn q), z_ld_0 (fun z => q (by rw [← a2]; exact z.1))]
            exact ⟨a1, a2⟩
      · rw [zm_dp0 (fun z => C z.1), z_ld_0 (fun z => C z.2)]
        rcases ih (by omega) with ⟨a1, a2, a3⟩ | r
        · left
          refine ⟨a1, a2, ?_⟩
          by_cases q : n = k0
          · exfalso
            apply C
            rw [q, hk0, zt_cn (fun k hk => e1 k hk)]
            exact hc
          · omega
        · exact Or.inr r
  rcases key 24 (Nat.le_refl 24) with ⟨-, -, a3⟩ | ⟨-, a2⟩
  · omega
  · exact a2.symm
