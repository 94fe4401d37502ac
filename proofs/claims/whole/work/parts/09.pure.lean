/-! PURE: floor division, remainders, tables, harmonics -/
/-- a / b, rounded down -/
def z_fd (a b : Int64) : Int64 := Int64.ofInt (a.toInt / b.toInt)
/-- the place modulo 24 -/
def z_pm (x : Int32) : Nat := (x.toInt % 24).toNat
theorem z_pm_lt (x : Int32) : z_pm x < 24 := by unfold z_pm; omega
theorem z_pm_n {n : Nat} (h : n < 2 ^ 31) : z_pm (nI n) = n % 24 := by unfold z_pm; rw [nI_toInt h]; omega
theorem z_pos64 {b : Int64} (h : 0 < b) : 0 < b.toInt := by
  have := Int64.lt_iff_toInt_lt.mp h
  simpa using this
theorem z_nn64 {a : Int64} : 0 ≤ a ↔ 0 ≤ a.toInt := by
  rw [Int64.le_iff_toInt_le]
  simp
theorem z_nn32 {a : Int32} : 0 ≤ a ↔ 0 ≤ a.toInt := by
  rw [Int32.le_iff_toInt_le]
  simp
theorem z_tdiv_rng (a b : Int) (hb : 0 < b) : (0 ≤ a → 0 ≤ a.tdiv b ∧ a.tdiv b ≤ a ∧ a.tdiv b = a / b) ∧ (a < 0 → a ≤ a.tdiv b ∧ a.tdiv b ≤ 0 ∧ a.tdiv b = -((-a) / b)) := by
  constructor
  · intro h
    have e := Int.tdiv_eq_ediv_of_nonneg (b := b) h
    have h1 := Int.ediv_nonneg h (Int.le_of_lt hb)
    have h2 := Int.ediv_le_self b h
    omega
  · intro h
    have e : a.tdiv b = -((-a) / b) := by
      have e1 : a.tdiv b = -((-a).tdiv b) := by rw [Int.neg_tdiv, Int.neg_neg]
      rw [e1, Int.tdiv_eq_ediv_of_nonneg (by omega)]
    have h1 := Int.ediv_nonneg (show 0 ≤ -a by omega) (Int.le_of_lt hb)
    have h2 := Int.ediv_le_self b (show 0 ≤ -a by omega)
    omega
theorem z_div_t {a b : Int64} (hb : 0 < b) : (a / b).toInt = a.toInt.tdiv b.toInt := Int64.toInt_div_of_ne_right a b (by
  intro e; rw [e] at hb; exact absurd hb (by decide))
theorem z_fd_t {a b : Int64} (hb : 0 < b) : (z_fd a b).toInt = a.toInt / b.toInt := by
  unfold z_fd
  have h0 := z_pos64 hb
  have h1 := fb_rngL a
  have h3 : a.toInt / b.toInt ≤ 9223372036854775807 := by
    rcases Int.le_total 0 a.toInt with h | h
    · have := Int.ediv_le_self b.toInt h
      omega
    · have := Int.ediv_nonpos_of_nonpos_of_neg h h0
      omega
  have h4 : -9223372036854775808 ≤ a.toInt / b.toInt := by
    refine Int.le_ediv_of_mul_le h0 ?_
    have : (-9223372036854775808 : Int) * b.toInt ≤ -9223372036854775808 := by
      have h5 : (1 : Int) ≤ b.toInt := h0
      have := Int.mul_le_mul_of_nonneg_left h5 (show (0 : Int) ≤ 9223372036854775808 by decide)
      omega
    omega
  exact Int64.toInt_ofInt_of_le (by simpa using h4) (by omega)
/-- what the quotient is, by the sign -/
theorem z_fd_q {a b : Int64} (hb : 0 < b) : (0 ≤ a → a / b = z_fd a b) ∧ (a < 0 → a / b * b = a → a / b = z_fd a b) ∧ (a < 0 → ¬ a / b * b = a → a / b - 1 = z_fd a b) ∧ (a < 0 → (a < a / b * b ↔ ¬ a / b * b = a)) := by
  have h0 := z_pos64 hb
  have h1 := fb_rngL a
  have hq := z_div_t (a := a) hb
  have hf := z_fd_t (a := a) hb
  have hr := z_tdiv_rng a.toInt b.toInt h0
  have hd := Int.mul_ediv_add_emod a.toInt b.toInt
  have hm0 := Int.emod_nonneg a.toInt (show b.toInt ≠ 0 by omega)
  have hm1 := Int.emod_lt_of_pos a.toInt h0
  have hd2 := Int.mul_ediv_add_emod (-a.toInt) b.toInt
  have hn0 := Int.emod_nonneg (-a.toInt) (show b.toInt ≠ 0 by omega)
  have hn1 := Int.emod_lt_of_pos (-a.toInt) h0
  have key : a < 0 → (a / b * b).toInt = -(b.toInt * (-a.toInt / b.toInt)) := by
    intro h
    have hlt : a.toInt < 0 := by
      have := Int64.lt_iff_toInt_lt.mp h
      simpa using this
    have e : (a / b).toInt * b.toInt = -(b.toInt * (-a.toInt / b.toInt)) := by
      rw [hq, (hr.2 hlt).2.2, Int.neg_mul, Int.mul_comm]
    have hp := Int.mul_nonneg (Int.le_of_lt h0) (Int.ediv_nonneg (show 0 ≤ -a.toInt by omega) (Int.le_of_lt h0))
    rw [← e]
    exact fb_mulL (by rw [e]; omega) (by rw [e]; omega)
  refine ⟨fun h => ?_, fun h h2 => ?_, fun h h2 => ?_, fun h => ?_⟩
  · rw [fa_eq64, hq, hf]
    exact (hr.1 (z_nn64.mp h)).2.2
  · have hlt : a.toInt < 0 := by
      have := Int64.lt_iff_toInt_lt.mp h
      simpa using this
    have h3 := key h
    rw [h2] at h3
    have e1 := (hr.2 hlt).2.2
    rw [fa_eq64, hq, hf, e1]
    have hz : -a.toInt % b.toInt = 0 := by omega
    have e2 : a.toInt = -(-a.toInt / b.toInt) * b.toInt := by
      rw [Int.neg_mul, Int.mul_comm]; omega
    rw [e2, Int.mul_ediv_cancel _ (show b.toInt ≠ 0 by omega), ← e2]
  · have hlt : a.toInt < 0 := by
      have := Int64.lt_iff_toInt_lt.mp h
      simpa using this
    have h3 := key h
    have hne : ¬ -a.toInt % b.toInt = 0 := by
      intro z
      apply h2
      rw [fa_eq64, h3]
      omega
    have e1 := (hr.2 hlt).2.2
    have hk0 := Int.ediv_nonneg (show 0 ≤ -a.toInt by omega) (Int.le_of_lt h0)
    have hk1 := Int.mul_le_mul_of_nonneg_right (show (1 : Int) ≤ b.toInt from h0) hk0
    have e3 : (a / b - 1).toInt = (a / b).toInt - 1 := by
      exact fb_subL (x := a / b) (y := 1) (by rw [hq, e1]; show _ ≤ _ - (1 : Int); omega) (by rw [hq, e1]; show _ - (1 : Int) < _; omega)
    rw [fa_eq64, e3, hq, hf, e1]
    refine (((Int.ediv_emod_unique h0 (r := b.toInt - -a.toInt % b.toInt) (q := -(-a.toInt / b.toInt) - 1)).mpr ⟨?_, by omega, by omega⟩).1).symm
    rw [Int.mul_sub, Int.mul_neg, Int.mul_one]
    omega
  · have h3 := key h
    rw [fa_lt64, fa_eq64, h3]
    omega
theorem z_msb64 (x : Int64) : (0 ≤ x) ↔ x.toBitVec.msb = false := by
  rw [z_nn64, BitVec.msb_eq_toInt]
  simp
theorem z_msb32 (x : Int32) : (0 ≤ x) ↔ x.toBitVec.msb = false := by
  rw [z_nn32, BitVec.msb_eq_toInt]
  simp
theorem z_xs64 {a b : Int64} (hb : 0 < b) : 0 ≤ a ^^^ b ↔ 0 ≤ a := by
  rw [z_msb64, z_msb64, Int64.toBitVec_xor, BitVec.msb_xor]
  have : b.toBitVec.msb = false := (z_msb64 b).mp (by rw [z_nn64]; have := z_pos64 hb; omega)
  rw [this]; simp
theorem z_xs32 {a b : Int32} (hb : 0 ≤ b) : 0 ≤ a ^^^ b ↔ 0 ≤ a := by
  rw [z_msb32, z_msb32, Int32.toBitVec_xor, BitVec.msb_xor]
  have : b.toBitVec.msb = false := (z_msb32 b).mp hb
  rw [this]; simp
theorem z_lt0_64 {a : Int64} (h : ¬ 0 ≤ a) : a < 0 := Int64.not_le.mp h
/-- the leaves of floorDiv -/
theorem z_fd_1 {a b : Int64} (hb : 0 < b) (h : 0 ≤ a ^^^ b) : a / b = z_fd a b := (z_fd_q hb).1 ((z_xs64 hb).mp h)
theorem z_fd_2 {a b : Int64} (hb : 0 < b) (h : ¬ 0 ≤ a ^^^ b) (h2 : a / b * b = a) : a / b = z_fd a b := (z_fd_q hb).2.1 (z_lt0_64 (fun z => h ((z_xs64 hb).mpr z))) h2
theorem z_fd_3 {a b : Int64} (hb : 0 < b) (h : ¬ 0 ≤ a ^^^ b) (h2 : ¬ a / b * b = a) : a / b - 1 = z_fd a b := (z_fd_q hb).2.2.1 (z_lt0_64 (fun z => h ((z_xs64 hb).mpr z))) h2
/-- the leaves of down -/
theorem z_dn_1 {a b : Int64} (hb : 0 < b) (h : a < a / b * b) : a / b - 1 = z_fd a b := by
  by_cases h0 : 0 ≤ a
  · exfalso
    have h2 := z_pos64 hb
    have hr := (z_tdiv_rng a.toInt b.toInt h2).1 (z_nn64.mp h0)
    have h3 := Int.mul_ediv_add_emod a.toInt b.toInt
    have h4 := Int.emod_nonneg a.toInt (show b.toInt ≠ 0 by omega)
    have h1 := fb_rngL a
    have e : (a / b).toInt * b.toInt = b.toInt * (a.toInt / b.toInt) := by rw [z_div_t hb, hr.2.2, Int.mul_comm]
    have h5 : 0 ≤ b.toInt * (a.toInt / b.toInt) := Int.mul_nonneg (by omega) (by omega)
    have e2 : (a / b * b).toInt = (a / b).toInt * b.toInt := fb_mulL (by rw [e]; omega) (by rw [e]; omega)
    rw [fa_lt64, e2, e] at h
    omega
  · have h1 := z_lt0_64 h0
    exact (z_fd_q hb).2.2.1 h1 (((z_fd_q hb).2.2.2 h1).mp h)
theorem z_dn_2 {a b : Int64} (hb : 0 < b) (h : ¬ a < a / b * b) : a / b = z_fd a b := by
  by_cases h0 : 0 ≤ a
  · exact (z_fd_q hb).1 h0
  · have h1 := z_lt0_64 h0
    exact (z_fd_q hb).2.1 h1 (Decidable.not_not.mp (fun z => h (((z_fd_q hb).2.2.2 h1).mpr z)))
/-- remainders by 24 -/
theorem z_rem_t (x : Int32) : (x - x / nI 24 * nI 24).toInt = x.toInt - x.toInt.tdiv 24 * 24 ∧ (0 ≤ x.toInt → x.toInt.tdiv 24 = x.toInt / 24) ∧ (x.toInt < 0 → x.toInt.tdiv 24 = -(-x.toInt / 24)) := by
  have h1 := fb_rng x
  have hr := z_tdiv_rng x.toInt 24 (by decide)
  have e24 : (nI 24).toInt = 24 := rfl
  have hq : (x / nI 24).toInt = x.toInt.tdiv 24 := Int32.toInt_div_of_ne_right x (nI 24) (by decide)
  have hb : x.toInt.tdiv 24 * 24 ≤ 2147483647 ∧ -2147483648 ≤ x.toInt.tdiv 24 * 24 ∧ -24 < x.toInt - x.toInt.tdiv 24 * 24 ∧ x.toInt - x.toInt.tdiv 24 * 24 < 24 := by
    rcases Int.le_total 0 x.toInt with h | h
    · have := hr.1 h; omega
    · rcases Int.lt_or_eq_of_le h with h | h
      · have := hr.2 h; omega
      · have := hr.1 (by omega); omega
  have hm : (x / nI 24 * nI 24).toInt = x.toInt.tdiv 24 * 24 := by
    rw [fb_mulI (by rw [hq, e24]; omega) (by rw [hq, e24]; omega), hq, e24]
  refine ⟨?_, fun h => (hr.1 h).2.2, fun h => (hr.2 h).2.2⟩
  rw [fb_subI (by rw [hm]; omega) (by rw [hm]; omega), hm]
theorem z_pm_t (x : Int32) : (nI (z_pm x)).toInt = x.toInt % 24 := by
  rw [nI_toInt (Nat.lt_trans (z_pm_lt x) (by decide))]
  unfold z_pm
  omega
theorem z_add24 {r : Int32} (h1 : -24 < r.toInt) (h2 : r.toInt < 24) : (r + nI 24).toInt = r.toInt + 24 := fb_addI (y := nI 24) (by show _ ≤ _ + (24 : Int); omega) (by show _ + (24 : Int) < _; omega)
theorem z_fm_1 {x : Int32} (h : 0 ≤ x ^^^ nI 24) : x - x / nI 24 * nI 24 = nI (z_pm x) := by
  have h0 := z_nn32.mp ((z_xs32 (by decide)).mp h)
  obtain ⟨e1, e2, -⟩ := z_rem_t x
  rw [fa_eq, e1, z_pm_t, e2 h0]
  omega
theorem z_fm_2 {x : Int32} (h : ¬ 0 ≤ x ^^^ nI 24) (h2 : x - x / nI 24 * nI 24 = 0) : x - x / nI 24 * nI 24 = nI (z_pm x) := by
  have h0 : x.toInt < 0 := by
    exact Int.not_le.mp (fun z => h ((z_xs32 (a := x) (b := nI 24) (by decide)).mpr (z_nn32.mpr z)))
  obtain ⟨e1, -, e2⟩ := z_rem_t x
  have h3 : (x - x / nI 24 * nI 24).toInt = 0 := by rw [h2]; rfl
  rw [fa_eq, z_pm_t]
  rw [e1, e2 h0] at h3 ⊢
  omega
theorem z_fm_3 {x : Int32} (h : ¬ 0 ≤ x ^^^ nI 24) (h2 : ¬ x - x / nI 24 * nI 24 = 0) : x - x / nI 24 * nI 24 + nI 24 = nI (z_pm x) := by
  have h0 : x.toInt < 0 := by
    exact Int.not_le.mp (fun z => h ((z_xs32 (a := x) (b := nI 24) (by decide)).mpr (z_nn32.mpr z)))
  obtain ⟨e1, -, e2⟩ := z_rem_t x
  have h3 : ¬ (x - x / nI 24 * nI 24).toInt = 0 := fun z => h2 (by rw [fa_eq, z]; rfl)
  rw [e1, e2 h0] at h3
  rw [fa_eq, z_pm_t, z_add24 (by rw [e1, e2 h0]; omega) (by rw [e1, e2 h0]; omega), e1, e2 h0]
  omega
theorem z_ar_1 {x : Int32} (h : x - x / nI 24 * nI 24 < 0) : x - x / nI 24 * nI 24 + nI 24 = nI (z_pm x) := by
  have h' := Int32.lt_iff_toInt_lt.mp h
  obtain ⟨e1, e2, e3⟩ := z_rem_t x
  rw [e1] at h'
  have h' : x.toInt - x.toInt.tdiv 24 * 24 < 0 := h'
  have h0 : x.toInt < 0 := by
    rcases Int.lt_or_le x.toInt 0 with q | q
    · exact q
    · rw [e2 q] at h'; omega
  rw [e3 h0] at h'
  rw [fa_eq, z_pm_t, z_add24 (by rw [e1, e3 h0]; omega) (by rw [e1, e3 h0]; omega), e1, e3 h0]
  omega
theorem z_ar_2 {x : Int32} (h : ¬ x - x / nI 24 * nI 24 < 0) : x - x / nI 24 * nI 24 = nI (z_pm x) := by
  have h' : 0 ≤ (x - x / nI 24 * nI 24).toInt := z_nn32.mp (Int32.not_lt.mp h)
  obtain ⟨e1, e2, e3⟩ := z_rem_t x
  rw [e1] at h'
  rw [fa_eq, z_pm_t, e1]
  rcases Int.lt_or_le x.toInt 0 with q | q
  · rw [e3 q] at h' ⊢; omega
  · rw [e2 q] at h' ⊢; omega
/-- absolute value, greater, smaller -/
def z_ab (x : Int64) : Int64 := if x < 0 then -x else x
def z_mx (a b : Int64) : Int64 := if a < b then b else a
def z_mn (a b : Int64) : Int64 := if b < a then b else a
/-- a wave: (a c(k) + b s(k)) / 1000000 -/
def z_wv (a b : Int64) (k : Nat) : Int64 := z_fd (a * (z_cos k).toInt64 + b * (z_sin k).toInt64) 1000000
/-- the sum of z(j) c(h j), or s(h j), over j < k -/
def z_sm (z : Nat → Int64) (t h : Nat) : Nat → Int64
  | 0 => 0
  | k + 1 => z_sm z t h k + z k * (z_tv t (h * k % 24)).toInt64
def z_dv (h : Nat) : Int64 := if h = 0 ∨ h = 12 then 24000000 else 12000000
def z_cf (z : Nat → Int64) (t h : Nat) : Int64 := z_fd (z_sm z t h 24) (z_dv h)
/-- strength -/
def z_sg (z : Nat → Int64) (h : Nat) : Int64 := z_ab (z_cf z 0 h) + z_ab (z_cf z 1 h)
/-- lobes first to first + n - 1, at k -/
def z_kl (z : Nat → Int64) (first : Nat) : Nat → Nat → Int64
  | 0, _ => 0
  | n + 1, k => z_kl z first n k + z_wv (z_cf z 0 (first + n)) (z_cf z 1 (first + n)) ((first + n) * k % 24)
