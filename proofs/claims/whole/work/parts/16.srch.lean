/-! THE SEARCH OF A CENTRE, in numbers -/
theorem z_tvb : ∀ t, t < 2 → ∀ k, k < 24 → -1000000 ≤ (z_tv t k).toInt ∧ (z_tv t k).toInt ≤ 1000000 := by decide +kernel
theorem z_mulb {a c A B : Int} (h1 : -A ≤ a) (h2 : a ≤ A) (h3 : -B ≤ c) (h4 : c ≤ B) : -(A * B) ≤ a * c ∧ a * c ≤ A * B := by
  have e1 := Int.mul_nonneg (show 0 ≤ A - a by omega) (show 0 ≤ B + c by omega)
  have e2 := Int.mul_nonneg (show 0 ≤ A + a by omega) (show 0 ≤ B - c by omega)
  have e3 := Int.mul_nonneg (show 0 ≤ A - a by omega) (show 0 ≤ B - c by omega)
  have e4 := Int.mul_nonneg (show 0 ≤ A + a by omega) (show 0 ≤ B + c by omega)
  simp only [Int.sub_mul, Int.add_mul, Int.mul_sub, Int.mul_add] at e1 e2 e3 e4
  omega
/-- a wave in whole numbers -/
def z_wi (X Y : Int) (k : Nat) : Int := (X * (z_tv 0 k).toInt + Y * (z_tv 1 k).toInt) / 1000000
abbrev z_in (A a : Int) : Prop := -A ≤ a ∧ a ≤ A
theorem z_wi_b {X Y A B : Int} {k : Nat} (hk : k < 24) (hX : z_in A X) (hY : z_in B Y) : z_in (A + B) (z_wi X Y k) := by
  have h0 := z_tvb 0 (by decide) k hk
  have h1 := z_tvb 1 (by decide) k hk
  have e0 := z_mulb hX.1 hX.2 h0.1 h0.2
  have e1 := z_mulb hY.1 hY.2 h1.1 h1.2
  unfold z_wi
  constructor <;> omega
theorem z_wi_d {X Y X1 Y1 r : Int} {k : Nat} (hk : k < 24) (hX : z_in r (X1 - X)) (hY : z_in r (Y1 - Y)) : z_in (2 * r) (z_wi X1 Y1 k - z_wi X Y k) := by
  have h0 := z_tvb 0 (by decide) k hk
  have h1 := z_tvb 1 (by decide) k hk
  have e0 := z_mulb hX.1 hX.2 h0.1 h0.2
  have e1 := z_mulb hY.1 hY.2 h1.1 h1.2
  rw [Int.sub_mul] at e0 e1
  unfold z_wi
  constructor <;> omega
theorem z_wv_t {x y : Int64} {k : Nat} (hk : k < 24) (hx : z_in 4000000000000 x.toInt) (hy : z_in 4000000000000 y.toInt) : (z_wv x y k).toInt = z_wi x.toInt y.toInt k := by
  have h0 := z_tvb 0 (by decide) k hk
  have h1 := z_tvb 1 (by decide) k hk
  have e0 := z_mulb hx.1 hx.2 h0.1 h0.2
  have e1 := z_mulb hy.1 hy.2 h1.1 h1.2
  have f0 : (x * (z_cos k).toInt64).toInt = x.toInt * (z_tv 0 k).toInt := by
    rw [fb_mulL (by rw [Int32.toInt_toInt64]; show _ ≤ _ * (z_tv 0 k).toInt; omega) (by rw [Int32.toInt_toInt64]; show _ * (z_tv 0 k).toInt < _; omega), Int32.toInt_toInt64]; rfl
  have f1 : (y * (z_sin k).toInt64).toInt = y.toInt * (z_tv 1 k).toInt := by
    rw [fb_mulL (by rw [Int32.toInt_toInt64]; show _ ≤ _ * (z_tv 1 k).toInt; omega) (by rw [Int32.toInt_toInt64]; show _ * (z_tv 1 k).toInt < _; omega), Int32.toInt_toInt64]; rfl
  unfold z_wv z_wi
  rw [z_fd_t (by decide), fb_addL (by rw [f0, f1]; omega) (by rw [f0, f1]; omega), f0, f1]
  rfl
/-- a profile that is small enough -/
def zs_hb (pf : Nat → Int64) : Prop := ∀ k, k < 24 → z_in 200000000000 (pf k).toInt
def z_di (pf : Nat → Int64) (X Y : Int) (k : Nat) : Int := (pf k).toInt - z_wi X Y k
theorem z_di_b {pf : Nat → Int64} {X Y A B : Int} {k : Nat} (hp : zs_hb pf) (hk : k < 24) (hX : z_in A X) (hY : z_in B Y) : z_in (200000000000 + (A + B)) (z_di pf X Y k) := by
  have h1 := hp k hk
  have h2 := z_wi_b hk hX hY
  unfold z_di
  constructor
  · have := h1.1; have := h2.2; omega
  · have := h1.2; have := h2.1; omega
theorem z_df_t {pf : Nat → Int64} {x y : Int64} {k : Nat} (hp : zs_hb pf) (hk : k < 24) (hx : z_in 4000000000000 x.toInt) (hy : z_in 4000000000000 y.toInt) : (z_df pf x y k).toInt = z_di pf x.toInt y.toInt k := by
  have h1 := hp k hk
  have h2 := z_wi_b hk hx hy
  have h3 := z_wv_t hk hx hy
  unfold z_df z_di
  rw [Nat.mod_eq_of_lt hk]
  have a1 := h1.1; have a2 := h1.2; have a3 := h2.1; have a4 := h2.2
  rw [fb_subL (by rw [h3]; omega) (by rw [h3]; omega), h3]
theorem z_di_0 (pf : Nat → Int64) (X Y : Int) : z_di pf X Y 0 = (pf 0).toInt - X ∧ z_di pf X Y 12 = (pf 12).toInt + X ∧ z_di pf X Y 6 = (pf 6).toInt - Y ∧ z_di pf X Y 18 = (pf 18).toInt + Y := by
  have a0 : (z_tv 0 0).toInt = 1000000 := by decide
  have a1 : (z_tv 1 0).toInt = 0 := by decide
  have b0 : (z_tv 0 12).toInt = -1000000 := by decide
  have b1 : (z_tv 1 12).toInt = 0 := by decide
  have c0 : (z_tv 0 6).toInt = 0 := by decide
  have c1 : (z_tv 1 6).toInt = 1000000 := by decide
  have d0 : (z_tv 0 18).toInt = 0 := by decide
  have d1 : (z_tv 1 18).toInt = -1000000 := by decide
  unfold z_di z_wi
  rw [a0, a1, b0, b1, c0, c1, d0, d1]
  refine ⟨?_, ?_, ?_, ?_⟩ <;> omega
/-- greatest and least -/
theorem z_mx_l (a b : Int64) : a ≤ z_mx a b := by
  unfold z_mx
  split
  · rw [fa_le64]; rename_i h; rw [fa_lt64] at h; omega
  · exact Int64.le_refl a
theorem z_mx_r (a b : Int64) : b ≤ z_mx a b := by
  unfold z_mx
  split
  · exact Int64.le_refl b
  · rename_i h; exact Int64.not_lt.mp h
theorem z_mn_l (a b : Int64) : z_mn a b ≤ a := by
  unfold z_mn
  split
  · rw [fa_le64]; rename_i h; rw [fa_lt64] at h; omega
  · exact Int64.le_refl a
theorem z_mn_r (a b : Int64) : z_mn a b ≤ b := by
  unfold z_mn
  split
  · exact Int64.le_refl b
  · rename_i h; exact Int64.not_lt.mp h
theorem z_fmx_ge (d : Nat → Int64) (g : Int64) : ∀ n, g ≤ z_fmx d g n ∧ ∀ k, k < n → d k ≤ z_fmx d g n
  | 0 => ⟨Int64.le_refl g, fun k h => absurd h (Nat.not_lt_zero k)⟩
  | n + 1 => by
    obtain ⟨h1, h2⟩ := z_fmx_ge d g n
    refine ⟨Int64.le_trans h1 (z_mx_l _ _), fun k hk => ?_⟩
    rcases Nat.lt_or_eq_of_le (Nat.le_of_lt_succ hk) with q | q
    · exact Int64.le_trans (h2 k q) (z_mx_l _ _)
    · subst q; exact z_mx_r _ _
theorem z_fmn_le (d : Nat → Int64) (g : Int64) : ∀ n, z_fmn d g n ≤ g ∧ ∀ k, k < n → z_fmn d g n ≤ d k
  | 0 => ⟨Int64.le_refl g, fun k h => absurd h (Nat.not_lt_zero k)⟩
  | n + 1 => by
    obtain ⟨h1, h2⟩ := z_fmn_le d g n
    refine ⟨Int64.le_trans (z_mn_l _ _) h1, fun k hk => ?_⟩
    rcases Nat.lt_or_eq_of_le (Nat.le_of_lt_succ hk) with q | q
    · exact Int64.le_trans (z_mn_l _ _) (h2 k q)
    · subst q; exact z_mn_r _ _
theorem z_fmx_at (d : Nat → Int64) (g : Int64) : ∀ n, z_fmx d g n = g ∨ ∃ k, k < n ∧ z_fmx d g n = d k
  | 0 => Or.inl rfl
  | n + 1 => by
    by_cases h : z_fmx d g n < d n
    · exact Or.inr ⟨n, Nat.lt_succ_self n, if_pos h⟩
    · have e : z_fmx d g (n + 1) = z_fmx d g n := if_neg h
      rw [e]
      rcases z_fmx_at d g n with q | ⟨k, hk, q⟩
      · exact Or.inl q
      · exact Or.inr ⟨k, Nat.lt_succ_of_lt hk, q⟩
theorem z_fmn_at (d : Nat → Int64) (g : Int64) : ∀ n, z_fmn d g n = g ∨ ∃ k, k < n ∧ z_fmn d g n = d k
  | 0 => Or.inl rfl
  | n + 1 => by
    by_cases h : d n < z_fmn d g n
    · exact Or.inr ⟨n, Nat.lt_succ_self n, if_pos h⟩
    · have e : z_fmn d g (n + 1) = z_fmn d g n := if_neg h
      rw [e]
      rcases z_fmn_at d g n with q | ⟨k, hk, q⟩
      · exact Or.inl q
      · exact Or.inr ⟨k, Nat.lt_succ_of_lt hk, q⟩
abbrev z_MIN : Int64 := -9223372036854775808
abbrev z_MAX : Int64 := 9223372036854775807
theorem z_MIN_le (x : Int64) : z_MIN ≤ x := by rw [fa_le64]; exact (fb_rngL x).1
theorem z_le_MAX (x : Int64) : x ≤ z_MAX := by rw [fa_le64]; have := (fb_rngL x).2; show _ ≤ (9223372036854775807 : Int); omega
theorem z_fmx_att (d : Nat → Int64) {n : Nat} (hn : 0 < n) : ∃ k, k < n ∧ z_fmx d z_MIN n = d k := by
  rcases z_fmx_at d z_MIN n with q | q
  · exact ⟨0, hn, Int64.le_antisymm (by rw [q]; exact z_MIN_le _) ((z_fmx_ge d z_MIN n).2 0 hn)⟩
  · exact q
theorem z_fmn_att (d : Nat → Int64) {n : Nat} (hn : 0 < n) : ∃ k, k < n ∧ z_fmn d z_MAX n = d k := by
  rcases z_fmn_at d z_MAX n with q | q
  · exact ⟨0, hn, Int64.le_antisymm ((z_fmn_le d z_MAX n).2 0 hn) (by rw [q]; exact z_le_MAX _)⟩
  · exact q
/-- the value of a centre -/
def z_F (pf : Nat → Int64) (me : Int32) (x y : Int64) : Int64 := z_vo me (z_fmx (z_df pf x y) z_MIN 24) (z_fmn (z_df pf x y) z_MAX 24)
theorem z_vo_t {me : Int32} {a b : Int64} (ha : z_in 10000000000000 a.toInt) (hb : z_in 10000000000000 b.toInt) : (me = nI 1 → (z_vo me a b).toInt = a.toInt - b.toInt) ∧ (¬ me = nI 1 → me = nI 2 → (z_vo me a b).toInt = a.toInt) ∧ (¬ me = nI 1 → ¬ me = nI 2 → (z_vo me a b).toInt = -b.toInt) := by
  have a1 := ha.1; have a2 := ha.2; have a3 := hb.1; have a4 := hb.2
  unfold z_vo
  refine ⟨fun h => ?_, fun h h2 => ?_, fun h h2 => ?_⟩
  · rw [if_pos h]; exact fb_subL (by omega) (by omega)
  · rw [if_neg h, if_pos h2]
  · rw [if_neg h, if_neg h2, ← Int64.zero_sub]
    exact (fb_subL (x := 0) (y := b) (by show _ ≤ (0 : Int) - _; omega) (by show (0 : Int) - _ < _; omega)).trans (by show (0 : Int) - _ = _; omega)
/-- what the value is, in whole numbers: M and m are the ends -/
theorem z_F_t {pf : Nat → Int64} {me : Int32} {x y : Int64} (hp : zs_hb pf) (hx : z_in 4000000000000 x.toInt) (hy : z_in 4000000000000 y.toInt) :
    ∃ M m : Int, (∀ k, k < 24 → z_di pf x.toInt y.toInt k ≤ M ∧ m ≤ z_di pf x.toInt y.toInt k) ∧ (∃ k, k < 24 ∧ M = z_di pf x.toInt y.toInt k) ∧ (∃ k, k < 24 ∧ m = z_di pf x.toInt y.toInt k) ∧ (me = nI 1 → (z_F pf me x y).toInt = M - m) ∧ (¬ me = nI 1 → me = nI 2 → (z_F pf me x y).toInt = M) ∧ (¬ me = nI 1 → ¬ me = nI 2 → (z_F pf me x y).toInt = -m) := by
  obtain ⟨k1, hk1, e1⟩ := z_fmx_att (z_df pf x y) (show 0 < 24 by decide)
  obtain ⟨k2, hk2, e2⟩ := z_fmn_att (z_df pf x y) (show 0 < 24 by decide)
  have t1 := z_df_t hp hk1 hx hy
  have t2 := z_df_t hp hk2 hx hy
  have b1 := z_di_b hp hk1 hx hy
  have b2 := z_di_b hp hk2 hx hy
  have c1 := b1.1; have c2 := b1.2; have c3 := b2.1; have c4 := b2.2
  refine ⟨z_di pf x.toInt y.toInt k1, z_di pf x.toInt y.toInt k2, fun k hk => ⟨?_, ?_⟩, ⟨k1, hk1, rfl⟩, ⟨k2, hk2, rfl⟩, ?_⟩
  · have := (z_fmx_ge (z_df pf x y) z_MIN 24).2 k hk
    rw [e1, fa_le64, t1, z_df_t hp hk hx hy] at this
    exact this
  · have := (z_fmn_le (z_df pf x y) z_MAX 24).2 k hk
    rw [e2, fa_le64, t2, z_df_t hp hk hx hy] at this
    exact this
  · have := z_vo_t (me := me) (a := z_df pf x y k1) (b := z_df pf x y k2) (by rw [t1]; constructor <;> omega) (by rw [t2]; constructor <;> omega)
    unfold z_F
    rw [e1, e2]
    rw [t1, t2] at this
    exact this
def z_top (me : Int32) : Int := if me = nI 1 then 400000000000 else 200000000000
theorem z_F_0 {pf : Nat → Int64} (me : Int32) (hp : zs_hb pf) : (z_F pf me 0 0).toInt ≤ z_top me := by
  have z0 : z_in 4000000000000 (0 : Int64).toInt := by decide
  obtain ⟨M, m, h1, ⟨k1, hk1, e1⟩, ⟨k2, hk2, e2⟩, v1, v2, v3⟩ := z_F_t (me := me) hp z0 z0
  have zz : (0 : Int64).toInt = 0 := by decide
  have w : ∀ k, z_di pf (0 : Int64).toInt (0 : Int64).toInt k = (pf k).toInt := by
    intro k
    rw [zz]
    unfold z_di z_wi
    rw [Int.zero_mul, Int.zero_mul]
    omega
  rw [w] at e1 e2
  have p1 := hp k1 hk1
  have p2 := hp k2 hk2
  have a1 := p1.1; have a2 := p1.2; have a3 := p2.1; have a4 := p2.2
  unfold z_top
  by_cases q : me = nI 1
  · rw [if_pos q, v1 q]; omega
  · rw [if_neg q]
    by_cases q2 : me = nI 2
    · rw [v2 q q2]; omega
    · rw [v3 q q2]; omega
theorem z_F_box {pf : Nat → Int64} {me : Int32} {x y : Int64} (hp : zs_hb pf) (hx : z_in 4000000000000 x.toInt) (hy : z_in 4000000000000 y.toInt) (hF : (z_F pf me x y).toInt ≤ z_top me) : z_in 400000000000 x.toInt ∧ z_in 400000000000 y.toInt ∧ -200000000000 ≤ (z_F pf me x y).toInt := by
  obtain ⟨M, m, h1, -, -, v1, v2, v3⟩ := z_F_t (me := me) hp hx hy
  obtain ⟨d0, d12, d6, d18⟩ := z_di_0 pf x.toInt y.toInt
  have p0 := hp 0 (by decide); have p12 := hp 12 (by decide); have p6 := hp 6 (by decide); have p18 := hp 18 (by decide)
  have g0 := h1 0 (by decide); have g12 := h1 12 (by decide); have g6 := h1 6 (by decide); have g18 := h1 18 (by decide)
  rw [d0] at g0; rw [d12] at g12; rw [d6] at g6; rw [d18] at g18
  unfold z_in at *
  unfold z_top at hF
  by_cases q : me = nI 1
  · rw [if_pos q] at hF
    have := v1 q
    omega
  · rw [if_neg q] at hF
    by_cases q2 : me = nI 2
    · have := v2 q q2; omega
    · have := v3 q q2; omega
/-- a place of the search, and the next one -/
abbrev z_S3 : Type := Int64 × Int64 × Int64
def zs_D (pf : Nat → Int64) (me : Int32) (x y s : Int64) (i : Nat) : Int64 := z_F pf me (x + s * (z_tv 2 i).toInt64) (y + s * (z_tv 3 i).toInt64)
/-- the first of the best, -1 if none is better -/
def z_bw (D : Nat → Int64) (v : Int64) : Nat → Int32
  | 0 => -1
  | i + 1 => if D i < z_fmn D v i then nI i else z_bw D v i
theorem z_nIm1 : ∀ w, w < 8 → ¬ nI w = -1 := by decide
theorem z_bw_or (D : Nat → Int64) (v : Int64) : ∀ n, (z_bw D v n = -1 ∧ z_fmn D v n = v) ∨ ∃ w, w < n ∧ z_bw D v n = nI w ∧ z_fmn D v n = D w ∧ D w < v
  | 0 => Or.inl ⟨rfl, rfl⟩
  | n + 1 => by
    by_cases h : D n < z_fmn D v n
    · have e1 : z_bw D v (n + 1) = nI n := if_pos h
      have e2 : z_fmn D v (n + 1) = D n := if_pos h
      refine Or.inr ⟨n, Nat.lt_succ_self n, e1, e2, ?_⟩
      have := (z_fmn_le D v n).1
      rw [fa_lt64] at h ⊢
      rw [fa_le64] at this
      omega
    · have e1 : z_bw D v (n + 1) = z_bw D v n := if_neg h
      have e2 : z_fmn D v (n + 1) = z_fmn D v n := if_neg h
      rw [e1, e2]
      rcases z_bw_or D v n with q | ⟨w, hw, q⟩
      · exact Or.inl q
      · exact Or.inr ⟨w, Nat.lt_succ_of_lt hw, q⟩
theorem z_bw_n {D : Nat → Int64} {v : Int64} (h : z_bw D v 8 = -1) : z_fmn D v 8 = v := by
  rcases z_bw_or D v 8 with q | ⟨w, hw, q, -⟩
  · exact q.2
  · rw [q] at h; exact absurd h (z_nIm1 w hw)
theorem z_bw_w {D : Nat → Int64} {v : Int64} (h : ¬ z_bw D v 8 = -1) : ∃ w, w < 8 ∧ z_bw D v 8 = nI w ∧ z_fmn D v 8 = D w ∧ D w < v := by
  rcases z_bw_or D v 8 with q | q
  · exact absurd q.1 h
  · exact q
def z_stp (pf : Nat → Int64) (me : Int32) (q : z_S3) : z_S3 :=
  if z_bw (zs_D pf me q.1 q.2.1 q.2.2) (z_F pf me q.1 q.2.1) 8 = -1 then ⟨q.1, q.2.1, q.2.2 / 2⟩
  else ⟨q.1 + q.2.2 * (z_tv 2 (z_bw (zs_D pf me q.1 q.2.1 q.2.2) (z_F pf me q.1 q.2.1) 8).toInt.toNat).toInt64, q.2.1 + q.2.2 * (z_tv 3 (z_bw (zs_D pf me q.1 q.2.1 q.2.2) (z_F pf me q.1 q.2.1) 8).toInt.toNat).toInt64, q.2.2⟩
theorem z_stp_0 {pf : Nat → Int64} {me : Int32} {x y s : Int64} (h : z_bw (zs_D pf me x y s) (z_F pf me x y) 8 = -1) : z_stp pf me ⟨x, y, s⟩ = ⟨x, y, s / 2⟩ := if_pos h
theorem z_stp_w {pf : Nat → Int64} {me : Int32} {x y s : Int64} {w : Nat} (hw : w < 8) (h : z_bw (zs_D pf me x y s) (z_F pf me x y) 8 = nI w) : z_stp pf me ⟨x, y, s⟩ = ⟨x + s * (z_tv 2 w).toInt64, y + s * (z_tv 3 w).toInt64, s⟩ := by
  have e : z_stp pf me ⟨x, y, s⟩ = ⟨x + s * (z_tv 2 (z_bw (zs_D pf me x y s) (z_F pf me x y) 8).toInt.toNat).toInt64, y + s * (z_tv 3 (z_bw (zs_D pf me x y s) (z_F pf me x y) 8).toInt.toNat).toInt64, s⟩ := if_neg (show ¬ z_bw (zs_D pf me x y s) (z_F pf me x y) 8 = -1 by rw [h]; exact z_nIm1 w hw)
  rw [e, h, nI_toInt (by omega)]
  rfl
def zs_go (pf : Nat → Int64) (me : Int32) : Nat → z_S3
  | 0 => ⟨0, 0, 1073741824⟩
  | n + 1 => if (zs_go pf me n).2.2 < 1 then zs_go pf me n else z_stp pf me (zs_go pf me n)
theorem zs_go_s {pf : Nat → Int64} {me : Int32} {n : Nat} {x y s : Int64} (h : zs_go pf me n = ⟨x, y, s⟩) (hs : ¬ s < 1) : zs_go pf me (n + 1) = z_stp pf me ⟨x, y, s⟩ := by
  show (if _ then _ else _) = _
  rw [h]
  exact if_neg hs
theorem zs_go_stay {pf : Nat → Int64} {me : Int32} {n : Nat} (h : (zs_go pf me n).2.2 < 1) : ∀ d, zs_go pf me (n + d) = zs_go pf me n
  | 0 => rfl
  | d + 1 => by
    have e := zs_go_stay h d
    show (if (zs_go pf me (n + d)).2.2 < 1 then zs_go pf me (n + d) else z_stp pf me (zs_go pf me (n + d))) = zs_go pf me n
    rw [e]
    exact if_pos h
theorem zs_go_eq {pf : Nat → Int64} {me : Int32} {n m : Nat} (h : (zs_go pf me n).2.2 < 1) (h2 : (zs_go pf me m).2.2 < 1) : zs_go pf me n = zs_go pf me m := by
  rcases Nat.le_total n m with q | q
  · obtain ⟨d, rfl⟩ := Nat.le.dest q
    exact (zs_go_stay h d).symm
  · obtain ⟨d, rfl⟩ := Nat.le.dest q
    exact zs_go_stay h2 d
/-- where the search ends -/
noncomputable def z_ce (pf : Nat → Int64) (me : Int32) : z_S3 := @dite _ (∃ n, (zs_go pf me n).2.2 < 1) (Classical.propDecidable _) (fun h => zs_go pf me (Classical.choose h)) (fun _ => ⟨0, 0, 0⟩)
theorem z_ce_eq {pf : Nat → Int64} {me : Int32} {n : Nat} {x y s : Int64} (h : zs_go pf me n = ⟨x, y, s⟩) (hs : s < 1) : z_ce pf me = ⟨x, y, s⟩ := by
  have h1 : (zs_go pf me n).2.2 < 1 := by rw [h]; exact hs
  have h2 : ∃ n, (zs_go pf me n).2.2 < 1 := ⟨n, h1⟩
  unfold z_ce
  rw [dif_pos h2, ← h]
  exact zs_go_eq (Classical.choose_spec h2) h1
theorem z_ways : ∀ i, i < 8 → z_in 1 (z_tv 2 i).toInt ∧ z_in 1 (z_tv 3 i).toInt := by decide +kernel
/-- one stride -/
theorem z_mv {x s : Int64} {t : Int32} (hx : z_in 1000000000000 x.toInt) (hs : 0 ≤ s.toInt ∧ s.toInt ≤ 1073741824) (ht : z_in 1 t.toInt) : (x + s * t.toInt64).toInt = x.toInt + s.toInt * t.toInt ∧ z_in s.toInt (s.toInt * t.toInt) := by
  have e := z_mulb (a := s.toInt) (A := s.toInt) (by omega) (Int.le_refl _) ht.1 ht.2
  rw [Int.mul_one] at e
  have a1 := hx.1; have a2 := hx.2; have a3 := hs.1; have a4 := hs.2; have a5 := e.1; have a6 := e.2
  have f : (s * t.toInt64).toInt = s.toInt * t.toInt := by
    rw [fb_mulL (by rw [Int32.toInt_toInt64]; omega) (by rw [Int32.toInt_toInt64]; omega), Int32.toInt_toInt64]
  exact ⟨by rw [fb_addL (by rw [f]; omega) (by rw [f]; omega), f], e⟩
def z_good (pf : Nat → Int64) (me : Int32) (q : z_S3) : Prop := z_in 400000000000 q.1.toInt ∧ z_in 400000000000 q.2.1.toInt ∧ (0 ≤ q.2.2.toInt ∧ q.2.2.toInt ≤ 1073741824) ∧ (z_F pf me q.1 q.2.1).toInt ≤ z_top me
theorem zs_half {s : Int64} (h : 0 ≤ s.toInt) : (s / 2).toInt = s.toInt / 2 := by
  rw [z_div_t (by decide)]
  exact (Int.tdiv_eq_ediv_of_nonneg h)
def z_pot (pf : Nat → Int64) (me : Int32) (q : z_S3) : Nat := ((z_F pf me q.1 q.2.1).toInt + 200000000000 + q.2.2.toInt).toNat
theorem z_stp_good {pf : Nat → Int64} {me : Int32} {q : z_S3} (hp : zs_hb pf) (h : z_good pf me q) (hs : ¬ q.2.2 < 1) : z_good pf me (z_stp pf me q) ∧ z_pot pf me (z_stp pf me q) < z_pot pf me q := by
  obtain ⟨x, y, s⟩ := q
  obtain ⟨g1, g2, g3, g4⟩ := h
  dsimp only at g1 g2 g3 g4 hs
  have hs1 : 1 ≤ s.toInt := by
    rw [Int64.not_lt, fa_le64] at hs; exact hs
  have a1 := g1.1; have a2 := g1.2; have a3 := g2.1; have a4 := g2.2; have a5 := g3.1; have a6 := g3.2
  have low := (z_F_box (me := me) hp (x := x) (y := y) ⟨by omega, by omega⟩ ⟨by omega, by omega⟩ g4).2.2
  by_cases c : z_bw (zs_D pf me x y s) (z_F pf me x y) 8 = -1
  · rw [z_stp_0 c]
    have e := zs_half (s := s) (by omega)
    refine ⟨⟨g1, g2, ⟨by dsimp only; omega, by dsimp only; omega⟩, g4⟩, ?_⟩
    unfold z_pot
    dsimp only
    rw [e]
    omega
  · obtain ⟨w, hw, e1, e2, e3⟩ := z_bw_w c
    rw [z_stp_w hw e1]
    obtain ⟨t1, t2⟩ := z_ways w hw
    have m1 := z_mv (x := x) ⟨by omega, by omega⟩ g3 t1
    have m2 := z_mv (x := y) ⟨by omega, by omega⟩ g3 t2
    have b1 := m1.2.1; have b2 := m1.2.2; have b3 := m2.2.1; have b4 := m2.2.2
    have lt : (z_F pf me (x + s * (z_tv 2 w).toInt64) (y + s * (z_tv 3 w).toInt64)).toInt < (z_F pf me x y).toInt := by
      rw [fa_lt64] at e3; exact e3
    have bx := z_F_box (me := me) hp (x := x + s * (z_tv 2 w).toInt64) (y := y + s * (z_tv 3 w).toInt64) (by rw [m1.1]; constructor <;> omega) (by rw [m2.1]; constructor <;> omega) (by omega)
    refine ⟨⟨bx.1, bx.2.1, g3, by dsimp only; omega⟩, ?_⟩
    unfold z_pot
    dsimp only
    omega
theorem zs_go_good {pf : Nat → Int64} (me : Int32) (hp : zs_hb pf) : ∀ n, z_good pf me (zs_go pf me n)
  | 0 => ⟨show z_in 400000000000 (0 : Int64).toInt by decide, show z_in 400000000000 (0 : Int64).toInt by decide, show 0 ≤ (1073741824 : Int64).toInt ∧ (1073741824 : Int64).toInt ≤ 1073741824 by decide, z_F_0 me hp⟩
  | n + 1 => by
    have h := zs_go_good me hp n
    show z_good pf me (if _ then _ else _)
    by_cases c : (zs_go pf me n).2.2 < 1
    · rw [if_pos c]; exact h
    · rw [if_neg c]; exact (z_stp_good hp h c).1
theorem z_pot_0 {pf : Nat → Int64} (me : Int32) (hp : zs_hb pf) : z_pot pf me (zs_go pf me 0) ≤ 1000000000000 := by
  have h := z_F_0 me hp
  have e : z_top me ≤ 400000000000 := by unfold z_top; split <;> decide
  show ((z_F pf me 0 0).toInt + 200000000000 + 1073741824).toNat ≤ _
  omega
/-- the places that matter about (x, y) -/
def z_near (pf : Nat → Int64) (me : Int32) (x y : Int64) (r : Int) (N : Nat) (ne : Nat → Nat) : Prop := ∀ X Y : Int64, z_in r (X.toInt - x.toInt) → z_in r (Y.toInt - y.toInt) → z_vo me (z_fmx (z_vn pf X Y ne) z_MIN N) (z_fmn (z_vn pf X Y ne) z_MAX N) = z_F pf me X Y
theorem z_near.move {pf : Nat → Int64} {me : Int32} {x y x1 y1 : Int64} {r d : Int} {N : Nat} {ne : Nat → Nat} (h : z_near pf me x y r N ne) (h1 : z_in d (x1.toInt - x.toInt)) (h2 : z_in d (y1.toInt - y.toInt)) : z_near pf me x1 y1 (r - d) N ne := by
  intro X Y hX hY
  have a1 := h1.1; have a2 := h1.2; have a3 := h2.1; have a4 := h2.2; have a5 := hX.1; have a6 := hX.2; have a7 := hY.1; have a8 := hY.2
  exact h X Y ⟨by omega, by omega⟩ ⟨by omega, by omega⟩
def z_nE (g l sl : Int64) (d : Nat → Int64) : Nat → Nat → Nat
  | 0 => fun _ => 0
  | k + 1 => if z_pk g l sl d k then fun i => if i = z_nN g l sl d k then k else z_nE g l sl d k i else z_nE g l sl d k
theorem z_nE_p (g l sl : Int64) (d : Nat → Int64) (nr : Nat → Int32) : ∀ k, (∀ i, i < z_nN g l sl d k → z_nA g l sl d nr k i = nI (z_nE g l sl d k i) ∧ z_nE g l sl d k i < k) ∧ ∀ j, j < k → z_pk g l sl d j → ∃ i, i < z_nN g l sl d k ∧ z_nE g l sl d k i = j
  | 0 => ⟨fun i h => absurd h (Nat.not_lt_zero i), fun j h => absurd h (Nat.not_lt_zero j)⟩
  | k + 1 => by
    obtain ⟨h1, h2⟩ := z_nE_p g l sl d nr k
    by_cases c : z_pk g l sl d k
    · rw [z_nN_1 c, z_nA_1 c]
      have e : z_nE g l sl d (k + 1) = fun i => if i = z_nN g l sl d k then k else z_nE g l sl d k i := if_pos c
      rw [e]
      refine ⟨fun i hi => ?_, fun j hj hp => ?_⟩
      · dsimp only
        by_cases q : i = z_nN g l sl d k
        · subst q
          rw [if_pos rfl]
          exact ⟨by simp [upd], Nat.lt_succ_self k⟩
        · rw [if_neg q]
          have := h1 i (by omega)
          exact ⟨by rw [← this.1]; simp [upd, q], by omega⟩
      · dsimp only
        rcases Nat.lt_or_eq_of_le (Nat.le_of_lt_succ hj) with q | q
        · obtain ⟨i, hi, he⟩ := h2 j q hp
          exact ⟨i, by omega, by rw [if_neg (by omega)]; exact he⟩
        · subst q
          exact ⟨z_nN g l sl d j, Nat.lt_succ_self _, if_pos rfl⟩
    · rw [z_nN_0 c, z_nA_0 c]
      have e : z_nE g l sl d (k + 1) = z_nE g l sl d k := if_neg c
      rw [e]
      refine ⟨fun i hi => ⟨(h1 i hi).1, Nat.lt_succ_of_lt (h1 i hi).2⟩, fun j hj hp => ?_⟩
      rcases Nat.lt_or_eq_of_le (Nat.le_of_lt_succ hj) with q | q
      · exact h2 j q hp
      · subst q; exact absurd hp c
/-- the places picked suffice -/
theorem z_pick {pf d : Nat → Int64} {me : Int32} {x y u : Int64} (hp : zs_hb pf) (hd : ∀ k, k < 24 → d k = z_df pf x y k) (hx : z_in 400000000000 x.toInt) (hy : z_in 400000000000 y.toInt) (hu : 0 ≤ u.toInt ∧ u.toInt ≤ 17179869184) :
    z_near pf me x y u.toInt (z_nN (z_fmx (z_df pf x y) z_MIN 24) (z_fmn (z_df pf x y) z_MAX 24) (2 * (2 * u + 1)) d 24) (z_nE (z_fmx (z_df pf x y) z_MIN 24) (z_fmn (z_df pf x y) z_MAX 24) (2 * (2 * u + 1)) d 24) := by
  intro X Y hX hY
  have x1 := hx.1; have x2 := hx.2; have y1 := hy.1; have y2 := hy.2; have u1 := hu.1; have u2 := hu.2
  have X1 := hX.1; have X2 := hX.2; have Y1 := hY.1; have Y2 := hY.2
  have bx : z_in 4000000000000 x.toInt := ⟨by omega, by omega⟩
  have byy : z_in 4000000000000 y.toInt := ⟨by omega, by omega⟩
  have bX : z_in 4000000000000 X.toInt := ⟨by omega, by omega⟩
  have bY : z_in 4000000000000 Y.toInt := ⟨by omega, by omega⟩
  obtain ⟨hN, hE⟩ := z_nE_p (z_fmx (z_df pf x y) z_MIN 24) (z_fmn (z_df pf x y) z_MAX 24) (2 * (2 * u + 1)) d (fun _ => 0) 24
  obtain ⟨k0, hk0, e0⟩ := z_fmx_att (z_df pf x y) (show 0 < 24 by decide)
  obtain ⟨k1, hk1, e1⟩ := z_fmn_att (z_df pf x y) (show 0 < 24 by decide)
  obtain ⟨K0, hK0, E0⟩ := z_fmx_att (z_df pf X Y) (show 0 < 24 by decide)
  obtain ⟨K1, hK1, E1⟩ := z_fmn_att (z_df pf X Y) (show 0 < 24 by decide)
  generalize hNN : z_nN (z_fmx (z_df pf x y) z_MIN 24) (z_fmn (z_df pf x y) z_MAX 24) (2 * (2 * u + 1)) d 24 = N at *
  generalize hEE : z_nE (z_fmx (z_df pf x y) z_MIN 24) (z_fmn (z_df pf x y) z_MAX 24) (2 * (2 * u + 1)) d 24 = ne at *
  have su : (2 * (2 * u + 1) : Int64).toInt = 2 * (2 * u.toInt + 1) := by
    have t1 : (2 * u : Int64).toInt = 2 * u.toInt := fb_mulL (x := 2) (by show _ ≤ (2 : Int) * _; omega) (by show (2 : Int) * _ < _; omega)
    have t2 : (2 * u + 1 : Int64).toInt = 2 * u.toInt + 1 := (fb_addL (x := 2 * u) (y := 1) (by rw [t1]; show _ ≤ _ + (1 : Int); omega) (by rw [t1]; show _ + (1 : Int) < _; omega)).trans (by rw [t1]; rfl)
    exact (fb_mulL (x := 2) (y := 2 * u + 1) (by rw [t2]; show _ ≤ (2 : Int) * _; omega) (by rw [t2]; show (2 : Int) * _ < _; omega)).trans (by rw [t2]; rfl)
  have vn : ∀ i, i < N → z_vn pf X Y ne i = z_df pf X Y (ne i) := by
    intro i hi
    unfold z_vn z_df
    rw [Nat.mod_eq_of_lt (hN i hi).2]
  have dist : ∀ k, k < 24 → z_in (2 * u.toInt) (z_di pf X.toInt Y.toInt k - z_di pf x.toInt y.toInt k) := by
    intro k hk
    have h := z_wi_d hk hX hY
    have h1 := h.1; have h2 := h.2
    unfold z_di
    constructor <;> omega
  -- the greatest
  have top : z_fmx (z_vn pf X Y ne) z_MIN N = z_fmx (z_df pf X Y) z_MIN 24 := by
    apply Int64.le_antisymm
    · rcases z_fmx_at (z_vn pf X Y ne) z_MIN N with q | ⟨i, hi, q⟩
      · rw [q]; exact z_MIN_le _
      · rw [q, vn i hi]; exact (z_fmx_ge _ _ 24).2 _ (hN i hi).2
    · have pk : z_pk (z_fmx (z_df pf x y) z_MIN 24) (z_fmn (z_df pf x y) z_MAX 24) (2 * (2 * u + 1)) d K0 := by
        left
        rw [hd K0 hK0, e0]
        have b0 := z_di_b hp hk0 hx hy
        have b1 := b0.1; have b2 := b0.2
        have c1 := dist K0 hK0
        have c2 := dist k0 hk0
        have c3 := c1.1; have c4 := c1.2; have c5 := c2.1; have c6 := c2.2
        have ge := (z_fmx_ge (z_df pf X Y) z_MIN 24).2 k0 hk0
        rw [E0, fa_le64, z_df_t hp hK0 bX bY, z_df_t hp hk0 bX bY] at ge
        rw [fa_le64, fb_subL (by rw [su, z_df_t hp hk0 bx byy]; omega) (by rw [su, z_df_t hp hk0 bx byy]; omega), su, z_df_t hp hk0 bx byy, z_df_t hp hK0 bx byy]
        omega
      obtain ⟨i, hi, he⟩ := hE K0 hK0 pk
      have := (z_fmx_ge (z_vn pf X Y ne) z_MIN N).2 i hi
      rw [vn i hi, he] at this
      rw [E0]
      exact this
  have bot : z_fmn (z_vn pf X Y ne) z_MAX N = z_fmn (z_df pf X Y) z_MAX 24 := by
    apply Int64.le_antisymm
    · have pk : z_pk (z_fmx (z_df pf x y) z_MIN 24) (z_fmn (z_df pf x y) z_MAX 24) (2 * (2 * u + 1)) d K1 := by
        right
        rw [hd K1 hK1, e1]
        have b0 := z_di_b hp hk1 hx hy
        have b1 := b0.1; have b2 := b0.2
        have c1 := dist K1 hK1
        have c2 := dist k1 hk1
        have c3 := c1.1; have c4 := c1.2; have c5 := c2.1; have c6 := c2.2
        have ge := (z_fmn_le (z_df pf X Y) z_MAX 24).2 k1 hk1
        rw [E1, fa_le64, z_df_t hp hK1 bX bY, z_df_t hp hk1 bX bY] at ge
        rw [fa_le64, fb_addL (by rw [su, z_df_t hp hk1 bx byy]; omega) (by rw [su, z_df_t hp hk1 bx byy]; omega), su, z_df_t hp hk1 bx byy, z_df_t hp hK1 bx byy]
        omega
      obtain ⟨i, hi, he⟩ := hE K1 hK1 pk
      have := (z_fmn_le (z_vn pf X Y ne) z_MAX N).2 i hi
      rw [vn i hi, he] at this
      rw [E1]
      exact this
    · rcases z_fmn_at (z_vn pf X Y ne) z_MAX N with q | ⟨i, hi, q⟩
      · rw [q]; exact z_le_MAX _
      · rw [q, vn i hi]; exact (z_fmn_le _ _ 24).2 _ (hN i hi).2
  rw [top, bot]
  rfl
/-- what holds at the head of the search -/
def zs_inv (pf : Nat → Int64) (me : Int32) (x y sd rd : Int64) (ml : Nat) (nc : Int32) (nr : Nat → Int32) : Prop :=
  (∃ n, zs_go pf me n = ⟨x, y, sd⟩) ∧ 0 ≤ rd.toInt ∧ rd.toInt + (z_pot pf me ⟨x, y, sd⟩ : Nat) ≤ 1000000000000 ∧ ml ≤ 16 ∧ (ml = 0 ∨ ∃ (N : Nat) (ne : Nat → Nat), N ≤ 24 ∧ nc = nI N ∧ (∀ i, i < N → nr i = nI (ne i)) ∧ (∀ i, i < N → ne i < 24) ∧ z_near pf me x y (ml * sd.toInt) N ne)
section ZS
variable {pf : Nat → Int64} {me : Int32} {x y sd rd : Int64} {ml : Nat} {nc : Int32} {nr : Nat → Int32}
theorem zs_inv.good (h : zs_inv pf me x y sd rd ml nc nr) (hp : zs_hb pf) : z_good pf me ⟨x, y, sd⟩ := by
  obtain ⟨⟨n, hg⟩, -⟩ := h
  have := zs_go_good me hp n
  rw [hg] at this
  exact this
theorem zs_inv0 (hp : zs_hb pf) : zs_inv pf me 0 0 1073741824 0 0 nc nr := by
  have h := z_pot_0 me hp
  refine ⟨⟨0, rfl⟩, by decide, ?_, by decide, Or.inl rfl⟩
  have e : (0 : Int64).toInt = 0 := by decide
  rw [e]
  have h2 : z_pot pf me ⟨0, 0, 1073741824⟩ ≤ 1000000000000 := h
  omega
theorem zs_over (h : zs_inv pf me x y sd rd ml nc nr) : ¬ (1099511627776 : Int64) ≤ rd := by
  obtain ⟨-, h1, h2, -⟩ := h
  rw [fa_le64]
  show ¬ (1099511627776 : Int) ≤ _
  omega
theorem zs_ml (h : zs_inv pf me x y sd rd ml nc nr) (hm : ¬ nI ml = 0) : ∃ (N : Nat) (ne : Nat → Nat), 1 ≤ ml ∧ ml ≤ 16 ∧ N ≤ 24 ∧ nc = nI N ∧ (∀ i, i < N → nr i = nI (ne i)) ∧ (∀ i, i < N → ne i < 24) ∧ z_near pf me x y (ml * sd.toInt) N ne := by
  obtain ⟨-, -, -, h16, h | ⟨N, ne, h1, h2, h3, h4, h5⟩⟩ := h
  · subst h; exact absurd rfl hm
  · have : ¬ ml = 0 := fun z => hm (by rw [z]; rfl)
    exact ⟨N, ne, by omega, h16, h1, h2, h3, h4, h5⟩
theorem zs_u16 (hs : 0 ≤ sd.toInt ∧ sd.toInt ≤ 1073741824) : (sd * 16).toInt = 16 * sd.toInt := by
  have e : (16 : Int64).toInt = 16 := by decide
  rw [fb_mulL (by rw [e]; omega) (by rw [e]; omega), e]; omega
theorem zs_pk (h : zs_inv pf me x y sd rd ml nc nr) (hp : zs_hb pf) (dq : Nat → Int64) (nq : Nat → Int32) : ∃ (N : Nat) (ne : Nat → Nat) (n1 : Nat → Int32), 1 ≤ 16 ∧ 16 ≤ 16 ∧ N ≤ 24 ∧ z_nN (z_fmx (z_df pf x y) (-9223372036854775808) 24) (z_fmn (z_df pf x y) 9223372036854775807 24) (2 * (2 * (sd * 16) + 1)) (z_fil (z_df pf x y) dq 24) 24 = N ∧ z_nA (z_fmx (z_df pf x y) (-9223372036854775808) 24) (z_fmn (z_df pf x y) 9223372036854775807 24) (2 * (2 * (sd * 16) + 1)) (z_fil (z_df pf x y) dq 24) nq 24 = n1 ∧ (∀ i, i < N → n1 i = nI (ne i)) ∧ (∀ i, i < N → ne i < 24) ∧ z_near pf me x y ((16 : Nat) * sd.toInt) N ne := by
  have g := h.good hp
  have hu := zs_u16 (sd := sd) g.2.2.1
  have h1 := z_pick (me := me) (d := z_fil (z_df pf x y) dq 24) (u := sd * 16) hp (fun k hk => z_fil_lt hk) g.1 g.2.1 (by have := g.2.2.1; dsimp only at this; rw [hu]; omega)
  rw [hu] at h1
  have h2 := z_nE_p (z_fmx (z_df pf x y) (-9223372036854775808) 24) (z_fmn (z_df pf x y) 9223372036854775807 24) (2 * (2 * (sd * 16) + 1)) (z_fil (z_df pf x y) dq 24) nq 24
  exact ⟨_, _, _, by decide, by decide, z_nN_le _ _ _ _ 24, rfl, rfl, fun i hi => (h2.1 i hi).1, fun i hi => (h2.1 i hi).2, h1⟩
theorem zs_mls (ml : Nat) (hm : 1 ≤ ml) {t : Int} (ht : 0 ≤ t) : t ≤ ml * t := by
  have := Int.mul_nonneg (show 0 ≤ (ml : Int) - 1 by omega) ht
  rw [Int.sub_mul, Int.one_mul] at this
  omega
theorem zs_in {i : Nat} (g : z_good pf me ⟨x, y, sd⟩) (hi : i < 8) : z_in sd.toInt ((x + sd * (z_tv 2 i).toInt64).toInt - x.toInt) ∧ z_in sd.toInt ((y + sd * (z_tv 3 i).toInt64).toInt - y.toInt) := by
  obtain ⟨g1, g2, g3, -⟩ := g
  dsimp only at g1 g2 g3
  obtain ⟨t1, t2⟩ := z_ways i hi
  have a1 := g1.1; have a2 := g1.2; have a3 := g2.1; have a4 := g2.2
  have m1 := z_mv (x := x) ⟨by omega, by omega⟩ g3 t1
  have m2 := z_mv (x := y) ⟨by omega, by omega⟩ g3 t2
  have b1 := m1.2.1; have b2 := m1.2.2; have b3 := m2.2.1; have b4 := m2.2.2
  rw [m1.1, m2.1]
  exact ⟨⟨by omega, by omega⟩, ⟨by omega, by omega⟩⟩
theorem zs_cl {m2 N : Nat} {ne : Nat → Nat} (h : zs_inv pf me x y sd rd ml nc nr) (hp : zs_hb pf) (hm : 1 ≤ m2) (hn : z_near pf me x y (m2 * sd.toInt) N ne) {i : Nat} (hi : i < 8) : z_vo me (z_fmx (z_vn pf (x + sd * (z_tv 2 i).toInt64) (y + sd * (z_tv 3 i).toInt64) ne) (-9223372036854775808) N) (z_fmn (z_vn pf (x + sd * (z_tv 2 i).toInt64) (y + sd * (z_tv 3 i).toInt64) ne) 9223372036854775807 N) = zs_D pf me x y sd i := by
  have g := h.good hp
  obtain ⟨h1, h2⟩ := zs_in g hi
  have h3 := zs_mls m2 hm g.2.2.1.1
  dsimp only at h3
  have b1 := h1.1; have b2 := h1.2; have b3 := h2.1; have b4 := h2.2
  exact hn _ _ ⟨by omega, by omega⟩ ⟨by omega, by omega⟩
theorem zs_rd (h : zs_inv pf me x y sd rd ml nc nr) : (rd + 1).toInt = rd.toInt + 1 := by
  obtain ⟨-, h1, h2, -⟩ := h
  exact fb_addL (y := 1) (by show _ ≤ _ + (1 : Int); omega) (by show _ + (1 : Int) < _; omega)
theorem zs_next (h : zs_inv pf me x y sd rd ml nc nr) (hp : zs_hb pf) (hs : ¬ sd < 1) {x1 y1 s1 : Int64} (e : z_stp pf me ⟨x, y, sd⟩ = ⟨x1, y1, s1⟩) : (∃ n, zs_go pf me n = ⟨x1, y1, s1⟩) ∧ 0 ≤ (rd + 1).toInt ∧ (rd + 1).toInt + (z_pot pf me ⟨x1, y1, s1⟩ : Nat) ≤ 1000000000000 ∧ z_pot pf me ⟨x1, y1, s1⟩ < z_pot pf me ⟨x, y, sd⟩ := by
  have hl := (z_stp_good hp (h.good hp) hs).2
  rw [e] at hl
  rw [zs_rd h]
  obtain ⟨⟨n, hg⟩, h1, h2, -⟩ := h
  exact ⟨⟨n + 1, by rw [zs_go_s hg hs, e]⟩, by omega, by omega, hl⟩
theorem zs_invH {n1 : Int32} {r1 : Nat → Int32} (h : zs_inv pf me x y sd rd ml nc nr) (hp : zs_hb pf) (hs : ¬ sd < 1) (hb : z_bw (zs_D pf me x y sd) (z_F pf me x y) 8 = -1) : zs_inv pf me x y (sd / 2) (rd + 1) 0 n1 r1 ∧ z_pot pf me ⟨x, y, sd / 2⟩ < z_pot pf me ⟨x, y, sd⟩ := by
  obtain ⟨h1, h2, h3, h4⟩ := zs_next h hp hs (z_stp_0 hb)
  exact ⟨⟨h1, h2, h3, by decide, Or.inl rfl⟩, h4⟩
theorem zs_invM {w m2 N : Nat} {ne : Nat → Nat} {r1 : Nat → Int32} (h : zs_inv pf me x y sd rd ml nc nr) (hp : zs_hb pf) (hs : ¬ sd < 1) (hw : w < 8) (hb : z_bw (zs_D pf me x y sd) (z_F pf me x y) 8 = nI w) (hm : 1 ≤ m2) (h16 : m2 ≤ 16) (hN : N ≤ 24) (hnr : ∀ i, i < N → r1 i = nI (ne i)) (hne : ∀ i, i < N → ne i < 24) (hn : z_near pf me x y (m2 * sd.toInt) N ne) :
    zs_inv pf me (x + sd * (z_tv 2 w).toInt64) (y + sd * (z_tv 3 w).toInt64) sd (rd + 1) (m2 - 1) (nI N) r1 ∧ z_pot pf me ⟨x + sd * (z_tv 2 w).toInt64, y + sd * (z_tv 3 w).toInt64, sd⟩ < z_pot pf me ⟨x, y, sd⟩ := by
  obtain ⟨h1, h2, h3, h4⟩ := zs_next h hp hs (z_stp_w hw hb)
  obtain ⟨i1, i2⟩ := zs_in (h.good hp) hw
  refine ⟨⟨h1, h2, h3, by omega, Or.inr ⟨N, ne, hN, rfl, hnr, hne, ?_⟩⟩, h4⟩
  have q := hn.move i1 i2
  have e : (m2 : Int) * sd.toInt - sd.toInt = ((m2 - 1 : Nat) : Int) * sd.toInt := by
    rw [show ((m2 - 1 : Nat) : Int) = (m2 : Int) - 1 by omega, Int.sub_mul, Int.one_mul]
  rw [e] at q
  exact q
theorem zs_b1 {D : Nat → Int64} {v : Int64} {i : Nat} (h : ¬ z_fmn D v i ≤ D i) : z_bw D v (i + 1) = nI i ∧ z_fmn D v (i + 1) = D i := ⟨if_pos (Int64.not_le.mp h), if_pos (Int64.not_le.mp h)⟩
theorem zs_b0 {D : Nat → Int64} {v : Int64} {i : Nat} (h : z_fmn D v i ≤ D i) : z_bw D v (i + 1) = z_bw D v i ∧ z_fmn D v (i + 1) = z_fmn D v i := ⟨if_neg (Int64.not_lt.mpr h), if_neg (Int64.not_lt.mpr h)⟩
theorem zs_dec {n : Nat} (h1 : 1 ≤ n) (h2 : n < 2 ^ 31) : nI n + Int32.ofInt (-1) = nI (n - 1) := by
  rw [fa_eq, fb_addI (by rw [nI_toInt h2]; show _ ≤ _ + (-1 : Int); omega) (by rw [nI_toInt h2]; show _ + (-1 : Int) < _; omega), nI_toInt h2, nI_toInt (by omega)]
  show (n : Int) + (-1) = _
  omega
theorem zs_end {σ : z_St} {b : Nat} {gr lo : Int64} {dv : Nat → Int64} (h : zs_inv pf me x y sd rd ml nc nr) (hs : sd < 1) {n1 : Int32} {r1 : Nat → Int32} : ∃ nc' gr' lo' dv' nr', z_cU σ b me n1 x y gr lo pf dv r1 = z_cU σ b me nc' (z_ce pf me).1 (z_ce pf me).2.1 gr' lo' pf dv' nr' := by
  obtain ⟨⟨n, hg⟩, -⟩ := h
  exact ⟨n1, gr, lo, dv, r1, by rw [z_ce_eq hg hs]⟩
end ZS
section ZR
variable {p : Program} {l : Launch} {e : Env} {R : Room} {s : State} {m : MethodId} {args : Array Value} {below : List Frame} {meth : Method} {c : Code} {G : z_Gl} {ce sl : Nat} {Q : State → Prop} {nL : Nat} {lv : List (Nat × Value)} {st : List Value} {σ : z_St} {cc : ByteArray} {own : String} {ret : Option FieldType}
theorem z_lp10 {A0 A1 A2 A3 A4 A5 A6 A7 A8 A9 : Type} {pc : Nat} (I : A0 → A1 → A2 → A3 → A4 → A5 → A6 → A7 → A8 → A9 → Prop) (μ : A0 → A1 → A2 → A3 → A4 → A5 → A6 → A7 → A8 → A9 → Nat) (LV : A0 → A1 → A2 → A3 → A4 → A5 → A6 → A7 → A8 → A9 → List (Nat × Value)) (S : A0 → A1 → A2 → A3 → A4 → A5 → A6 → A7 → A8 → A9 → z_St) (body : ∀ a0 a1 a2 a3 a4 a5 a6 a7 a8 a9, I a0 a1 a2 a3 a4 a5 a6 a7 a8 a9 → (∀ b0 b1 b2 b3 b4 b5 b6 b7 b8 b9, I b0 b1 b2 b3 b4 b5 b6 b7 b8 b9 → μ b0 b1 b2 b3 b4 b5 b6 b7 b8 b9 < μ a0 a1 a2 a3 a4 a5 a6 a7 a8 a9 → z_V p l e R s m args below meth c G ce sl Q nL pc (LV b0 b1 b2 b3 b4 b5 b6 b7 b8 b9) st (S b0 b1 b2 b3 b4 b5 b6 b7 b8 b9)) → z_V p l e R s m args below meth c G ce sl Q nL pc (LV a0 a1 a2 a3 a4 a5 a6 a7 a8 a9) st (S a0 a1 a2 a3 a4 a5 a6 a7 a8 a9)) (a0 : A0) ( a1 : A1) ( a2 : A2) ( a3 : A3) ( a4 : A4) ( a5 : A5) ( a6 : A6) ( a7 : A7) ( a8 : A8) ( a9 : A9) (h : I a0 a1 a2 a3 a4 a5 a6 a7 a8 a9) : z_V p l e R s m args below meth c G ce sl Q nL pc (LV a0 a1 a2 a3 a4 a5 a6 a7 a8 a9) st (S a0 a1 a2 a3 a4 a5 a6 a7 a8 a9) :=
  z_lp1 (A := A0 × A1 × A2 × A3 × A4 × A5 × A6 × A7 × A8 × A9) (fun q => I q.1 q.2.1 q.2.2.1 q.2.2.2.1 q.2.2.2.2.1 q.2.2.2.2.2.1 q.2.2.2.2.2.2.1 q.2.2.2.2.2.2.2.1 q.2.2.2.2.2.2.2.2.1 q.2.2.2.2.2.2.2.2.2) (fun q => μ q.1 q.2.1 q.2.2.1 q.2.2.2.1 q.2.2.2.2.1 q.2.2.2.2.2.1 q.2.2.2.2.2.2.1 q.2.2.2.2.2.2.2.1 q.2.2.2.2.2.2.2.2.1 q.2.2.2.2.2.2.2.2.2) (fun q => LV q.1 q.2.1 q.2.2.1 q.2.2.2.1 q.2.2.2.2.1 q.2.2.2.2.2.1 q.2.2.2.2.2.2.1 q.2.2.2.2.2.2.2.1 q.2.2.2.2.2.2.2.2.1 q.2.2.2.2.2.2.2.2.2) (fun q => S q.1 q.2.1 q.2.2.1 q.2.2.2.1 q.2.2.2.2.1 q.2.2.2.2.2.1 q.2.2.2.2.2.2.1 q.2.2.2.2.2.2.2.1 q.2.2.2.2.2.2.2.2.1 q.2.2.2.2.2.2.2.2.2) (fun q hq ih => body q.1 q.2.1 q.2.2.1 q.2.2.2.1 q.2.2.2.2.1 q.2.2.2.2.2.1 q.2.2.2.2.2.2.1 q.2.2.2.2.2.2.2.1 q.2.2.2.2.2.2.2.2.1 q.2.2.2.2.2.2.2.2.2 hq (fun b0 b1 b2 b3 b4 b5 b6 b7 b8 b9 => ih (b0, b1, b2, b3, b4, b5, b6, b7, b8, b9))) (a0, a1, a2, a3, a4, a5, a6, a7, a8, a9) h
end ZR
theorem dX0_search_0 : decode cX0_search 0 = .ok (.aload_n 0, 1) := by decide +kernel
theorem dX0_search_1 : decode cX0_search 1 = .ok (.lconst 0, 1) := by decide +kernel
theorem dX0_search_2 : decode cX0_search 2 = .ok (.putfield 29, 3) := by decide +kernel
theorem dX0_search_5 : decode cX0_search 5 = .ok (.aload_n 0, 1) := by decide +kernel
theorem dX0_search_6 : decode cX0_search 6 = .ok (.lconst 0, 1) := by decide +kernel
theorem dX0_search_7 : decode cX0_search 7 = .ok (.putfield 33, 3) := by decide +kernel
theorem dX0_search_10 : decode cX0_search 10 = .ok (.aload_n 0, 1) := by decide +kernel
theorem dX0_search_11 : decode cX0_search 11 = .ok (.invokevirtual 59, 3) := by decide +kernel
theorem dX0_search_14 : decode cX0_search 14 = .ok (.aload_n 0, 1) := by decide +kernel
theorem dX0_search_15 : decode cX0_search 15 = .ok (.aload_n 0, 1) := by decide +kernel
theorem dX0_search_16 : decode cX0_search 16 = .ok (.getfield 36, 3) := by decide +kernel
theorem dX0_search_19 : decode cX0_search 19 = .ok (.aload_n 0, 1) := by decide +kernel
theorem dX0_search_20 : decode cX0_search 20 = .ok (.getfield 39, 3) := by decide +kernel
theorem dX0_search_23 : decode cX0_search 23 = .ok (.invokevirtual 62, 3) := by decide +kernel
theorem dX0_search_26 : decode cX0_search 26 = .ok (.lstore_n 1, 1) := by decide +kernel
theorem dX0_search_27 : decode cX0_search 27 = .ok (.ldc2_w 66, 3) := by decide +kernel
theorem dX0_search_30 : decode cX0_search 30 = .ok (.lstore_n 3, 1) := by decide +kernel
theorem dX0_search_31 : decode cX0_search 31 = .ok (.iconst 0, 1) := by decide +kernel
theorem dX0_search_32 : decode cX0_search 32 = .ok (.istore 5, 2) := by decide +kernel
theorem dX0_search_34 : decode cX0_search 34 = .ok (.lconst 0, 1) := by decide +kernel
theorem dX0_search_35 : decode cX0_search 35 = .ok (.lstore 6, 2) := by decide +kernel
theorem dX0_search_37 : decode cX0_search 37 = .ok (.lload 6, 2) := by decide +kernel
theorem dX0_search_39 : decode cX0_search 39 = .ok (.ldc2_w 68, 3) := by decide +kernel
theorem dX0_search_42 : decode cX0_search 42 = .ok (.lcmp, 1) := by decide +kernel
theorem dX0_search_43 : decode cX0_search 43 = .ok (.ifCond .ge 166, 3) := by decide +kernel
theorem dX0_search_46 : decode cX0_search 46 = .ok (.lload_n 3, 1) := by decide +kernel
theorem dX0_search_47 : decode cX0_search 47 = .ok (.lconst 1, 1) := by decide +kernel
theorem dX0_search_48 : decode cX0_search 48 = .ok (.lcmp, 1) := by decide +kernel
theorem dX0_search_49 : decode cX0_search 49 = .ok (.ifCond .lt 160, 3) := by decide +kernel
theorem dX0_search_52 : decode cX0_search 52 = .ok (.iload 5, 2) := by decide +kernel
theorem dX0_search_54 : decode cX0_search 54 = .ok (.ifCond .ne 20, 3) := by decide +kernel
theorem dX0_search_57 : decode cX0_search 57 = .ok (.bipush 16, 2) := by decide +kernel
theorem dX0_search_59 : decode cX0_search 59 = .ok (.istore 5, 2) := by decide +kernel
theorem dX0_search_61 : decode cX0_search 61 = .ok (.aload_n 0, 1) := by decide +kernel
theorem dX0_search_62 : decode cX0_search 62 = .ok (.invokevirtual 59, 3) := by decide +kernel
theorem dX0_search_65 : decode cX0_search 65 = .ok (.aload_n 0, 1) := by decide +kernel
theorem dX0_search_66 : decode cX0_search 66 = .ok (.lload_n 3, 1) := by decide +kernel
theorem dX0_search_67 : decode cX0_search 67 = .ok (.ldc2_w 70, 3) := by decide +kernel
theorem dX0_search_70 : decode cX0_search 70 = .ok (.lmul, 1) := by decide +kernel
theorem dX0_search_71 : decode cX0_search 71 = .ok (.invokevirtual 72, 3) := by decide +kernel
theorem dX0_search_74 : decode cX0_search 74 = .ok (.iconst (-1), 1) := by decide +kernel
theorem dX0_search_75 : decode cX0_search 75 = .ok (.istore 8, 2) := by decide +kernel
theorem dX0_search_77 : decode cX0_search 77 = .ok (.iconst 0, 1) := by decide +kernel
theorem dX0_search_78 : decode cX0_search 78 = .ok (.istore 9, 2) := by decide +kernel
theorem dX0_search_80 : decode cX0_search 80 = .ok (.iload 9, 2) := by decide +kernel
theorem dX0_search_82 : decode cX0_search 82 = .ok (.getstatic 76, 3) := by decide +kernel
theorem dX0_search_85 : decode cX0_search 85 = .ok (.arraylength, 1) := by decide +kernel
theorem dX0_search_86 : decode cX0_search 86 = .ok (.if_icmp .ge 57, 3) := by decide +kernel
theorem dX0_search_89 : decode cX0_search 89 = .ok (.aload_n 0, 1) := by decide +kernel
theorem dX0_search_90 : decode cX0_search 90 = .ok (.aload_n 0, 1) := by decide +kernel
theorem dX0_search_91 : decode cX0_search 91 = .ok (.getfield 29, 3) := by decide +kernel
theorem dX0_search_94 : decode cX0_search 94 = .ok (.lload_n 3, 1) := by decide +kernel
theorem dX0_search_95 : decode cX0_search 95 = .ok (.getstatic 76, 3) := by decide +kernel
theorem dX0_search_98 : decode cX0_search 98 = .ok (.iload 9, 2) := by decide +kernel
theorem dX0_search_100 : decode cX0_search 100 = .ok (.iaload, 1) := by decide +kernel
theorem dX0_search_101 : decode cX0_search 101 = .ok (.i2l, 1) := by decide +kernel
theorem dX0_search_102 : decode cX0_search 102 = .ok (.lmul, 1) := by decide +kernel
theorem dX0_search_103 : decode cX0_search 103 = .ok (.ladd, 1) := by decide +kernel
theorem dX0_search_104 : decode cX0_search 104 = .ok (.aload_n 0, 1) := by decide +kernel
theorem dX0_search_105 : decode cX0_search 105 = .ok (.getfield 33, 3) := by decide +kernel
theorem dX0_search_108 : decode cX0_search 108 = .ok (.lload_n 3, 1) := by decide +kernel
theorem dX0_search_109 : decode cX0_search 109 = .ok (.getstatic 79, 3) := by decide +kernel
theorem dX0_search_112 : decode cX0_search 112 = .ok (.iload 9, 2) := by decide +kernel
theorem dX0_search_114 : decode cX0_search 114 = .ok (.iaload, 1) := by decide +kernel
theorem dX0_search_115 : decode cX0_search 115 = .ok (.i2l, 1) := by decide +kernel
theorem dX0_search_116 : decode cX0_search 116 = .ok (.lmul, 1) := by decide +kernel
theorem dX0_search_117 : decode cX0_search 117 = .ok (.ladd, 1) := by decide +kernel
theorem dX0_search_118 : decode cX0_search 118 = .ok (.invokevirtual 82, 3) := by decide +kernel
theorem dX0_search_121 : decode cX0_search 121 = .ok (.lstore 10, 2) := by decide +kernel
theorem dX0_search_123 : decode cX0_search 123 = .ok (.lload 10, 2) := by decide +kernel
theorem dX0_search_125 : decode cX0_search 125 = .ok (.lload_n 1, 1) := by decide +kernel
theorem dX0_search_126 : decode cX0_search 126 = .ok (.lcmp, 1) := by decide +kernel
theorem dX0_search_127 : decode cX0_search 127 = .ok (.ifCond .ge 10, 3) := by decide +kernel
theorem dX0_search_130 : decode cX0_search 130 = .ok (.lload 10, 2) := by decide +kernel
theorem dX0_search_132 : decode cX0_search 132 = .ok (.lstore_n 1, 1) := by decide +kernel
theorem dX0_search_133 : decode cX0_search 133 = .ok (.iload 9, 2) := by decide +kernel
theorem dX0_search_135 : decode cX0_search 135 = .ok (.istore 8, 2) := by decide +kernel
theorem dX0_search_137 : decode cX0_search 137 = .ok (.iinc 9 1, 3) := by decide +kernel
theorem dX0_search_140 : decode cX0_search 140 = .ok (.goto (-60), 3) := by decide +kernel
theorem dX0_search_143 : decode cX0_search 143 = .ok (.iload 8, 2) := by decide +kernel
theorem dX0_search_145 : decode cX0_search 145 = .ok (.iconst (-1), 1) := by decide +kernel
theorem dX0_search_146 : decode cX0_search 146 = .ok (.if_icmp .ne 15, 3) := by decide +kernel
theorem dX0_search_149 : decode cX0_search 149 = .ok (.lload_n 3, 1) := by decide +kernel
theorem dX0_search_150 : decode cX0_search 150 = .ok (.ldc2_w 85, 3) := by decide +kernel
theorem dX0_search_153 : decode cX0_search 153 = .ok (.ldiv, 1) := by decide +kernel
theorem dX0_search_154 : decode cX0_search 154 = .ok (.lstore_n 3, 1) := by decide +kernel
theorem dX0_search_155 : decode cX0_search 155 = .ok (.iconst 0, 1) := by decide +kernel
theorem dX0_search_156 : decode cX0_search 156 = .ok (.istore 5, 2) := by decide +kernel
theorem dX0_search_158 : decode cX0_search 158 = .ok (.goto 42, 3) := by decide +kernel
theorem dX0_search_161 : decode cX0_search 161 = .ok (.aload_n 0, 1) := by decide +kernel
theorem dX0_search_162 : decode cX0_search 162 = .ok (.dup, 1) := by decide +kernel
theorem dX0_search_163 : decode cX0_search 163 = .ok (.getfield 29, 3) := by decide +kernel
theorem dX0_search_166 : decode cX0_search 166 = .ok (.lload_n 3, 1) := by decide +kernel
theorem dX0_search_167 : decode cX0_search 167 = .ok (.getstatic 76, 3) := by decide +kernel
theorem dX0_search_170 : decode cX0_search 170 = .ok (.iload 8, 2) := by decide +kernel
theorem dX0_search_172 : decode cX0_search 172 = .ok (.iaload, 1) := by decide +kernel
theorem dX0_search_173 : decode cX0_search 173 = .ok (.i2l, 1) := by decide +kernel
theorem dX0_search_174 : decode cX0_search 174 = .ok (.lmul, 1) := by decide +kernel
theorem dX0_search_175 : decode cX0_search 175 = .ok (.ladd, 1) := by decide +kernel
theorem dX0_search_176 : decode cX0_search 176 = .ok (.putfield 29, 3) := by decide +kernel
theorem dX0_search_179 : decode cX0_search 179 = .ok (.aload_n 0, 1) := by decide +kernel
theorem dX0_search_180 : decode cX0_search 180 = .ok (.dup, 1) := by decide +kernel
theorem dX0_search_181 : decode cX0_search 181 = .ok (.getfield 33, 3) := by decide +kernel
theorem dX0_search_184 : decode cX0_search 184 = .ok (.lload_n 3, 1) := by decide +kernel
theorem dX0_search_185 : decode cX0_search 185 = .ok (.getstatic 79, 3) := by decide +kernel
theorem dX0_search_188 : decode cX0_search 188 = .ok (.iload 8, 2) := by decide +kernel
theorem dX0_search_190 : decode cX0_search 190 = .ok (.iaload, 1) := by decide +kernel
theorem dX0_search_191 : decode cX0_search 191 = .ok (.i2l, 1) := by decide +kernel
theorem dX0_search_192 : decode cX0_search 192 = .ok (.lmul, 1) := by decide +kernel
theorem dX0_search_193 : decode cX0_search 193 = .ok (.ladd, 1) := by decide +kernel
theorem dX0_search_194 : decode cX0_search 194 = .ok (.putfield 33, 3) := by decide +kernel
theorem dX0_search_197 : decode cX0_search 197 = .ok (.iinc 5 (-1), 3) := by decide +kernel
theorem dX0_search_200 : decode cX0_search 200 = .ok (.lload 6, 2) := by decide +kernel
theorem dX0_search_202 : decode cX0_search 202 = .ok (.lconst 1, 1) := by decide +kernel
theorem dX0_search_203 : decode cX0_search 203 = .ok (.ladd, 1) := by decide +kernel
theorem dX0_search_204 : decode cX0_search 204 = .ok (.lstore 6, 2) := by decide +kernel
theorem dX0_search_206 : decode cX0_search 206 = .ok (.goto (-169), 3) := by decide +kernel
theorem dX0_search_209 : decode cX0_search 209 = .ok (.return_, 1) := by decide +kernel
set_option maxRecDepth 100000 in
set_option maxHeartbeats 4000000 in
theorem m_X0_search {l : Launch} {G : z_Gl} {σ : z_St} (b : Nat) (hb : z_iC b) (me nc : Int32) (x y gr lo : Int64) (pf dv : Nat → Int64) (nr : Nat → Int32) (hp : zs_hb pf) : z_M l G yX0_search cX0_search 12 none (z_rm 3 73) [.ref (z_ad G b)] (z_cU σ b me nc x y gr lo pf dv nr) (fun v σ1 => v = none ∧ ∃ nc1 gr1 lo1 dv1 nr1, σ1 = z_cU σ b me nc1 (z_ce pf me).1 (z_ce pf me).2.1 gr1 lo1 pf dv1 nr1) := by
  refine z_M.of (by decide) (Nat.le_of_ble_eq_true rfl) (fun p e s m below meth c C => ?_)
  refine z_sub [0] (lv1 := [(0, .ref (z_ad G b))]) rfl ?_
  refine z_aload_n 0 C dX0_search_0 0 rfl ?_
  refine z_lconst 1 C dX0_search_1 0 rfl ?_
  refine z_putl 2 C b z_dX0 (z_cC hb) 5 (by decide) q241 rfl (rfl) rfl ⟨Nat.le_of_ble_eq_true rfl, rfl⟩ dX0_search_2 ?_
  refine z_cv (σ1 := z_cU σ b me nc 0 y gr lo pf dv nr) rfl rfl z_cU_px ?_
  refine z_aload_n 5 C dX0_search_5 0 rfl ?_
  refine z_lconst 6 C dX0_search_6 0 rfl ?_
  refine z_putl 7 C b z_dX0 (z_cC hb) 6 (by decide) q243 rfl (rfl) rfl ⟨Nat.le_of_ble_eq_true rfl, rfl⟩ dX0_search_7 ?_
  refine z_cv (σ1 := z_cU σ b me nc 0 0 gr lo pf dv nr) rfl rfl z_cU_py ?_
  refine z_aload_n 10 C dX0_search_10 0 rfl ?_
  refine z_callV 11 C b (⟨(z_cC hb).1, by rw [(z_cC hb).2]; rfl⟩) rfl (As := []) (rest := []) (@m_X0_measure _ _ σ b (hb) me nc 0 0 gr lo pf dv nr ) k_X0_measure q660 ⟨rfl, rfl⟩ ⟨Nat.le_of_ble_eq_true rfl, Nat.le_of_ble_eq_true rfl⟩ rfl (Nat.le_of_ble_eq_true rfl) ⟨Nat.le_of_ble_eq_true rfl, Nat.le_of_ble_eq_true rfl⟩ rfl dX0_search_11 (z_k0 ?_)
  refine z_aload_n 14 C dX0_search_14 0 rfl ?_
  refine z_aload_n 15 C dX0_search_15 0 rfl ?_
  refine z_getf 16 C b z_dX0 (z_cC hb) 7 (by decide) q245 (.long (z_fmx (z_df pf 0 0) (-9223372036854775808) 24)) (z_cl z_cU_g) dX0_search_16 ?_
  refine z_aload_n 19 C dX0_search_19 0 rfl ?_
  refine z_getf 20 C b z_dX0 (z_cC hb) 8 (by decide) q247 (.long (z_fmn (z_df pf 0 0) 9223372036854775807 24)) (z_cl z_cU_l) dX0_search_20 ?_
  refine z_callV 23 C b (⟨(z_cC hb).1, by rw [(z_cC hb).2]; rfl⟩) rfl (As := [.long (z_fmx (z_df pf 0 0) (-9223372036854775808) 24), .long (z_fmn (z_df pf 0 0) 9223372036854775807 24)]) (rest := []) (@m_X0_valueOf _ _ σ b (hb) me nc 0 0 (z_fmx (z_df pf 0 0) (-9223372036854775808) 24) (z_fmn (z_df pf 0 0) 9223372036854775807 24) pf (z_fil (z_df pf 0 0) dv 24) nr (z_fmx (z_df pf 0 0) (-9223372036854775808) 24) (z_fmn (z_df pf 0 0) 9223372036854775807 24)) k_X0_valueOf q671 ⟨rfl, rfl⟩ ⟨Nat.le_of_ble_eq_true rfl, Nat.le_of_ble_eq_true rfl⟩ rfl (Nat.le_of_ble_eq_true rfl) ⟨Nat.le_of_ble_eq_true rfl, Nat.le_of_ble_eq_true rfl⟩ rfl dX0_search_23 (z_k1 ?_)
  refine z_lstore_n 26 C dX0_search_26 [(1, .long (z_vo me (z_fmx (z_df pf 0 0) (-9223372036854775808) 24) (z_fmn (z_df pf 0 0) 9223372036854775807 24))), (0, .ref (z_ad G b))] (by decide) rfl ?_
  refine z_ldc2 27 C dX0_search_27 q675 ?_
  refine z_lstore_n 30 C dX0_search_30 [(3, .long 1073741824), (1, .long (z_vo me (z_fmx (z_df pf 0 0) (-9223372036854775808) 24) (z_fmn (z_df pf 0 0) 9223372036854775807 24))), (0, .ref (z_ad G b))] (by decide) rfl ?_
  refine z_iconst 31 C dX0_search_31 (nI 0) rfl ?_
  refine z_istore 32 C dX0_search_32 [(5, .int (nI 0)), (3, .long 1073741824), (1, .long (z_vo me (z_fmx (z_df pf 0 0) (-9223372036854775808) 24) (z_fmn (z_df pf 0 0) 9223372036854775807 24))), (0, .ref (z_ad G b))] (by decide) rfl ?_
  refine z_lconst 34 C dX0_search_34 0 rfl ?_
  refine z_lstore 35 C dX0_search_35 [(6, .long 0), (5, .int (nI 0)), (3, .long 1073741824), (1, .long (z_vo me (z_fmx (z_df pf 0 0) (-9223372036854775808) 24) (z_fmn (z_df pf 0 0) 9223372036854775807 24))), (0, .ref (z_ad G b))] (by decide) rfl ?_
  refine z_sub [4, 3, 2, 1, 0] (lv1 := [(0, .ref (z_ad G b)), (1, .long (z_vo me (z_fmx (z_df pf 0 0) (-9223372036854775808) 24) (z_fmn (z_df pf 0 0) 9223372036854775807 24))), (3, .long 1073741824), (5, .int (nI 0)), (6, .long 0)]) rfl ?_
  refine z_cv (lv1 := [(0, .ref (z_ad G b)), (1, .long (z_F pf me 0 0)), (3, .long 1073741824), (5, .int (nI 0)), (6, .long 0)]) (st1 := []) (σ1 := z_cU σ b me nc 0 0 (z_fmx (z_df pf 0 0) (-9223372036854775808) 24) (z_fmn (z_df pf 0 0) 9223372036854775807 24) pf (z_fil (z_df pf 0 0) dv 24) nr) rfl rfl rfl ?_
  refine z_lp10 (fun (xx : Int64) (yy : Int64) (sd : Int64) (rd : Int64) (ml : Nat) (ncq : Int32) (gq : Int64) (lq : Int64) (dq : Nat → Int64) (nq : Nat → Int32) => zs_inv pf me xx yy sd rd ml ncq nq) (fun (xx : Int64) (yy : Int64) (sd : Int64) (rd : Int64) (ml : Nat) (ncq : Int32) (gq : Int64) (lq : Int64) (dq : Nat → Int64) (nq : Nat → Int32) => z_pot pf me ⟨xx, yy, sd⟩) (fun (xx : Int64) (yy : Int64) (sd : Int64) (rd : Int64) (ml : Nat) (ncq : Int32) (gq : Int64) (lq : Int64) (dq : Nat → Int64) (nq : Nat → Int32) => [(0, .ref (z_ad G b)), (1, .long (z_F pf me xx yy)), (3, .long sd), (5, .int (nI ml)), (6, .long rd)]) (fun (xx : Int64) (yy : Int64) (sd : Int64) (rd : Int64) (ml : Nat) (ncq : Int32) (gq : Int64) (lq : Int64) (dq : Nat → Int64) (nq : Nat → Int32) => z_cU σ b me ncq xx yy gq lq pf dq nq) (fun xx yy sd rd ml ncq gq lq dq nq hi_37 ih_37 => ?_) 0 0 1073741824 0 0 nc (z_fmx (z_df pf 0 0) (-9223372036854775808) 24) (z_fmn (z_df pf 0 0) 9223372036854775807 24) (z_fil (z_df pf 0 0) dv 24) nr (zs_inv0 hp)
  try dsimp only
  refine z_lload 37 C dX0_search_37 4 rfl ?_
  refine z_ldc2 39 C dX0_search_39 q676 ?_
  refine z_lcmp_ge 42 C 209 dX0_search_42 dX0_search_43 (by decide) (fun c42 => ?_) (fun c42 => ?_)
  · skip
    exact absurd c42 (zs_over hi_37)
  · skip
    refine z_lload_n 46 C dX0_search_46 2 rfl ?_
    refine z_lconst 47 C dX0_search_47 1 rfl ?_
    refine z_lcmp_lt 48 C 209 dX0_search_48 dX0_search_49 (by decide) (fun c48 => ?_) (fun c48 => ?_)
    · skip
      refine z_vret 209 C dX0_search_209 ?_
      exact ⟨rfl, zs_end hi_37 c48⟩
    · skip
      refine z_iload 52 C dX0_search_52 3 rfl ?_
      refine z_if_ne 54 C 74 dX0_search_54 (by decide) (fun c54 => ?_) (fun c54 => ?_)
      · skip
        obtain ⟨N, ne, hm1, hm16, hN, hnc, hnr, hne, hnear⟩ := zs_ml hi_37 c54
        refine z_cv (lv1 := [(0, .ref (z_ad G b)), (1, .long (z_F pf me xx yy)), (3, .long sd), (5, .int (nI ml)), (6, .long rd)]) (st1 := []) (σ1 := z_cU σ b me (nI N) xx yy gq lq pf dq nq) rfl rfl (by rw [hnc]) ?_
        refine z_iconst 74 C dX0_search_74 (-1) rfl ?_
        refine z_istore 75 C dX0_search_75 [(8, .int (-1)), (0, .ref (z_ad G b)), (1, .long (z_F pf me xx yy)), (3, .long sd), (5, .int (nI ml)), (6, .long rd)] (by decide) rfl ?_
        refine z_iconst 77 C dX0_search_77 (nI 0) rfl ?_
        refine z_istore 78 C dX0_search_78 [(9, .int (nI 0)), (8, .int (-1)), (0, .ref (z_ad G b)), (1, .long (z_F pf me xx yy)), (3, .long sd), (5, .int (nI ml)), (6, .long rd)] (by decide) rfl ?_
        refine z_sub [2, 3, 4, 5, 6, 1, 0] (lv1 := [(0, .ref (z_ad G b)), (1, .long (z_F pf me xx yy)), (3, .long sd), (5, .int (nI ml)), (6, .long rd), (8, .int (-1)), (9, .int (nI 0))]) rfl ?_
        refine z_cv (lv1 := [(0, .ref (z_ad G b)), (1, .long (z_fmn (zs_D pf me xx yy sd) (z_F pf me xx yy) 0)), (3, .long sd), (5, .int (nI ml)), (6, .long rd), (8, .int (z_bw (zs_D pf me xx yy sd) (z_F pf me xx yy) 0)), (9, .int (nI 0))]) (st1 := []) (σ1 := z_cU σ b me (nI N) xx yy gq lq pf dq nq) rfl rfl rfl ?_
        refine z_lp1 (fun (i : Nat) => i ≤ 8) (fun (i : Nat) => 8 - i) (fun (i : Nat) => [(0, .ref (z_ad G b)), (1, .long (z_fmn (zs_D pf me xx yy sd) (z_F pf me xx yy) i)), (3, .long sd), (5, .int (nI ml)), (6, .long rd), (8, .int (z_bw (zs_D pf me xx yy sd) (z_F pf me xx yy) i)), (9, .int (nI i))]) (fun (i : Nat) => z_cU σ b me (nI N) xx yy gq lq pf dq nq) (fun i hi_80 ih_80 => ?_) 0 (by omega)
        try dsimp only
        refine z_iload 80 C dX0_search_80 6 rfl ?_
        refine z_gets 82 C 2 (by decide) q683 dX0_search_82 ?_
        refine z_tlen 85 C 2 (by decide) dX0_search_85 ?_
        refine z_cv (st1 := [.int (nI 8), .int (nI i)]) rfl rfl rfl ?_
        refine z_icmp_geN 86 C i 8 rfl rfl (by omega) (by omega) 143 dX0_search_86 (by decide) (fun c86 => ?_) (fun c86 => ?_)
        · skip
          have ei : i = 8 := by omega
          subst ei
          refine z_iload 143 C dX0_search_143 5 rfl ?_
          refine z_iconst 145 C dX0_search_145 (-1) rfl ?_
          refine z_icmp_ne 146 C 161 dX0_search_146 (by decide) (fun c146 => ?_) (fun c146 => ?_)
          · skip
            obtain ⟨wy, hwy, hbw, hfm, hlt⟩ := z_bw_w c146
            refine z_cv (lv1 := [(0, .ref (z_ad G b)), (1, .long (zs_D pf me xx yy sd wy)), (3, .long sd), (5, .int (nI ml)), (6, .long rd), (8, .int (nI wy)), (9, .int (nI 8))]) (st1 := []) (σ1 := z_cU σ b me (nI N) xx yy gq lq pf dq nq) (by rw [hbw, hfm]) rfl rfl ?_
            refine z_aload_n 161 C dX0_search_161 0 rfl ?_
            refine z_dup 162 C dX0_search_162 rfl ?_
            refine z_getf 163 C b z_dX0 (z_cC hb) 5 (by decide) q241 (.long xx) (z_cl z_cU_x) dX0_search_163 ?_
            refine z_lload_n 166 C dX0_search_166 2 rfl ?_
            refine z_gets 167 C 2 (by decide) q683 dX0_search_167 ?_
            refine z_iload 170 C dX0_search_170 5 rfl ?_
            refine z_taldN 172 C 2 (by decide) wy rfl (show _ < 8 from (by omega)) dX0_search_172 ?_
            refine z_i2l 173 C dX0_search_173 ?_
            refine z_lmul 174 C dX0_search_174 ?_
            refine z_ladd 175 C dX0_search_175 ?_
            refine z_putl 176 C b z_dX0 (z_cC hb) 5 (by decide) q241 rfl (rfl) rfl ⟨Nat.le_of_ble_eq_true rfl, rfl⟩ dX0_search_176 ?_
            refine z_cv (σ1 := z_cU σ b me (nI N) (xx + (sd * (Int32.toInt64 (z_tv 2 wy)))) yy gq lq pf dq nq) rfl rfl z_cU_px ?_
            refine z_aload_n 179 C dX0_search_179 0 rfl ?_
            refine z_dup 180 C dX0_search_180 rfl ?_
            refine z_getf 181 C b z_dX0 (z_cC hb) 6 (by decide) q243 (.long yy) (z_cl z_cU_y) dX0_search_181 ?_
            refine z_lload_n 184 C dX0_search_184 2 rfl ?_
            refine z_gets 185 C 3 (by decide) q685 dX0_search_185 ?_
            refine z_iload 188 C dX0_search_188 5 rfl ?_
            refine z_taldN 190 C 3 (by decide) wy rfl (show _ < 8 from (by omega)) dX0_search_190 ?_
            refine z_i2l 191 C dX0_search_191 ?_
            refine z_lmul 192 C dX0_search_192 ?_
            refine z_ladd 193 C dX0_search_193 ?_
            refine z_putl 194 C b z_dX0 (z_cC hb) 6 (by decide) q243 rfl (rfl) rfl ⟨Nat.le_of_ble_eq_true rfl, rfl⟩ dX0_search_194 ?_
            refine z_cv (σ1 := z_cU σ b me (nI N) (xx + (sd * (Int32.toInt64 (z_tv 2 wy)))) (yy + (sd * (Int32.toInt64 (z_tv 3 wy)))) gq lq pf dq nq) rfl rfl z_cU_py ?_
            refine z_iinc 197 C dX0_search_197 3 [(5, .int ((nI ml) + Int32.ofInt (-1))), (0, .ref (z_ad G b)), (1, .long (zs_D pf me xx yy sd wy)), (3, .long sd), (6, .long rd), (8, .int (nI wy)), (9, .int (nI 8))] rfl (by decide) rfl ?_
            refine z_cv (lv1 := [(5, .int (nI (ml - 1))), (0, .ref (z_ad G b)), (1, .long (zs_D pf me xx yy sd wy)), (3, .long sd), (6, .long rd), (8, .int (nI wy)), (9, .int (nI 8))]) (st1 := []) (σ1 := z_cU σ b me (nI N) (xx + (sd * (Int32.toInt64 (z_tv 2 wy)))) (yy + (sd * (Int32.toInt64 (z_tv 3 wy)))) gq lq pf dq nq) (by rw [zs_dec hm1 (by omega)]) rfl rfl ?_
            refine z_lload 200 C dX0_search_200 4 rfl ?_
            refine z_lconst 202 C dX0_search_202 1 rfl ?_
            refine z_ladd 203 C dX0_search_203 ?_
            refine z_lstore 204 C dX0_search_204 [(6, .long (rd + 1)), (5, .int (nI (ml - 1))), (0, .ref (z_ad G b)), (1, .long (zs_D pf me xx yy sd wy)), (3, .long sd), (8, .int (nI wy)), (9, .int (nI 8))] (by decide) rfl ?_
            refine z_goto 206 C 37 dX0_search_206 (by decide) ?_
            refine z_sub [2, 3, 4, 1, 0] (lv1 := [(0, .ref (z_ad G b)), (1, .long (zs_D pf me xx yy sd wy)), (3, .long sd), (5, .int (nI (ml - 1))), (6, .long (rd + 1))]) rfl ?_
            refine z_cv (lv1 := [(0, .ref (z_ad G b)), (1, .long (z_F pf me (xx + (sd * (Int32.toInt64 (z_tv 2 wy)))) (yy + (sd * (Int32.toInt64 (z_tv 3 wy)))))), (3, .long sd), (5, .int (nI (ml - 1))), (6, .long (rd + 1))]) (st1 := []) (σ1 := z_cU σ b me (nI N) (xx + (sd * (Int32.toInt64 (z_tv 2 wy)))) (yy + (sd * (Int32.toInt64 (z_tv 3 wy)))) gq lq pf dq nq) rfl rfl rfl ?_
            exact ih_37 (xx + (sd * (Int32.toInt64 (z_tv 2 wy)))) (yy + (sd * (Int32.toInt64 (z_tv 3 wy)))) sd (rd + 1) (ml - 1) (nI N) gq lq dq nq ((zs_invM hi_37 hp c48 hwy hbw hm1 hm16 hN hnr hne hnear).1) ((zs_invM hi_37 hp c48 hwy hbw hm1 hm16 hN hnr hne hnear).2)
          · skip
            have hfm := z_bw_n c146
            refine z_cv (lv1 := [(0, .ref (z_ad G b)), (1, .long (z_F pf me xx yy)), (3, .long sd), (5, .int (nI ml)), (6, .long rd), (8, .int (z_bw (zs_D pf me xx yy sd) (z_F pf me xx yy) 8)), (9, .int (nI 8))]) (st1 := []) (σ1 := z_cU σ b me (nI N) xx yy gq lq pf dq nq) (by rw [hfm]) rfl rfl ?_
            refine z_lload_n 149 C dX0_search_149 2 rfl ?_
            refine z_ldc2 150 C dX0_search_150 q682 ?_
            refine z_ldiv 153 C dX0_search_153 (by decide) ?_
            refine z_lstore_n 154 C dX0_search_154 [(3, .long (sd / 2)), (0, .ref (z_ad G b)), (1, .long (z_F pf me xx yy)), (5, .int (nI ml)), (6, .long rd), (8, .int (z_bw (zs_D pf me xx yy sd) (z_F pf me xx yy) 8)), (9, .int (nI 8))] (by decide) rfl ?_
            refine z_iconst 155 C dX0_search_155 (nI 0) rfl ?_
            refine z_istore 156 C dX0_search_156 [(5, .int (nI 0)), (3, .long (sd / 2)), (0, .ref (z_ad G b)), (1, .long (z_F pf me xx yy)), (6, .long rd), (8, .int (z_bw (zs_D pf me xx yy sd) (z_F pf me xx yy) 8)), (9, .int (nI 8))] (by decide) rfl ?_
            refine z_goto 158 C 200 dX0_search_158 (by decide) ?_
            refine z_lload 200 C dX0_search_200 4 rfl ?_
            refine z_lconst 202 C dX0_search_202 1 rfl ?_
            refine z_ladd 203 C dX0_search_203 ?_
            refine z_lstore 204 C dX0_search_204 [(6, .long (rd + 1)), (5, .int (nI 0)), (3, .long (sd / 2)), (0, .ref (z_ad G b)), (1, .long (z_F pf me xx yy)), (8, .int (z_bw (zs_D pf me xx yy sd) (z_F pf me xx yy) 8)), (9, .int (nI 8))] (by decide) rfl ?_
            refine z_goto 206 C 37 dX0_search_206 (by decide) ?_
            refine z_sub [3, 4, 2, 1, 0] (lv1 := [(0, .ref (z_ad G b)), (1, .long (z_F pf me xx yy)), (3, .long (sd / 2)), (5, .int (nI 0)), (6, .long (rd + 1))]) rfl ?_
            refine z_cv (lv1 := [(0, .ref (z_ad G b)), (1, .long (z_F pf me xx yy)), (3, .long (sd / 2)), (5, .int (nI 0)), (6, .long (rd + 1))]) (st1 := []) (σ1 := z_cU σ b me (nI N) xx yy gq lq pf dq nq) rfl rfl rfl ?_
            exact ih_37 xx yy (sd / 2) (rd + 1) 0 (nI N) gq lq dq nq ((zs_invH hi_37 hp c48 c146).1) ((zs_invH (n1 := 0) (r1 := nr) hi_37 hp c48 c146).2)
        · skip
          refine z_aload_n 89 C dX0_search_89 0 rfl ?_
          refine z_aload_n 90 C dX0_search_90 0 rfl ?_
          refine z_getf 91 C b z_dX0 (z_cC hb) 5 (by decide) q241 (.long xx) (z_cl z_cU_x) dX0_search_91 ?_
          refine z_lload_n 94 C dX0_search_94 2 rfl ?_
          refine z_gets 95 C 2 (by decide) q683 dX0_search_95 ?_
          refine z_iload 98 C dX0_search_98 6 rfl ?_
          refine z_taldN 100 C 2 (by decide) i rfl (show _ < 8 from (by omega)) dX0_search_100 ?_
          refine z_i2l 101 C dX0_search_101 ?_
          refine z_lmul 102 C dX0_search_102 ?_
          refine z_ladd 103 C dX0_search_103 ?_
          refine z_aload_n 104 C dX0_search_104 0 rfl ?_
          refine z_getf 105 C b z_dX0 (z_cC hb) 6 (by decide) q243 (.long yy) (z_cl z_cU_y) dX0_search_105 ?_
          refine z_lload_n 108 C dX0_search_108 2 rfl ?_
          refine z_gets 109 C 3 (by decide) q685 dX0_search_109 ?_
          refine z_iload 112 C dX0_search_112 6 rfl ?_
          refine z_taldN 114 C 3 (by decide) i rfl (show _ < 8 from (by omega)) dX0_search_114 ?_
          refine z_i2l 115 C dX0_search_115 ?_
          refine z_lmul 116 C dX0_search_116 ?_
          refine z_ladd 117 C dX0_search_117 ?_
          refine z_callV 118 C b (⟨(z_cC hb).1, by rw [(z_cC hb).2]; rfl⟩) rfl (As := [.long (xx + (sd * (Int32.toInt64 (z_tv 2 i)))), .long (yy + (sd * (Int32.toInt64 (z_tv 3 i))))]) (rest := []) (@m_X0_valueAt _ _ σ b (hb) me N xx yy gq lq pf dq nq (xx + (sd * (Int32.toInt64 (z_tv 2 i)))) (yy + (sd * (Int32.toInt64 (z_tv 3 i)))) ne hN hnr hne) k_X0_valueAt q687 ⟨rfl, rfl⟩ ⟨Nat.le_of_ble_eq_true rfl, Nat.le_of_ble_eq_true rfl⟩ rfl (Nat.le_of_ble_eq_true rfl) ⟨Nat.le_of_ble_eq_true rfl, Nat.le_of_ble_eq_true rfl⟩ rfl dX0_search_118 (z_k1 ?_)
          refine z_cv (lv1 := [(0, .ref (z_ad G b)), (1, .long (z_fmn (zs_D pf me xx yy sd) (z_F pf me xx yy) i)), (3, .long sd), (5, .int (nI ml)), (6, .long rd), (8, .int (z_bw (zs_D pf me xx yy sd) (z_F pf me xx yy) i)), (9, .int (nI i))]) (st1 := [.long (zs_D pf me xx yy sd i)]) (σ1 := z_cU σ b me (nI N) xx yy gq lq pf dq nq) rfl (by rw [zs_cl hi_37 hp hm1 hnear (i := i) (by omega)]) rfl ?_
          refine z_lstore 121 C dX0_search_121 [(10, .long (zs_D pf me xx yy sd i)), (0, .ref (z_ad G b)), (1, .long (z_fmn (zs_D pf me xx yy sd) (z_F pf me xx yy) i)), (3, .long sd), (5, .int (nI ml)), (6, .long rd), (8, .int (z_bw (zs_D pf me xx yy sd) (z_F pf me xx yy) i)), (9, .int (nI i))] (by decide) rfl ?_
          refine z_lload 123 C dX0_search_123 0 rfl ?_
          refine z_lload_n 125 C dX0_search_125 2 rfl ?_
          refine z_lcmp_ge 126 C 137 dX0_search_126 dX0_search_127 (by decide) (fun c126 => ?_) (fun c126 => ?_)
          · skip
            refine z_iincN 137 C 7 i [(9, .int (nI (i + 1))), (10, .long (zs_D pf me xx yy sd i)), (0, .ref (z_ad G b)), (1, .long (z_fmn (zs_D pf me xx yy sd) (z_F pf me xx yy) i)), (3, .long sd), (5, .int (nI ml)), (6, .long rd), (8, .int (z_bw (zs_D pf me xx yy sd) (z_F pf me xx yy) i))] rfl rfl (by decide) rfl dX0_search_137 ?_
            refine z_goto 140 C 80 dX0_search_140 (by decide) ?_
            refine z_sub [2, 3, 4, 5, 6, 7, 0] (lv1 := [(0, .ref (z_ad G b)), (1, .long (z_fmn (zs_D pf me xx yy sd) (z_F pf me xx yy) i)), (3, .long sd), (5, .int (nI ml)), (6, .long rd), (8, .int (z_bw (zs_D pf me xx yy sd) (z_F pf me xx yy) i)), (9, .int (nI (i + 1)))]) rfl ?_
            refine z_cv (lv1 := [(0, .ref (z_ad G b)), (1, .long (z_fmn (zs_D pf me xx yy sd) (z_F pf me xx yy) (i + 1))), (3, .long sd), (5, .int (nI ml)), (6, .long rd), (8, .int (z_bw (zs_D pf me xx yy sd) (z_F pf me xx yy) (i + 1))), (9, .int (nI (i + 1)))]) (st1 := []) (σ1 := z_cU σ b me (nI N) xx yy gq lq pf dq nq) (by first | rw [(zs_b1 c126).1, (zs_b1 c126).2] | rw [(zs_b0 c126).1, (zs_b0 c126).2]) rfl rfl ?_
            exact ih_80 (i + 1) (by omega) (by omega)
          · skip
            refine z_lload 130 C dX0_search_130 0 rfl ?_
            refine z_lstore_n 132 C dX0_search_132 [(1, .long (zs_D pf me xx yy sd i)), (10, .long (zs_D pf me xx yy sd i)), (0, .ref (z_ad G b)), (3, .long sd), (5, .int (nI ml)), (6, .long rd), (8, .int (z_bw (zs_D pf me xx yy sd) (z_F pf me xx yy) i)), (9, .int (nI i))] (by decide) rfl ?_
            refine z_iload 133 C dX0_search_133 7 rfl ?_
            refine z_istore 135 C dX0_search_135 [(8, .int (nI i)), (1, .long (zs_D pf me xx yy sd i)), (10, .long (zs_D pf me xx yy sd i)), (0, .ref (z_ad G b)), (3, .long sd), (5, .int (nI ml)), (6, .long rd), (9, .int (nI i))] (by decide) rfl ?_
            refine z_iincN 137 C 7 i [(9, .int (nI (i + 1))), (8, .int (nI i)), (1, .long (zs_D pf me xx yy sd i)), (10, .long (zs_D pf me xx yy sd i)), (0, .ref (z_ad G b)), (3, .long sd), (5, .int (nI ml)), (6, .long rd)] rfl rfl (by decide) rfl dX0_search_137 ?_
            refine z_goto 140 C 80 dX0_search_140 (by decide) ?_
            refine z_sub [4, 2, 5, 6, 7, 1, 0] (lv1 := [(0, .ref (z_ad G b)), (1, .long (zs_D pf me xx yy sd i)), (3, .long sd), (5, .int (nI ml)), (6, .long rd), (8, .int (nI i)), (9, .int (nI (i + 1)))]) rfl ?_
            refine z_cv (lv1 := [(0, .ref (z_ad G b)), (1, .long (z_fmn (zs_D pf me xx yy sd) (z_F pf me xx yy) (i + 1))), (3, .long sd), (5, .int (nI ml)), (6, .long rd), (8, .int (z_bw (zs_D pf me xx yy sd) (z_F pf me xx yy) (i + 1))), (9, .int (nI (i + 1)))]) (st1 := []) (σ1 := z_cU σ b me (nI N) xx yy gq lq pf dq nq) (by first | rw [(zs_b1 c126).1, (zs_b1 c126).2] | rw [(zs_b0 c126).1, (zs_b0 c126).2]) rfl rfl ?_
            exact ih_80 (i + 1) (by omega) (by omega)
      · skip
        refine z_bipush 57 C dX0_search_57 (nI 16) rfl ?_
        refine z_istore 59 C dX0_search_59 [(5, .int (nI 16)), (0, .ref (z_ad G b)), (1, .long (z_F pf me xx yy)), (3, .long sd), (6, .long rd)] (by decide) rfl ?_
        refine z_aload_n 61 C dX0_search_61 1 rfl ?_
        refine z_callV 62 C b (⟨(z_cC hb).1, by rw [(z_cC hb).2]; rfl⟩) rfl (As := []) (rest := []) (@m_X0_measure _ _ σ b (hb) me ncq xx yy gq lq pf dq nq ) k_X0_measure q660 ⟨rfl, rfl⟩ ⟨Nat.le_of_ble_eq_true rfl, Nat.le_of_ble_eq_true rfl⟩ rfl (Nat.le_of_ble_eq_true rfl) ⟨Nat.le_of_ble_eq_true rfl, Nat.le_of_ble_eq_true rfl⟩ rfl dX0_search_62 (z_k0 ?_)
        refine z_aload_n 65 C dX0_search_65 1 rfl ?_
        refine z_lload_n 66 C dX0_search_66 3 rfl ?_
        refine z_ldc2 67 C dX0_search_67 q677 ?_
        refine z_lmul 70 C dX0_search_70 ?_
        refine z_callV 71 C b (⟨(z_cC hb).1, by rw [(z_cC hb).2]; rfl⟩) rfl (As := [.long (sd * 16)]) (rest := []) (@m_X0_pickNear _ _ σ b (hb) me ncq xx yy (z_fmx (z_df pf xx yy) (-9223372036854775808) 24) (z_fmn (z_df pf xx yy) 9223372036854775807 24) pf (z_fil (z_df pf xx yy) dq 24) nq (sd * 16)) k_X0_pickNear q678 ⟨rfl, rfl⟩ ⟨Nat.le_of_ble_eq_true rfl, Nat.le_of_ble_eq_true rfl⟩ rfl (Nat.le_of_ble_eq_true rfl) ⟨Nat.le_of_ble_eq_true rfl, Nat.le_of_ble_eq_true rfl⟩ rfl dX0_search_71 (z_k0 ?_)
        obtain ⟨N, ne, n1, hm1, hm16, hN, hnc, hnA, hnr, hne, hnear⟩ := zs_pk hi_37 hp dq nq
        refine z_cv (lv1 := [(5, .int (nI 16)), (0, .ref (z_ad G b)), (1, .long (z_F pf me xx yy)), (3, .long sd), (6, .long rd)]) (st1 := []) (σ1 := z_cU σ b me (nI N) xx yy (z_fmx (z_df pf xx yy) (-9223372036854775808) 24) (z_fmn (z_df pf xx yy) 9223372036854775807 24) pf (z_fil (z_df pf xx yy) dq 24) n1) rfl rfl (by rw [hnc, hnA]) ?_
        refine z_iconst 74 C dX0_search_74 (-1) rfl ?_
        refine z_istore 75 C dX0_search_75 [(8, .int (-1)), (5, .int (nI 16)), (0, .ref (z_ad G b)), (1, .long (z_F pf me xx yy)), (3, .long sd), (6, .long rd)] (by decide) rfl ?_
        refine z_iconst 77 C dX0_search_77 (nI 0) rfl ?_
        refine z_istore 78 C dX0_search_78 [(9, .int (nI 0)), (8, .int (-1)), (5, .int (nI 16)), (0, .ref (z_ad G b)), (1, .long (z_F pf me xx yy)), (3, .long sd), (6, .long rd)] (by decide) rfl ?_
        refine z_sub [3, 4, 5, 2, 6, 1, 0] (lv1 := [(0, .ref (z_ad G b)), (1, .long (z_F pf me xx yy)), (3, .long sd), (5, .int (nI 16)), (6, .long rd), (8, .int (-1)), (9, .int (nI 0))]) rfl ?_
        refine z_cv (lv1 := [(0, .ref (z_ad G b)), (1, .long (z_fmn (zs_D pf me xx yy sd) (z_F pf me xx yy) 0)), (3, .long sd), (5, .int (nI 16)), (6, .long rd), (8, .int (z_bw (zs_D pf me xx yy sd) (z_F pf me xx yy) 0)), (9, .int (nI 0))]) (st1 := []) (σ1 := z_cU σ b me (nI N) xx yy (z_fmx (z_df pf xx yy) (-9223372036854775808) 24) (z_fmn (z_df pf xx yy) 9223372036854775807 24) pf (z_fil (z_df pf xx yy) dq 24) n1) rfl rfl rfl ?_
        refine z_lp1 (fun (i : Nat) => i ≤ 8) (fun (i : Nat) => 8 - i) (fun (i : Nat) => [(0, .ref (z_ad G b)), (1, .long (z_fmn (zs_D pf me xx yy sd) (z_F pf me xx yy) i)), (3, .long sd), (5, .int (nI 16)), (6, .long rd), (8, .int (z_bw (zs_D pf me xx yy sd) (z_F pf me xx yy) i)), (9, .int (nI i))]) (fun (i : Nat) => z_cU σ b me (nI N) xx yy (z_fmx (z_df pf xx yy) (-9223372036854775808) 24) (z_fmn (z_df pf xx yy) 9223372036854775807 24) pf (z_fil (z_df pf xx yy) dq 24) n1) (fun i hi_80 ih_80 => ?_) 0 (by omega)
        try dsimp only
        refine z_iload 80 C dX0_search_80 6 rfl ?_
        refine z_gets 82 C 2 (by decide) q683 dX0_search_82 ?_
        refine z_tlen 85 C 2 (by decide) dX0_search_85 ?_
        refine z_cv (st1 := [.int (nI 8), .int (nI i)]) rfl rfl rfl ?_
        refine z_icmp_geN 86 C i 8 rfl rfl (by omega) (by omega) 143 dX0_search_86 (by decide) (fun c86 => ?_) (fun c86 => ?_)
        · skip
          have ei : i = 8 := by omega
          subst ei
          refine z_iload 143 C dX0_search_143 5 rfl ?_
          refine z_iconst 145 C dX0_search_145 (-1) rfl ?_
          refine z_icmp_ne 146 C 161 dX0_search_146 (by decide) (fun c146 => ?_) (fun c146 => ?_)
          · skip
            obtain ⟨wy, hwy, hbw, hfm, hlt⟩ := z_bw_w c146
            refine z_cv (lv1 := [(0, .ref (z_ad G b)), (1, .long (zs_D pf me xx yy sd wy)), (3, .long sd), (5, .int (nI 16)), (6, .long rd), (8, .int (nI wy)), (9, .int (nI 8))]) (st1 := []) (σ1 := z_cU σ b me (nI N) xx yy (z_fmx (z_df pf xx yy) (-9223372036854775808) 24) (z_fmn (z_df pf xx yy) 9223372036854775807 24) pf (z_fil (z_df pf xx yy) dq 24) n1) (by rw [hbw, hfm]) rfl rfl ?_
            refine z_aload_n 161 C dX0_search_161 0 rfl ?_
            refine z_dup 162 C dX0_search_162 rfl ?_
            refine z_getf 163 C b z_dX0 (z_cC hb) 5 (by decide) q241 (.long xx) (z_cl z_cU_x) dX0_search_163 ?_
            refine z_lload_n 166 C dX0_search_166 2 rfl ?_
            refine z_gets 167 C 2 (by decide) q683 dX0_search_167 ?_
            refine z_iload 170 C dX0_search_170 5 rfl ?_
            refine z_taldN 172 C 2 (by decide) wy rfl (show _ < 8 from (by omega)) dX0_search_172 ?_
            refine z_i2l 173 C dX0_search_173 ?_
            refine z_lmul 174 C dX0_search_174 ?_
            refine z_ladd 175 C dX0_search_175 ?_
            refine z_putl 176 C b z_dX0 (z_cC hb) 5 (by decide) q241 rfl (rfl) rfl ⟨Nat.le_of_ble_eq_true rfl, rfl⟩ dX0_search_176 ?_
            refine z_cv (σ1 := z_cU σ b me (nI N) (xx + (sd * (Int32.toInt64 (z_tv 2 wy)))) yy (z_fmx (z_df pf xx yy) (-9223372036854775808) 24) (z_fmn (z_df pf xx yy) 9223372036854775807 24) pf (z_fil (z_df pf xx yy) dq 24) n1) rfl rfl z_cU_px ?_
            refine z_aload_n 179 C dX0_search_179 0 rfl ?_
            refine z_dup 180 C dX0_search_180 rfl ?_
            refine z_getf 181 C b z_dX0 (z_cC hb) 6 (by decide) q243 (.long yy) (z_cl z_cU_y) dX0_search_181 ?_
            refine z_lload_n 184 C dX0_search_184 2 rfl ?_
            refine z_gets 185 C 3 (by decide) q685 dX0_search_185 ?_
            refine z_iload 188 C dX0_search_188 5 rfl ?_
            refine z_taldN 190 C 3 (by decide) wy rfl (show _ < 8 from (by omega)) dX0_search_190 ?_
            refine z_i2l 191 C dX0_search_191 ?_
            refine z_lmul 192 C dX0_search_192 ?_
            refine z_ladd 193 C dX0_search_193 ?_
            refine z_putl 194 C b z_dX0 (z_cC hb) 6 (by decide) q243 rfl (rfl) rfl ⟨Nat.le_of_ble_eq_true rfl, rfl⟩ dX0_search_194 ?_
            refine z_cv (σ1 := z_cU σ b me (nI N) (xx + (sd * (Int32.toInt64 (z_tv 2 wy)))) (yy + (sd * (Int32.toInt64 (z_tv 3 wy)))) (z_fmx (z_df pf xx yy) (-9223372036854775808) 24) (z_fmn (z_df pf xx yy) 9223372036854775807 24) pf (z_fil (z_df pf xx yy) dq 24) n1) rfl rfl z_cU_py ?_
            refine z_iinc 197 C dX0_search_197 3 [(5, .int ((nI 16) + Int32.ofInt (-1))), (0, .ref (z_ad G b)), (1, .long (zs_D pf me xx yy sd wy)), (3, .long sd), (6, .long rd), (8, .int (nI wy)), (9, .int (nI 8))] rfl (by decide) rfl ?_
            refine z_cv (lv1 := [(5, .int (nI (16 - 1))), (0, .ref (z_ad G b)), (1, .long (zs_D pf me xx yy sd wy)), (3, .long sd), (6, .long rd), (8, .int (nI wy)), (9, .int (nI 8))]) (st1 := []) (σ1 := z_cU σ b me (nI N) (xx + (sd * (Int32.toInt64 (z_tv 2 wy)))) (yy + (sd * (Int32.toInt64 (z_tv 3 wy)))) (z_fmx (z_df pf xx yy) (-9223372036854775808) 24) (z_fmn (z_df pf xx yy) 9223372036854775807 24) pf (z_fil (z_df pf xx yy) dq 24) n1) (by rw [zs_dec hm1 (by omega)]) rfl rfl ?_
            refine z_lload 200 C dX0_search_200 4 rfl ?_
            refine z_lconst 202 C dX0_search_202 1 rfl ?_
            refine z_ladd 203 C dX0_search_203 ?_
            refine z_lstore 204 C dX0_search_204 [(6, .long (rd + 1)), (5, .int (nI (16 - 1))), (0, .ref (z_ad G b)), (1, .long (zs_D pf me xx yy sd wy)), (3, .long sd), (8, .int (nI wy)), (9, .int (nI 8))] (by decide) rfl ?_
            refine z_goto 206 C 37 dX0_search_206 (by decide) ?_
            refine z_sub [2, 3, 4, 1, 0] (lv1 := [(0, .ref (z_ad G b)), (1, .long (zs_D pf me xx yy sd wy)), (3, .long sd), (5, .int (nI (16 - 1))), (6, .long (rd + 1))]) rfl ?_
            refine z_cv (lv1 := [(0, .ref (z_ad G b)), (1, .long (z_F pf me (xx + (sd * (Int32.toInt64 (z_tv 2 wy)))) (yy + (sd * (Int32.toInt64 (z_tv 3 wy)))))), (3, .long sd), (5, .int (nI (16 - 1))), (6, .long (rd + 1))]) (st1 := []) (σ1 := z_cU σ b me (nI N) (xx + (sd * (Int32.toInt64 (z_tv 2 wy)))) (yy + (sd * (Int32.toInt64 (z_tv 3 wy)))) (z_fmx (z_df pf xx yy) (-9223372036854775808) 24) (z_fmn (z_df pf xx yy) 9223372036854775807 24) pf (z_fil (z_df pf xx yy) dq 24) n1) rfl rfl rfl ?_
            exact ih_37 (xx + (sd * (Int32.toInt64 (z_tv 2 wy)))) (yy + (sd * (Int32.toInt64 (z_tv 3 wy)))) sd (rd + 1) (16 - 1) (nI N) (z_fmx (z_df pf xx yy) (-9223372036854775808) 24) (z_fmn (z_df pf xx yy) 9223372036854775807 24) (z_fil (z_df pf xx yy) dq 24) n1 ((zs_invM hi_37 hp c48 hwy hbw hm1 hm16 hN hnr hne hnear).1) ((zs_invM hi_37 hp c48 hwy hbw hm1 hm16 hN hnr hne hnear).2)
          · skip
            have hfm := z_bw_n c146
            refine z_cv (lv1 := [(0, .ref (z_ad G b)), (1, .long (z_F pf me xx yy)), (3, .long sd), (5, .int (nI 16)), (6, .long rd), (8, .int (z_bw (zs_D pf me xx yy sd) (z_F pf me xx yy) 8)), (9, .int (nI 8))]) (st1 := []) (σ1 := z_cU σ b me (nI N) xx yy (z_fmx (z_df pf xx yy) (-9223372036854775808) 24) (z_fmn (z_df pf xx yy) 9223372036854775807 24) pf (z_fil (z_df pf xx yy) dq 24) n1) (by rw [hfm]) rfl rfl ?_
            refine z_lload_n 149 C dX0_search_149 2 rfl ?_
            refine z_ldc2 150 C dX0_search_150 q682 ?_
            refine z_ldiv 153 C dX0_search_153 (by decide) ?_
            refine z_lstore_n 154 C dX0_search_154 [(3, .long (sd / 2)), (0, .ref (z_ad G b)), (1, .long (z_F pf me xx yy)), (5, .int (nI 16)), (6, .long rd), (8, .int (z_bw (zs_D pf me xx yy sd) (z_F pf me xx yy) 8)), (9, .int (nI 8))] (by decide) rfl ?_
            refine z_iconst 155 C dX0_search_155 (nI 0) rfl ?_
            refine z_istore 156 C dX0_search_156 [(5, .int (nI 0)), (3, .long (sd / 2)), (0, .ref (z_ad G b)), (1, .long (z_F pf me xx yy)), (6, .long rd), (8, .int (z_bw (zs_D pf me xx yy sd) (z_F pf me xx yy) 8)), (9, .int (nI 8))] (by decide) rfl ?_
            refine z_goto 158 C 200 dX0_search_158 (by decide) ?_
            refine z_lload 200 C dX0_search_200 4 rfl ?_
            refine z_lconst 202 C dX0_search_202 1 rfl ?_
            refine z_ladd 203 C dX0_search_203 ?_
            refine z_lstore 204 C dX0_search_204 [(6, .long (rd + 1)), (5, .int (nI 0)), (3, .long (sd / 2)), (0, .ref (z_ad G b)), (1, .long (z_F pf me xx yy)), (8, .int (z_bw (zs_D pf me xx yy sd) (z_F pf me xx yy) 8)), (9, .int (nI 8))] (by decide) rfl ?_
            refine z_goto 206 C 37 dX0_search_206 (by decide) ?_
            refine z_sub [3, 4, 2, 1, 0] (lv1 := [(0, .ref (z_ad G b)), (1, .long (z_F pf me xx yy)), (3, .long (sd / 2)), (5, .int (nI 0)), (6, .long (rd + 1))]) rfl ?_
            refine z_cv (lv1 := [(0, .ref (z_ad G b)), (1, .long (z_F pf me xx yy)), (3, .long (sd / 2)), (5, .int (nI 0)), (6, .long (rd + 1))]) (st1 := []) (σ1 := z_cU σ b me (nI N) xx yy (z_fmx (z_df pf xx yy) (-9223372036854775808) 24) (z_fmn (z_df pf xx yy) 9223372036854775807 24) pf (z_fil (z_df pf xx yy) dq 24) n1) rfl rfl rfl ?_
            exact ih_37 xx yy (sd / 2) (rd + 1) 0 (nI N) (z_fmx (z_df pf xx yy) (-9223372036854775808) 24) (z_fmn (z_df pf xx yy) 9223372036854775807 24) (z_fil (z_df pf xx yy) dq 24) n1 ((zs_invH hi_37 hp c48 c146).1) ((zs_invH (n1 := 0) (r1 := nr) hi_37 hp c48 c146).2)
        · skip
          refine z_aload_n 89 C dX0_search_89 0 rfl ?_
          refine z_aload_n 90 C dX0_search_90 0 rfl ?_
          refine z_getf 91 C b z_dX0 (z_cC hb) 5 (by decide) q241 (.long xx) (z_cl z_cU_x) dX0_search_91 ?_
          refine z_lload_n 94 C dX0_search_94 2 rfl ?_
          refine z_gets 95 C 2 (by decide) q683 dX0_search_95 ?_
          refine z_iload 98 C dX0_search_98 6 rfl ?_
          refine z_taldN 100 C 2 (by decide) i rfl (show _ < 8 from (by omega)) dX0_search_100 ?_
          refine z_i2l 101 C dX0_search_101 ?_
          refine z_lmul 102 C dX0_search_102 ?_
          refine z_ladd 103 C dX0_search_103 ?_
          refine z_aload_n 104 C dX0_search_104 0 rfl ?_
          refine z_getf 105 C b z_dX0 (z_cC hb) 6 (by decide) q243 (.long yy) (z_cl z_cU_y) dX0_search_105 ?_
          refine z_lload_n 108 C dX0_search_108 2 rfl ?_
          refine z_gets 109 C 3 (by decide) q685 dX0_search_109 ?_
          refine z_iload 112 C dX0_search_112 6 rfl ?_
          refine z_taldN 114 C 3 (by decide) i rfl (show _ < 8 from (by omega)) dX0_search_114 ?_
          refine z_i2l 115 C dX0_search_115 ?_
          refine z_lmul 116 C dX0_search_116 ?_
          refine z_ladd 117 C dX0_search_117 ?_
          refine z_callV 118 C b (⟨(z_cC hb).1, by rw [(z_cC hb).2]; rfl⟩) rfl (As := [.long (xx + (sd * (Int32.toInt64 (z_tv 2 i)))), .long (yy + (sd * (Int32.toInt64 (z_tv 3 i))))]) (rest := []) (@m_X0_valueAt _ _ σ b (hb) me N xx yy (z_fmx (z_df pf xx yy) (-9223372036854775808) 24) (z_fmn (z_df pf xx yy) 9223372036854775807 24) pf (z_fil (z_df pf xx yy) dq 24) n1 (xx + (sd * (Int32.toInt64 (z_tv 2 i)))) (yy + (sd * (Int32.toInt64 (z_tv 3 i)))) ne hN hnr hne) k_X0_valueAt q687 ⟨rfl, rfl⟩ ⟨Nat.le_of_ble_eq_true rfl, Nat.le_of_ble_eq_true rfl⟩ rfl (Nat.le_of_ble_eq_true rfl) ⟨Nat.le_of_ble_eq_true rfl, Nat.le_of_ble_eq_true rfl⟩ rfl dX0_search_118 (z_k1 ?_)
          refine z_cv (lv1 := [(0, .ref (z_ad G b)), (1, .long (z_fmn (zs_D pf me xx yy sd) (z_F pf me xx yy) i)), (3, .long sd), (5, .int (nI 16)), (6, .long rd), (8, .int (z_bw (zs_D pf me xx yy sd) (z_F pf me xx yy) i)), (9, .int (nI i))]) (st1 := [.long (zs_D pf me xx yy sd i)]) (σ1 := z_cU σ b me (nI N) xx yy (z_fmx (z_df pf xx yy) (-9223372036854775808) 24) (z_fmn (z_df pf xx yy) 9223372036854775807 24) pf (z_fil (z_df pf xx yy) dq 24) n1) rfl (by rw [zs_cl hi_37 hp hm1 hnear (i := i) (by omega)]) rfl ?_
          refine z_lstore 121 C dX0_search_121 [(10, .long (zs_D pf me xx yy sd i)), (0, .ref (z_ad G b)), (1, .long (z_fmn (zs_D pf me xx yy sd) (z_F pf me xx yy) i)), (3, .long sd), (5, .int (nI 16)), (6, .long rd), (8, .int (z_bw (zs_D pf me xx yy sd) (z_F pf me xx yy) i)), (9, .int (nI i))] (by decide) rfl ?_
          refine z_lload 123 C dX0_search_123 0 rfl ?_
          refine z_lload_n 125 C dX0_search_125 2 rfl ?_
          refine z_lcmp_ge 126 C 137 dX0_search_126 dX0_search_127 (by decide) (fun c126 => ?_) (fun c126 => ?_)
          · skip
            refine z_iincN 137 C 7 i [(9, .int (nI (i + 1))), (10, .long (zs_D pf me xx yy sd i)), (0, .ref (z_ad G b)), (1, .long (z_fmn (zs_D pf me xx yy sd) (z_F pf me xx yy) i)), (3, .long sd), (5, .int (nI 16)), (6, .long rd), (8, .int (z_bw (zs_D pf me xx yy sd) (z_F pf me xx yy) i))] rfl rfl (by decide) rfl dX0_search_137 ?_
            refine z_goto 140 C 80 dX0_search_140 (by decide) ?_
            refine z_sub [2, 3, 4, 5, 6, 7, 0] (lv1 := [(0, .ref (z_ad G b)), (1, .long (z_fmn (zs_D pf me xx yy sd) (z_F pf me xx yy) i)), (3, .long sd), (5, .int (nI 16)), (6, .long rd), (8, .int (z_bw (zs_D pf me xx yy sd) (z_F pf me xx yy) i)), (9, .int (nI (i + 1)))]) rfl ?_
            refine z_cv (lv1 := [(0, .ref (z_ad G b)), (1, .long (z_fmn (zs_D pf me xx yy sd) (z_F pf me xx yy) (i + 1))), (3, .long sd), (5, .int (nI 16)), (6, .long rd), (8, .int (z_bw (zs_D pf me xx yy sd) (z_F pf me xx yy) (i + 1))), (9, .int (nI (i + 1)))]) (st1 := []) (σ1 := z_cU σ b me (nI N) xx yy (z_fmx (z_df pf xx yy) (-9223372036854775808) 24) (z_fmn (z_df pf xx yy) 9223372036854775807 24) pf (z_fil (z_df pf xx yy) dq 24) n1) (by first | rw [(zs_b1 c126).1, (zs_b1 c126).2] | rw [(zs_b0 c126).1, (zs_b0 c126).2]) rfl rfl ?_
            exact ih_80 (i + 1) (by omega) (by omega)
          · skip
            refine z_lload 130 C dX0_search_130 0 rfl ?_
            refine z_lstore_n 132 C dX0_search_132 [(1, .long (zs_D pf me xx yy sd i)), (10, .long (zs_D pf me xx yy sd i)), (0, .ref (z_ad G b)), (3, .long sd), (5, .int (nI 16)), (6, .long rd), (8, .int (z_bw (zs_D pf me xx yy sd) (z_F pf me xx yy) i)), (9, .int (nI i))] (by decide) rfl ?_
            refine z_iload 133 C dX0_search_133 7 rfl ?_
            refine z_istore 135 C dX0_search_135 [(8, .int (nI i)), (1, .long (zs_D pf me xx yy sd i)), (10, .long (zs_D pf me xx yy sd i)), (0, .ref (z_ad G b)), (3, .long sd), (5, .int (nI 16)), (6, .long rd), (9, .int (nI i))] (by decide) rfl ?_
            refine z_iincN 137 C 7 i [(9, .int (nI (i + 1))), (8, .int (nI i)), (1, .long (zs_D pf me xx yy sd i)), (10, .long (zs_D pf me xx yy sd i)), (0, .ref (z_ad G b)), (3, .long sd), (5, .int (nI 16)), (6, .long rd)] rfl rfl (by decide) rfl dX0_search_137 ?_
            refine z_goto 140 C 80 dX0_search_140 (by decide) ?_
            refine z_sub [4, 2, 5, 6, 7, 1, 0] (lv1 := [(0, .ref (z_ad G b)), (1, .long (zs_D pf me xx yy sd i)), (3, .long sd), (5, .int (nI 16)), (6, .long rd), (8, .int (nI i)), (9, .int (nI (i + 1)))]) rfl ?_
            refine z_cv (lv1 := [(0, .ref (z_ad G b)), (1, .long (z_fmn (zs_D pf me xx yy sd) (z_F pf me xx yy) (i + 1))), (3, .long sd), (5, .int (nI 16)), (6, .long rd), (8, .int (z_bw (zs_D pf me xx yy sd) (z_F pf me xx yy) (i + 1))), (9, .int (nI (i + 1)))]) (st1 := []) (σ1 := z_cU σ b me (nI N) xx yy (z_fmx (z_df pf xx yy) (-9223372036854775808) 24) (z_fmn (z_df pf xx yy) 9223372036854775807 24) pf (z_fil (z_df pf xx yy) dq 24) n1) (by first | rw [(zs_b1 c126).1, (zs_b1 c126).2] | rw [(zs_b0 c126).1, (zs_b0 c126).2]) rfl rfl ?_
            exact ih_80 (i + 1) (by omega) (by omega)
