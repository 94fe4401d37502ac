/-! CLASS AND REFERENCE: a new present profile; undo; redo -/
theorem zr_hb (u : Nat) (hu : u ≤ 20) : zm_u u + 1 = z_hb u := by
  unfold zm_u z_hb
  split <;> split <;> omega
theorem zr_ha {o u : Nat} (ho : o < 21) : z_ha o u < 21 := by
  unfold z_ha
  split
  · exact ho
  · exact Nat.mod_lt _ (by decide)
theorem zr_cpy {F g : Nat → Int64} {k : Nat} (hk : k < 24) : va_cpy F g 0 0 24 k = F k := by
  rw [pk_cpy_in (Nat.zero_le k) (by omega)]
  simp
/-- the two stores at once -/
def zr_T (σ : z_St) (o u : Nat) (F F2 : Nat → Int64) : z_St := z_mtk (z_uL (z_nx σ o u F) 109 F2) u
section ZRT
variable {σ : z_St} {o u : Nat} {F F2 : Nat → Int64}
theorem zr_T_L {i : Nat} (h : i < 105) (h8 : ¬ i = 88) (hn : ¬ i = 10 + (z_ha o u + z_hb u) % 21) : (zr_T σ o u F F2).2 i = σ.2 i := by
  have a : ¬ i = 108 := by omega
  have b : ¬ i = 109 := by omega
  have d : ¬ i = 110 := by omega
  simp [zr_T, z_mtk, z_nx, z_uL, z_ui, h8, hn, a, b, d]
theorem zr_T_N : (zr_T σ o u F F2).2 (10 + (z_ha o u + z_hb u) % 21) = va_cpy F (σ.2 (10 + (z_ha o u + z_hb u) % 21)) 0 0 24 := by
  have a : ¬ 10 + (z_ha o u + z_hb u) % 21 = 108 := by omega
  have b : ¬ 10 + (z_ha o u + z_hb u) % 21 = 109 := by omega
  have d : ¬ 10 + (z_ha o u + z_hb u) % 21 = 110 := by omega
  simp [zr_T, z_mtk, z_nx, z_uL, z_ui, a, b, d]
theorem zr_T_108 : (zr_T σ o u F F2).2 108 = z_fil F2 (σ.2 108) 24 := by
  have a : ¬ 108 = 10 + (z_ha o u + z_hb u) % 21 := by omega
  simp [zr_T, z_mtk, z_nx, z_uL, z_ui, a]
theorem zr_T_110 : (zr_T σ o u F F2).2 110 = fb_put (zm_ud u (σ.2 110)) (σ.2 108) (24 * zm_u u) 24 := by
  have a : ¬ 108 = 10 + (z_ha o u + z_hb u) % 21 := by omega
  have b : ¬ 110 = 10 + (z_ha o u + z_hb u) % 21 := by omega
  simp [zr_T, z_mtk, z_nx, z_uL, z_ui, a, b]
theorem zr_T_q {i : Nat} (h : i = 111 ∨ i = 115) : (zr_T σ o u F F2).2 i = σ.2 i := by
  have a : ¬ i = 10 + (z_ha o u + z_hb u) % 21 := by omega
  rcases h with h | h <;> (subst h; simp [zr_T, z_mtk, z_nx, z_uL, z_ui, a])
end ZRT
theorem zr_ring {R R2 : Nat → Nat → Int64} {o u v : Nat} {X U V F F2 : Nat → Int64} (ho : o < 21) (huv : u + v ≤ 20) (h : zr_2 R o u v X U V) (hF : z_eq24 F F2)
    (hN : ∀ k, k < 24 → R2 (10 + (z_ha o u + z_hb u) % 21) k = F k) (hR : ∀ j, ¬ j % 21 = (z_ha o u + z_hb u) % 21 → R2 (10 + j % 21) = R (10 + j % 21)) : zr_2 R2 (z_ha o u) (z_hb u) 0 (z_fil F2 X 24) (fb_put (zm_ud u U) X (24 * zm_u u) 24) V := by
  obtain ⟨h1, h2, -⟩ := h
  refine ⟨fun k hk => ?_, ?_, fun j hj => absurd hj (Nat.not_lt_zero j)⟩
  · rw [hN k hk, z_fil_lt hk]
    exact hF k hk
  · intro j hj k hk
    by_cases q : u < 20
    · have e1 : z_ha o u = o := by unfold z_ha; rw [if_pos q]
      have e2 : z_hb u = u + 1 := by unfold z_hb; rw [if_pos q]
      have e3 : zm_u u = u := by unfold zm_u; rw [if_neg (by omega)]
      have e4 : zm_ud u U = U := by unfold zm_ud; rw [if_neg (by omega)]
      rw [e1, e2] at hR
      rw [e2] at hj
      rw [e1, e3, e4, hR (o + j) (by omega)]
      by_cases e : j = u
      · subst e
        rw [fb_put_in (by omega) (by omega), show 24 * j + k - 24 * j = k by omega]
        exact h1 k hk
      · rw [fb_put_out (by omega)]
        exact h2 j (by omega) k hk
    · have eu : u = 20 := by omega
      subst eu
      have e1 : z_ha o 20 = (o + 1) % 21 := by unfold z_ha; rw [if_neg q]
      have e2 : z_hb 20 = 20 := by unfold z_hb; rw [if_neg q]
      have e3 : zm_u 20 = 19 := by unfold zm_u; rw [if_pos rfl]
      have e4 : zm_ud 20 U = z_fil (zm_s24 U) U 456 := by unfold zm_ud; rw [if_pos rfl]
      rw [e1, e2] at hR
      rw [e2] at hj
      rw [e1, e3, e4, hR ((o + 1) % 21 + j) (by omega), show ((o + 1) % 21 + j) % 21 = (o + (j + 1)) % 21 by omega]
      by_cases e : j = 19
      · subst e
        rw [fb_put_in (by omega) (by omega), show 24 * 19 + k - 24 * 19 = k by omega]
        exact h1 k hk
      · rw [fb_put_out (by omega), z_fil_lt (by omega), h2 (j + 1) (by omega) k hk]
        unfold zm_s24
        rw [show 24 * (j + 1) + k = 24 * j + k + 24 by omega]
theorem zr_ringE {B : Int} {R R2 : Nat → Nat → Int64} {o u v w : Nat} {F : Nat → Int64} (ho : o < 21) (huv : u + v ≤ 20) (h : zr_7 B R o u v w) (hE : z_e F 24 ≤ B)
    (hN : ∀ k, k < 24 → R2 (10 + (z_ha o u + z_hb u) % 21) k = F k) (hR : ∀ j, ¬ j % 21 = (z_ha o u + z_hb u) % 21 → R2 (10 + j % 21) = R (10 + j % 21)) (hT : ∀ i, i < w → R2 (34 + i) = R (34 + i)) : zr_7 B R2 (z_ha o u) (z_hb u) 0 w := by
  obtain ⟨h1, h2⟩ := h
  refine ⟨fun j hj => ?_, fun i hi => by rw [hT i hi]; exact h2 i hi⟩
  by_cases e : (z_ha o u + j) % 21 = (z_ha o u + z_hb u) % 21
  · rw [e, z_e_ag hN]
    exact hE
  · rw [hR _ e]
    by_cases q : u < 20
    · have e1 : z_ha o u = o := by unfold z_ha; rw [if_pos q]
      have e2 : z_hb u = u + 1 := by unfold z_hb; rw [if_pos q]
      rw [e2] at hj
      rw [e1, e2] at e
      rw [e1]
      exact h1 j (by omega)
    · have eu : u = 20 := by omega
      subst eu
      have e1 : z_ha o 20 = (o + 1) % 21 := by unfold z_ha; rw [if_neg q]
      have e2 : z_hb 20 = 20 := by unfold z_hb; rw [if_neg q]
      rw [e2] at hj
      rw [e1, e2] at e
      rw [e1, show ((o + 1) % 21 + j) % 21 = (o + (j + 1)) % 21 by omega]
      exact h1 (j + 1) (by omega)
theorem z_Rq.T {c : Nat} {σ : z_St} {P n o u v w rc tl : Nat} (h : z_Rq c σ P n o u v w rc tl) {F F2 : Nat → Int64} (hF : z_eq24 F F2) (hE : z_e F 24 ≤ z_eB (c + 1)) : z_R (c + 1) (zr_T σ o u F F2) := by
  obtain ⟨hI, hM, a1, a2, ⟨a3, a3x, a3y⟩, a4, a5, a6, aV, a7⟩ := h.up (Nat.le_succ c)
  obtain ⟨⟨i1, i2, i3, i4, i5, i6, i7, i8⟩, jP, jn, jo, ju, jw, jr, jt⟩ := id hI
  obtain ⟨⟨m1, m2, m3, m4, m5, m6, m7⟩, -, -, -, -, -, -, mq, ma⟩ := id hM
  have hbl : z_hb u ≤ 20 := by unfold z_hb; split <;> omega
  have hN : ∀ k, k < 24 → (zr_T σ o u F F2).2 (10 + (z_ha o u + z_hb u) % 21) k = F k := fun k hk => by rw [zr_T_N]; exact zr_cpy hk
  have hR : ∀ j, ¬ j % 21 = (z_ha o u + z_hb u) % 21 → (zr_T σ o u F F2).2 (10 + j % 21) = σ.2 (10 + j % 21) := fun j hj => zr_T_L (by omega) (by omega) (by omega)
  have hT : ∀ i, i < w → (zr_T σ o u F F2).2 (34 + i) = σ.2 (34 + i) := fun i hi => zr_T_L (by omega) (by omega) (by omega)
  refine ⟨P, n, z_ha o u, z_hb u, 0, w, rc, tl, ⟨⟨i1, i2, rfl, rfl, rfl, i6, i7, i8⟩, jP, jn, zr_ha jo, by omega, jw, jr, jt⟩, ⟨⟨m1, m2, ?_, rfl, m5, m6, m7⟩, jP, jn, by omega, jw, jr, jt, mq, ma⟩, a1, ?_, ⟨a3, a3x, a3y⟩, ?_, a5, a6, ?_, ?_⟩
  · show nI (zm_u u + 1) = nI (z_hb u)
    rw [zr_hb u (by omega)]
  · rw [zr_T_108, zr_T_110, zr_T_q (Or.inl rfl)]
    exact zr_ring jo ju a2 hF hN hR
  · rw [zr_T_L (i := 41) (by decide) (by decide) (by omega), zr_T_L (i := 42) (by decide) (by decide) (by omega), zr_T_L (i := 43) (by decide) (by decide) (by omega), zr_T_q (Or.inr rfl)]
    refine ⟨fun i hi => ?_, a4.2⟩
    rw [hT i hi]
    exact a4.1 i hi
  · exact (aV.of (fun a ha => ⟨by
      have b1 : ¬ a = 105 := by omega
      have b2 : ¬ a = 8 := by omega
      simp [zr_T, z_mtk, z_nx, z_uL, z_ui, b1, b2], zr_T_L (by omega) (by omega) (by omega)⟩))
  · exact zr_ringE jo ju a7 hE hN hR hT
theorem zr_2_R {R R2 : Nat → Nat → Int64} {o u v : Nat} {X U V : Nat → Int64} (h : zr_2 R o u v X U V) (hR : ∀ j, R2 (10 + j % 21) = R (10 + j % 21)) : zr_2 R2 o u v X U V := by
  unfold zr_2 at h ⊢
  simp only [hR]
  exact h
theorem zr_7_R {B : Int} {R R2 : Nat → Nat → Int64} {o u v w : Nat} (h : zr_7 B R o u v w) (hR : ∀ j, R2 (10 + j % 21) = R (10 + j % 21)) (hT : ∀ i, i < w → R2 (34 + i) = R (34 + i)) : zr_7 B R2 o u v w := by
  refine ⟨fun j hj => by rw [hR]; exact h.1 j hj, fun i hi => by rw [hT i hi]; exact h.2 i hi⟩
theorem zr_4_R {R R2 : Nat → Nat → Int64} {h H : Nat → Int32} {x y m T : Nat → Int64} {w : Nat} (q : zr_4 R h H x y m T w) (hT : ∀ i, i < w → R2 (34 + i) = R (34 + i)) : zr_4 R2 h H x y m T w := by
  refine ⟨fun i hi => ?_, q.2⟩
  rw [hT i hi]
  exact q.1 i hi
theorem zr_un {R : Nat → Nat → Int64} {o u v : Nat} {X U V : Nat → Int64} (h : zr_2 R o u v X U V) (hu : ¬ u = 0) : zr_2 R o (u - 1) (v + 1) (z_fil (z_sh U (24 * (u - 1))) X 24) U (fb_put V X (24 * v) 24) := by
  obtain ⟨h1, h2, h3⟩ := h
  refine ⟨fun k hk => ?_, fun j hj k hk => h2 j (by omega) k hk, fun j hj k hk => ?_⟩
  · rw [z_fil_lt hk, h2 (u - 1) (by omega) k hk]
    rfl
  · by_cases e : j = v
    · subst e
      rw [fb_put_in (by omega) (by omega), show 24 * j + k - 24 * j = k by omega, show (o + (u - 1) + (j + 1 - j)) % 21 = (o + u) % 21 by omega]
      exact h1 k hk
    · rw [fb_put_out (by omega), show (o + (u - 1) + (v + 1 - j)) % 21 = (o + u + (v - j)) % 21 by omega]
      exact h3 j (by omega) k hk
theorem zr_re {R : Nat → Nat → Int64} {o u v : Nat} {X U V : Nat → Int64} (h : zr_2 R o u v X U V) (hv : ¬ v = 0) : zr_2 R o (u + 1) (v - 1) (z_fil (z_sh V (24 * (v - 1))) X 24) (fb_put U X (24 * u) 24) V := by
  obtain ⟨h1, h2, h3⟩ := h
  refine ⟨fun k hk => ?_, fun j hj k hk => ?_, fun j hj k hk => ?_⟩
  · have q := h3 (v - 1) (by omega) k hk
    rw [z_fil_lt hk, show (o + (u + 1)) % 21 = (o + u + (v - (v - 1))) % 21 by omega, q]
    rfl
  · by_cases e : j = u
    · subst e
      rw [fb_put_in (by omega) (by omega), show 24 * j + k - 24 * j = k by omega]
      exact h1 k hk
    · rw [fb_put_out (by omega)]
      exact h2 j (by omega) k hk
  · rw [show (o + (u + 1) + (v - 1 - j)) % 21 = (o + u + (v - j)) % 21 by omega]
    exact h3 j (by omega) k hk
/-- cells of longs that nothing speaks of -/
theorem z_Rq.uL {c : Nat} {σ : z_St} {P n o u v w rc tl i : Nat} {f : Nat → Int64} (h : z_Rq c σ P n o u v w rc tl) (hi : i = 4 ∨ i = 88 ∨ i = 109) : z_Rq c (z_uL σ i f) P n o u v w rc tl := by
  obtain ⟨hI, hM, a1, a2, a3, a4, a5, a6, aV, a7⟩ := h
  have hw : w ≤ 6 := hI.2.2.2.2.2.1
  have e : ∀ a, ¬ a = i → (z_uL σ i f).2 a = σ.2 a := fun a ha => if_neg ha
  have hR : ∀ j, (z_uL σ i f).2 (10 + j % 21) = σ.2 (10 + j % 21) := fun j => e _ (by omega)
  have hT : ∀ k, k < w → (z_uL σ i f).2 (34 + k) = σ.2 (34 + k) := fun k hk => e _ (by omega)
  refine ⟨hI, hM, a1, ?_, a3, ?_, a5, a6, aV.uL (by omega), zr_7_R a7 hR hT⟩
  · rw [e 108 (by omega), e 110 (by omega), e 111 (by omega)]
    exact zr_2_R a2 hR
  · rw [e 41 (by omega), e 42 (by omega), e 43 (by omega), e 115 (by omega)]
    exact zr_4_R a4 hT
/-- rows of readings -/
theorem zr_ag {n P : Nat} {A B : Nat → Int32} (h : zr_1 n A B) (hn : P * 24 ≤ n) : ∀ i, i < P * 24 → A i = B i := fun i hi => (h i (by omega)).1
theorem z_su_ag {A B : Nat → Int32} {P k : Nat} (h : ∀ i, i < P * 24 → A i = B i) (hk : k < 24) : ∀ j, j ≤ P → z_su A k j = z_su B k j
  | 0, _ => rfl
  | j + 1, hj => by rw [z_su, z_su, z_su_ag h hk j (by omega), h (j * 24 + k) (by omega)]
theorem z_sp_ag {A B : Nat → Int32} {P k : Nat} (h : ∀ i, i < P * 24 → A i = B i) (hk : k < 24) : z_sp A P k = z_sp B P k := by
  unfold z_sp
  rw [z_su_ag h hk P (Nat.le_refl P)]
theorem z_pa_ag {A B : Nat → Int32} {P k : Nat} (h : ∀ i, i < P * 24 → A i = B i) : ∀ j, j ≤ P → z_pa A P k j = z_pa B P k j
  | 0, _ => rfl
  | j + 1, hj => by
    have hq : (k + j * (24 / P)) % 24 < 24 := Nat.mod_lt _ (by decide)
    rw [z_pa, z_pa, z_pa_ag h j (by omega), h (j * 24 + (k + j * (24 / P)) % 24) (by omega), z_su_ag h hq P (Nat.le_refl P)]
theorem z_pt_ag {A B : Nat → Int32} {P k : Nat} (h : ∀ i, i < P * 24 → A i = B i) : z_pt A P k = z_pt B P k := by
  unfold z_pt
  rw [z_pa_ag h P (Nat.le_refl P)]
theorem z_rs_ag {A B : Nat → Int32} {P k j : Nat} (h : ∀ i, i < P * 24 → A i = B i) (hk : k < 24) (hj : j < P) : z_rs A P k j = z_rs B P k j := by
  unfold z_rs
  rw [z_pt_ag h, z_sp_ag h hk, h (j * 24 + k % 24) (by omega)]
/-- the greatest residual, by rows or by columns -/
theorem zr_mxl {a b m : Int64} (h1 : a ≤ m) (h2 : b ≤ m) : z_mx a b ≤ m := by
  unfold z_mx
  split <;> assumption
theorem zr_gi_u {m : Nat → Int32} {P k : Nat} {g M : Int64} (hg : g ≤ M) : ∀ n, (∀ j, j < n → z_rs m P k j ≤ M) → z_gi m P k g n ≤ M
  | 0, _ => hg
  | n + 1, h => zr_mxl (zr_gi_u hg n (fun j hj => h j (by omega))) (h n (by omega))
theorem zr_go_u {m : Nat → Int32} {P : Nat} {M : Int64} (h0 : 0 ≤ M) : ∀ n, (∀ k, k < n → ∀ j, j < P → z_rs m P k j ≤ M) → z_go m P n ≤ M
  | 0, _ => h0
  | n + 1, h => zr_gi_u (zr_go_u h0 n (fun k hk => h k (by omega))) P (h n (by omega))
theorem zr_gj_u {m : Nat → Int32} {P j : Nat} {g M : Int64} (hg : g ≤ M) : ∀ n, (∀ k, k < n → z_rs m P k j ≤ M) → z_gj m P j g n ≤ M
  | 0, _ => hg
  | n + 1, h => zr_mxl (zr_gj_u hg n (fun j hj => h j (by omega))) (h n (by omega))
theorem zr_gp_u {m : Nat → Int32} {P : Nat} {M : Int64} (h0 : 0 ≤ M) : ∀ n, (∀ j, j < n → ∀ k, k < 24 → z_rs m P k j ≤ M) → z_gp m P n ≤ M
  | 0, _ => h0
  | n + 1, h => zr_gj_u (zr_gp_u h0 n (fun k hk => h k (by omega))) 24 (h n (by omega))
theorem zr_gi_l {m : Nat → Int32} {P k : Nat} {g : Int64} : ∀ n, g ≤ z_gi m P k g n ∧ ∀ j, j < n → z_rs m P k j ≤ z_gi m P k g n
  | 0 => ⟨Int64.le_refl g, fun j hj => absurd hj (Nat.not_lt_zero j)⟩
  | n + 1 => by
    obtain ⟨h1, h2⟩ := zr_gi_l (m := m) (P := P) (k := k) (g := g) n
    have e := z_mx_l (z_gi m P k g n) (z_rs m P k n)
    have e2 := z_mx_r (z_gi m P k g n) (z_rs m P k n)
    refine ⟨Int64.le_trans h1 e, fun j hj => ?_⟩
    by_cases q : j = n
    · subst q; exact e2
    · exact Int64.le_trans (h2 j (by omega)) e
theorem zr_go_l {m : Nat → Int32} {P : Nat} : ∀ n, 0 ≤ z_go m P n ∧ ∀ k, k < n → ∀ j, j < P → z_rs m P k j ≤ z_go m P n
  | 0 => ⟨Int64.le_refl 0, fun j hj => absurd hj (Nat.not_lt_zero j)⟩
  | n + 1 => by
    obtain ⟨h1, h2⟩ := zr_go_l (m := m) (P := P) n
    obtain ⟨e, e2⟩ := zr_gi_l (m := m) (P := P) (k := n) (g := z_go m P n) P
    refine ⟨Int64.le_trans h1 e, fun k hk j hj => ?_⟩
    by_cases q : k = n
    · subst q; exact e2 j hj
    · exact Int64.le_trans (h2 k (by omega) j hj) e
theorem zr_gj_l {m : Nat → Int32} {P j : Nat} {g : Int64} : ∀ n, g ≤ z_gj m P j g n ∧ ∀ k, k < n → z_rs m P k j ≤ z_gj m P j g n
  | 0 => ⟨Int64.le_refl g, fun j hj => absurd hj (Nat.not_lt_zero j)⟩
  | n + 1 => by
    obtain ⟨h1, h2⟩ := zr_gj_l (m := m) (P := P) (j := j) (g := g) n
    have e := z_mx_l (z_gj m P j g n) (z_rs m P n j)
    have e2 := z_mx_r (z_gj m P j g n) (z_rs m P n j)
    refine ⟨Int64.le_trans h1 e, fun k hk => ?_⟩
    by_cases q : k = n
    · subst q; exact e2
    · exact Int64.le_trans (h2 k (by omega)) e
theorem zr_gp_l {m : Nat → Int32} {P : Nat} : ∀ n, 0 ≤ z_gp m P n ∧ ∀ j, j < n → ∀ k, k < 24 → z_rs m P k j ≤ z_gp m P n
  | 0 => ⟨Int64.le_refl 0, fun j hj => absurd hj (Nat.not_lt_zero j)⟩
  | n + 1 => by
    obtain ⟨h1, h2⟩ := zr_gp_l (m := m) (P := P) n
    obtain ⟨e, e2⟩ := zr_gj_l (m := m) (P := P) (j := n) (g := z_gp m P n) 24
    refine ⟨Int64.le_trans h1 e, fun j hj k hk => ?_⟩
    by_cases q : j = n
    · subst q; exact e2 k hk
    · exact Int64.le_trans (h2 j (by omega) k hk) e
theorem zr_res {A B : Nat → Int32} {P : Nat} (h : ∀ i, i < P * 24 → A i = B i) : z_gp B P P = z_go A P 24 := by
  refine Int64.le_antisymm (zr_gp_u (zr_go_l 24).1 P (fun j hj k hk => ?_)) (zr_go_u (zr_gp_l P).1 24 (fun k hk j hj => ?_))
  · rw [← z_rs_ag h hk hj]
    exact (zr_go_l 24).2 k hk j hj
  · rw [z_rs_ag h hk hj]
    exact (zr_gp_l P).2 j hj k hk
