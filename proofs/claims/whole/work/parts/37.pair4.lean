/-! THE PAIRS: traces, truth, texts -/
theorem zs_bl {f g : Nat → Int64} (h : ∀ i, f i = g i) : ∀ n, z_bl f n = z_bl g n
  | 0 => rfl
  | n + 1 => by rw [z_bl, z_bl, zs_bl h n, h n, h (z_bl g n)]
theorem zs_ez {x : Int32} {k : Nat} (h : ¬ (x < nI 0 ∨ nI 3 < x)) (hk : k < 4) : z_n x = k ↔ x = nI k := by
  obtain ⟨j, hj, rfl⟩ := z_in0 (by decide) h
  rw [z_nk (by omega)]
  exact ⟨fun z => by rw [z], fun z => (nI_eq (by omega) (by omega)).mp z⟩
theorem zs_up {p T : Nat → Int32} {s : Nat → Int32} {a : Nat} {y : Int32} (h : zr_3 p s T) (ha : a < 24) (hy : z_in 5000 y.toInt) : zr_3 (upd p a y) s (upd T (24 * 0 + a) y) := by
  intro k hk
  obtain ⟨h1, h2, h3, h4⟩ := h k hk
  have n2 : ¬ 24 + k = 24 * 0 + a := by omega
  have eT : upd T (24 * 0 + a) y (24 + k) = T (24 + k) := if_neg n2
  rw [eT]
  by_cases q : k = a
  · have e1 : upd p a y k = y := if_pos q
    have e2 : upd T (24 * 0 + a) y k = y := if_pos (by omega)
    rw [e1, e2]
    exact ⟨rfl, h2, hy, h4⟩
  · have e1 : upd p a y k = p k := if_neg q
    have e2 : upd T (24 * 0 + a) y k = T k := if_neg (by omega)
    rw [e1, e2]
    exact ⟨h1, h2, h3, h4⟩
theorem zs_us {p T : Nat → Int32} {s : Nat → Int32} {a : Nat} {y : Int32} (h : zr_3 p s T) (ha : a < 24) (hy : z_in 5000 y.toInt) : zr_3 p (upd s a y) (upd T (24 * 1 + a) y) := by
  intro k hk
  obtain ⟨h1, h2, h3, h4⟩ := h k hk
  have n1 : ¬ k = 24 * 1 + a := by omega
  have eT : upd T (24 * 1 + a) y k = T k := if_neg n1
  rw [eT]
  by_cases q : k = a
  · have e1 : upd s a y k = y := if_pos q
    have e2 : upd T (24 * 1 + a) y (24 + k) = y := if_pos (by omega)
    rw [e1, e2]
    exact ⟨h1, rfl, h3, hy⟩
  · have e1 : upd s a y k = s k := if_neg q
    have e2 : upd T (24 * 1 + a) y (24 + k) = T (24 + k) := if_neg (by omega)
    rw [e1, e2]
    exact ⟨h1, h2, h3, h4⟩
theorem zs_lp {p T s F G : Nat → Int32} (h : zr_3 p s T) (hF : ∀ k, k < 24 → F k = G k ∧ z_in 5000 (F k).toInt) : zr_3 (z_fil F p 24) s (fb_put T G (24 * 0) 24) := by
  intro k hk
  obtain ⟨h1, h2, h3, h4⟩ := h k hk
  rw [z_fil_lt hk, fb_put_in (by omega) (by omega), fb_put_out (by omega), show k - 24 * 0 = k by omega]
  exact ⟨(hF k hk).1, h2, (hF k hk).2, h4⟩
theorem zs_ls {p T s F G : Nat → Int32} (h : zr_3 p s T) (hF : ∀ k, k < 24 → F k = G k ∧ z_in 5000 (F k).toInt) : zr_3 p (z_fil F s 24) (fb_put T G (24 * 1) 24) := by
  intro k hk
  obtain ⟨h1, h2, h3, h4⟩ := h k hk
  rw [z_fil_lt hk, fb_put_out (by omega), fb_put_in (by omega) (by omega), show 24 + k - 24 * 1 = k by omega]
  exact ⟨h1, (hF k hk).1, h3, (hF k hk).2⟩
theorem zs_chg {F o G O : Nat → Int32} (hF : ∀ k, k < 24 → F k = G k ∧ o k = O k) : z_bo (z_chg G O 24) = z_bo (z_chg F o 24) := by
  refine z_bo_iff (not_congr ⟨fun q j hj => ?_, fun q j hj => ?_⟩)
  · rw [(hF j hj).1, (hF j hj).2]; exact q j hj
  · rw [← (hF j hj).1, ← (hF j hj).2]; exact q j hj
theorem pr_setTrue {l : Launch} {G : z_Gl} {σ : z_St} {c : Nat} (h : z_R c σ) (t : Nat) (x y : Int32) (ht : t < 2) : z_M l G yX7_setTrue cX7_setTrue 6 (some .int) (z_rm 2 42) [.ref (z_ad G 0), .int (nI t), .int x, .int y] σ (fun v1 σ1 => ∃ xx : Int32, v1 = some (.int xx) ∧ z_M l G yX8_setTrue cX8_setTrue 6 (some .int) (z_rm 2 45) [.ref (z_ad G 105), .int (nI t), .int x, .int y] σ1 (fun v2 σ2 => v2 = some (.int xx) ∧ z_R (c + 1) σ2)) := by
  obtain ⟨P, n, o, u, v, w, rc, tl, h⟩ := h
  obtain ⟨hI, hM, a1, a2, ⟨a3, a3x, a3y⟩, a4, a5, a6, aV, a7⟩ := id h
  obtain ⟨⟨i1, i2, i3, i4, i5, i6, i7, i8⟩, jP, jn, jo, ju, jw, jr, jt⟩ := id hI
  obtain ⟨⟨m1, m2, m3, m4, m5, m6, m7⟩, -, -, -, -, -, -, mq, ma⟩ := id hM
  have b7 : zr_7 (z_eB (c + 1)) σ.2 o u v w := (h.up (Nat.le_succ c)).2.2.2.2.2.2.2.2.2
  rcases (by omega : t = 0 ∨ t = 1) with rfl | rfl
  · have q7 := m_X7_setTrue (l := l) (G := G) (σ := σ) P n o u v w rc tl hI 0 x y (by decide)
    by_cases c1 : x < nI 0 ∨ nI 23 < x
    · simp only [if_pos c1] at q7
      refine q7.mono ?_
      rintro v1 σ1 ⟨e1, e2⟩
      refine ⟨_, e1, ?_⟩
      rw [e2]
      have q8 := m_X8_setTrue (l := l) (G := G) (σ := σ) P n u v w rc tl hM 0 x y (by decide)
      simp only [if_pos c1] at q8
      refine q8.mono ?_
      rintro v2 σ2 ⟨e3, e4⟩
      rw [e3, e4]
      exact ⟨rfl, h.two⟩
    by_cases c2 : y < (-5000) ∨ nI 5000 < y
    · simp only [if_neg c1, if_pos c2] at q7
      refine q7.mono ?_
      rintro v1 σ1 ⟨e1, e2⟩
      refine ⟨_, e1, ?_⟩
      rw [e2]
      have q8 := m_X8_setTrue (l := l) (G := G) (σ := σ) P n u v w rc tl hM 0 x y (by decide)
      simp only [if_neg c1, if_pos c2] at q8
      refine q8.mono ?_
      rintro v2 σ2 ⟨e3, e4⟩
      rw [e3, e4]
      exact ⟨rfl, h.two⟩
    simp only [if_neg c1, if_neg c2] at q7
    refine q7.mono ?_
    rintro v1 σ1 ⟨e1, e2⟩
    refine ⟨_, e1, ?_⟩
    rw [e2]
    have q8 := m_X8_setTrue (l := l) (G := G) (σ := z_ui σ 6 (z_n x) y) P n u v w rc tl (show z_mi _ P n u v w rc tl from hM) 0 x y (by decide)
    simp only [if_neg c1, if_neg c2] at q8
    refine q8.mono ?_
    rintro v2 σ2 ⟨e3, e4⟩
    rw [e3, e4]
    have hx := zp_n (by decide) c1
    refine ⟨z_ci ?_, P, n, o, u, v, w, rc, tl, ⟨⟨i1, i2, i3, i4, i5, i6, i7, i8⟩, jP, jn, jo, ju, jw, jr, jt⟩, ⟨⟨m1, m2, m3, m4, m5, m6, m7⟩, jP, jn, ju, jw, jr, jt, mq, ma⟩, a1, a2, ⟨?_, a3x, a3y⟩, a4, a5, a6, ?_, b7⟩
    · have := (a3 (z_n x) (by omega)).1
      rw [show 24 * 0 + z_n x = z_n x by omega]
      exact this.symm
    · exact zs_up a3 (by omega) (zp_in5 c2)
    · exact (aV.ui (by omega)).ui (by omega)
  · have q7 := m_X7_setTrue (l := l) (G := G) (σ := σ) P n o u v w rc tl hI 1 x y (by decide)
    by_cases c1 : x < nI 0 ∨ nI 23 < x
    · simp only [if_pos c1] at q7
      refine q7.mono ?_
      rintro v1 σ1 ⟨e1, e2⟩
      refine ⟨_, e1, ?_⟩
      rw [e2]
      have q8 := m_X8_setTrue (l := l) (G := G) (σ := σ) P n u v w rc tl hM 1 x y (by decide)
      simp only [if_pos c1] at q8
      refine q8.mono ?_
      rintro v2 σ2 ⟨e3, e4⟩
      rw [e3, e4]
      exact ⟨rfl, h.two⟩
    by_cases c2 : y < (-5000) ∨ nI 5000 < y
    · simp only [if_neg c1, if_pos c2] at q7
      refine q7.mono ?_
      rintro v1 σ1 ⟨e1, e2⟩
      refine ⟨_, e1, ?_⟩
      rw [e2]
      have q8 := m_X8_setTrue (l := l) (G := G) (σ := σ) P n u v w rc tl hM 1 x y (by decide)
      simp only [if_neg c1, if_pos c2] at q8
      refine q8.mono ?_
      rintro v2 σ2 ⟨e3, e4⟩
      rw [e3, e4]
      exact ⟨rfl, h.two⟩
    simp only [if_neg c1, if_neg c2] at q7
    refine q7.mono ?_
    rintro v1 σ1 ⟨e1, e2⟩
    refine ⟨_, e1, ?_⟩
    rw [e2]
    have q8 := m_X8_setTrue (l := l) (G := G) (σ := z_ui σ 7 (z_n x) y) P n u v w rc tl (show z_mi _ P n u v w rc tl from hM) 1 x y (by decide)
    simp only [if_neg c1, if_neg c2] at q8
    refine q8.mono ?_
    rintro v2 σ2 ⟨e3, e4⟩
    rw [e3, e4]
    have hx := zp_n (by decide) c1
    refine ⟨z_ci ?_, P, n, o, u, v, w, rc, tl, ⟨⟨i1, i2, i3, i4, i5, i6, i7, i8⟩, jP, jn, jo, ju, jw, jr, jt⟩, ⟨⟨m1, m2, m3, m4, m5, m6, m7⟩, jP, jn, ju, jw, jr, jt, mq, ma⟩, a1, a2, ⟨?_, a3x, a3y⟩, a4, a5, a6, ?_, b7⟩
    · exact (a3 (z_n x) (by omega)).2.1.symm
    · exact zs_us a3 (by omega) (zp_in5 c2)
    · exact (aV.ui (by omega)).ui (by omega)
theorem pr_addLobes {l : Launch} {G : z_Gl} {σ : z_St} {c : Nat} (h : z_R c σ) (t : Nat) (x y z : Int32) (ht : t < 2) : z_M l G yX7_addLobes cX7_addLobes 5 (some .int) (z_rm 4 92) [.ref (z_ad G 0), .int (nI t), .int x, .int y, .int z] σ (fun v1 σ1 => ∃ xx : Int32, v1 = some (.int xx) ∧ z_M l G yX8_addLobes cX8_addLobes 9 (some .int) (z_rm 2 45) [.ref (z_ad G 105), .int (nI t), .int x, .int y, .int z] σ1 (fun v2 σ2 => v2 = some (.int xx) ∧ z_R (c + 1) σ2)) := by
  obtain ⟨P, n, o, u, v, w, rc, tl, h⟩ := h
  obtain ⟨hI, hM, a1, a2, ⟨a3, a3x, a3y⟩, a4, a5, a6, aV, a7⟩ := id h
  obtain ⟨⟨i1, i2, i3, i4, i5, i6, i7, i8⟩, jP, jn, jo, ju, jw, jr, jt⟩ := id hI
  obtain ⟨⟨m1, m2, m3, m4, m5, m6, m7⟩, -, -, -, -, -, -, mq, ma⟩ := id hM
  have b7 : zr_7 (z_eB (c + 1)) σ.2 o u v w := (h.up (Nat.le_succ c)).2.2.2.2.2.2.2.2.2
  rcases (by omega : t = 0 ∨ t = 1) with rfl | rfl
  · have q7 := m_X7_addLobes (l := l) (G := G) (σ := σ) P n o u v w rc tl hI 0 x y z (by decide)
    by_cases c1 : x < nI 0 ∨ nI 12 < x
    · simp only [if_pos c1] at q7
      refine q7.mono ?_
      rintro v1 σ1 ⟨e1, e2⟩
      refine ⟨_, e1, ?_⟩
      rw [e2]
      have q8 := m_X8_addLobes (l := l) (G := G) (σ := σ) P n u v w rc tl hM 0 x y z (by decide)
      simp only [if_pos c1] at q8
      refine q8.mono ?_
      rintro v2 σ2 ⟨e3, e4⟩
      rw [e3, e4]
      exact ⟨rfl, h.two⟩
    by_cases c2 : y < (-1000) ∨ nI 1000 < y
    · simp only [if_neg c1, if_pos c2] at q7
      refine q7.mono ?_
      rintro v1 σ1 ⟨e1, e2⟩
      refine ⟨_, e1, ?_⟩
      rw [e2]
      have q8 := m_X8_addLobes (l := l) (G := G) (σ := σ) P n u v w rc tl hM 0 x y z (by decide)
      simp only [if_neg c1, if_pos c2] at q8
      refine q8.mono ?_
      rintro v2 σ2 ⟨e3, e4⟩
      rw [e3, e4]
      exact ⟨rfl, h.two⟩
    by_cases c3 : z < nI 0 ∨ nI 23 < z
    · simp only [if_neg c1, if_neg c2, if_pos c3] at q7
      refine q7.mono ?_
      rintro v1 σ1 ⟨e1, e2⟩
      refine ⟨_, e1, ?_⟩
      rw [e2]
      have q8 := m_X8_addLobes (l := l) (G := G) (σ := σ) P n u v w rc tl hM 0 x y z (by decide)
      simp only [if_neg c1, if_neg c2, if_pos c3] at q8
      refine q8.mono ?_
      rintro v2 σ2 ⟨e3, e4⟩
      rw [e3, e4]
      exact ⟨rfl, h.two⟩
    simp only [if_neg c1, if_neg c2, if_neg c3] at q7
    refine q7.mono ?_
    rintro v1 σ1 ⟨e1, e2⟩
    refine ⟨_, e1, ?_⟩
    rw [e2]
    have q8 := m_X8_addLobes (l := l) (G := G) (σ := z_uI σ 6 (z_fil (z_so (σ.1 6) y (z_n x) (z_n z)) (σ.1 6) 24)) P n u v w rc tl (show z_mi _ P n u v w rc tl from hM) 0 x y z (by decide)
    simp only [if_neg c1, if_neg c2, if_neg c3] at q8
    refine q8.mono ?_
    rintro v2 σ2 ⟨e3, e4⟩
    rw [e3, e4]
    have ho : ∀ k, k < 24 → (σ.1 6) k = (z_shI (σ.1 119) (24 * 0)) k := fun k hk => by
      have := (a3 k hk).1
      show σ.1 6 k = σ.1 119 (24 * 0 + k)
      rw [show 24 * 0 + k = k by omega]
      exact this
    have hS : ∀ k, k < 24 → z_so (σ.1 6) y (z_n x) (z_n z) k = z_so (z_shI (σ.1 119) (24 * 0)) y (z_n x) (z_n z) k ∧ z_in 5000 (z_so (σ.1 6) y (z_n x) (z_n z) k).toInt := fun k hk => ⟨zq_so (ho k hk), zq_cla (M := 5000) (by decide)⟩
    refine ⟨z_ci (zs_chg (fun k hk => ⟨(hS k hk).1, ho k hk⟩)), P, n, o, u, v, w, rc, tl, ⟨⟨i1, i2, i3, i4, i5, i6, i7, i8⟩, jP, jn, jo, ju, jw, jr, jt⟩, ⟨⟨m1, m2, m3, m4, m5, m6, m7⟩, jP, jn, ju, jw, jr, jt, mq, ma⟩, a1, a2, ⟨?_, a3x, a3y⟩, a4, a5, a6, ?_, b7⟩
    · exact zs_lp a3 hS
    · exact (aV.uI (by omega)).uI (by omega)
  · have q7 := m_X7_addLobes (l := l) (G := G) (σ := σ) P n o u v w rc tl hI 1 x y z (by decide)
    by_cases c1 : x < nI 0 ∨ nI 12 < x
    · simp only [if_pos c1] at q7
      refine q7.mono ?_
      rintro v1 σ1 ⟨e1, e2⟩
      refine ⟨_, e1, ?_⟩
      rw [e2]
      have q8 := m_X8_addLobes (l := l) (G := G) (σ := σ) P n u v w rc tl hM 1 x y z (by decide)
      simp only [if_pos c1] at q8
      refine q8.mono ?_
      rintro v2 σ2 ⟨e3, e4⟩
      rw [e3, e4]
      exact ⟨rfl, h.two⟩
    by_cases c2 : y < (-1000) ∨ nI 1000 < y
    · simp only [if_neg c1, if_pos c2] at q7
      refine q7.mono ?_
      rintro v1 σ1 ⟨e1, e2⟩
      refine ⟨_, e1, ?_⟩
      rw [e2]
      have q8 := m_X8_addLobes (l := l) (G := G) (σ := σ) P n u v w rc tl hM 1 x y z (by decide)
      simp only [if_neg c1, if_pos c2] at q8
      refine q8.mono ?_
      rintro v2 σ2 ⟨e3, e4⟩
      rw [e3, e4]
      exact ⟨rfl, h.two⟩
    by_cases c3 : z < nI 0 ∨ nI 23 < z
    · simp only [if_neg c1, if_neg c2, if_pos c3] at q7
      refine q7.mono ?_
      rintro v1 σ1 ⟨e1, e2⟩
      refine ⟨_, e1, ?_⟩
      rw [e2]
      have q8 := m_X8_addLobes (l := l) (G := G) (σ := σ) P n u v w rc tl hM 1 x y z (by decide)
      simp only [if_neg c1, if_neg c2, if_pos c3] at q8
      refine q8.mono ?_
      rintro v2 σ2 ⟨e3, e4⟩
      rw [e3, e4]
      exact ⟨rfl, h.two⟩
    simp only [if_neg c1, if_neg c2, if_neg c3] at q7
    refine q7.mono ?_
    rintro v1 σ1 ⟨e1, e2⟩
    refine ⟨_, e1, ?_⟩
    rw [e2]
    have q8 := m_X8_addLobes (l := l) (G := G) (σ := z_uI σ 7 (z_fil (z_so (σ.1 7) y (z_n x) (z_n z)) (σ.1 7) 24)) P n u v w rc tl (show z_mi _ P n u v w rc tl from hM) 1 x y z (by decide)
    simp only [if_neg c1, if_neg c2, if_neg c3] at q8
    refine q8.mono ?_
    rintro v2 σ2 ⟨e3, e4⟩
    rw [e3, e4]
    have ho : ∀ k, k < 24 → (σ.1 7) k = (z_shI (σ.1 119) (24 * 1)) k := fun k hk => by
      exact (a3 k hk).2.1
    have hS : ∀ k, k < 24 → z_so (σ.1 7) y (z_n x) (z_n z) k = z_so (z_shI (σ.1 119) (24 * 1)) y (z_n x) (z_n z) k ∧ z_in 5000 (z_so (σ.1 7) y (z_n x) (z_n z) k).toInt := fun k hk => ⟨zq_so (ho k hk), zq_cla (M := 5000) (by decide)⟩
    refine ⟨z_ci (zs_chg (fun k hk => ⟨(hS k hk).1, ho k hk⟩)), P, n, o, u, v, w, rc, tl, ⟨⟨i1, i2, i3, i4, i5, i6, i7, i8⟩, jP, jn, jo, ju, jw, jr, jt⟩, ⟨⟨m1, m2, m3, m4, m5, m6, m7⟩, jP, jn, ju, jw, jr, jt, mq, ma⟩, a1, a2, ⟨?_, a3x, a3y⟩, a4, a5, a6, ?_, b7⟩
    · exact zs_ls a3 hS
    · exact (aV.uI (by omega)).uI (by omega)
theorem pr_axis {l : Launch} {G : z_Gl} {σ : z_St} {c : Nat} (h : z_R c σ) (x : Int32) (t : Nat) (ht : t < 2) : z_M l G yX7_axis cX7_axis 3 (some .long) (z_rm 3 82) [.ref (z_ad G 0), .int x, .int (nI t)] σ (fun v1 σ1 => ∃ xx : Int64, v1 = some (.long xx) ∧ z_M l G yX8_axis cX8_axis 3 (some .long) (z_rm 6 147) [.ref (z_ad G 105), .int x, .int (nI t)] σ1 (fun v2 σ2 => v2 = some (.long xx) ∧ z_R (c + 1) σ2)) := by
  obtain ⟨P, n, o, u, v, w, rc, tl, h⟩ := h
  obtain ⟨hI, hM, a1, a2, ⟨a3, a3x, a3y⟩, a4, a5, a6, aV, a7⟩ := id h
  obtain ⟨⟨i1, i2, i3, i4, i5, i6, i7, i8⟩, jP, jn, jo, ju, jw, jr, jt⟩ := id hI
  obtain ⟨⟨m1, m2, m3, m4, m5, m6, m7⟩, -, -, -, -, -, -, mq, ma⟩ := id hM
  have b7 : zr_7 (z_eB (c + 1)) σ.2 o u v w := (h.up (Nat.le_succ c)).2.2.2.2.2.2.2.2.2
  have hq : ∀ i, i < w → σ.1 40 i = σ.1 116 i ∧ z_in 100 (σ.1 40 i).toInt := fun i hi => zt4_h a4 hi
  have hpos7 : 2 ≤ w → 0 < z_den (σ.1 40) w := fun h2 => zt_pos jw h2 (fun i hi => (hq i hi).2) a4.2
  have hpos8 : 2 ≤ w → 0 < zm_den (σ.1 116) w := fun h2 => by rw [← zt_den hq]; exact hpos7 h2
  have hX : ∀ i, i < w → σ.2 41 i = zm_x (σ.2 115) 0 i := fun i hi => (zt4_c a4 hi).1
  have hY : ∀ i, i < w → σ.2 42 i = zm_x (σ.2 115) 1 i := fun i hi => (zt4_c a4 hi).2.1
  have hMm : ∀ i, i < w → σ.2 43 i = zm_m (σ.2 115) i := fun i hi => (zt4_c a4 hi).2.2
  have q7 := m_X7_axis (l := l) (G := G) (σ := σ) P n o u v w rc tl hI x t ht hpos7
  by_cases c1 : x < nI 0 ∨ nI 100 < x
  · simp only [if_pos c1] at q7
    refine q7.mono ?_
    rintro v1 σ1 ⟨e1, e2⟩
    refine ⟨_, e1, ?_⟩
    rw [e2]
    have q8 := m_X8_axis (l := l) (G := G) (σ := σ) P n u v w rc tl (hM) x t ht hpos8
    simp only [if_pos c1] at q8
    refine q8.mono ?_
    rintro v2 σ2 ⟨e3, e4⟩
    rw [e3, e4]
    exact ⟨rfl, h.two⟩
  by_cases c2 : ¬ 2 ≤ w
  · simp only [if_neg c1, if_pos c2] at q7
    refine q7.mono ?_
    rintro v1 σ1 ⟨e1, e2⟩
    refine ⟨_, e1, ?_⟩
    rw [e2]
    have q8 := m_X8_axis (l := l) (G := G) (σ := σ) P n u v w rc tl (hM) x t ht hpos8
    simp only [if_neg c1, if_pos c2] at q8
    refine q8.mono ?_
    rintro v2 σ2 ⟨e3, e4⟩
    rw [e3, e4]
    exact ⟨rfl, h.two⟩
  simp only [if_neg c1, if_neg c2] at q7
  refine q7.mono ?_
  rintro v1 σ1 ⟨e1, e2⟩
  refine ⟨_, e1, ?_⟩
  rw [e2]
  have q8 := m_X8_axis (l := l) (G := G) (σ := σ) P n u v w rc tl hM x t ht hpos8
  simp only [if_neg c1, if_neg c2] at q8
  refine q8.mono ?_
  rintro v2 σ2 ⟨e3, e4⟩
  rw [e3, e4]
  refine ⟨?_, h.two⟩
  rcases (by omega : t = 0 ∨ t = 1) with rfl | rfl
  · exact z_cl (zt_ax hq hX x).symm
  · exact z_cl (zt_ax hq hY x).symm
theorem pr_farthestTrace {l : Launch} {G : z_Gl} {σ : z_St} {c : Nat} (h : z_R c σ) : z_M l G yX7_farthestTrace cX7_farthestTrace 1 (some .int) (z_rm 5 130) [.ref (z_ad G 0)] σ (fun v1 σ1 => ∃ xx : Int32, v1 = some (.int xx) ∧ z_M l G yX8_farthestTrace cX8_farthestTrace 3 (some .int) (z_rm 7 168) [.ref (z_ad G 105)] σ1 (fun v2 σ2 => v2 = some (.int xx) ∧ z_R (c + 1) σ2)) := by
  obtain ⟨P, n, o, u, v, w, rc, tl, h⟩ := h
  obtain ⟨hI, hM, a1, a2, ⟨a3, a3x, a3y⟩, a4, a5, a6, aV, a7⟩ := id h
  obtain ⟨⟨i1, i2, i3, i4, i5, i6, i7, i8⟩, jP, jn, jo, ju, jw, jr, jt⟩ := id hI
  obtain ⟨⟨m1, m2, m3, m4, m5, m6, m7⟩, -, -, -, -, -, -, mq, ma⟩ := id hM
  have b7 : zr_7 (z_eB (c + 1)) σ.2 o u v w := (h.up (Nat.le_succ c)).2.2.2.2.2.2.2.2.2
  have hq : ∀ i, i < w → σ.1 40 i = σ.1 116 i ∧ z_in 100 (σ.1 40 i).toInt := fun i hi => zt4_h a4 hi
  have hpos7 : 2 ≤ w → 0 < z_den (σ.1 40) w := fun h2 => zt_pos jw h2 (fun i hi => (hq i hi).2) a4.2
  have hpos8 : 2 ≤ w → 0 < zm_den (σ.1 116) w := fun h2 => by rw [← zt_den hq]; exact hpos7 h2
  have hX : ∀ i, i < w → σ.2 41 i = zm_x (σ.2 115) 0 i := fun i hi => (zt4_c a4 hi).1
  have hY : ∀ i, i < w → σ.2 42 i = zm_x (σ.2 115) 1 i := fun i hi => (zt4_c a4 hi).2.1
  have hMm : ∀ i, i < w → σ.2 43 i = zm_m (σ.2 115) i := fun i hi => (zt4_c a4 hi).2.2
  by_cases c1 : 2 ≤ w
  · have q7 := m_X7_farthestTrace (l := l) (G := G) (σ := σ) P n o u v w rc tl hI hpos7
    simp only [if_pos c1] at q7
    refine q7.mono ?_
    rintro v1 σ1 ⟨e1, e2⟩
    refine ⟨_, e1, ?_⟩
    rw [e2]
    have q8 := m_X8_farthestTrace (l := l) (G := G) (σ := σ) P n u v w rc tl hM hpos8
    simp only [if_pos c1] at q8
    refine q8.mono ?_
    rintro v2 σ2 ⟨e3, e4⟩
    rw [e3, e4]
    refine ⟨?_, h.two⟩
    exact z_ci (congrArg nI (zt_bm (fun i hi => by unfold zm_far z_dfa; rw [hX i hi, hY i hi, zt_ax hq hX, zt_ax hq hY, (hq i hi).1]))).symm
  · have q7 := m_X7_farthestTrace (l := l) (G := G) (σ := σ) P n o u v w rc tl hI hpos7
    simp only [if_neg c1] at q7
    refine q7.mono ?_
    rintro v1 σ1 ⟨e1, e2⟩
    refine ⟨_, e1, ?_⟩
    rw [e2]
    have q8 := m_X8_farthestTrace (l := l) (G := G) (σ := σ) P n u v w rc tl hM hpos8
    simp only [if_neg c1] at q8
    refine q8.mono ?_
    rintro v2 σ2 ⟨e3, e4⟩
    rw [e3, e4]
    refine ⟨?_, h.two⟩
    exact rfl
theorem pr_taper {l : Launch} {G : z_Gl} {σ : z_St} {c : Nat} (h : z_R c σ) : z_M l G yX7_taper cX7_taper 1 (some .long) (z_rm 2 48) [.ref (z_ad G 0)] σ (fun v1 σ1 => ∃ xx : Int64, v1 = some (.long xx) ∧ z_M l G yX8_taper cX8_taper 8 (some .long) (z_rm 5 114) [.ref (z_ad G 105)] σ1 (fun v2 σ2 => v2 = some (.long xx) ∧ z_R (c + 1) σ2)) := by
  obtain ⟨P, n, o, u, v, w, rc, tl, h⟩ := h
  obtain ⟨hI, hM, a1, a2, ⟨a3, a3x, a3y⟩, a4, a5, a6, aV, a7⟩ := id h
  obtain ⟨⟨i1, i2, i3, i4, i5, i6, i7, i8⟩, jP, jn, jo, ju, jw, jr, jt⟩ := id hI
  obtain ⟨⟨m1, m2, m3, m4, m5, m6, m7⟩, -, -, -, -, -, -, mq, ma⟩ := id hM
  have b7 : zr_7 (z_eB (c + 1)) σ.2 o u v w := (h.up (Nat.le_succ c)).2.2.2.2.2.2.2.2.2
  have hq : ∀ i, i < w → σ.1 40 i = σ.1 116 i ∧ z_in 100 (σ.1 40 i).toInt := fun i hi => zt4_h a4 hi
  have hpos7 : 2 ≤ w → 0 < z_den (σ.1 40) w := fun h2 => zt_pos jw h2 (fun i hi => (hq i hi).2) a4.2
  have hpos8 : 2 ≤ w → 0 < zm_den (σ.1 116) w := fun h2 => by rw [← zt_den hq]; exact hpos7 h2
  have hX : ∀ i, i < w → σ.2 41 i = zm_x (σ.2 115) 0 i := fun i hi => (zt4_c a4 hi).1
  have hY : ∀ i, i < w → σ.2 42 i = zm_x (σ.2 115) 1 i := fun i hi => (zt4_c a4 hi).2.1
  have hMm : ∀ i, i < w → σ.2 43 i = zm_m (σ.2 115) i := fun i hi => (zt4_c a4 hi).2.2
  by_cases c1 : 1 ≤ w
  · have q7 := m_X7_taper (l := l) (G := G) (σ := σ) P n o u v w rc tl hI 
    simp only [if_pos c1] at q7
    refine q7.mono ?_
    rintro v1 σ1 ⟨e1, e2⟩
    refine ⟨_, e1, ?_⟩
    rw [e2]
    have q8 := m_X8_taper (l := l) (G := G) (σ := σ) P n u v w rc tl hM 
    simp only [if_pos c1] at q8
    refine q8.mono ?_
    rintro v2 σ2 ⟨e3, e4⟩
    rw [e3, e4]
    refine ⟨?_, h.two⟩
    have e0 := hMm 0 (by omega)
    exact z_cl (by rw [← e0, z_fmx_ag hMm, z_fmn_ag hMm])
  · have q7 := m_X7_taper (l := l) (G := G) (σ := σ) P n o u v w rc tl hI 
    simp only [if_neg c1] at q7
    refine q7.mono ?_
    rintro v1 σ1 ⟨e1, e2⟩
    refine ⟨_, e1, ?_⟩
    rw [e2]
    have q8 := m_X8_taper (l := l) (G := G) (σ := σ) P n u v w rc tl hM 
    simp only [if_neg c1] at q8
    refine q8.mono ?_
    rintro v2 σ2 ⟨e3, e4⟩
    rw [e3, e4]
    refine ⟨?_, h.two⟩
    exact rfl
theorem pr_difference {l : Launch} {G : z_Gl} {σ : z_St} {c : Nat} (h : z_R c σ) (x y z : Int32) : z_M l G yX7_difference cX7_difference 4 (some .long) (z_rm 3 68) [.ref (z_ad G 0), .int x, .int y, .int z] σ (fun v1 σ1 => ∃ xx : Int64, v1 = some (.long xx) ∧ z_M l G yX8_difference cX8_difference 4 (some .long) (z_rm 2 47) [.ref (z_ad G 105), .int x, .int y, .int z] σ1 (fun v2 σ2 => v2 = some (.long xx) ∧ z_R (c + 1) σ2)) := by
  obtain ⟨P, n, o, u, v, w, rc, tl, h⟩ := h
  obtain ⟨hI, hM, a1, a2, ⟨a3, a3x, a3y⟩, a4, a5, a6, aV, a7⟩ := id h
  obtain ⟨⟨i1, i2, i3, i4, i5, i6, i7, i8⟩, jP, jn, jo, ju, jw, jr, jt⟩ := id hI
  obtain ⟨⟨m1, m2, m3, m4, m5, m6, m7⟩, -, -, -, -, -, -, mq, ma⟩ := id hM
  have b7 : zr_7 (z_eB (c + 1)) σ.2 o u v w := (h.up (Nat.le_succ c)).2.2.2.2.2.2.2.2.2
  have q7 := m_X7_difference (l := l) (G := G) (σ := σ) P n o u v w rc tl hI x y z
  by_cases c1 : x < nI 0 ∨ nI w - nI 1 < x
  · simp only [if_pos c1] at q7
    refine q7.mono ?_
    rintro v1 σ1 ⟨e1, e2⟩
    refine ⟨_, e1, ?_⟩
    rw [e2]
    have q8 := m_X8_difference (l := l) (G := G) (σ := σ) P n u v w rc tl (hM) x y z
    simp only [if_pos c1] at q8
    refine q8.mono ?_
    rintro v2 σ2 ⟨e3, e4⟩
    rw [e3, e4]
    exact ⟨rfl, h.two⟩
  by_cases c2 : y < nI 0 ∨ nI w - nI 1 < y
  · simp only [if_neg c1, if_pos c2] at q7
    refine q7.mono ?_
    rintro v1 σ1 ⟨e1, e2⟩
    refine ⟨_, e1, ?_⟩
    rw [e2]
    have q8 := m_X8_difference (l := l) (G := G) (σ := σ) P n u v w rc tl (hM) x y z
    simp only [if_neg c1, if_pos c2] at q8
    refine q8.mono ?_
    rintro v2 σ2 ⟨e3, e4⟩
    rw [e3, e4]
    exact ⟨rfl, h.two⟩
  by_cases c3 : z < nI 0 ∨ nI 23 < z
  · simp only [if_neg c1, if_neg c2, if_pos c3] at q7
    refine q7.mono ?_
    rintro v1 σ1 ⟨e1, e2⟩
    refine ⟨_, e1, ?_⟩
    rw [e2]
    have q8 := m_X8_difference (l := l) (G := G) (σ := σ) P n u v w rc tl (hM) x y z
    simp only [if_neg c1, if_neg c2, if_pos c3] at q8
    refine q8.mono ?_
    rintro v2 σ2 ⟨e3, e4⟩
    rw [e3, e4]
    exact ⟨rfl, h.two⟩
  simp only [if_neg c1, if_neg c2, if_neg c3] at q7
  refine q7.mono ?_
  rintro v1 σ1 ⟨e1, e2⟩
  refine ⟨_, e1, ?_⟩
  rw [e2]
  have q8 := m_X8_difference (l := l) (G := G) (σ := σ) P n u v w rc tl hM x y z
  simp only [if_neg c1, if_neg c2, if_neg c3] at q8
  refine q8.mono ?_
  rintro v2 σ2 ⟨e3, e4⟩
  rw [e3, e4]
  refine ⟨?_, h.two⟩
  have ex : z_eq24 (σ.2 (34 + z_n x)) (z_sh (σ.2 115) (24 * z_n x)) := fun k hk => (a4.1 _ (zp_nw (by omega) c1)).1 k hk
  have ey : z_eq24 (σ.2 (34 + z_n y)) (z_sh (σ.2 115) (24 * z_n y)) := fun k hk => (a4.1 _ (zp_nw (by omega) c2)).1 k hk
  exact z_cl (zt_mm ex ey _ 24 (Nat.le_refl 24)).symm
theorem pr_bestRotation {l : Launch} {G : z_Gl} {σ : z_St} {c : Nat} (h : z_R c σ) (x y : Int32) : z_M l G yX7_bestRotation cX7_bestRotation 3 (some .int) (z_rm 4 96) [.ref (z_ad G 0), .int x, .int y] σ (fun v1 σ1 => ∃ xx : Int32, v1 = some (.int xx) ∧ z_M l G yX8_bestRotation cX8_bestRotation 5 (some .int) (z_rm 2 47) [.ref (z_ad G 105), .int x, .int y] σ1 (fun v2 σ2 => v2 = some (.int xx) ∧ z_R (c + 1) σ2)) := by
  obtain ⟨P, n, o, u, v, w, rc, tl, h⟩ := h
  obtain ⟨hI, hM, a1, a2, ⟨a3, a3x, a3y⟩, a4, a5, a6, aV, a7⟩ := id h
  obtain ⟨⟨i1, i2, i3, i4, i5, i6, i7, i8⟩, jP, jn, jo, ju, jw, jr, jt⟩ := id hI
  obtain ⟨⟨m1, m2, m3, m4, m5, m6, m7⟩, -, -, -, -, -, -, mq, ma⟩ := id hM
  have b7 : zr_7 (z_eB (c + 1)) σ.2 o u v w := (h.up (Nat.le_succ c)).2.2.2.2.2.2.2.2.2
  have q7 := m_X7_bestRotation (l := l) (G := G) (σ := σ) P n o u v w rc tl hI x y
  by_cases c1 : x < nI 0 ∨ nI w - nI 1 < x
  · simp only [if_pos c1] at q7
    refine q7.mono ?_
    rintro v1 σ1 ⟨e1, e2⟩
    refine ⟨_, e1, ?_⟩
    rw [e2]
    have q8 := m_X8_bestRotation (l := l) (G := G) (σ := σ) P n u v w rc tl (hM) x y
    simp only [if_pos c1] at q8
    refine q8.mono ?_
    rintro v2 σ2 ⟨e3, e4⟩
    rw [e3, e4]
    exact ⟨rfl, h.two⟩
  by_cases c2 : y < nI 0 ∨ nI w - nI 1 < y
  · simp only [if_neg c1, if_pos c2] at q7
    refine q7.mono ?_
    rintro v1 σ1 ⟨e1, e2⟩
    refine ⟨_, e1, ?_⟩
    rw [e2]
    have q8 := m_X8_bestRotation (l := l) (G := G) (σ := σ) P n u v w rc tl (hM) x y
    simp only [if_neg c1, if_pos c2] at q8
    refine q8.mono ?_
    rintro v2 σ2 ⟨e3, e4⟩
    rw [e3, e4]
    exact ⟨rfl, h.two⟩
  simp only [if_neg c1, if_neg c2] at q7
  refine q7.mono ?_
  rintro v1 σ1 ⟨e1, e2⟩
  refine ⟨_, e1, ?_⟩
  rw [e2]
  have q8 := m_X8_bestRotation (l := l) (G := G) (σ := σ) P n u v w rc tl hM x y
  simp only [if_neg c1, if_neg c2] at q8
  refine q8.mono ?_
  rintro v2 σ2 ⟨e3, e4⟩
  rw [e3, e4]
  refine ⟨?_, h.two⟩
  have ex : z_eq24 (σ.2 (34 + z_n x)) (z_sh (σ.2 115) (24 * z_n x)) := fun k hk => (a4.1 _ (zp_nw (by omega) c1)).1 k hk
  have ey : z_eq24 (σ.2 (34 + z_n y)) (z_sh (σ.2 115) (24 * z_n y)) := fun k hk => (a4.1 _ (zp_nw (by omega) c2)).1 k hk
  exact z_ci (congrArg nI (zs_bl (fun q => (zt_mm ex ey q 24 (Nat.le_refl 24)).symm) 24))
theorem pr_traceValue {l : Launch} {G : z_Gl} {σ : z_St} {c : Nat} (h : z_R c σ) (x y : Int32) : z_M l G yX7_traceValue cX7_traceValue 3 (some .long) (z_rm 2 43) [.ref (z_ad G 0), .int x, .int y] σ (fun v1 σ1 => ∃ xx : Int64, v1 = some (.long xx) ∧ z_M l G yX8_traceValue cX8_traceValue 3 (some .long) (z_rm 5 114) [.ref (z_ad G 105), .int x, .int y] σ1 (fun v2 σ2 => v2 = some (.long xx) ∧ z_R (c + 1) σ2)) := by
  obtain ⟨P, n, o, u, v, w, rc, tl, h⟩ := h
  obtain ⟨hI, hM, a1, a2, ⟨a3, a3x, a3y⟩, a4, a5, a6, aV, a7⟩ := id h
  obtain ⟨⟨i1, i2, i3, i4, i5, i6, i7, i8⟩, jP, jn, jo, ju, jw, jr, jt⟩ := id hI
  obtain ⟨⟨m1, m2, m3, m4, m5, m6, m7⟩, -, -, -, -, -, -, mq, ma⟩ := id hM
  have b7 : zr_7 (z_eB (c + 1)) σ.2 o u v w := (h.up (Nat.le_succ c)).2.2.2.2.2.2.2.2.2
  have q7 := m_X7_traceValue (l := l) (G := G) (σ := σ) P n o u v w rc tl hI x y
  by_cases c1 : x < nI 0 ∨ nI w - nI 1 < x
  · simp only [if_pos c1] at q7
    refine q7.mono ?_
    rintro v1 σ1 ⟨e1, e2⟩
    refine ⟨_, e1, ?_⟩
    rw [e2]
    have q8 := m_X8_traceValue (l := l) (G := G) (σ := σ) P n u v w rc tl (hM) x y
    simp only [if_pos c1] at q8
    refine q8.mono ?_
    rintro v2 σ2 ⟨e3, e4⟩
    rw [e3, e4]
    exact ⟨rfl, h.two⟩
  simp only [if_neg c1] at q7
  refine q7.mono ?_
  rintro v1 σ1 ⟨e1, e2⟩
  refine ⟨_, e1, ?_⟩
  rw [e2]
  have q8 := m_X8_traceValue (l := l) (G := G) (σ := σ) P n u v w rc tl hM x y
  simp only [if_neg c1] at q8
  refine q8.mono ?_
  rintro v2 σ2 ⟨e3, e4⟩
  rw [e3, e4]
  refine ⟨?_, h.two⟩
  have hx := zp_nw (by omega) c1
  obtain ⟨-, t2, t3, t4, t5, t6⟩ := a4.1 _ hx
  obtain ⟨g1, g2, g3⟩ := zt4_c a4 hx
  refine z_cl ?_
  by_cases d : y < nI 0 ∨ nI 3 < y
  · have n0 : ¬ y = 0 := fun z => by rw [z] at d; exact absurd d (by decide)
    have n1 : ¬ y = 1 := fun z => by rw [z] at d; exact absurd d (by decide)
    have n2 : ¬ y = 2 := fun z => by rw [z] at d; exact absurd d (by decide)
    have n3 : ¬ y = 3 := fun z => by rw [z] at d; exact absurd d (by decide)
    rw [if_pos d, if_neg n0, if_neg n1, if_neg n2, if_neg n3]
  · rw [if_neg d]
    obtain ⟨j, hj, rfl⟩ := z_in0 (by decide) d
    rw [z_nk (k := j) (by omega)]
    rcases (by omega : j = 0 ∨ j = 1 ∨ j = 2 ∨ j = 3) with rfl | rfl | rfl | rfl
    · rw [if_pos rfl, if_pos (by decide), t2]
    · rw [if_neg (by decide), if_neg (by decide), if_neg (by decide), if_neg (by decide), if_pos (by decide)]
      exact g1.symm
    · rw [if_neg (by decide), if_neg (by decide), if_pos (by decide), if_neg (by decide), if_neg (by decide), if_pos (by decide)]
      exact g2.symm
    · rw [if_neg (by decide), if_pos (by decide), if_neg (by decide), if_neg (by decide), if_neg (by decide), if_pos (by decide)]
      exact g3.symm
theorem pr_cylindricity {l : Launch} {G : z_Gl} {σ : z_St} {c : Nat} (h : z_R c σ) : z_M l G yX7_cylindricity cX7_cylindricity 1 (some .double) (z_rm 4 114) [.ref (z_ad G 0)] σ (fun v1 σ1 => ∃ xx : UInt64, v1 = some (.double xx) ∧ z_M l G yX8_cylindricity cX8_cylindricity 6 (some .double) (z_rm 6 147) [.ref (z_ad G 105)] σ1 (fun v2 σ2 => v2 = some (.double xx) ∧ z_R (c + 1) σ2)) := by
  obtain ⟨P, n, o, u, v, w, rc, tl, h⟩ := h
  obtain ⟨hI, hM, a1, a2, ⟨a3, a3x, a3y⟩, a4, a5, a6, aV, a7⟩ := id h
  obtain ⟨⟨i1, i2, i3, i4, i5, i6, i7, i8⟩, jP, jn, jo, ju, jw, jr, jt⟩ := id hI
  obtain ⟨⟨m1, m2, m3, m4, m5, m6, m7⟩, -, -, -, -, -, -, mq, ma⟩ := id hM
  have b7 : zr_7 (z_eB (c + 1)) σ.2 o u v w := (h.up (Nat.le_succ c)).2.2.2.2.2.2.2.2.2
  have hq : ∀ i, i < w → σ.1 40 i = σ.1 116 i ∧ z_in 100 (σ.1 40 i).toInt := fun i hi => zt4_h a4 hi
  have hpos7 : 2 ≤ w → 0 < z_den (σ.1 40) w := fun h2 => zt_pos jw h2 (fun i hi => (hq i hi).2) a4.2
  have hpos8 : 2 ≤ w → 0 < zm_den (σ.1 116) w := fun h2 => by rw [← zt_den hq]; exact hpos7 h2
  have hX : ∀ i, i < w → σ.2 41 i = zm_x (σ.2 115) 0 i := fun i hi => (zt4_c a4 hi).1
  have hY : ∀ i, i < w → σ.2 42 i = zm_x (σ.2 115) 1 i := fun i hi => (zt4_c a4 hi).2.1
  have hMm : ∀ i, i < w → σ.2 43 i = zm_m (σ.2 115) i := fun i hi => (zt4_c a4 hi).2.2
  refine (m_X7_cylindricity (l := l) (G := G) (σ := σ) P n o u v w rc tl hI hpos7).mono ?_
  rintro v1 σ1 ⟨e1, e2⟩
  refine ⟨_, e1, ?_⟩
  rw [e2]
  have q8 := m_X8_cylindricity (l := l) (G := G) (σ := σ) P n u v w rc tl hM (σ.2 105 10) (σ.2 105 11) (σ.2 105 12) (σ.2 105 13) (σ.2 109) (σ.2 114) hpos8
  rw [z_mU_self] at q8
  refine q8.mono ?_
  rintro v2 σ2 ⟨e3, q1, q2, q3, q4, e4⟩
  rw [e3, e4]
  refine ⟨?_, h.mU.two⟩
  by_cases c1 : 2 ≤ w
  · rw [if_pos c1, if_pos c1]
    have hd : ∀ i, i < w → z_eq24 (z_cdv (σ.1 40) (σ.2 41) (σ.2 42) (z_tr σ.2) w i) (zm_cd (σ.1 116) (σ.2 115) w i) := fun i hi k hk => by
      unfold z_cdv zm_cd z_df z_tr
      rw [zt_ax hq hX, zt_ax hq hY, (hq i hi).1, (a4.1 i hi).1 k hk]
      rfl
    obtain ⟨k, ek⟩ : ∃ k, w = k + 1 := ⟨w - 1, by omega⟩
    have eH : z_fmx2 (z_cdv (σ.1 40) (σ.2 41) (σ.2 42) (z_tr σ.2) w) (-9223372036854775808) w = zm_hi (zm_fH (σ.1 116) (σ.2 115) w) w := by
      have := zt_hi (d := z_cdv (σ.1 40) (σ.2 41) (σ.2 42) (z_tr σ.2) w) (D := zm_fH (σ.1 116) (σ.2 115) w) (n := k) (fun i hi => z_fmx_ag (hd i (by omega)))
      rw [← ek] at this
      exact this
    have eL : z_fmn2 (z_cdv (σ.1 40) (σ.2 41) (σ.2 42) (z_tr σ.2) w) 9223372036854775807 w = zm_bst (zm_fL (σ.1 116) (σ.2 115) w) w := by
      have := zt_lo (d := z_cdv (σ.1 40) (σ.2 41) (σ.2 42) (z_tr σ.2) w) (D := zm_fL (σ.1 116) (σ.2 115) w) (n := k) (fun i hi => z_fmn_ag (hd i (by omega)))
      rw [← ek] at this
      exact this
    rw [eH, eL]
  · rw [if_neg c1, if_neg c1]

/-- a trace more: the class's store, both -/
def zs_A (σ : z_St) (w : Nat) (x : Int32) (Z : Nat → Int64) : z_St := z_ui (z_ul (z_ul (z_ul (z_ui (z_uL σ (34 + w) (va_cpy Z (σ.2 (34 + w)) 0 0 24)) 40 w x) 41 w (z_cf Z 0 1)) 42 w (z_cf Z 1 1)) 43 w (z_cf Z 0 0)) 32 5 (nI (w + 1))
theorem zs_t7 {σ : z_St} {w i : Nat} {x : Int32} {Z : Nat → Int64} (h : ¬ i = 34 + w) (h2 : ¬ (41 ≤ i ∧ i ≤ 43)) : (zs_A σ w x Z).2 i = σ.2 i := by
  have b1 : ¬ i = 41 := by omega
  have b2 : ¬ i = 42 := by omega
  have b3 : ¬ i = 43 := by omega
  simp [zs_A, z_ui, z_ul, z_uL, h, b1, b2, b3]
def zs_B (σ : z_St) (w : Nat) (x : Int32) (Z : Nat → Int64) : z_St := z_ui (z_ui (z_uL (zs_A σ w x Z) 115 (fb_put (σ.2 115) (σ.2 108) (24 * w) 24)) 116 w x) 105 17 (nI (w + 1))
theorem zs_t8 {σ : z_St} {w i : Nat} {x : Int32} {Z : Nat → Int64} (h : ¬ i = 34 + w) (h2 : ¬ (41 ≤ i ∧ i ≤ 43) ∧ ¬ i = 115) : (zs_B σ w x Z).2 i = σ.2 i := by
  have b1 : ¬ i = 115 := h2.2
  have e : (zs_B σ w x Z).2 i = (zs_A σ w x Z).2 i := by simp [zs_B, z_ui, z_uL, b1]
  rw [e]
  exact zs_t7 h h2.1
theorem zs_t4 {σ : z_St} {w : Nat} {x : Int32} {Z : Nat → Int64} (hw : w < 6) (a4 : zr_4 σ.2 (σ.1 40) (σ.1 116) (σ.2 41) (σ.2 42) (σ.2 43) (σ.2 115) w) (hz : z_eq24 Z (σ.2 108)) (hx : 0 ≤ x.toInt ∧ x.toInt ≤ 100) (hn : ∀ j, j < w → ¬ σ.1 40 j = x) : zr_4 (zs_B σ w x Z).2 ((zs_B σ w x Z).1 40) ((zs_B σ w x Z).1 116) ((zs_B σ w x Z).2 41) ((zs_B σ w x Z).2 42) ((zs_B σ w x Z).2 43) ((zs_B σ w x Z).2 115) (w + 1) := by
  have n1 : ¬ 41 = 34 + w := by omega
  have n2 : ¬ 42 = 34 + w := by omega
  have n3 : ¬ 43 = 34 + w := by omega
  have n4 : ¬ 34 + w = 115 := by omega
  have n5 : ¬ 34 + w = 41 := by omega
  have n6 : ¬ 34 + w = 42 := by omega
  have n7 : ¬ 34 + w = 43 := by omega
  have e40 : (zs_B σ w x Z).1 40 = upd (σ.1 40) w x := rfl
  have e116 : (zs_B σ w x Z).1 116 = upd (σ.1 116) w x := rfl
  have e41 : (zs_B σ w x Z).2 41 = vp_updL (σ.2 41) w (z_cf Z 0 1) := by simp [zs_B, zs_A, z_ui, z_ul, z_uL, n1]
  have e42 : (zs_B σ w x Z).2 42 = vp_updL (σ.2 42) w (z_cf Z 1 1) := by simp [zs_B, zs_A, z_ui, z_ul, z_uL, n2]
  have e43 : (zs_B σ w x Z).2 43 = vp_updL (σ.2 43) w (z_cf Z 0 0) := by simp [zs_B, zs_A, z_ui, z_ul, z_uL, n3]
  have e115 : (zs_B σ w x Z).2 115 = fb_put (σ.2 115) (σ.2 108) (24 * w) 24 := by simp [zs_B, z_ui, z_uL]
  have eW : (zs_B σ w x Z).2 (34 + w) = va_cpy Z (σ.2 (34 + w)) 0 0 24 := by simp [zs_B, zs_A, z_ui, z_ul, z_uL, n4, n5, n6, n7]
  rw [e40, e116, e41, e42, e43, e115]
  have uI : ∀ (A : Nat → Int32) (i : Nat), i < w → upd A w x i = A i := fun A i hi => if_neg (by omega)
  have uL : ∀ (A : Nat → Int64) (y : Int64) (i : Nat), i < w → vp_updL A w y i = A i := fun A y i hi => if_neg (by omega)
  have sI : ∀ (A : Nat → Int32), upd A w x w = x := fun A => if_pos rfl
  have sL : ∀ (A : Nat → Int64) (y : Int64), vp_updL A w y w = y := fun A y => if_pos rfl
  refine ⟨fun i hi => ?_, fun i j hi hj hij => ?_⟩
  · by_cases q : i = w
    · subst q
      have eZ : z_eq24 (va_cpy Z (σ.2 (34 + i)) 0 0 24) Z := fun k hk => zr_cpy hk
      rw [eW, sI, sI, sL, sL, sL, z_cf_ag eZ, z_cf_ag eZ, z_cf_ag eZ]
      refine ⟨fun k hk => ?_, rfl, hx, rfl, rfl, rfl⟩
      rw [eZ k hk, fb_put_in (by omega) (by omega), show 24 * i + k - 24 * i = k by omega]
      exact hz k hk
    · have hi2 : i < w := by omega
      obtain ⟨g1, g2, g3, g4, g5, g6⟩ := a4.1 i hi2
      rw [zs_t8 (i := 34 + i) (by omega) (by omega), uI _ _ hi2, uI _ _ hi2, uL _ _ _ hi2, uL _ _ _ hi2, uL _ _ _ hi2]
      exact ⟨fun k hk => by rw [g1 k hk, fb_put_out (by omega)], g2, g3, g4, g5, g6⟩
  · by_cases q : i = w
    · by_cases q2 : j = w
      · omega
      · have hj2 : j < w := by omega
        rw [q, sI, uI _ _ hj2] at hij
        exact absurd hij.symm (hn j hj2)
    · have hi2 : i < w := by omega
      by_cases q2 : j = w
      · rw [q2, sI, uI _ _ hi2] at hij
        exact absurd hij (hn i hi2)
      · have hj2 : j < w := by omega
        rw [uI _ _ hi2, uI _ _ hj2] at hij
        exact a4.2 i j hi2 hj2 hij
theorem zs_tV {σ : z_St} {w : Nat} {x : Int32} {Z : Nat → Int64} (h : z_vcs σ) (hw : w < 6) : z_vcs (zs_B σ w x Z) := h.of (fun a ha => ⟨by
  have b1 : ¬ a = 105 := by omega
  have b2 : ¬ a = 116 := by omega
  have b3 : ¬ a = 32 := by omega
  have b4 : ¬ a = 40 := by omega
  simp [zs_B, zs_A, z_ui, z_ul, z_uL, b1, b2, b3, b4], zs_t8 (by omega) (by omega)⟩)
theorem zs_t7e {B : Int} {σ : z_St} {o u v w : Nat} {x : Int32} {Z : Nat → Int64} (hw : w < 6) (h : zr_7 B σ.2 o u v w) (hZ : z_e Z 24 ≤ B) : zr_7 B (zs_B σ w x Z).2 o u v (w + 1) := by
  refine ⟨fun j hj => by rw [zs_t8 (by omega) (by omega)]; exact h.1 j hj, fun i hi => ?_⟩
  by_cases q : i = w
  · subst q
    have n4 : ¬ 34 + i = 115 := by omega
    have n5 : ¬ 34 + i = 41 := by omega
    have n6 : ¬ 34 + i = 42 := by omega
    have n7 : ¬ 34 + i = 43 := by omega
    have eW : (zs_B σ i x Z).2 (34 + i) = va_cpy Z (σ.2 (34 + i)) 0 0 24 := by simp [zs_B, zs_A, z_ui, z_ul, z_uL, n4, n5, n6, n7]
    rw [eW, z_e_ag (g := Z) (fun k hk => zr_cpy hk)]
    exact hZ
  · rw [zs_t8 (by omega) (by omega)]
    exact h.2 i (by omega)
theorem pr_storeTrace {l : Launch} {G : z_Gl} {σ : z_St} {c : Nat} (h : z_R c σ) (x : Int32) : z_M l G yX7_storeTrace cX7_storeTrace 2 (some .int) (z_rm 4 90) [.ref (z_ad G 0), .int x] σ (fun v1 σ1 => ∃ xx : Int32, v1 = some (.int xx) ∧ z_M l G yX8_storeTrace cX8_storeTrace 3 (some .int) (z_rm 1 25) [.ref (z_ad G 105), .int x] σ1 (fun v2 σ2 => v2 = some (.int xx) ∧ z_R (c + 1) σ2)) := by
  obtain ⟨P, n, o, u, v, w, rc, tl, h⟩ := h
  obtain ⟨hI, hM, a1, a2, ⟨a3, a3x, a3y⟩, a4, a5, a6, aV, a7⟩ := id h
  obtain ⟨⟨i1, i2, i3, i4, i5, i6, i7, i8⟩, jP, jn, jo, ju, jw, jr, jt⟩ := id hI
  obtain ⟨⟨m1, m2, m3, m4, m5, m6, m7⟩, -, -, -, -, -, -, mq, ma⟩ := id hM
  have b7 : zr_7 (z_eB (c + 1)) σ.2 o u v w := (h.up (Nat.le_succ c)).2.2.2.2.2.2.2.2.2
  have eH := zq_al (x := x) (fun i (hi : i < w) => (zt4_h a4 hi).1)
  have q7 := m_X7_storeTrace (l := l) (G := G) (σ := σ) P n o u v w rc tl hI x
  by_cases c1 : x < nI 0 ∨ nI 100 < x
  · simp only [if_pos c1] at q7
    refine q7.mono ?_
    rintro v1 σ1 ⟨e1, e2⟩
    refine ⟨_, e1, ?_⟩
    rw [e2]
    have q8 := m_X8_storeTrace (l := l) (G := G) (σ := σ) P n u v w rc tl hM x
    simp only [if_pos c1] at q8
    refine q8.mono ?_
    rintro v2 σ2 ⟨e3, e4⟩
    rw [e3, e4]
    exact ⟨rfl, h.two⟩
  by_cases c2 : ¬ ∀ j, j < w → ¬ σ.1 40 j = x
  · simp only [if_neg c1, if_pos c2] at q7
    refine q7.mono ?_
    rintro v1 σ1 ⟨e1, e2⟩
    refine ⟨_, e1, ?_⟩
    rw [e2]
    have q8 := m_X8_storeTrace (l := l) (G := G) (σ := σ) P n u v w rc tl hM x
    simp only [if_neg c1, if_pos (fun z => c2 (eH.mp z) : ¬ ∀ j, j < w → ¬ σ.1 116 j = x)] at q8
    refine q8.mono ?_
    rintro v2 σ2 ⟨e3, e4⟩
    rw [e3, e4]
    exact ⟨rfl, h.two⟩
  by_cases c3 : w = 6
  · simp only [if_neg c1, if_neg c2, if_pos c3] at q7
    refine q7.mono ?_
    rintro v1 σ1 ⟨e1, e2⟩
    refine ⟨_, e1, ?_⟩
    rw [e2]
    have q8 := m_X8_storeTrace (l := l) (G := G) (σ := σ) P n u v w rc tl hM x
    simp only [if_neg c1, if_neg (fun z => c2 (fun y => z (eH.mpr y)) : ¬ ¬ ∀ j, j < w → ¬ σ.1 116 j = x), if_pos c3] at q8
    refine q8.mono ?_
    rintro v2 σ2 ⟨e3, e4⟩
    rw [e3, e4]
    exact ⟨rfl, h.two⟩
  simp only [if_neg c1, if_neg c2, if_neg c3] at q7
  refine q7.mono ?_
  rintro v1 σ1 ⟨e1, e2⟩
  refine ⟨_, e1, ?_⟩
  rw [e2]
  have f108 : (z_ui (z_ul (z_ul (z_ul (z_ui (z_uL σ (34 + w) (va_cpy (σ.2 (10 + (o + u) % 21)) (σ.2 (34 + w)) 0 0 24)) 40 w x) 41 w (z_cf (σ.2 (10 + (o + u) % 21)) 0 1)) 42 w (z_cf (σ.2 (10 + (o + u) % 21)) 1 1)) 43 w (z_cf (σ.2 (10 + (o + u) % 21)) 0 0)) 32 5 (nI (w + 1))).2 108 = σ.2 108 := zs_t7 (by omega) (by decide)
  have q8 := m_X8_storeTrace (l := l) (G := G) (σ := (z_ui (z_ul (z_ul (z_ul (z_ui (z_uL σ (34 + w) (va_cpy (σ.2 (10 + (o + u) % 21)) (σ.2 (34 + w)) 0 0 24)) 40 w x) 41 w (z_cf (σ.2 (10 + (o + u) % 21)) 0 1)) 42 w (z_cf (σ.2 (10 + (o + u) % 21)) 1 1)) 43 w (z_cf (σ.2 (10 + (o + u) % 21)) 0 0)) 32 5 (nI (w + 1)))) P n u v w rc tl (show z_mi _ P n u v w rc tl from hM) x
  have f115 : (z_ui (z_ul (z_ul (z_ul (z_ui (z_uL σ (34 + w) (va_cpy (σ.2 (10 + (o + u) % 21)) (σ.2 (34 + w)) 0 0 24)) 40 w x) 41 w (z_cf (σ.2 (10 + (o + u) % 21)) 0 1)) 42 w (z_cf (σ.2 (10 + (o + u) % 21)) 1 1)) 43 w (z_cf (σ.2 (10 + (o + u) % 21)) 0 0)) 32 5 (nI (w + 1))).2 115 = σ.2 115 := zs_t7 (by omega) (by decide)
  simp only [f108, f115, show (z_ui (z_ul (z_ul (z_ul (z_ui (z_uL σ (34 + w) (va_cpy (σ.2 (10 + (o + u) % 21)) (σ.2 (34 + w)) 0 0 24)) 40 w x) 41 w (z_cf (σ.2 (10 + (o + u) % 21)) 0 1)) 42 w (z_cf (σ.2 (10 + (o + u) % 21)) 1 1)) 43 w (z_cf (σ.2 (10 + (o + u) % 21)) 0 0)) 32 5 (nI (w + 1))).1 116 = σ.1 116 from rfl, if_neg c1, if_neg (fun z => c2 (fun y => z (eH.mpr y)) : ¬ ¬ ∀ j, j < w → ¬ σ.1 116 j = x), if_neg c3] at q8
  refine q8.mono ?_
  rintro v2 σ2 ⟨e3, e4⟩
  rw [e3, e4]
  clear q7 q8 e3 e4 e1 e2 f108 f115
  obtain ⟨k0, hk0, ex⟩ := z_in0 (by decide) c1
  have hx100 : 0 ≤ x.toInt ∧ x.toInt ≤ 100 := by rw [ex, nI_toInt (by omega)]; constructor <;> omega
  have hnew : ∀ j, j < w → ¬ σ.1 40 j = x := Decidable.not_not.mp c2
  refine ⟨rfl, (show z_R (c + 1) (zs_B σ w x (σ.2 (10 + (o + u) % 21))) from ?_)⟩
  refine ⟨P, n, o, u, v, w + 1, rc, tl, ⟨⟨i1, i2, i3, i4, i5, rfl, i7, i8⟩, jP, jn, jo, ju, by omega, jr, jt⟩, ⟨⟨m1, m2, m3, m4, rfl, m6, m7⟩, jP, jn, ju, by omega, jr, jt, mq, ma⟩, a1, ?_, ⟨a3, a3x, a3y⟩, ?_, a5, a6, ?_, ?_⟩
  · rw [zs_t8 (i := 108) (by omega) (by decide), zs_t8 (i := 110) (by omega) (by decide), zs_t8 (i := 111) (by omega) (by decide)]
    exact zr_2_R a2 (fun j => zs_t8 (by omega) (by omega))
  · exact zs_t4 (by omega) a4 a2.1 hx100 hnew
  · exact zs_tV aV (by omega)
  · exact zs_t7e (by omega) b7 (b7.1 u (by omega))
