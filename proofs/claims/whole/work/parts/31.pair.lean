/-! THE PAIRS: readings, rules, texts, truth -/
theorem zp_st {x : Int32} (h : x = nI 2 ∨ x = nI 3 ∨ x = nI 4 ∨ x = nI 6 ∨ x = nI 8 ∨ x = nI 12) : ∃ P2 : Nat, x = nI P2 ∧ (P2 = 2 ∨ P2 = 3 ∨ P2 = 4 ∨ P2 = 6 ∨ P2 = 8 ∨ P2 = 12) := by
  rcases h with z | z | z | z | z | z <;> exact ⟨_, z, by decide⟩
theorem zp_in {x : Int32} (h : ¬ (x < (-10000) ∨ nI 10000 < x)) : z_in 10000 x.toInt := by
  have h1 : ¬ x < (-10000) := fun z => h (Or.inl z)
  have h2 : ¬ nI 10000 < x := fun z => h (Or.inr z)
  rw [Int32.lt_iff_toInt_lt] at h1 h2
  have e1 : (-10000 : Int32).toInt = -10000 := by decide
  have e2 : (nI 10000).toInt = 10000 := by decide
  rw [e1] at h1
  rw [e2] at h2
  exact ⟨by omega, by omega⟩
theorem zp_in5 {x : Int32} (h : ¬ (x < (-5000) ∨ nI 5000 < x)) : z_in 5000 x.toInt := by
  have h1 : ¬ x < (-5000) := fun z => h (Or.inl z)
  have h2 : ¬ nI 5000 < x := fun z => h (Or.inr z)
  rw [Int32.lt_iff_toInt_lt] at h1 h2
  have e1 : (-5000 : Int32).toInt = -5000 := by decide
  have e2 : (nI 5000).toInt = 5000 := by decide
  rw [e1] at h1
  rw [e2] at h2
  exact ⟨by omega, by omega⟩
theorem zr_1_upd {n : Nat} {A B : Nat → Int32} {x : Int32} (h : zr_1 n A B) (hx : z_in 10000 x.toInt) : zr_1 (n + 1) (upd A n x) (upd B n x) := by
  intro k hk
  unfold upd
  by_cases e : k = n
  · rw [if_pos e, if_pos e]; exact ⟨rfl, hx⟩
  · rw [if_neg e, if_neg e]; exact h k (by omega)
theorem zr_6_upd {n : Nat} {A B : Nat → Int32} {x : Int32} (h : zr_6 A B n) : zr_6 (upd A n x) (upd B n x) (n + 1) := by
  intro k hk
  unfold upd
  by_cases e : k = n
  · rw [if_pos e, if_pos e]
  · rw [if_neg e, if_neg e]; exact h k (by omega)
theorem pr_setSteps {l : Launch} {G : z_Gl} {σ : z_St} {c : Nat} (h : z_R c σ) (x : Int32) : z_M l G yX7_setSteps cX7_setSteps 3 (some .int) (z_rm 1 21) [.ref (z_ad G 0), .int x] σ (fun v1 σ1 => ∃ xx : Int32, v1 = some (.int xx) ∧ z_M l G yX8_setSteps cX8_setSteps 3 (some .int) (z_rm 1 20) [.ref (z_ad G 105), .int x] σ1 (fun v2 σ2 => v2 = some (.int xx) ∧ z_R (c + 1) σ2)) := by
  obtain ⟨P, n, o, u, v, w, rc, tl, h⟩ := h
  obtain ⟨hI, hM, a1, a2, ⟨a3, a3x, a3y⟩, a4, a5, a6, aV, a7⟩ := id h
  obtain ⟨⟨i1, i2, i3, i4, i5, i6, i7, i8⟩, jP, jn, jo, ju, jw, jr, jt⟩ := id hI
  obtain ⟨⟨m1, m2, m3, m4, m5, m6, m7⟩, -, -, -, -, -, -, mq, ma⟩ := id hM
  have b7 : zr_7 (z_eB (c + 1)) σ.2 o u v w := (h.up (Nat.le_succ c)).2.2.2.2.2.2.2.2.2
  have q7 := m_X7_setSteps (l := l) (G := G) (σ := σ) P n o u v w rc tl hI x
  by_cases c1 : ¬ (x = nI 2 ∨ x = nI 3 ∨ x = nI 4 ∨ x = nI 6 ∨ x = nI 8 ∨ x = nI 12)
  · simp only [if_pos c1] at q7
    refine q7.mono ?_
    rintro v1 σ1 ⟨e1, e2⟩
    refine ⟨_, e1, ?_⟩
    rw [e2]
    have q8 := m_X8_setSteps (l := l) (G := G) (σ := σ) P n u v w rc tl (hM) x
    simp only [if_pos c1] at q8
    refine q8.mono ?_
    rintro v2 σ2 ⟨e3, e4⟩
    rw [e3, e4]
    exact ⟨rfl, h.two⟩
  simp only [if_neg c1] at q7
  obtain ⟨P2, e2, hP2⟩ := zp_st (Decidable.not_not.mp c1)
  refine q7.mono ?_
  rintro v1 σ1 ⟨e1, e2⟩
  refine ⟨_, e1, ?_⟩
  rw [e2]
  have q8 := m_X8_setSteps (l := l) (G := G) (σ := z_ui (z_ui σ 1 3 x) 1 4 (nI 0)) P n u v w rc tl (show z_mi _ P n u v w rc tl from hM) x
  simp only [if_neg c1] at q8
  refine q8.mono ?_
  rintro v2 σ2 ⟨e3, e4⟩
  rw [e3, e4]
  refine ⟨rfl, P2, 0, o, u, v, w, rc, tl, ⟨⟨e2, rfl, i3, i4, i5, i6, i7, i8⟩, hP2, Nat.zero_le _, jo, ju, jw, jr, jt⟩, ⟨⟨e2, rfl, m3, m4, m5, m6, m7⟩, hP2, Nat.zero_le _, ju, jw, jr, jt, mq, ma⟩, fun k hk => absurd hk (Nat.not_lt_zero k), a2, ⟨a3, a3x, a3y⟩, a4, a5, a6, ((((aV).ui (by omega)).ui (by omega)).ui (by omega)).ui (by omega), b7⟩
theorem pr_read {l : Launch} {G : z_Gl} {σ : z_St} {c : Nat} (h : z_R c σ) (x : Int32) : z_M l G yX7_read cX7_read 2 (some .int) (z_rm 1 22) [.ref (z_ad G 0), .int x] σ (fun v1 σ1 => ∃ xx : Int32, v1 = some (.int xx) ∧ z_M l G yX8_read cX8_read 2 (some .int) (z_rm 1 25) [.ref (z_ad G 105), .int x] σ1 (fun v2 σ2 => v2 = some (.int xx) ∧ z_R (c + 1) σ2)) := by
  obtain ⟨P, n, o, u, v, w, rc, tl, h⟩ := h
  obtain ⟨hI, hM, a1, a2, ⟨a3, a3x, a3y⟩, a4, a5, a6, aV, a7⟩ := id h
  obtain ⟨⟨i1, i2, i3, i4, i5, i6, i7, i8⟩, jP, jn, jo, ju, jw, jr, jt⟩ := id hI
  obtain ⟨⟨m1, m2, m3, m4, m5, m6, m7⟩, -, -, -, -, -, -, mq, ma⟩ := id hM
  have b7 : zr_7 (z_eB (c + 1)) σ.2 o u v w := (h.up (Nat.le_succ c)).2.2.2.2.2.2.2.2.2
  have q7 := m_X7_read (l := l) (G := G) (σ := σ) P n o u v w rc tl hI x
  by_cases c1 : x < (-10000) ∨ nI 10000 < x
  · simp only [if_pos c1] at q7
    refine q7.mono ?_
    rintro v1 σ1 ⟨e1, e2⟩
    refine ⟨_, e1, ?_⟩
    rw [e2]
    have q8 := m_X8_read (l := l) (G := G) (σ := σ) P n u v w rc tl (hM) x
    simp only [if_pos c1] at q8
    refine q8.mono ?_
    rintro v2 σ2 ⟨e3, e4⟩
    rw [e3, e4]
    exact ⟨rfl, h.two⟩
  by_cases c2 : P * 24 ≤ n
  · simp only [if_neg c1, if_pos c2] at q7
    refine q7.mono ?_
    rintro v1 σ1 ⟨e1, e2⟩
    refine ⟨_, e1, ?_⟩
    rw [e2]
    have q8 := m_X8_read (l := l) (G := G) (σ := σ) P n u v w rc tl (hM) x
    simp only [if_neg c1, if_pos c2] at q8
    refine q8.mono ?_
    rintro v2 σ2 ⟨e3, e4⟩
    rw [e3, e4]
    exact ⟨rfl, h.two⟩
  simp only [if_neg c1, if_neg c2] at q7
  refine q7.mono ?_
  rintro v1 σ1 ⟨e1, e2⟩
  refine ⟨_, e1, ?_⟩
  rw [e2]
  have q8 := m_X8_read (l := l) (G := G) (σ := z_ui (z_ui σ 2 n x) 1 4 (nI (n + 1))) P n u v w rc tl (show z_mi _ P n u v w rc tl from hM) x
  simp only [if_neg c1, if_neg c2] at q8
  refine q8.mono ?_
  rintro v2 σ2 ⟨e3, e4⟩
  rw [e3, e4]
  refine ⟨rfl, P, (n + 1), o, u, v, w, rc, tl, ⟨⟨i1, rfl, i3, i4, i5, i6, i7, i8⟩, jP, by omega, jo, ju, jw, jr, jt⟩, ⟨⟨m1, rfl, m3, m4, m5, m6, m7⟩, jP, by omega, ju, jw, jr, jt, mq, ma⟩, zr_1_upd a1 (zp_in c1), a2, ⟨a3, a3x, a3y⟩, a4, a5, a6, ((((aV).ui (by omega)).ui (by omega)).ui (by omega)).ui (by omega), b7⟩
theorem pr_removeReadings {l : Launch} {G : z_Gl} {σ : z_St} {c : Nat} (h : z_R c σ) (x : Int32) : z_M l G yX7_removeReadings cX7_removeReadings 2 (some .int) (z_rm 1 22) [.ref (z_ad G 0), .int x] σ (fun v1 σ1 => ∃ xx : Int32, v1 = some (.int xx) ∧ z_M l G yX8_removeReadings cX8_removeReadings 2 (some .int) (z_rm 1 25) [.ref (z_ad G 105), .int x] σ1 (fun v2 σ2 => v2 = some (.int xx) ∧ z_R (c + 1) σ2)) := by
  obtain ⟨P, n, o, u, v, w, rc, tl, h⟩ := h
  obtain ⟨hI, hM, a1, a2, ⟨a3, a3x, a3y⟩, a4, a5, a6, aV, a7⟩ := id h
  obtain ⟨⟨i1, i2, i3, i4, i5, i6, i7, i8⟩, jP, jn, jo, ju, jw, jr, jt⟩ := id hI
  obtain ⟨⟨m1, m2, m3, m4, m5, m6, m7⟩, -, -, -, -, -, -, mq, ma⟩ := id hM
  have b7 : zr_7 (z_eB (c + 1)) σ.2 o u v w := (h.up (Nat.le_succ c)).2.2.2.2.2.2.2.2.2
  have q7 := m_X7_removeReadings (l := l) (G := G) (σ := σ) P n o u v w rc tl hI x
  by_cases c1 : x < nI 0 ∨ nI n < x
  · simp only [if_pos c1] at q7
    refine q7.mono ?_
    rintro v1 σ1 ⟨e1, e2⟩
    refine ⟨_, e1, ?_⟩
    rw [e2]
    have q8 := m_X8_removeReadings (l := l) (G := G) (σ := σ) P n u v w rc tl (hM) x
    simp only [if_pos c1] at q8
    refine q8.mono ?_
    rintro v2 σ2 ⟨e3, e4⟩
    rw [e3, e4]
    exact ⟨rfl, h.two⟩
  simp only [if_neg c1] at q7
  refine q7.mono ?_
  rintro v1 σ1 ⟨e1, e2⟩
  refine ⟨_, e1, ?_⟩
  rw [e2]
  have q8 := m_X8_removeReadings (l := l) (G := G) (σ := z_ui σ 1 4 (nI (n - z_n x))) P n u v w rc tl (show z_mi _ P n u v w rc tl from hM) x
  simp only [if_neg c1] at q8
  refine q8.mono ?_
  rintro v2 σ2 ⟨e3, e4⟩
  rw [e3, e4]
  refine ⟨rfl, P, (n - z_n x), o, u, v, w, rc, tl, ⟨⟨i1, rfl, i3, i4, i5, i6, i7, i8⟩, jP, by omega, jo, ju, jw, jr, jt⟩, ⟨⟨m1, rfl, m3, m4, m5, m6, m7⟩, jP, by omega, ju, jw, jr, jt, mq, ma⟩, fun k hk => a1 k (by omega), a2, ⟨a3, a3x, a3y⟩, a4, a5, a6, ((aV).ui (by omega)).ui (by omega), b7⟩
theorem pr_progress {l : Launch} {G : z_Gl} {σ : z_St} {c : Nat} (h : z_R c σ) (x : Int32) : z_M l G yX7_progress cX7_progress 2 (some .int) (z_rm 1 20) [.ref (z_ad G 0), .int x] σ (fun v1 σ1 => ∃ xx : Int32, v1 = some (.int xx) ∧ z_M l G yX8_progress cX8_progress 2 (some .int) (z_rm 1 20) [.ref (z_ad G 105), .int x] σ1 (fun v2 σ2 => v2 = some (.int xx) ∧ z_R (c + 1) σ2)) := by
  obtain ⟨P, n, o, u, v, w, rc, tl, h⟩ := h
  obtain ⟨hI, hM, a1, a2, ⟨a3, a3x, a3y⟩, a4, a5, a6, aV, a7⟩ := id h
  obtain ⟨⟨i1, i2, i3, i4, i5, i6, i7, i8⟩, jP, jn, jo, ju, jw, jr, jt⟩ := id hI
  obtain ⟨⟨m1, m2, m3, m4, m5, m6, m7⟩, -, -, -, -, -, -, mq, ma⟩ := id hM
  have b7 : zr_7 (z_eB (c + 1)) σ.2 o u v w := (h.up (Nat.le_succ c)).2.2.2.2.2.2.2.2.2
  have q7 := m_X7_progress (l := l) (G := G) (σ := σ) P n o u v w rc tl hI x
  refine q7.mono ?_
  rintro v1 σ1 ⟨e1, e2⟩
  refine ⟨_, e1, ?_⟩
  rw [e2]
  have q8 := m_X8_progress (l := l) (G := G) (σ := σ) P n u v w rc tl hM x
  refine q8.mono ?_
  rintro v2 σ2 ⟨e3, e4⟩
  rw [e3, e4]
  refine ⟨?_, h.two⟩
  exact rfl
theorem pr_clearRules {l : Launch} {G : z_Gl} {σ : z_St} {c : Nat} (h : z_R c σ) : z_M l G yX7_clearRules cX7_clearRules 2 (some .int) (z_rm 0 0) [.ref (z_ad G 0)] σ (fun v1 σ1 => ∃ xx : Int32, v1 = some (.int xx) ∧ z_M l G yX8_clearRules cX8_clearRules 2 (some .int) (z_rm 0 0) [.ref (z_ad G 105)] σ1 (fun v2 σ2 => v2 = some (.int xx) ∧ z_R (c + 1) σ2)) := by
  obtain ⟨P, n, o, u, v, w, rc, tl, h⟩ := h
  obtain ⟨hI, hM, a1, a2, ⟨a3, a3x, a3y⟩, a4, a5, a6, aV, a7⟩ := id h
  obtain ⟨⟨i1, i2, i3, i4, i5, i6, i7, i8⟩, jP, jn, jo, ju, jw, jr, jt⟩ := id hI
  obtain ⟨⟨m1, m2, m3, m4, m5, m6, m7⟩, -, -, -, -, -, -, mq, ma⟩ := id hM
  have b7 : zr_7 (z_eB (c + 1)) σ.2 o u v w := (h.up (Nat.le_succ c)).2.2.2.2.2.2.2.2.2
  have q7 := m_X7_clearRules (l := l) (G := G) (σ := σ) P n o u v w rc tl hI 
  refine q7.mono ?_
  rintro v1 σ1 ⟨e1, e2⟩
  refine ⟨_, e1, ?_⟩
  rw [e2]
  have q8 := m_X8_clearRules (l := l) (G := G) (σ := z_ui σ 44 5 (nI 0)) P n u v w rc tl (show z_mi _ P n u v w rc tl from hM) 
  refine q8.mono ?_
  rintro v2 σ2 ⟨e3, e4⟩
  rw [e3, e4]
  refine ⟨rfl, P, n, o, u, v, w, 0, tl, ⟨⟨i1, i2, i3, i4, i5, i6, rfl, i8⟩, jP, jn, jo, ju, jw, Nat.zero_le _, jt⟩, ⟨⟨m1, m2, m3, m4, m5, rfl, m7⟩, jP, jn, ju, jw, Nat.zero_le _, jt, mq, ma⟩, a1, a2, ⟨a3, a3x, a3y⟩, a4, fun i hi => absurd hi (Nat.not_lt_zero i), a6, ((aV).ui (by omega)).ui (by omega), b7⟩
theorem pr_clearText {l : Launch} {G : z_Gl} {σ : z_St} {c : Nat} (h : z_R c σ) : z_M l G yX7_clearText cX7_clearText 2 (some .int) (z_rm 0 0) [.ref (z_ad G 0)] σ (fun v1 σ1 => ∃ xx : Int32, v1 = some (.int xx) ∧ z_M l G yX8_clearText cX8_clearText 2 (some .int) (z_rm 0 0) [.ref (z_ad G 105)] σ1 (fun v2 σ2 => v2 = some (.int xx) ∧ z_R (c + 1) σ2)) := by
  obtain ⟨P, n, o, u, v, w, rc, tl, h⟩ := h
  obtain ⟨hI, hM, a1, a2, ⟨a3, a3x, a3y⟩, a4, a5, a6, aV, a7⟩ := id h
  obtain ⟨⟨i1, i2, i3, i4, i5, i6, i7, i8⟩, jP, jn, jo, ju, jw, jr, jt⟩ := id hI
  obtain ⟨⟨m1, m2, m3, m4, m5, m6, m7⟩, -, -, -, -, -, -, mq, ma⟩ := id hM
  have b7 : zr_7 (z_eB (c + 1)) σ.2 o u v w := (h.up (Nat.le_succ c)).2.2.2.2.2.2.2.2.2
  have q7 := m_X7_clearText (l := l) (G := G) (σ := σ) P n o u v w rc tl hI 
  refine q7.mono ?_
  rintro v1 σ1 ⟨e1, e2⟩
  refine ⟨_, e1, ?_⟩
  rw [e2]
  have q8 := m_X8_clearText (l := l) (G := G) (σ := z_ui σ 82 5 (nI 0)) P n u v w rc tl (show z_mi _ P n u v w rc tl from hM) 
  refine q8.mono ?_
  rintro v2 σ2 ⟨e3, e4⟩
  rw [e3, e4]
  refine ⟨rfl, P, n, o, u, v, w, rc, 0, ⟨⟨i1, i2, i3, i4, i5, i6, i7, rfl⟩, jP, jn, jo, ju, jw, jr, Nat.zero_le _⟩, ⟨⟨m1, m2, m3, m4, m5, m6, rfl⟩, jP, jn, ju, jw, jr, Nat.zero_le _, mq, ma⟩, a1, a2, ⟨a3, a3x, a3y⟩, a4, a5, fun i hi => absurd hi (Nat.not_lt_zero i), ((aV).ui (by omega)).ui (by omega), b7⟩
theorem pr_type {l : Launch} {G : z_Gl} {σ : z_St} {c : Nat} (h : z_R c σ) (x : Int32) : z_M l G yX7_type cX7_type 2 (some .int) (z_rm 1 21) [.ref (z_ad G 0), .int x] σ (fun v1 σ1 => ∃ xx : Int32, v1 = some (.int xx) ∧ z_M l G yX8_type cX8_type 2 (some .int) (z_rm 0 0) [.ref (z_ad G 105), .int x] σ1 (fun v2 σ2 => v2 = some (.int xx) ∧ z_R (c + 1) σ2)) := by
  obtain ⟨P, n, o, u, v, w, rc, tl, h⟩ := h
  obtain ⟨hI, hM, a1, a2, ⟨a3, a3x, a3y⟩, a4, a5, a6, aV, a7⟩ := id h
  obtain ⟨⟨i1, i2, i3, i4, i5, i6, i7, i8⟩, jP, jn, jo, ju, jw, jr, jt⟩ := id hI
  obtain ⟨⟨m1, m2, m3, m4, m5, m6, m7⟩, -, -, -, -, -, -, mq, ma⟩ := id hM
  have b7 : zr_7 (z_eB (c + 1)) σ.2 o u v w := (h.up (Nat.le_succ c)).2.2.2.2.2.2.2.2.2
  have q7 := m_X7_type (l := l) (G := G) (σ := σ) P n o u v w rc tl hI x
  by_cases c1 : tl = 200
  · simp only [if_pos c1] at q7
    refine q7.mono ?_
    rintro v1 σ1 ⟨e1, e2⟩
    refine ⟨_, e1, ?_⟩
    rw [e2]
    have q8 := m_X8_type (l := l) (G := G) (σ := σ) P n u v w rc tl (hM) x
    simp only [if_pos c1] at q8
    refine q8.mono ?_
    rintro v2 σ2 ⟨e3, e4⟩
    rw [e3, e4]
    exact ⟨rfl, h.two⟩
  simp only [if_neg c1] at q7
  refine q7.mono ?_
  rintro v1 σ1 ⟨e1, e2⟩
  refine ⟨_, e1, ?_⟩
  rw [e2]
  have q8 := m_X8_type (l := l) (G := G) (σ := z_ui (z_ui σ 83 tl (vp_nar .char x)) 82 5 (nI (tl + 1))) P n u v w rc tl (show z_mi _ P n u v w rc tl from hM) x
  simp only [if_neg c1] at q8
  refine q8.mono ?_
  rintro v2 σ2 ⟨e3, e4⟩
  rw [e3, e4]
  refine ⟨rfl, P, n, o, u, v, w, rc, (tl + 1), ⟨⟨i1, i2, i3, i4, i5, i6, i7, rfl⟩, jP, jn, jo, ju, jw, jr, by omega⟩, ⟨⟨m1, m2, m3, m4, m5, m6, rfl⟩, jP, jn, ju, jw, jr, by omega, mq, ma⟩, a1, a2, ⟨a3, a3x, a3y⟩, a4, a5, zr_6_upd a6, ((((aV).ui (by omega)).ui (by omega)).ui (by omega)).ui (by omega), b7⟩
theorem pr_removeTraces {l : Launch} {G : z_Gl} {σ : z_St} {c : Nat} (h : z_R c σ) (x : Int32) : z_M l G yX7_removeTraces cX7_removeTraces 2 (some .int) (z_rm 1 22) [.ref (z_ad G 0), .int x] σ (fun v1 σ1 => ∃ xx : Int32, v1 = some (.int xx) ∧ z_M l G yX8_removeTraces cX8_removeTraces 2 (some .int) (z_rm 1 25) [.ref (z_ad G 105), .int x] σ1 (fun v2 σ2 => v2 = some (.int xx) ∧ z_R (c + 1) σ2)) := by
  obtain ⟨P, n, o, u, v, w, rc, tl, h⟩ := h
  obtain ⟨hI, hM, a1, a2, ⟨a3, a3x, a3y⟩, a4, a5, a6, aV, a7⟩ := id h
  obtain ⟨⟨i1, i2, i3, i4, i5, i6, i7, i8⟩, jP, jn, jo, ju, jw, jr, jt⟩ := id hI
  obtain ⟨⟨m1, m2, m3, m4, m5, m6, m7⟩, -, -, -, -, -, -, mq, ma⟩ := id hM
  have b7 : zr_7 (z_eB (c + 1)) σ.2 o u v w := (h.up (Nat.le_succ c)).2.2.2.2.2.2.2.2.2
  have q7 := m_X7_removeTraces (l := l) (G := G) (σ := σ) P n o u v w rc tl hI x
  by_cases c1 : x < nI 0 ∨ nI w < x
  · simp only [if_pos c1] at q7
    refine q7.mono ?_
    rintro v1 σ1 ⟨e1, e2⟩
    refine ⟨_, e1, ?_⟩
    rw [e2]
    have q8 := m_X8_removeTraces (l := l) (G := G) (σ := σ) P n u v w rc tl (hM) x
    simp only [if_pos c1] at q8
    refine q8.mono ?_
    rintro v2 σ2 ⟨e3, e4⟩
    rw [e3, e4]
    exact ⟨rfl, h.two⟩
  simp only [if_neg c1] at q7
  refine q7.mono ?_
  rintro v1 σ1 ⟨e1, e2⟩
  refine ⟨_, e1, ?_⟩
  rw [e2]
  have q8 := m_X8_removeTraces (l := l) (G := G) (σ := z_ui σ 32 5 (nI (w - z_n x))) P n u v w rc tl (show z_mi _ P n u v w rc tl from hM) x
  simp only [if_neg c1] at q8
  refine q8.mono ?_
  rintro v2 σ2 ⟨e3, e4⟩
  rw [e3, e4]
  refine ⟨rfl, P, n, o, u, v, (w - z_n x), rc, tl, ⟨⟨i1, i2, i3, i4, i5, rfl, i7, i8⟩, jP, jn, jo, ju, by omega, jr, jt⟩, ⟨⟨m1, m2, m3, m4, rfl, m6, m7⟩, jP, jn, ju, by omega, jr, jt, mq, ma⟩, a1, a2, ⟨a3, a3x, a3y⟩, ⟨fun i hi => a4.1 i (by omega), fun i j hi hj => a4.2 i j (by omega) (by omega)⟩, a5, a6, ((aV).ui (by omega)).ui (by omega), ⟨b7.1, fun i hi => b7.2 i (by omega)⟩⟩
theorem pr_setEccentricity {l : Launch} {G : z_Gl} {σ : z_St} {c : Nat} (h : z_R c σ) (x y : Int32) : z_M l G yX7_setEccentricity cX7_setEccentricity 3 (some .int) (z_rm 1 23) [.ref (z_ad G 0), .int x, .int y] σ (fun v1 σ1 => ∃ xx : Int32, v1 = some (.int xx) ∧ z_M l G yX8_setEccentricity cX8_setEccentricity 4 (some .int) (z_rm 1 25) [.ref (z_ad G 105), .int x, .int y] σ1 (fun v2 σ2 => v2 = some (.int xx) ∧ z_R (c + 1) σ2)) := by
  obtain ⟨P, n, o, u, v, w, rc, tl, h⟩ := h
  obtain ⟨hI, hM, a1, a2, ⟨a3, a3x, a3y⟩, a4, a5, a6, aV, a7⟩ := id h
  obtain ⟨⟨i1, i2, i3, i4, i5, i6, i7, i8⟩, jP, jn, jo, ju, jw, jr, jt⟩ := id hI
  obtain ⟨⟨m1, m2, m3, m4, m5, m6, m7⟩, -, -, -, -, -, -, mq, ma⟩ := id hM
  have b7 : zr_7 (z_eB (c + 1)) σ.2 o u v w := (h.up (Nat.le_succ c)).2.2.2.2.2.2.2.2.2
  have q7 := m_X7_setEccentricity (l := l) (G := G) (σ := σ) P n o u v w rc tl hI x y
  by_cases c1 : x < (-5000) ∨ nI 5000 < x
  · simp only [if_pos c1] at q7
    refine q7.mono ?_
    rintro v1 σ1 ⟨e1, e2⟩
    refine ⟨_, e1, ?_⟩
    rw [e2]
    have q8 := m_X8_setEccentricity (l := l) (G := G) (σ := σ) P n u v w rc tl (hM) x y
    simp only [if_pos c1] at q8
    refine q8.mono ?_
    rintro v2 σ2 ⟨e3, e4⟩
    rw [e3, e4]
    exact ⟨rfl, h.two⟩
  by_cases c2 : y < (-5000) ∨ nI 5000 < y
  · simp only [if_neg c1, if_pos c2] at q7
    refine q7.mono ?_
    rintro v1 σ1 ⟨e1, e2⟩
    refine ⟨_, e1, ?_⟩
    rw [e2]
    have q8 := m_X8_setEccentricity (l := l) (G := G) (σ := σ) P n u v w rc tl (hM) x y
    simp only [if_neg c1, if_pos c2] at q8
    refine q8.mono ?_
    rintro v2 σ2 ⟨e3, e4⟩
    rw [e3, e4]
    exact ⟨rfl, h.two⟩
  simp only [if_neg c1, if_neg c2] at q7
  refine q7.mono ?_
  rintro v1 σ1 ⟨e1, e2⟩
  refine ⟨_, e1, ?_⟩
  rw [e2]
  have q8 := m_X8_setEccentricity (l := l) (G := G) (σ := z_ui (z_ui σ 5 2 x) 5 3 y) P n u v w rc tl (show z_mi _ P n u v w rc tl from hM) x y
  simp only [if_neg c1, if_neg c2] at q8
  refine q8.mono ?_
  rintro v2 σ2 ⟨e3, e4⟩
  rw [e3, e4]
  refine ⟨by rw [show (z_ui (z_ui σ 5 2 x) 5 3 y).1 105 28 = σ.1 105 28 from rfl, show (z_ui (z_ui σ 5 2 x) 5 3 y).1 105 29 = σ.1 105 29 from rfl, a3x, a3y], P, n, o, u, v, w, rc, tl, ⟨⟨i1, i2, i3, i4, i5, i6, i7, i8⟩, jP, jn, jo, ju, jw, jr, jt⟩, ⟨⟨m1, m2, m3, m4, m5, m6, m7⟩, jP, jn, ju, jw, jr, jt, mq, ma⟩, a1, a2, ⟨a3, rfl, rfl⟩, a4, a5, a6, ((((aV).ui (by omega)).ui (by omega)).ui (by omega)).ui (by omega), b7⟩
