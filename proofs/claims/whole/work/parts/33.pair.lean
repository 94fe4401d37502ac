/-! THE PAIRS: readings, rules, texts, truth -/
theorem zp_st {x : Int32} (h : x = nI 2 ∨ x = nI 3 ∨ x = nI 4 ∨ x = nI 6 ∨ x = nI 8 ∨ x = nI 12) : ∃ P2 : Nat, x = nI P2 ∧ (P2 = 2 ∨ P2 = 3 ∨ P2 = 4 ∨ P2 = 6 ∨ P2 = 8 ∨ P2 = 12) := by
  rcases h with z | z | z | z | z | z <;> exact ⟨_, z, by decide⟩
theorem zp_in {x : Int32} (h : ¬ (x < (-10000) ∨ nI 10000 < x)) : z_in 10000 x.toInt := by
  have h1 : ¬ x < (-10000) := fun z => h (Or.inl z)
  have h2 : ¬ nI 10000 < x := fun z => h (Or.inr z)
  rw [Int32.lt_iff_toInt_lt] at h1 h2
  have e1 : (-10000 : Int32).toInt = -10000 := by decide
  have e2 : (nI 10000).toInt = 10000 := by decide
  rw [e1] at h1
  rw [e2] at h2
  exact ⟨by omega, by omega⟩
theorem zp_in5 {x : Int32} (h : ¬ (x < (-5000) ∨ nI 5000 < x)) : z_in 5000 x.toInt := by
  have h1 : ¬ x < (-5000) := fun z => h (Or.inl z)
  have h2 : ¬ nI 5000 < x := fun z => h (Or.inr z)
  rw [Int32.lt_iff_toInt_lt] at h1 h2
  have e1 : (-5000 : Int32).toInt = -5000 := by decide
  have e2 : (nI 5000).toInt = 5000 := by decide
  rw [e1] at h1
  rw [e2] at h2
  exact ⟨by omega, by omega⟩
theorem zr_1_upd {n : Nat} {A B : Nat → Int32} {x : Int32} (h : zr_1 n A B) (hx : z_in 10000 x.toInt) : zr_1 (n + 1) (upd A n x) (upd B n x) := by
  intro k hk
  unfold upd
  by_cases e : k = n
  · rw [if_pos e, if_pos e]; exact ⟨rfl, hx⟩
  · rw [if_neg e, if_neg e]; exact h k (by omega)
theorem zr_6_upd {n : Nat} {A B : Nat → Int32} {x : Int32} (h : zr_6 A B n) : zr_6 (upd A n x) (upd B n x) (n + 1) := by
  unfold zr_6 at h ⊢
  rw [h]
theorem pr_setSteps {l : Launch} {G : z_Gl} {σ : z_St} {c : Nat} (h : z_R c σ) (x : Int32) : z_M l G yX7_setSteps cX7_setSteps 3 (some .int) (z_rm 1 21) [.ref (z_ad G 0), .int x] σ (fun v1 σ1 => ∃ xx : Int32, v1 = some (.int xx) ∧ z_M l G yX8_setSteps cX8_setSteps 3 (some .int) (z_rm 1 20) [.ref (z_ad G 105), .int x] σ1 (fun v2 σ2 => v2 = some (.int xx) ∧ z_R (c + 1) σ2)) := by
  obtain ⟨P, n, o, u, v, w, rc, tl, h⟩ := h
  obtain ⟨hI, hM, a1, a2, ⟨a3, a3x, a3y⟩, a4, a5, a6, aV, a7⟩ := id h
  obtain ⟨⟨i1, i2, i3, i4, i5, i6, i7, i8⟩, jP, jn, jo, ju, jw, jr, jt⟩ := id hI
  obtain ⟨⟨m1, m2, m3, m4, m5, m6, m7⟩, -, -, -, -, -, -, mq, ma⟩ := id hM
  have b7 : zr_7 (z_eB (c + 1)) σ.2 o u v w := (h.up (Nat.le_succ c)).2.2.2.2.2.2.2.2.2
  have q7 := m_X7_setSteps (l := l) (G := G) (σ := σ) P n o u v w rc tl hI x
  by_cases c1 : ¬ (x = nI 2 ∨ x = nI 3 ∨ x = nI 4 ∨ x = nI 6 ∨ x = nI 8 ∨ x = nI 12)
  · simp only [if_pos c1] at q7
    refine q7.mono ?_
    rintro v1 σ1 ⟨e1, e2⟩
    refine ⟨_, e1, ?_⟩
    rw [e2]
    have q8 := m_X8_setSteps (l := l) (G := G) (σ := σ) P n u v w rc tl (hM) x
    simp only [if_pos c1] at q8
    refine q8.mono ?_
    rintro v2 σ2 ⟨e3, e4⟩
    rw [e3, e4]
    exact ⟨rfl, h.two⟩
  simp only [if_neg c1] at q7
  obtain ⟨P2, ep, hP2⟩ := zp_st (Decidable.not_not.mp c1)
  refine q7.mono ?_
  rintro v1 σ1 ⟨e1, e2⟩
  refine ⟨_, e1, ?_⟩
  rw [e2]
  have q8 := m_X8_setSteps (l := l) (G := G) (σ := z_ui (z_ui σ 1 3 x) 1 4 (nI 0)) P n u v w rc tl (show z_mi _ P n u v w rc tl from hM) x
  simp only [if_neg c1] at q8
  refine q8.mono ?_
  rintro v2 σ2 ⟨e3, e4⟩
  rw [e3, e4]
  refine ⟨rfl, P2, 0, o, u, v, w, rc, tl, ⟨⟨ep, rfl, i3, i4, i5, i6, i7, i8⟩, hP2, Nat.zero_le _, jo, ju, jw, jr, jt⟩, ⟨⟨ep, rfl, m3, m4, m5, m6, m7⟩, hP2, Nat.zero_le _, ju, jw, jr, jt, mq, ma⟩, fun k hk => absurd hk (Nat.not_lt_zero k), a2, ⟨a3, a3x, a3y⟩, a4, a5, a6, ((((aV).ui (by omega)).ui (by omega)).ui (by omega)).ui (by omega), b7⟩
theorem pr_read {l : Launch} {G : z_Gl} {σ : z_St} {c : Nat} (h : z_R c σ) (x : Int32) : z_M l G yX7_read cX7_read 2 (some .int) (z_rm 1 22) [.ref (z_ad G 0), .int x] σ (fun v1 σ1 => ∃ xx : Int32, v1 = some (.int xx) ∧ z_M l G yX8_read cX8_read 2 (some .int) (z_rm 1 25) [.ref (z_ad G 105), .int x] σ1 (fun v2 σ2 => v2 = some (.int xx) ∧ z_R (c + 1) σ2)) := by
  obtain ⟨P, n, o, u, v, w, rc, tl, h⟩ := h
  obtain ⟨hI, hM, a1, a2, ⟨a3, a3x, a3y⟩, a4, a5, a6, aV, a7⟩ := id h
  obtain ⟨⟨i1, i2, i3, i4, i5, i6, i7, i8⟩, jP, jn, jo, ju, jw, jr, jt⟩ := id hI
  obtain ⟨⟨m1, m2, m3, m4, m5, m6, m7⟩, -, -, -, -, -, -, mq, ma⟩ := id hM
  have b7 : zr_7 (z_eB (c + 1)) σ.2 o u v w := (h.up (Nat.le_succ c)).2.2.2.2.2.2.2.2.2
  have q7 := m_X7_read (l := l) (G := G) (σ := σ) P n o u v w rc tl hI x
  by_cases c1 : x < (-10000) ∨ nI 10000 < x
  · simp only [if_pos c1] at q7
    refine q7.mono ?_
    rintro v1 σ1 ⟨e1, e2⟩
    refine ⟨_, e1, ?_⟩
    rw [e2]
    have q8 := m_X8_read (l := l) (G := G) (σ := σ) P n u v w rc tl (hM) x
    simp only [if_pos c1] at q8
    refine q8.mono ?_
    rintro v2 σ2 ⟨e3, e4⟩
    rw [e3, e4]
    exact ⟨rfl, h.two⟩
  by_cases c2 : P * 24 ≤ n
  · simp only [if_neg c1, if_pos c2] at q7
    refine q7.mono ?_
    rintro v1 σ1 ⟨e1, e2⟩
    refine ⟨_, e1, ?_⟩
    rw [e2]
    have q8 := m_X8_read (l := l) (G := G) (σ := σ) P n u v w rc tl (hM) x
    simp only [if_neg c1, if_pos c2] at q8
    refine q8.mono ?_
    rintro v2 σ2 ⟨e3, e4⟩
    rw [e3, e4]
    exact ⟨rfl, h.two⟩
  simp only [if_neg c1, if_neg c2] at q7
  refine q7.mono ?_
  rintro v1 σ1 ⟨e1, e2⟩
  refine ⟨_, e1, ?_⟩
  rw [e2]
  have q8 := m_X8_read (l := l) (G := G) (σ := z_ui (z_ui σ 2 n x) 1 4 (nI (n + 1))) P n u v w rc tl (show z_mi _ P n u v w rc tl from hM) x
  simp only [if_neg c1, if_neg c2] at q8
  refine q8.mono ?_
  rintro v2 σ2 ⟨e3, e4⟩
  rw [e3, e4]
  refine ⟨rfl, P, (n + 1), o, u, v, w, rc, tl, ⟨⟨i1, rfl, i3, i4, i5, i6, i7, i8⟩, jP, by omega, jo, ju, jw, jr, jt⟩, ⟨⟨m1, rfl, m3, m4, m5, m6, m7⟩, jP, by omega, ju, jw, jr, jt, mq, ma⟩, zr_1_upd a1 (zp_in c1), a2, ⟨a3, a3x, a3y⟩, a4, a5, a6, ((((aV).ui (by omega)).ui (by omega)).ui (by omega)).ui (by omega), b7⟩
theorem pr_removeReadings {l : Launch} {G : z_Gl} {σ : z_St} {c : Nat} (h : z_R c σ) (x : Int32) : z_M l G yX7_removeReadings cX7_removeReadings 2 (some .int) (z_rm 1 22) [.ref (z_ad G 0), .int x] σ (fun v1 σ1 => ∃ xx : Int32, v1 = some (.int xx) ∧ z_M l G yX8_removeReadings cX8_removeReadings 2 (some .int) (z_rm 1 25) [.ref (z_ad G 105), .int x] σ1 (fun v2 σ2 => v2 = some (.int xx) ∧ z_R (c + 1) σ2)) := by
  obtain ⟨P, n, o, u, v, w, rc, tl, h⟩ := h
  obtain ⟨hI, hM, a1, a2, ⟨a3, a3x, a3y⟩, a4, a5, a6, aV, a7⟩ := id h
  obtain ⟨⟨i1, i2, i3, i4, i5, i6, i7, i8⟩, jP, jn, jo, ju, jw, jr, jt⟩ := id hI
  obtain ⟨⟨m1, m2, m3, m4, m5, m6, m7⟩, -, -, -, -, -, -, mq, ma⟩ := id hM
  have b7 : zr_7 (z_eB (c + 1)) σ.2 o u v w := (h.up (Nat.le_succ c)).2.2.2.2.2.2.2.2.2
  have q7 := m_X7_removeReadings (l := l) (G := G) (σ := σ) P n o u v w rc tl hI x
  by_cases c1 : x < nI 0 ∨ nI n < x
  · simp only [if_pos c1] at q7
    refine q7.mono ?_
    rintro v1 σ1 ⟨e1, e2⟩
    refine ⟨_, e1, ?_⟩
    rw [e2]
    have q8 := m_X8_removeReadings (l := l) (G := G) (σ := σ) P n u v w rc tl (hM) x
    simp only [if_pos c1] at q8
    refine q8.mono ?_
    rintro v2 σ2 ⟨e3, e4⟩
    rw [e3, e4]
    exact ⟨rfl, h.two⟩
  simp only [if_neg c1] at q7
  refine q7.mono ?_
  rintro v1 σ1 ⟨e1, e2⟩
  refine ⟨_, e1, ?_⟩
  rw [e2]
  have q8 := m_X8_removeReadings (l := l) (G := G) (σ := z_ui σ 1 4 (nI (n - z_n x))) P n u v w rc tl (show z_mi _ P n u v w rc tl from hM) x
  simp only [if_neg c1] at q8
  refine q8.mono ?_
  rintro v2 σ2 ⟨e3, e4⟩
  rw [e3, e4]
  refine ⟨rfl, P, (n - z_n x), o, u, v, w, rc, tl, ⟨⟨i1, rfl, i3, i4, i5, i6, i7, i8⟩, jP, by omega, jo, ju, jw, jr, jt⟩, ⟨⟨m1, rfl, m3, m4, m5, m6, m7⟩, jP, by omega, ju, jw, jr, jt, mq, ma⟩, fun k hk => a1 k (by omega), a2, ⟨a3, a3x, a3y⟩, a4, a5, a6, ((aV).ui (by omega)).ui (by omega), b7⟩
theorem pr_progress {l : Launch} {G : z_Gl} {σ : z_St} {c : Nat} (h : z_R c σ) (x : Int32) : z_M l G yX7_progress cX7_progress 2 (some .int) (z_rm 1 20) [.ref (z_ad G 0), .int x] σ (fun v1 σ1 => ∃ xx : Int32, v1 = some (.int xx) ∧ z_M l G yX8_progress cX8_progress 2 (some .int) (z_rm 1 20) [.ref (z_ad G 105), .int x] σ1 (fun v2 σ2 => v2 = some (.int xx) ∧ z_R (c + 1) σ2)) := by
  obtain ⟨P, n, o, u, v, w, rc, tl, h⟩ := h
  obtain ⟨hI, hM, a1, a2, ⟨a3, a3x, a3y⟩, a4, a5, a6, aV, a7⟩ := id h
  obtain ⟨⟨i1, i2, i3, i4, i5, i6, i7, i8⟩, jP, jn, jo, ju, jw, jr, jt⟩ := id hI
  obtain ⟨⟨m1, m2, m3, m4, m5, m6, m7⟩, -, -, -, -, -, -, mq, ma⟩ := id hM
  have b7 : zr_7 (z_eB (c + 1)) σ.2 o u v w := (h.up (Nat.le_succ c)).2.2.2.2.2.2.2.2.2
  have q7 := m_X7_progress (l := l) (G := G) (σ := σ) P n o u v w rc tl hI x
  refine q7.mono ?_
  rintro v1 σ1 ⟨e1, e2⟩
  refine ⟨_, e1, ?_⟩
  rw [e2]
  have q8 := m_X8_progress (l := l) (G := G) (σ := σ) P n u v w rc tl hM x
  refine q8.mono ?_
  rintro v2 σ2 ⟨e3, e4⟩
  rw [e3, e4]
  refine ⟨?_, h.two⟩
  exact rfl
theorem pr_clearRules {l : Launch} {G : z_Gl} {σ : z_St} {c : Nat} (h : z_R c σ) : z_M l G yX7_clearRules cX7_clearRules 2 (some .int) (z_rm 0 0) [.ref (z_ad G 0)] σ (fun v1 σ1 => ∃ xx : Int32, v1 = some (.int xx) ∧ z_M l G yX8_clearRules cX8_clearRules 2 (some .int) (z_rm 0 0) [.ref (z_ad G 105)] σ1 (fun v2 σ2 => v2 = some (.int xx) ∧ z_R (c + 1) σ2)) := by
  obtain ⟨P, n, o, u, v, w, rc, tl, h⟩ := h
  obtain ⟨hI, hM, a1, a2, ⟨a3, a3x, a3y⟩, a4, a5, a6, aV, a7⟩ := id h
  obtain ⟨⟨i1, i2, i3, i4, i5, i6, i7, i8⟩, jP, jn, jo, ju, jw, jr, jt⟩ := id hI
  obtain ⟨⟨m1, m2, m3, m4, m5, m6, m7⟩, -, -, -, -, -, -, mq, ma⟩ := id hM
  have b7 : zr_7 (z_eB (c + 1)) σ.2 o u v w := (h.up (Nat.le_succ c)).2.2.2.2.2.2.2.2.2
  have q7 := m_X7_clearRules (l := l) (G := G) (σ := σ) P n o u v w rc tl hI 
  refine q7.mono ?_
  rintro v1 σ1 ⟨e1, e2⟩
  refine ⟨_, e1, ?_⟩
  rw [e2]
  have q8 := m_X8_clearRules (l := l) (G := G) (σ := z_ui σ 44 5 (nI 0)) P n u v w rc tl (show z_mi _ P n u v w rc tl from hM) 
  refine q8.mono ?_
  rintro v2 σ2 ⟨e3, e4⟩
  rw [e3, e4]
  refine ⟨rfl, P, n, o, u, v, w, 0, tl, ⟨⟨i1, i2, i3, i4, i5, i6, rfl, i8⟩, jP, jn, jo, ju, jw, Nat.zero_le _, jt⟩, ⟨⟨m1, m2, m3, m4, m5, rfl, m7⟩, jP, jn, ju, jw, Nat.zero_le _, jt, mq, ma⟩, a1, a2, ⟨a3, a3x, a3y⟩, a4, fun i hi => absurd hi (Nat.not_lt_zero i), a6, ((aV).ui (by omega)).ui (by omega), b7⟩
theorem pr_clearText {l : Launch} {G : z_Gl} {σ : z_St} {c : Nat} (h : z_R c σ) : z_M l G yX7_clearText cX7_clearText 2 (some .int) (z_rm 0 0) [.ref (z_ad G 0)] σ (fun v1 σ1 => ∃ xx : Int32, v1 = some (.int xx) ∧ z_M l G yX8_clearText cX8_clearText 2 (some .int) (z_rm 0 0) [.ref (z_ad G 105)] σ1 (fun v2 σ2 => v2 = some (.int xx) ∧ z_R (c + 1) σ2)) := by
  obtain ⟨P, n, o, u, v, w, rc, tl, h⟩ := h
  obtain ⟨hI, hM, a1, a2, ⟨a3, a3x, a3y⟩, a4, a5, a6, aV, a7⟩ := id h
  obtain ⟨⟨i1, i2, i3, i4, i5, i6, i7, i8⟩, jP, jn, jo, ju, jw, jr, jt⟩ := id hI
  obtain ⟨⟨m1, m2, m3, m4, m5, m6, m7⟩, -, -, -, -, -, -, mq, ma⟩ := id hM
  have b7 : zr_7 (z_eB (c + 1)) σ.2 o u v w := (h.up (Nat.le_succ c)).2.2.2.2.2.2.2.2.2
  have q7 := m_X7_clearText (l := l) (G := G) (σ := σ) P n o u v w rc tl hI 
  refine q7.mono ?_
  rintro v1 σ1 ⟨e1, e2⟩
  refine ⟨_, e1, ?_⟩
  rw [e2]
  have q8 := m_X8_clearText (l := l) (G := G) (σ := z_ui σ 82 5 (nI 0)) P n u v w rc tl (show z_mi _ P n u v w rc tl from hM) 
  refine q8.mono ?_
  rintro v2 σ2 ⟨e3, e4⟩
  rw [e3, e4]
  refine ⟨rfl, P, n, o, u, v, w, rc, 0, ⟨⟨i1, i2, i3, i4, i5, i6, i7, rfl⟩, jP, jn, jo, ju, jw, jr, Nat.zero_le _⟩, ⟨⟨m1, m2, m3, m4, m5, m6, rfl⟩, jP, jn, ju, jw, jr, Nat.zero_le _, mq, ma⟩, a1, a2, ⟨a3, a3x, a3y⟩, a4, a5, a6, ((aV).ui (by omega)).ui (by omega), b7⟩
theorem pr_type {l : Launch} {G : z_Gl} {σ : z_St} {c : Nat} (h : z_R c σ) (x : Int32) : z_M l G yX7_type cX7_type 2 (some .int) (z_rm 1 21) [.ref (z_ad G 0), .int x] σ (fun v1 σ1 => ∃ xx : Int32, v1 = some (.int xx) ∧ z_M l G yX8_type cX8_type 2 (some .int) (z_rm 0 0) [.ref (z_ad G 105), .int x] σ1 (fun v2 σ2 => v2 = some (.int xx) ∧ z_R (c + 1) σ2)) := by
  obtain ⟨P, n, o, u, v, w, rc, tl, h⟩ := h
  obtain ⟨hI, hM, a1, a2, ⟨a3, a3x, a3y⟩, a4, a5, a6, aV, a7⟩ := id h
  obtain ⟨⟨i1, i2, i3, i4, i5, i6, i7, i8⟩, jP, jn, jo, ju, jw, jr, jt⟩ := id hI
  obtain ⟨⟨m1, m2, m3, m4, m5, m6, m7⟩, -, -, -, -, -, -, mq, ma⟩ := id hM
  have b7 : zr_7 (z_eB (c + 1)) σ.2 o u v w := (h.up (Nat.le_succ c)).2.2.2.2.2.2.2.2.2
  have q7 := m_X7_type (l := l) (G := G) (σ := σ) P n o u v w rc tl hI x
  by_cases c1 : tl = 200
  · simp only [if_pos c1] at q7
    refine q7.mono ?_
    rintro v1 σ1 ⟨e1, e2⟩
    refine ⟨_, e1, ?_⟩
    rw [e2]
    have q8 := m_X8_type (l := l) (G := G) (σ := σ) P n u v w rc tl (hM) x
    simp only [if_pos c1] at q8
    refine q8.mono ?_
    rintro v2 σ2 ⟨e3, e4⟩
    rw [e3, e4]
    exact ⟨rfl, h.two⟩
  simp only [if_neg c1] at q7
  refine q7.mono ?_
  rintro v1 σ1 ⟨e1, e2⟩
  refine ⟨_, e1, ?_⟩
  rw [e2]
  have q8 := m_X8_type (l := l) (G := G) (σ := z_ui (z_ui σ 83 tl (vp_nar .char x)) 82 5 (nI (tl + 1))) P n u v w rc tl (show z_mi _ P n u v w rc tl from hM) x
  simp only [if_neg c1] at q8
  refine q8.mono ?_
  rintro v2 σ2 ⟨e3, e4⟩
  rw [e3, e4]
  refine ⟨rfl, P, n, o, u, v, w, rc, (tl + 1), ⟨⟨i1, i2, i3, i4, i5, i6, i7, rfl⟩, jP, jn, jo, ju, jw, jr, by omega⟩, ⟨⟨m1, m2, m3, m4, m5, m6, rfl⟩, jP, jn, ju, jw, jr, by omega, mq, ma⟩, a1, a2, ⟨a3, a3x, a3y⟩, a4, a5, zr_6_upd a6, ((((aV).ui (by omega)).ui (by omega)).ui (by omega)).ui (by omega), b7⟩
theorem pr_removeTraces {l : Launch} {G : z_Gl} {σ : z_St} {c : Nat} (h : z_R c σ) (x : Int32) : z_M l G yX7_removeTraces cX7_removeTraces 2 (some .int) (z_rm 1 22) [.ref (z_ad G 0), .int x] σ (fun v1 σ1 => ∃ xx : Int32, v1 = some (.int xx) ∧ z_M l G yX8_removeTraces cX8_removeTraces 2 (some .int) (z_rm 1 25) [.ref (z_ad G 105), .int x] σ1 (fun v2 σ2 => v2 = some (.int xx) ∧ z_R (c + 1) σ2)) := by
  obtain ⟨P, n, o, u, v, w, rc, tl, h⟩ := h
  obtain ⟨hI, hM, a1, a2, ⟨a3, a3x, a3y⟩, a4, a5, a6, aV, a7⟩ := id h
  obtain ⟨⟨i1, i2, i3, i4, i5, i6, i7, i8⟩, jP, jn, jo, ju, jw, jr, jt⟩ := id hI
  obtain ⟨⟨m1, m2, m3, m4, m5, m6, m7⟩, -, -, -, -, -, -, mq, ma⟩ := id hM
  have b7 : zr_7 (z_eB (c + 1)) σ.2 o u v w := (h.up (Nat.le_succ c)).2.2.2.2.2.2.2.2.2
  have q7 := m_X7_removeTraces (l := l) (G := G) (σ := σ) P n o u v w rc tl hI x
  by_cases c1 : x < nI 0 ∨ nI w < x
  · simp only [if_pos c1] at q7
    refine q7.mono ?_
    rintro v1 σ1 ⟨e1, e2⟩
    refine ⟨_, e1, ?_⟩
    rw [e2]
    have q8 := m_X8_removeTraces (l := l) (G := G) (σ := σ) P n u v w rc tl (hM) x
    simp only [if_pos c1] at q8
    refine q8.mono ?_
    rintro v2 σ2 ⟨e3, e4⟩
    rw [e3, e4]
    exact ⟨rfl, h.two⟩
  simp only [if_neg c1] at q7
  refine q7.mono ?_
  rintro v1 σ1 ⟨e1, e2⟩
  refine ⟨_, e1, ?_⟩
  rw [e2]
  have q8 := m_X8_removeTraces (l := l) (G := G) (σ := z_ui σ 32 5 (nI (w - z_n x))) P n u v w rc tl (show z_mi _ P n u v w rc tl from hM) x
  simp only [if_neg c1] at q8
  refine q8.mono ?_
  rintro v2 σ2 ⟨e3, e4⟩
  rw [e3, e4]
  refine ⟨rfl, P, n, o, u, v, (w - z_n x), rc, tl, ⟨⟨i1, i2, i3, i4, i5, rfl, i7, i8⟩, jP, jn, jo, ju, by omega, jr, jt⟩, ⟨⟨m1, m2, m3, m4, rfl, m6, m7⟩, jP, jn, ju, by omega, jr, jt, mq, ma⟩, a1, a2, ⟨a3, a3x, a3y⟩, ⟨fun i hi => a4.1 i (by omega), fun i j hi hj => a4.2 i j (by omega) (by omega)⟩, a5, a6, ((aV).ui (by omega)).ui (by omega), ⟨b7.1, fun i hi => b7.2 i (by omega)⟩⟩
theorem pr_setEccentricity {l : Launch} {G : z_Gl} {σ : z_St} {c : Nat} (h : z_R c σ) (x y : Int32) : z_M l G yX7_setEccentricity cX7_setEccentricity 3 (some .int) (z_rm 1 23) [.ref (z_ad G 0), .int x, .int y] σ (fun v1 σ1 => ∃ xx : Int32, v1 = some (.int xx) ∧ z_M l G yX8_setEccentricity cX8_setEccentricity 4 (some .int) (z_rm 1 25) [.ref (z_ad G 105), .int x, .int y] σ1 (fun v2 σ2 => v2 = some (.int xx) ∧ z_R (c + 1) σ2)) := by
  obtain ⟨P, n, o, u, v, w, rc, tl, h⟩ := h
  obtain ⟨hI, hM, a1, a2, ⟨a3, a3x, a3y⟩, a4, a5, a6, aV, a7⟩ := id h
  obtain ⟨⟨i1, i2, i3, i4, i5, i6, i7, i8⟩, jP, jn, jo, ju, jw, jr, jt⟩ := id hI
  obtain ⟨⟨m1, m2, m3, m4, m5, m6, m7⟩, -, -, -, -, -, -, mq, ma⟩ := id hM
  have b7 : zr_7 (z_eB (c + 1)) σ.2 o u v w := (h.up (Nat.le_succ c)).2.2.2.2.2.2.2.2.2
  have q7 := m_X7_setEccentricity (l := l) (G := G) (σ := σ) P n o u v w rc tl hI x y
  by_cases c1 : x < (-5000) ∨ nI 5000 < x
  · simp only [if_pos c1] at q7
    refine q7.mono ?_
    rintro v1 σ1 ⟨e1, e2⟩
    refine ⟨_, e1, ?_⟩
    rw [e2]
    have q8 := m_X8_setEccentricity (l := l) (G := G) (σ := σ) P n u v w rc tl (hM) x y
    simp only [if_pos c1] at q8
    refine q8.mono ?_
    rintro v2 σ2 ⟨e3, e4⟩
    rw [e3, e4]
    exact ⟨rfl, h.two⟩
  by_cases c2 : y < (-5000) ∨ nI 5000 < y
  · simp only [if_neg c1, if_pos c2] at q7
    refine q7.mono ?_
    rintro v1 σ1 ⟨e1, e2⟩
    refine ⟨_, e1, ?_⟩
    rw [e2]
    have q8 := m_X8_setEccentricity (l := l) (G := G) (σ := σ) P n u v w rc tl (hM) x y
    simp only [if_neg c1, if_pos c2] at q8
    refine q8.mono ?_
    rintro v2 σ2 ⟨e3, e4⟩
    rw [e3, e4]
    exact ⟨rfl, h.two⟩
  simp only [if_neg c1, if_neg c2] at q7
  refine q7.mono ?_
  rintro v1 σ1 ⟨e1, e2⟩
  refine ⟨_, e1, ?_⟩
  rw [e2]
  have q8 := m_X8_setEccentricity (l := l) (G := G) (σ := z_ui (z_ui σ 5 2 x) 5 3 y) P n u v w rc tl (show z_mi _ P n u v w rc tl from hM) x y
  simp only [if_neg c1, if_neg c2] at q8
  refine q8.mono ?_
  rintro v2 σ2 ⟨e3, e4⟩
  rw [e3, e4]
  refine ⟨by rw [show (z_ui (z_ui σ 5 2 x) 5 3 y).1 105 28 = σ.1 105 28 from rfl, show (z_ui (z_ui σ 5 2 x) 5 3 y).1 105 29 = σ.1 105 29 from rfl, a3x, a3y], P, n, o, u, v, w, rc, tl, ⟨⟨i1, i2, i3, i4, i5, i6, i7, i8⟩, jP, jn, jo, ju, jw, jr, jt⟩, ⟨⟨m1, m2, m3, m4, m5, m6, m7⟩, jP, jn, ju, jw, jr, jt, mq, ma⟩, a1, a2, ⟨a3, rfl, rfl⟩, a4, a5, a6, ((((aV).ui (by omega)).ui (by omega)).ui (by omega)).ui (by omega), b7⟩
theorem zp_n {x : Int32} {b : Nat} (hb : b < 2 ^ 31) (h : ¬ (x < nI 0 ∨ nI b < x)) : z_n x ≤ b := by
  obtain ⟨k, hk, rfl⟩ := z_in0 hb h
  rw [z_nk (by omega)]
  exact hk
theorem zp_nw {x : Int32} {w : Nat} (hw : w < 2 ^ 30) (h : ¬ (x < nI 0 ∨ nI w - nI 1 < x)) : z_n x < w := by
  obtain ⟨k, hk, rfl⟩ := z_inw hw h
  rw [z_nk (by omega)]
  exact hk
theorem z_sg_ag {f g : Nat → Int64} (h : z_eq24 f g) (i : Nat) : z_sg f i = z_sg g i := by unfold z_sg; rw [z_cf_ag h, z_cf_ag h]
theorem z_dm_ag {f g : Nat → Int64} (h : z_eq24 f g) (i : Nat) : ∀ d, z_dm f i d = z_dm g i d
  | 0 => rfl
  | d + 1 => by rw [z_dm, z_dm, z_dm_ag h i d, z_sg_ag h, z_sg_ag h]
theorem z_kl_ag {f g : Nat → Int64} (h : z_eq24 f g) (a k : Nat) : ∀ d, z_kl f a d k = z_kl g a d k
  | 0 => rfl
  | d + 1 => by rw [z_kl, z_kl, z_kl_ag h a k d, z_cf_ag h, z_cf_ag h]
theorem z_tg_ag {f g : Nat → Int64} : ∀ {n : Nat}, (∀ k, k < n → f k = g k) → z_tg f n = z_tg g n
  | 0, _ => rfl
  | n + 1, h => by rw [z_tg, z_tg, z_tg_ag (n := n) (fun k hk => h k (by omega)), h n (by omega)]
theorem zp_rme {f g : Nat → Int64} (h : z_eq24 f g) : z_eq24 (z_rme f) (z_rme g) := fun k hk => by unfold z_rme; rw [z_cf_ag h, z_cf_ag h, z_cf_ag h, h k hk]
theorem zp_vb {f g : Nat → Int64} (h : z_eq24 f g) (a : Nat) : z_eq24 (z_vb f a) (z_vb g a) := fun k hk => by
  unfold z_vb
  rw [h k hk, h _ (Nat.mod_lt _ (by decide)), h _ (Nat.mod_lt _ (by decide))]
theorem zp_sbt {f g a b : Nat → Int64} (h : z_eq24 f g) (h2 : z_eq24 a b) : z_eq24 (z_sbt f a) (z_sbt g b) := fun k hk => by unfold z_sbt; rw [h k hk, h2 k hk]
theorem zp_rot {x : Int32} (h : ¬ (x < (-23) ∨ nI 23 < x)) : ∃ s, s < 24 ∧ ∀ k, k < 24 → z_pm (nI k - x) = (k + s) % 24 := by
  have h1 : ¬ x < (-23) := fun z => h (Or.inl z)
  have h2 : ¬ nI 23 < x := fun z => h (Or.inr z)
  rw [Int32.lt_iff_toInt_lt] at h1 h2
  have e1 : (-23 : Int32).toInt = -23 := by decide
  have e2 : (nI 23).toInt = 23 := by decide
  rw [e1] at h1
  rw [e2] at h2
  refine ⟨((-x.toInt) % 24).toNat, by omega, fun k hk => ?_⟩
  unfold z_pm
  rw [fb_subI (by rw [nI_toInt (by omega)]; omega) (by rw [nI_toInt (by omega)]; omega), nI_toInt (by omega)]
  omega
theorem zp_src {A B p s t : Nat → Int32} {P n : Nat} {x y : Int32} (h1 : zr_1 n A B) (h3 : zr_3 p s t) (hP : P = 2 ∨ P = 3 ∨ P = 4 ∨ P = 6 ∨ P = 8 ∨ P = 12) (hn : n ≤ P * 24) (h : z_se P n x y = 0) : z_eq24 (z_src A p s P (z_n x) (z_n y)) (z_src B t (z_shI t 24) P (z_n x) (z_n y)) := by
  intro k hk
  obtain ⟨sr, hs4, rfl, h0, h12⟩ := z_se_ok (by omega) (by omega) h
  rw [z_nk (k := sr) (by omega)]
  unfold z_src
  by_cases q0 : sr = 0
  · obtain ⟨j, j1, j2, rfl⟩ := h0 q0
    rw [if_pos q0, if_pos q0, z_nk (k := j) (by omega), (h1 (j * 24 + k % 24) (by omega)).1]
  · rw [if_neg q0, if_neg q0]
    by_cases q1 : sr = 1
    · rw [if_pos q1, if_pos q1, z_pt_ag (zr_ag h1 (h12 (Or.inl q1)))]
    · rw [if_neg q1, if_neg q1]
      by_cases q2 : sr = 2
      · rw [if_pos q2, if_pos q2, z_sp_ag (zr_ag h1 (h12 (Or.inr q2))) hk]
      · rw [if_neg q2, if_neg q2]
        by_cases q3 : sr = 3
        · rw [if_pos q3, if_pos q3, (h3 k hk).1]
        · rw [if_neg q3, if_neg q3, (h3 k hk).2.1]
          rfl
theorem zp_eqc {Z X F F2 g g2 : Nat → Int64} (h : z_eq24 Z X) (hF : z_eq24 F F2) : z_bo (¬ z_eq24 X (z_fil F2 g2 24)) = z_bo (¬ z_eq24 Z (z_fil F g 24)) := by
  refine z_bo_iff (not_congr ⟨fun q k hk => ?_, fun q k hk => ?_⟩)
  · rw [h k hk, q k hk, z_fil_lt hk, z_fil_lt hk, hF k hk]
  · rw [← h k hk, q k hk, z_fil_lt hk, z_fil_lt hk, hF k hk]
theorem zp_filc {F F2 g g2 : Nat → Int64} (h : z_eq24 F F2) : z_eq24 (z_fil F g 24) (z_fil F2 g2 24) := fun k hk => by rw [z_fil_lt hk, z_fil_lt hk, h k hk]
theorem zp_file {F g : Nat → Int64} {B : Int} (h : z_e F 24 ≤ B) : z_e (z_fil F g 24) 24 ≤ B := by
  rw [z_e_ag (g := F) (fun k hk => z_fil_lt hk)]
  exact h
theorem zp_nx {σ : z_St} {o u : Nat} {F : Nat → Int64} {i : Nat} (h : 105 ≤ i) : (z_nx σ o u F).2 i = σ.2 i := by
  have a : ¬ i = 88 := by omega
  have b : ¬ i = 10 + (z_ha o u + z_hb u) % 21 := by omega
  simp [z_nx, z_uL, z_ui, a, b]
theorem zp_up {a b : Int} {c : Nat} (h : a ≤ z_eB c) (h2 : b ≤ a + 2000000000000000000) : b ≤ z_eB (c + 1) := by unfold z_eB at h ⊢; omega
theorem z_eB_s (c : Nat) : z_eB (c + 1) = z_eB c + 2000000000000000000 := by unfold z_eB; omega
theorem pr_reading {l : Launch} {G : z_Gl} {σ : z_St} {c : Nat} (h : z_R c σ) (x y : Int32) : z_M l G yX7_reading cX7_reading 3 (some .int) (z_rm 2 44) [.ref (z_ad G 0), .int x, .int y] σ (fun v1 σ1 => ∃ xx : Int32, v1 = some (.int xx) ∧ z_M l G yX8_reading cX8_reading 4 (some .int) (z_rm 2 46) [.ref (z_ad G 105), .int x, .int y] σ1 (fun v2 σ2 => v2 = some (.int xx) ∧ z_R (c + 1) σ2)) := by
  obtain ⟨P, n, o, u, v, w, rc, tl, h⟩ := h
  obtain ⟨hI, hM, a1, a2, ⟨a3, a3x, a3y⟩, a4, a5, a6, aV, a7⟩ := id h
  obtain ⟨⟨i1, i2, i3, i4, i5, i6, i7, i8⟩, jP, jn, jo, ju, jw, jr, jt⟩ := id hI
  obtain ⟨⟨m1, m2, m3, m4, m5, m6, m7⟩, -, -, -, -, -, -, mq, ma⟩ := id hM
  have b7 : zr_7 (z_eB (c + 1)) σ.2 o u v w := (h.up (Nat.le_succ c)).2.2.2.2.2.2.2.2.2
  have q7 := m_X7_reading (l := l) (G := G) (σ := σ) P n o u v w rc tl hI x y
  by_cases c1 : x < nI 0 ∨ nI P - nI 1 < x
  · simp only [if_pos c1] at q7
    refine q7.mono ?_
    rintro v1 σ1 ⟨e1, e2⟩
    refine ⟨_, e1, ?_⟩
    rw [e2]
    have q8 := m_X8_reading (l := l) (G := G) (σ := σ) P n u v w rc tl (hM) x y
    simp only [if_pos c1] at q8
    refine q8.mono ?_
    rintro v2 σ2 ⟨e3, e4⟩
    rw [e3, e4]
    exact ⟨rfl, h.two⟩
  by_cases c2 : y < nI 0 ∨ nI 23 < y
  · simp only [if_neg c1, if_pos c2] at q7
    refine q7.mono ?_
    rintro v1 σ1 ⟨e1, e2⟩
    refine ⟨_, e1, ?_⟩
    rw [e2]
    have q8 := m_X8_reading (l := l) (G := G) (σ := σ) P n u v w rc tl (hM) x y
    simp only [if_neg c1, if_pos c2] at q8
    refine q8.mono ?_
    rintro v2 σ2 ⟨e3, e4⟩
    rw [e3, e4]
    exact ⟨rfl, h.two⟩
  by_cases c3 : n ≤ z_n x * 24 + z_n y
  · simp only [if_neg c1, if_neg c2, if_pos c3] at q7
    refine q7.mono ?_
    rintro v1 σ1 ⟨e1, e2⟩
    refine ⟨_, e1, ?_⟩
    rw [e2]
    have q8 := m_X8_reading (l := l) (G := G) (σ := σ) P n u v w rc tl (hM) x y
    simp only [if_neg c1, if_neg c2, if_pos c3] at q8
    refine q8.mono ?_
    rintro v2 σ2 ⟨e3, e4⟩
    rw [e3, e4]
    exact ⟨rfl, h.two⟩
  simp only [if_neg c1, if_neg c2, if_neg c3] at q7
  refine q7.mono ?_
  rintro v1 σ1 ⟨e1, e2⟩
  refine ⟨_, e1, ?_⟩
  rw [e2]
  have q8 := m_X8_reading (l := l) (G := G) (σ := σ) P n u v w rc tl hM x y
  simp only [if_neg c1, if_neg c2, if_neg c3] at q8
  refine q8.mono ?_
  rintro v2 σ2 ⟨e3, e4⟩
  rw [e3, e4]
  refine ⟨?_, h.two⟩
  have hy := zp_n (by decide) c2
  exact z_ci (a1 _ (by omega)).1.symm
theorem pr_part {l : Launch} {G : z_Gl} {σ : z_St} {c : Nat} (h : z_R c σ) (x : Int32) : z_M l G yX7_part cX7_part 2 (some .long) (z_rm 4 93) [.ref (z_ad G 0), .int x] σ (fun v1 σ1 => ∃ xx : Int64, v1 = some (.long xx) ∧ z_M l G yX8_part cX8_part 2 (some .long) (z_rm 3 70) [.ref (z_ad G 105), .int x] σ1 (fun v2 σ2 => v2 = some (.long xx) ∧ z_R (c + 1) σ2)) := by
  obtain ⟨P, n, o, u, v, w, rc, tl, h⟩ := h
  obtain ⟨hI, hM, a1, a2, ⟨a3, a3x, a3y⟩, a4, a5, a6, aV, a7⟩ := id h
  obtain ⟨⟨i1, i2, i3, i4, i5, i6, i7, i8⟩, jP, jn, jo, ju, jw, jr, jt⟩ := id hI
  obtain ⟨⟨m1, m2, m3, m4, m5, m6, m7⟩, -, -, -, -, -, -, mq, ma⟩ := id hM
  have b7 : zr_7 (z_eB (c + 1)) σ.2 o u v w := (h.up (Nat.le_succ c)).2.2.2.2.2.2.2.2.2
  have q7 := m_X7_part (l := l) (G := G) (σ := σ) P n o u v w rc tl hI x
  by_cases c1 : x < nI 0 ∨ nI 23 < x
  · simp only [if_pos c1] at q7
    refine q7.mono ?_
    rintro v1 σ1 ⟨e1, e2⟩
    refine ⟨_, e1, ?_⟩
    rw [e2]
    have q8 := m_X8_part (l := l) (G := G) (σ := σ) P n u v w rc tl (hM) x
    simp only [if_pos c1] at q8
    refine q8.mono ?_
    rintro v2 σ2 ⟨e3, e4⟩
    rw [e3, e4]
    exact ⟨rfl, h.two⟩
  by_cases c2 : ¬ P * 24 ≤ n
  · simp only [if_neg c1, if_pos c2] at q7
    refine q7.mono ?_
    rintro v1 σ1 ⟨e1, e2⟩
    refine ⟨_, e1, ?_⟩
    rw [e2]
    have q8 := m_X8_part (l := l) (G := G) (σ := σ) P n u v w rc tl (hM) x
    simp only [if_neg c1, if_pos c2] at q8
    refine q8.mono ?_
    rintro v2 σ2 ⟨e3, e4⟩
    rw [e3, e4]
    exact ⟨rfl, h.two⟩
  simp only [if_neg c1, if_neg c2] at q7
  refine q7.mono ?_
  rintro v1 σ1 ⟨e1, e2⟩
  refine ⟨_, e1, ?_⟩
  rw [e2]
  have q8 := m_X8_part (l := l) (G := G) (σ := σ) P n u v w rc tl hM x
  simp only [if_neg c1, if_neg c2] at q8
  refine q8.mono ?_
  rintro v2 σ2 ⟨e3, e4⟩
  rw [e3, e4]
  refine ⟨?_, h.two⟩
  exact z_cl (z_pt_ag (zr_ag a1 (Decidable.not_not.mp c2))).symm
theorem pr_spindle {l : Launch} {G : z_Gl} {σ : z_St} {c : Nat} (h : z_R c σ) (x : Int32) : z_M l G yX7_spindle cX7_spindle 2 (some .long) (z_rm 4 89) [.ref (z_ad G 0), .int x] σ (fun v1 σ1 => ∃ xx : Int64, v1 = some (.long xx) ∧ z_M l G yX8_spindle cX8_spindle 2 (some .long) (z_rm 3 66) [.ref (z_ad G 105), .int x] σ1 (fun v2 σ2 => v2 = some (.long xx) ∧ z_R (c + 1) σ2)) := by
  obtain ⟨P, n, o, u, v, w, rc, tl, h⟩ := h
  obtain ⟨hI, hM, a1, a2, ⟨a3, a3x, a3y⟩, a4, a5, a6, aV, a7⟩ := id h
  obtain ⟨⟨i1, i2, i3, i4, i5, i6, i7, i8⟩, jP, jn, jo, ju, jw, jr, jt⟩ := id hI
  obtain ⟨⟨m1, m2, m3, m4, m5, m6, m7⟩, -, -, -, -, -, -, mq, ma⟩ := id hM
  have b7 : zr_7 (z_eB (c + 1)) σ.2 o u v w := (h.up (Nat.le_succ c)).2.2.2.2.2.2.2.2.2
  have q7 := m_X7_spindle (l := l) (G := G) (σ := σ) P n o u v w rc tl hI x
  by_cases c1 : x < nI 0 ∨ nI 23 < x
  · simp only [if_pos c1] at q7
    refine q7.mono ?_
    rintro v1 σ1 ⟨e1, e2⟩
    refine ⟨_, e1, ?_⟩
    rw [e2]
    have q8 := m_X8_spindle (l := l) (G := G) (σ := σ) P n u v w rc tl (hM) x
    simp only [if_pos c1] at q8
    refine q8.mono ?_
    rintro v2 σ2 ⟨e3, e4⟩
    rw [e3, e4]
    exact ⟨rfl, h.two⟩
  by_cases c2 : ¬ P * 24 ≤ n
  · simp only [if_neg c1, if_pos c2] at q7
    refine q7.mono ?_
    rintro v1 σ1 ⟨e1, e2⟩
    refine ⟨_, e1, ?_⟩
    rw [e2]
    have q8 := m_X8_spindle (l := l) (G := G) (σ := σ) P n u v w rc tl (hM) x
    simp only [if_neg c1, if_pos c2] at q8
    refine q8.mono ?_
    rintro v2 σ2 ⟨e3, e4⟩
    rw [e3, e4]
    exact ⟨rfl, h.two⟩
  simp only [if_neg c1, if_neg c2] at q7
  refine q7.mono ?_
  rintro v1 σ1 ⟨e1, e2⟩
  refine ⟨_, e1, ?_⟩
  rw [e2]
  have q8 := m_X8_spindle (l := l) (G := G) (σ := σ) P n u v w rc tl hM x
  simp only [if_neg c1, if_neg c2] at q8
  refine q8.mono ?_
  rintro v2 σ2 ⟨e3, e4⟩
  rw [e3, e4]
  refine ⟨?_, h.two⟩
  have hx := zp_n (by decide) c1
  exact z_cl (z_sp_ag (zr_ag a1 (Decidable.not_not.mp c2)) (by omega)).symm
theorem pr_isBlind {l : Launch} {G : z_Gl} {σ : z_St} {c : Nat} (h : z_R c σ) (x : Int32) : z_M l G yX7_isBlind cX7_isBlind 3 (some .int) (z_rm 1 22) [.ref (z_ad G 0), .int x] σ (fun v1 σ1 => ∃ xx : Int32, v1 = some (.int xx) ∧ z_M l G yX8_isBlind cX8_isBlind 2 (some .int) (z_rm 1 25) [.ref (z_ad G 105), .int x] σ1 (fun v2 σ2 => v2 = some (.int xx) ∧ z_R (c + 1) σ2)) := by
  obtain ⟨P, n, o, u, v, w, rc, tl, h⟩ := h
  obtain ⟨hI, hM, a1, a2, ⟨a3, a3x, a3y⟩, a4, a5, a6, aV, a7⟩ := id h
  obtain ⟨⟨i1, i2, i3, i4, i5, i6, i7, i8⟩, jP, jn, jo, ju, jw, jr, jt⟩ := id hI
  obtain ⟨⟨m1, m2, m3, m4, m5, m6, m7⟩, -, -, -, -, -, -, mq, ma⟩ := id hM
  have b7 : zr_7 (z_eB (c + 1)) σ.2 o u v w := (h.up (Nat.le_succ c)).2.2.2.2.2.2.2.2.2
  have q7 := m_X7_isBlind (l := l) (G := G) (σ := σ) P n o u v w rc tl hI x
  refine q7.mono ?_
  rintro v1 σ1 ⟨e1, e2⟩
  refine ⟨_, e1, ?_⟩
  rw [e2]
  have q8 := m_X8_isBlind (l := l) (G := G) (σ := σ) P n u v w rc tl hM x
  refine q8.mono ?_
  rintro v2 σ2 ⟨e3, e4⟩
  rw [e3, e4]
  refine ⟨?_, h.two⟩
  rfl
theorem pr_isBlindInVBlock {l : Launch} {G : z_Gl} {σ : z_St} {c : Nat} (h : z_R c σ) (x y : Int32) : z_M l G yX7_isBlindInVBlock cX7_isBlindInVBlock 4 (some .int) (z_rm 3 62) [.ref (z_ad G 0), .int x, .int y] σ (fun v1 σ1 => ∃ xx : Int32, v1 = some (.int xx) ∧ z_M l G yX8_isBlindInVBlock cX8_isBlindInVBlock 5 (some .int) (z_rm 2 43) [.ref (z_ad G 105), .int x, .int y] σ1 (fun v2 σ2 => v2 = some (.int xx) ∧ z_R (c + 1) σ2)) := by
  obtain ⟨P, n, o, u, v, w, rc, tl, h⟩ := h
  obtain ⟨hI, hM, a1, a2, ⟨a3, a3x, a3y⟩, a4, a5, a6, aV, a7⟩ := id h
  obtain ⟨⟨i1, i2, i3, i4, i5, i6, i7, i8⟩, jP, jn, jo, ju, jw, jr, jt⟩ := id hI
  obtain ⟨⟨m1, m2, m3, m4, m5, m6, m7⟩, -, -, -, -, -, -, mq, ma⟩ := id hM
  have b7 : zr_7 (z_eB (c + 1)) σ.2 o u v w := (h.up (Nat.le_succ c)).2.2.2.2.2.2.2.2.2
  have q7 := m_X7_isBlindInVBlock (l := l) (G := G) (σ := σ) P n o u v w rc tl hI x y
  refine q7.mono ?_
  rintro v1 σ1 ⟨e1, e2⟩
  refine ⟨_, e1, ?_⟩
  rw [e2]
  have q8 := m_X8_isBlindInVBlock (l := l) (G := G) (σ := σ) P n u v w rc tl hM x y
  refine q8.mono ?_
  rintro v2 σ2 ⟨e3, e4⟩
  rw [e3, e4]
  refine ⟨?_, h.two⟩
  rfl
theorem pr_profile {l : Launch} {G : z_Gl} {σ : z_St} {c : Nat} (h : z_R c σ) (x : Int32) : z_M l G yX7_profile cX7_profile 2 (some .long) (z_rm 2 42) [.ref (z_ad G 0), .int x] σ (fun v1 σ1 => ∃ xx : Int64, v1 = some (.long xx) ∧ z_M l G yX8_profile cX8_profile 2 (some .long) (z_rm 2 45) [.ref (z_ad G 105), .int x] σ1 (fun v2 σ2 => v2 = some (.long xx) ∧ z_R (c + 1) σ2)) := by
  obtain ⟨P, n, o, u, v, w, rc, tl, h⟩ := h
  obtain ⟨hI, hM, a1, a2, ⟨a3, a3x, a3y⟩, a4, a5, a6, aV, a7⟩ := id h
  obtain ⟨⟨i1, i2, i3, i4, i5, i6, i7, i8⟩, jP, jn, jo, ju, jw, jr, jt⟩ := id hI
  obtain ⟨⟨m1, m2, m3, m4, m5, m6, m7⟩, -, -, -, -, -, -, mq, ma⟩ := id hM
  have b7 : zr_7 (z_eB (c + 1)) σ.2 o u v w := (h.up (Nat.le_succ c)).2.2.2.2.2.2.2.2.2
  have q7 := m_X7_profile (l := l) (G := G) (σ := σ) P n o u v w rc tl hI x
  by_cases c1 : x < nI 0 ∨ nI 23 < x
  · simp only [if_pos c1] at q7
    refine q7.mono ?_
    rintro v1 σ1 ⟨e1, e2⟩
    refine ⟨_, e1, ?_⟩
    rw [e2]
    have q8 := m_X8_profile (l := l) (G := G) (σ := σ) P n u v w rc tl (hM) x
    simp only [if_pos c1] at q8
    refine q8.mono ?_
    rintro v2 σ2 ⟨e3, e4⟩
    rw [e3, e4]
    exact ⟨rfl, h.two⟩
  simp only [if_neg c1] at q7
  refine q7.mono ?_
  rintro v1 σ1 ⟨e1, e2⟩
  refine ⟨_, e1, ?_⟩
  rw [e2]
  have q8 := m_X8_profile (l := l) (G := G) (σ := σ) P n u v w rc tl hM x
  simp only [if_neg c1] at q8
  refine q8.mono ?_
  rintro v2 σ2 ⟨e3, e4⟩
  rw [e3, e4]
  refine ⟨?_, h.two⟩
  have hx := zp_n (by decide) c1
  exact z_cl (a2.1 _ (by omega)).symm
theorem pr_harmonic {l : Launch} {G : z_Gl} {σ : z_St} {c : Nat} (h : z_R c σ) (x : Int32) (t : Nat) (ht : t < 2) : z_M l G yX7_harmonic cX7_harmonic 3 (some .long) (z_rm 3 68) [.ref (z_ad G 0), .int x, .int (nI t)] σ (fun v1 σ1 => ∃ xx : Int64, v1 = some (.long xx) ∧ z_M l G yX8_harmonic cX8_harmonic 3 (some .long) (z_rm 5 113) [.ref (z_ad G 105), .int x, .int (nI t)] σ1 (fun v2 σ2 => v2 = some (.long xx) ∧ z_R (c + 1) σ2)) := by
  obtain ⟨P, n, o, u, v, w, rc, tl, h⟩ := h
  obtain ⟨hI, hM, a1, a2, ⟨a3, a3x, a3y⟩, a4, a5, a6, aV, a7⟩ := id h
  obtain ⟨⟨i1, i2, i3, i4, i5, i6, i7, i8⟩, jP, jn, jo, ju, jw, jr, jt⟩ := id hI
  obtain ⟨⟨m1, m2, m3, m4, m5, m6, m7⟩, -, -, -, -, -, -, mq, ma⟩ := id hM
  have b7 : zr_7 (z_eB (c + 1)) σ.2 o u v w := (h.up (Nat.le_succ c)).2.2.2.2.2.2.2.2.2
  have q7 := m_X7_harmonic (l := l) (G := G) (σ := σ) P n o u v w rc tl hI x t ht
  by_cases c1 : x < nI 0 ∨ nI 12 < x
  · simp only [if_pos c1] at q7
    refine q7.mono ?_
    rintro v1 σ1 ⟨e1, e2⟩
    refine ⟨_, e1, ?_⟩
    rw [e2]
    have q8 := m_X8_harmonic (l := l) (G := G) (σ := σ) P n u v w rc tl (hM) x t ht
    simp only [if_pos c1] at q8
    refine q8.mono ?_
    rintro v2 σ2 ⟨e3, e4⟩
    rw [e3, e4]
    exact ⟨rfl, h.two⟩
  simp only [if_neg c1] at q7
  refine q7.mono ?_
  rintro v1 σ1 ⟨e1, e2⟩
  refine ⟨_, e1, ?_⟩
  rw [e2]
  have q8 := m_X8_harmonic (l := l) (G := G) (σ := σ) P n u v w rc tl hM x t ht
  simp only [if_neg c1] at q8
  refine q8.mono ?_
  rintro v2 σ2 ⟨e3, e4⟩
  rw [e3, e4]
  refine ⟨?_, h.two⟩
  exact z_cl (z_cf_ag a2.1 t _).symm
theorem pr_strength {l : Launch} {G : z_Gl} {σ : z_St} {c : Nat} (h : z_R c σ) (x : Int32) : z_M l G yX7_strength cX7_strength 2 (some .long) (z_rm 4 89) [.ref (z_ad G 0), .int x] σ (fun v1 σ1 => ∃ xx : Int64, v1 = some (.long xx) ∧ z_M l G yX8_strength cX8_strength 2 (some .long) (z_rm 6 134) [.ref (z_ad G 105), .int x] σ1 (fun v2 σ2 => v2 = some (.long xx) ∧ z_R (c + 1) σ2)) := by
  obtain ⟨P, n, o, u, v, w, rc, tl, h⟩ := h
  obtain ⟨hI, hM, a1, a2, ⟨a3, a3x, a3y⟩, a4, a5, a6, aV, a7⟩ := id h
  obtain ⟨⟨i1, i2, i3, i4, i5, i6, i7, i8⟩, jP, jn, jo, ju, jw, jr, jt⟩ := id hI
  obtain ⟨⟨m1, m2, m3, m4, m5, m6, m7⟩, -, -, -, -, -, -, mq, ma⟩ := id hM
  have b7 : zr_7 (z_eB (c + 1)) σ.2 o u v w := (h.up (Nat.le_succ c)).2.2.2.2.2.2.2.2.2
  have q7 := m_X7_strength (l := l) (G := G) (σ := σ) P n o u v w rc tl hI x
  by_cases c1 : x < nI 0 ∨ nI 12 < x
  · simp only [if_pos c1] at q7
    refine q7.mono ?_
    rintro v1 σ1 ⟨e1, e2⟩
    refine ⟨_, e1, ?_⟩
    rw [e2]
    have q8 := m_X8_strength (l := l) (G := G) (σ := σ) P n u v w rc tl (hM) x
    simp only [if_pos c1] at q8
    refine q8.mono ?_
    rintro v2 σ2 ⟨e3, e4⟩
    rw [e3, e4]
    exact ⟨rfl, h.two⟩
  simp only [if_neg c1] at q7
  refine q7.mono ?_
  rintro v1 σ1 ⟨e1, e2⟩
  refine ⟨_, e1, ?_⟩
  rw [e2]
  have q8 := m_X8_strength (l := l) (G := G) (σ := σ) P n u v w rc tl hM x
  simp only [if_neg c1] at q8
  refine q8.mono ?_
  rintro v2 σ2 ⟨e3, e4⟩
  rw [e3, e4]
  refine ⟨?_, h.two⟩
  exact z_cl (z_sg_ag a2.1 _).symm
theorem pr_dominant {l : Launch} {G : z_Gl} {σ : z_St} {c : Nat} (h : z_R c σ) (x : Int32) : z_M l G yX7_dominant cX7_dominant 9 (some .int) (z_rm 4 89) [.ref (z_ad G 0), .int x] σ (fun v1 σ1 => ∃ xx : Int32, v1 = some (.int xx) ∧ z_M l G yX8_dominant cX8_dominant 4 (some .int) (z_rm 6 134) [.ref (z_ad G 105), .int x] σ1 (fun v2 σ2 => v2 = some (.int xx) ∧ z_R (c + 1) σ2)) := by
  obtain ⟨P, n, o, u, v, w, rc, tl, h⟩ := h
  obtain ⟨hI, hM, a1, a2, ⟨a3, a3x, a3y⟩, a4, a5, a6, aV, a7⟩ := id h
  obtain ⟨⟨i1, i2, i3, i4, i5, i6, i7, i8⟩, jP, jn, jo, ju, jw, jr, jt⟩ := id hI
  obtain ⟨⟨m1, m2, m3, m4, m5, m6, m7⟩, -, -, -, -, -, -, mq, ma⟩ := id hM
  have b7 : zr_7 (z_eB (c + 1)) σ.2 o u v w := (h.up (Nat.le_succ c)).2.2.2.2.2.2.2.2.2
  have q7 := m_X7_dominant (l := l) (G := G) (σ := σ) P n o u v w rc tl hI x
  by_cases c1 : x < nI 0 ∨ nI 12 < x
  · simp only [if_pos c1] at q7
    refine q7.mono ?_
    rintro v1 σ1 ⟨e1, e2⟩
    refine ⟨_, e1, ?_⟩
    rw [e2]
    have q8 := m_X8_dominant (l := l) (G := G) (σ := σ) P n u v w rc tl (hM) x
    simp only [if_pos c1] at q8
    refine q8.mono ?_
    rintro v2 σ2 ⟨e3, e4⟩
    rw [e3, e4]
    exact ⟨rfl, h.two⟩
  simp only [if_neg c1] at q7
  refine q7.mono ?_
  rintro v1 σ1 ⟨e1, e2⟩
  refine ⟨_, e1, ?_⟩
  rw [e2]
  have q8 := m_X8_dominant (l := l) (G := G) (σ := σ) P n u v w rc tl hM x
  simp only [if_neg c1] at q8
  refine q8.mono ?_
  rintro v2 σ2 ⟨e3, e4⟩
  rw [e3, e4]
  refine ⟨?_, h.two⟩
  exact z_ci (by rw [z_dm_ag a2.1])
theorem pr_residual {l : Launch} {G : z_Gl} {σ : z_St} {c : Nat} (h : z_R c σ) : z_M l G yX7_residual cX7_residual 1 (some .long) (z_rm 5 121) [.ref (z_ad G 0)] σ (fun v1 σ1 => ∃ xx : Int64, v1 = some (.long xx) ∧ z_M l G yX8_residual cX8_residual 7 (some .long) (z_rm 3 70) [.ref (z_ad G 105)] σ1 (fun v2 σ2 => v2 = some (.long xx) ∧ z_R (c + 1) σ2)) := by
  obtain ⟨P, n, o, u, v, w, rc, tl, h⟩ := h
  obtain ⟨hI, hM, a1, a2, ⟨a3, a3x, a3y⟩, a4, a5, a6, aV, a7⟩ := id h
  obtain ⟨⟨i1, i2, i3, i4, i5, i6, i7, i8⟩, jP, jn, jo, ju, jw, jr, jt⟩ := id hI
  obtain ⟨⟨m1, m2, m3, m4, m5, m6, m7⟩, -, -, -, -, -, -, mq, ma⟩ := id hM
  have b7 : zr_7 (z_eB (c + 1)) σ.2 o u v w := (h.up (Nat.le_succ c)).2.2.2.2.2.2.2.2.2
  have q7 := m_X7_residual (l := l) (G := G) (σ := σ) P n o u v w rc tl hI
  by_cases c1 : P * 24 ≤ n
  · simp only [if_pos c1] at q7
    refine q7.mono ?_
    rintro v1 σ1 ⟨e1, e2⟩
    refine ⟨_, e1, ?_⟩
    rw [e2]
    have hU := h.uL (i := 4) (f := z_fil (z_pt (σ.1 2) P) (σ.2 4) 24) (Or.inl rfl)
    have q8 := m_X8_residual (l := l) (G := G) (σ := z_uL σ 4 (z_fil (z_pt (σ.1 2) P) (σ.2 4) 24)) P n u v w rc tl hM
    simp only [if_pos c1] at q8
    refine q8.mono ?_
    rintro v2 σ2 ⟨e3, e4⟩
    rw [e3, e4]
    exact ⟨z_cl (zr_res (zr_ag a1 c1)), hU.two⟩
  · simp only [if_neg c1] at q7
    refine q7.mono ?_
    rintro v1 σ1 ⟨e1, e2⟩
    refine ⟨_, e1, ?_⟩
    rw [e2]
    have q8 := m_X8_residual (l := l) (G := G) (σ := σ) P n u v w rc tl hM
    simp only [if_neg c1] at q8
    refine q8.mono ?_
    rintro v2 σ2 ⟨e3, e4⟩
    rw [e3, e4]
    exact ⟨rfl, h.two⟩
theorem pr_undo {l : Launch} {G : z_Gl} {σ : z_St} {c : Nat} (h : z_R c σ) : z_M l G yX7_undo cX7_undo 1 (some .int) (z_rm 1 20) [.ref (z_ad G 0)] σ (fun v1 σ1 => ∃ xx : Int32, v1 = some (.int xx) ∧ z_M l G yX8_undo cX8_undo 2 (some .int) (z_rm 0 0) [.ref (z_ad G 105)] σ1 (fun v2 σ2 => v2 = some (.int xx) ∧ z_R (c + 1) σ2)) := by
  obtain ⟨P, n, o, u, v, w, rc, tl, h⟩ := h
  obtain ⟨hI, hM, a1, a2, ⟨a3, a3x, a3y⟩, a4, a5, a6, aV, a7⟩ := id h
  obtain ⟨⟨i1, i2, i3, i4, i5, i6, i7, i8⟩, jP, jn, jo, ju, jw, jr, jt⟩ := id hI
  obtain ⟨⟨m1, m2, m3, m4, m5, m6, m7⟩, -, -, -, -, -, -, mq, ma⟩ := id hM
  have b7 : zr_7 (z_eB (c + 1)) σ.2 o u v w := (h.up (Nat.le_succ c)).2.2.2.2.2.2.2.2.2
  have q7 := m_X7_undo (l := l) (G := G) (σ := σ) P n o u v w rc tl hI 
  by_cases c1 : u = 0
  · simp only [if_pos c1] at q7
    refine q7.mono ?_
    rintro v1 σ1 ⟨e1, e2⟩
    refine ⟨_, e1, ?_⟩
    rw [e2]
    have q8 := m_X8_undo (l := l) (G := G) (σ := σ) P n u v w rc tl (hM) 
    simp only [if_pos c1] at q8
    refine q8.mono ?_
    rintro v2 σ2 ⟨e3, e4⟩
    rw [e3, e4]
    exact ⟨rfl, h.two⟩
  simp only [if_neg c1] at q7
  refine q7.mono ?_
  rintro v1 σ1 ⟨e1, e2⟩
  refine ⟨_, e1, ?_⟩
  rw [e2]
  have q8 := m_X8_undo (l := l) (G := G) (σ := z_ui (z_ui σ 8 2 (nI (u - 1))) 8 3 (nI (v + 1))) P n u v w rc tl (show z_mi _ P n u v w rc tl from hM) 
  simp only [if_neg c1] at q8
  refine q8.mono ?_
  rintro v2 σ2 ⟨e3, e4⟩
  rw [e3, e4]
  refine ⟨rfl, P, n, o, (u - 1), (v + 1), w, rc, tl, ⟨⟨i1, i2, i3, rfl, rfl, i6, i7, i8⟩, jP, jn, jo, by omega, jw, jr, jt⟩, ⟨⟨m1, m2, rfl, rfl, m5, m6, m7⟩, jP, jn, by omega, jw, jr, jt, mq, ma⟩, a1, ?_, ⟨a3, a3x, a3y⟩, ?_, a5, a6, ?_, ?_⟩
  · have hR : ∀ i, i < 105 → (z_mun (z_ui (z_ui σ 8 2 (nI (u - 1))) 8 3 (nI (v + 1))) u v).2 i = σ.2 i := fun i hi => by
      have b1 : ¬ i = 108 := by omega
      have b2 : ¬ i = 110 := by omega
      have b3 : ¬ i = 111 := by omega
      simp [z_mun, z_uL, z_ui, b1, b2, b3]
    exact zr_2_R (zr_un a2 c1) (fun j => hR _ (by omega))
  · have hR : ∀ i, i < 105 → (z_mun (z_ui (z_ui σ 8 2 (nI (u - 1))) 8 3 (nI (v + 1))) u v).2 i = σ.2 i := fun i hi => by
      have b1 : ¬ i = 108 := by omega
      have b2 : ¬ i = 110 := by omega
      have b3 : ¬ i = 111 := by omega
      simp [z_mun, z_uL, z_ui, b1, b2, b3]
    exact zr_4_R a4 (fun i hi => hR _ (by omega))
  · exact ((((((aV.ui (by omega)).ui (by omega)).ui (by omega)).uL (by omega)).uL (by omega)).ui (by omega))
  · have hR : ∀ i, i < 105 → (z_mun (z_ui (z_ui σ 8 2 (nI (u - 1))) 8 3 (nI (v + 1))) u v).2 i = σ.2 i := fun i hi => by
      have b1 : ¬ i = 108 := by omega
      have b2 : ¬ i = 110 := by omega
      have b3 : ¬ i = 111 := by omega
      simp [z_mun, z_uL, z_ui, b1, b2, b3]
    refine zr_7_R (⟨fun j hj => b7.1 j (by omega), b7.2⟩ : zr_7 _ σ.2 o (u - 1) (v + 1) w) (fun j => hR _ (by omega)) (fun i hi => hR _ (by omega))
theorem pr_redo {l : Launch} {G : z_Gl} {σ : z_St} {c : Nat} (h : z_R c σ) : z_M l G yX7_redo cX7_redo 1 (some .int) (z_rm 1 20) [.ref (z_ad G 0)] σ (fun v1 σ1 => ∃ xx : Int32, v1 = some (.int xx) ∧ z_M l G yX8_redo cX8_redo 2 (some .int) (z_rm 0 0) [.ref (z_ad G 105)] σ1 (fun v2 σ2 => v2 = some (.int xx) ∧ z_R (c + 1) σ2)) := by
  obtain ⟨P, n, o, u, v, w, rc, tl, h⟩ := h
  obtain ⟨hI, hM, a1, a2, ⟨a3, a3x, a3y⟩, a4, a5, a6, aV, a7⟩ := id h
  obtain ⟨⟨i1, i2, i3, i4, i5, i6, i7, i8⟩, jP, jn, jo, ju, jw, jr, jt⟩ := id hI
  obtain ⟨⟨m1, m2, m3, m4, m5, m6, m7⟩, -, -, -, -, -, -, mq, ma⟩ := id hM
  have b7 : zr_7 (z_eB (c + 1)) σ.2 o u v w := (h.up (Nat.le_succ c)).2.2.2.2.2.2.2.2.2
  have q7 := m_X7_redo (l := l) (G := G) (σ := σ) P n o u v w rc tl hI 
  by_cases c1 : v = 0
  · simp only [if_pos c1] at q7
    refine q7.mono ?_
    rintro v1 σ1 ⟨e1, e2⟩
    refine ⟨_, e1, ?_⟩
    rw [e2]
    have q8 := m_X8_redo (l := l) (G := G) (σ := σ) P n u v w rc tl (hM) 
    simp only [if_pos c1] at q8
    refine q8.mono ?_
    rintro v2 σ2 ⟨e3, e4⟩
    rw [e3, e4]
    exact ⟨rfl, h.two⟩
  simp only [if_neg c1] at q7
  refine q7.mono ?_
  rintro v1 σ1 ⟨e1, e2⟩
  refine ⟨_, e1, ?_⟩
  rw [e2]
  have q8 := m_X8_redo (l := l) (G := G) (σ := z_ui (z_ui σ 8 3 (nI (v - 1))) 8 2 (nI (u + 1))) P n u v w rc tl (show z_mi _ P n u v w rc tl from hM) 
  simp only [if_neg c1] at q8
  refine q8.mono ?_
  rintro v2 σ2 ⟨e3, e4⟩
  rw [e3, e4]
  refine ⟨rfl, P, n, o, (u + 1), (v - 1), w, rc, tl, ⟨⟨i1, i2, i3, rfl, rfl, i6, i7, i8⟩, jP, jn, jo, by omega, jw, jr, jt⟩, ⟨⟨m1, m2, rfl, rfl, m5, m6, m7⟩, jP, jn, by omega, jw, jr, jt, mq, ma⟩, a1, ?_, ⟨a3, a3x, a3y⟩, ?_, a5, a6, ?_, ?_⟩
  · have hR : ∀ i, i < 105 → (z_mre (z_ui (z_ui σ 8 3 (nI (v - 1))) 8 2 (nI (u + 1))) u v).2 i = σ.2 i := fun i hi => by
      have b1 : ¬ i = 108 := by omega
      have b2 : ¬ i = 110 := by omega
      have b3 : ¬ i = 111 := by omega
      simp [z_mre, z_uL, z_ui, b1, b2, b3]
    exact zr_2_R (zr_re a2 c1) (fun j => hR _ (by omega))
  · have hR : ∀ i, i < 105 → (z_mre (z_ui (z_ui σ 8 3 (nI (v - 1))) 8 2 (nI (u + 1))) u v).2 i = σ.2 i := fun i hi => by
      have b1 : ¬ i = 108 := by omega
      have b2 : ¬ i = 110 := by omega
      have b3 : ¬ i = 111 := by omega
      simp [z_mre, z_uL, z_ui, b1, b2, b3]
    exact zr_4_R a4 (fun i hi => hR _ (by omega))
  · exact ((((((aV.ui (by omega)).ui (by omega)).ui (by omega)).uL (by omega)).uL (by omega)).ui (by omega))
  · have hR : ∀ i, i < 105 → (z_mre (z_ui (z_ui σ 8 3 (nI (v - 1))) 8 2 (nI (u + 1))) u v).2 i = σ.2 i := fun i hi => by
      have b1 : ¬ i = 108 := by omega
      have b2 : ¬ i = 110 := by omega
      have b3 : ¬ i = 111 := by omega
      simp [z_mre, z_uL, z_ui, b1, b2, b3]
    refine zr_7_R (⟨fun j hj => b7.1 j (by omega), b7.2⟩ : zr_7 _ σ.2 o (u + 1) (v - 1) w) (fun j => hR _ (by omega)) (fun i hi => hR _ (by omega))
theorem pr_rotate {l : Launch} {G : z_Gl} {σ : z_St} {c : Nat} (h : z_R c σ) (x : Int32) (hc : c ≤ 600) : z_M l G yX7_rotate cX7_rotate 4 (some .int) (z_rm 3 82) [.ref (z_ad G 0), .int x] σ (fun v1 σ1 => ∃ xx : Int32, v1 = some (.int xx) ∧ z_M l G yX8_rotate cX8_rotate 3 (some .int) (z_rm 1 25) [.ref (z_ad G 105), .int x] σ1 (fun v2 σ2 => v2 = some (.int xx) ∧ z_R (c + 1) σ2)) := by
  obtain ⟨P, n, o, u, v, w, rc, tl, h⟩ := h
  obtain ⟨hI, hM, a1, a2, ⟨a3, a3x, a3y⟩, a4, a5, a6, aV, a7⟩ := id h
  obtain ⟨⟨i1, i2, i3, i4, i5, i6, i7, i8⟩, jP, jn, jo, ju, jw, jr, jt⟩ := id hI
  obtain ⟨⟨m1, m2, m3, m4, m5, m6, m7⟩, -, -, -, -, -, -, mq, ma⟩ := id hM
  have b7 : zr_7 (z_eB (c + 1)) σ.2 o u v w := (h.up (Nat.le_succ c)).2.2.2.2.2.2.2.2.2
  have hpE := a7.1 u (by omega)
  obtain ⟨hp, hE0⟩ := ze_hbc hpE hc
  have q7 := m_X7_rotate (l := l) (G := G) (σ := σ) P n o u v w rc tl hI x
  by_cases c1 : x < (-23) ∨ nI 23 < x
  · simp only [if_pos c1] at q7
    refine q7.mono ?_
    rintro v1 σ1 ⟨e1, e2⟩
    refine ⟨_, e1, ?_⟩
    rw [e2]
    have q8 := m_X8_rotate (l := l) (G := G) (σ := σ) P n u v w rc tl hM x
    simp only [if_pos c1] at q8
    refine q8.mono ?_
    rintro v2 σ2 ⟨e3, e4⟩
    rw [e3, e4]
    exact ⟨rfl, h.two⟩
  obtain ⟨s, hs, hsr⟩ := zp_rot c1
  have hFF : z_eq24 (z_rot (σ.2 (10 + (o + u) % 21)) x) (z_rot (σ.2 108) x) := fun k hk => a2.1 _ (z_pm_lt _)
  have hE : z_e (z_rot (σ.2 (10 + (o + u) % 21)) x) 24 ≤ z_eB (c + 1) := by rw [ze_turn hs (fun k hk => by show (σ.2 (10 + (o + u) % 21)) (z_pm (nI k - x)) = _; rw [hsr k hk])]; exact Int.le_trans hpE (z_eB_le (Nat.le_succ c))
  simp only [if_neg c1] at q7
  refine q7.mono ?_
  rintro v1 σ1 ⟨e1, e2⟩
  refine ⟨_, e1, ?_⟩
  rw [e2]
  have q8 := m_X8_rotate (l := l) (G := G) (σ := (z_nx σ o u (z_fil (z_rot (σ.2 (10 + (o + u) % 21)) x) (σ.2 88) 24))) P n u v w rc tl (show z_mi _ P n u v w rc tl from hM) x
  simp only [zp_nx (σ := σ) (o := o) (u := u) (F := (z_fil (z_rot (σ.2 (10 + (o + u) % 21)) x) (σ.2 88) 24)) (i := 108) (by decide), zp_nx (σ := σ) (o := o) (u := u) (F := (z_fil (z_rot (σ.2 (10 + (o + u) % 21)) x) (σ.2 88) 24)) (i := 109) (by decide), zp_nx (σ := σ) (o := o) (u := u) (F := (z_fil (z_rot (σ.2 (10 + (o + u) % 21)) x) (σ.2 88) 24)) (i := 115) (by decide), show (z_nx σ o u (z_fil (z_rot (σ.2 (10 + (o + u) % 21)) x) (σ.2 88) 24)).1 107 = σ.1 107 from rfl, show (z_nx σ o u (z_fil (z_rot (σ.2 (10 + (o + u) % 21)) x) (σ.2 88) 24)).1 119 = σ.1 119 from rfl, if_neg c1] at q8
  refine q8.mono ?_
  rintro v2 σ2 ⟨e3, e4⟩
  rw [e3, e4]
  exact ⟨z_ci (zp_eqc a2.1 hFF), h.T (F := (z_fil (z_rot (σ.2 (10 + (o + u) % 21)) x) (σ.2 88) 24)) (F2 := (z_fil (z_rot (σ.2 108) x) (σ.2 109) 24)) (zp_filc hFF) (zp_file hE)⟩
theorem pr_removeEccentricity {l : Launch} {G : z_Gl} {σ : z_St} {c : Nat} (h : z_R c σ) (hc : c ≤ 600) : z_M l G yX7_removeEccentricity cX7_removeEccentricity 9 (some .int) (z_rm 3 82) [.ref (z_ad G 0)] σ (fun v1 σ1 => ∃ xx : Int32, v1 = some (.int xx) ∧ z_M l G yX8_removeEccentricity cX8_removeEccentricity 8 (some .int) (z_rm 5 113) [.ref (z_ad G 105)] σ1 (fun v2 σ2 => v2 = some (.int xx) ∧ z_R (c + 1) σ2)) := by
  obtain ⟨P, n, o, u, v, w, rc, tl, h⟩ := h
  obtain ⟨hI, hM, a1, a2, ⟨a3, a3x, a3y⟩, a4, a5, a6, aV, a7⟩ := id h
  obtain ⟨⟨i1, i2, i3, i4, i5, i6, i7, i8⟩, jP, jn, jo, ju, jw, jr, jt⟩ := id hI
  obtain ⟨⟨m1, m2, m3, m4, m5, m6, m7⟩, -, -, -, -, -, -, mq, ma⟩ := id hM
  have b7 : zr_7 (z_eB (c + 1)) σ.2 o u v w := (h.up (Nat.le_succ c)).2.2.2.2.2.2.2.2.2
  have hpE := a7.1 u (by omega)
  obtain ⟨hp, hE0⟩ := ze_hbc hpE hc
  have q7 := m_X7_removeEccentricity (l := l) (G := G) (σ := σ) P n o u v w rc tl hI 
  have hFF : z_eq24 (z_rme (σ.2 (10 + (o + u) % 21))) (z_rme (σ.2 108)) := zp_rme a2.1
  have hE : z_e (z_rme (σ.2 (10 + (o + u) % 21))) 24 ≤ z_eB (c + 1) := zp_up hpE (ze_away hp hE0)
  refine q7.mono ?_
  rintro v1 σ1 ⟨e1, e2⟩
  refine ⟨_, e1, ?_⟩
  rw [e2]
  have q8 := m_X8_removeEccentricity (l := l) (G := G) (σ := (z_nx σ o u (z_fil (z_rme (σ.2 (10 + (o + u) % 21))) (σ.2 88) 24))) P n u v w rc tl (show z_mi _ P n u v w rc tl from hM) 
  simp only [zp_nx (σ := σ) (o := o) (u := u) (F := (z_fil (z_rme (σ.2 (10 + (o + u) % 21))) (σ.2 88) 24)) (i := 108) (by decide), zp_nx (σ := σ) (o := o) (u := u) (F := (z_fil (z_rme (σ.2 (10 + (o + u) % 21))) (σ.2 88) 24)) (i := 109) (by decide), zp_nx (σ := σ) (o := o) (u := u) (F := (z_fil (z_rme (σ.2 (10 + (o + u) % 21))) (σ.2 88) 24)) (i := 115) (by decide), show (z_nx σ o u (z_fil (z_rme (σ.2 (10 + (o + u) % 21))) (σ.2 88) 24)).1 107 = σ.1 107 from rfl, show (z_nx σ o u (z_fil (z_rme (σ.2 (10 + (o + u) % 21))) (σ.2 88) 24)).1 119 = σ.1 119 from rfl] at q8
  refine q8.mono ?_
  rintro v2 σ2 ⟨e3, e4⟩
  rw [e3, e4]
  exact ⟨z_ci (zp_eqc a2.1 hFF), h.T (F := (z_fil (z_rme (σ.2 (10 + (o + u) % 21))) (σ.2 88) 24)) (F2 := (z_fil (z_rme (σ.2 108)) (σ.2 109) 24)) (zp_filc hFF) (zp_file hE)⟩
theorem pr_keepLobes {l : Launch} {G : z_Gl} {σ : z_St} {c : Nat} (h : z_R c σ) (x y : Int32) (hc : c ≤ 600) : z_M l G yX7_keepLobes cX7_keepLobes 3 (some .int) (z_rm 4 97) [.ref (z_ad G 0), .int x, .int y] σ (fun v1 σ1 => ∃ xx : Int32, v1 = some (.int xx) ∧ z_M l G yX8_keepLobes cX8_keepLobes 3 (some .int) (z_rm 6 141) [.ref (z_ad G 105), .int x, .int y] σ1 (fun v2 σ2 => v2 = some (.int xx) ∧ z_R (c + 1) σ2)) := by
  obtain ⟨P, n, o, u, v, w, rc, tl, h⟩ := h
  obtain ⟨hI, hM, a1, a2, ⟨a3, a3x, a3y⟩, a4, a5, a6, aV, a7⟩ := id h
  obtain ⟨⟨i1, i2, i3, i4, i5, i6, i7, i8⟩, jP, jn, jo, ju, jw, jr, jt⟩ := id hI
  obtain ⟨⟨m1, m2, m3, m4, m5, m6, m7⟩, -, -, -, -, -, -, mq, ma⟩ := id hM
  have b7 : zr_7 (z_eB (c + 1)) σ.2 o u v w := (h.up (Nat.le_succ c)).2.2.2.2.2.2.2.2.2
  have hpE := a7.1 u (by omega)
  obtain ⟨hp, hE0⟩ := ze_hbc hpE hc
  have q7 := m_X7_keepLobes (l := l) (G := G) (σ := σ) P n o u v w rc tl hI x y
  by_cases c1 : x < 0 ∨ y < x ∨ nI 12 < y
  · simp only [if_pos c1] at q7
    refine q7.mono ?_
    rintro v1 σ1 ⟨e1, e2⟩
    refine ⟨_, e1, ?_⟩
    rw [e2]
    have q8 := m_X8_keepLobes (l := l) (G := G) (σ := σ) P n u v w rc tl hM x y
    simp only [if_pos c1] at q8
    refine q8.mono ?_
    rintro v2 σ2 ⟨e3, e4⟩
    rw [e3, e4]
    exact ⟨rfl, h.two⟩
  have hxy : z_n x + (z_n y + 1 - z_n x) ≤ 13 := by
    obtain ⟨a, b, hab, hb, rfl, rfl⟩ := z_lob c1
    rw [z_nk (by omega), z_nk (by omega)]
    omega
  have hFF : z_eq24 (z_kl (σ.2 (10 + (o + u) % 21)) (z_n x) (z_n y + 1 - z_n x)) (z_kl (σ.2 108) (z_n x) (z_n y + 1 - z_n x)) := fun k hk => z_kl_ag a2.1 _ k _
  have hE : z_e (z_kl (σ.2 (10 + (o + u) % 21)) (z_n x) (z_n y + 1 - z_n x)) 24 ≤ z_eB (c + 1) := zp_up hpE (ze_keep (f := z_n x) (d := z_n y + 1 - z_n x) hp hxy hE0)
  simp only [if_neg c1] at q7
  refine q7.mono ?_
  rintro v1 σ1 ⟨e1, e2⟩
  refine ⟨_, e1, ?_⟩
  rw [e2]
  have q8 := m_X8_keepLobes (l := l) (G := G) (σ := (z_nx σ o u (z_fil (z_kl (σ.2 (10 + (o + u) % 21)) (z_n x) (z_n y + 1 - z_n x)) (σ.2 88) 24))) P n u v w rc tl (show z_mi _ P n u v w rc tl from hM) x y
  simp only [zp_nx (σ := σ) (o := o) (u := u) (F := (z_fil (z_kl (σ.2 (10 + (o + u) % 21)) (z_n x) (z_n y + 1 - z_n x)) (σ.2 88) 24)) (i := 108) (by decide), zp_nx (σ := σ) (o := o) (u := u) (F := (z_fil (z_kl (σ.2 (10 + (o + u) % 21)) (z_n x) (z_n y + 1 - z_n x)) (σ.2 88) 24)) (i := 109) (by decide), zp_nx (σ := σ) (o := o) (u := u) (F := (z_fil (z_kl (σ.2 (10 + (o + u) % 21)) (z_n x) (z_n y + 1 - z_n x)) (σ.2 88) 24)) (i := 115) (by decide), show (z_nx σ o u (z_fil (z_kl (σ.2 (10 + (o + u) % 21)) (z_n x) (z_n y + 1 - z_n x)) (σ.2 88) 24)).1 107 = σ.1 107 from rfl, show (z_nx σ o u (z_fil (z_kl (σ.2 (10 + (o + u) % 21)) (z_n x) (z_n y + 1 - z_n x)) (σ.2 88) 24)).1 119 = σ.1 119 from rfl, if_neg c1] at q8
  refine q8.mono ?_
  rintro v2 σ2 ⟨e3, e4⟩
  rw [e3, e4]
  exact ⟨z_ci (zp_eqc a2.1 hFF), h.T (F := (z_fil (z_kl (σ.2 (10 + (o + u) % 21)) (z_n x) (z_n y + 1 - z_n x)) (σ.2 88) 24)) (F2 := (z_fil (z_kl (σ.2 108) (z_n x) (z_n y + 1 - z_n x)) (σ.2 109) 24)) (zp_filc hFF) (zp_file hE)⟩
theorem pr_load {l : Launch} {G : z_Gl} {σ : z_St} {c : Nat} (h : z_R c σ) (x y : Int32) (hc : c ≤ 600) : z_M l G yX7_load cX7_load 4 (some .int) (z_rm 6 139) [.ref (z_ad G 0), .int x, .int y] σ (fun v1 σ1 => ∃ xx : Int32, v1 = some (.int xx) ∧ z_M l G yX8_load cX8_load 4 (some .int) (z_rm 4 93) [.ref (z_ad G 105), .int x, .int y] σ1 (fun v2 σ2 => v2 = some (.int xx) ∧ z_R (c + 1) σ2)) := by
  obtain ⟨P, n, o, u, v, w, rc, tl, h⟩ := h
  obtain ⟨hI, hM, a1, a2, ⟨a3, a3x, a3y⟩, a4, a5, a6, aV, a7⟩ := id h
  obtain ⟨⟨i1, i2, i3, i4, i5, i6, i7, i8⟩, jP, jn, jo, ju, jw, jr, jt⟩ := id hI
  obtain ⟨⟨m1, m2, m3, m4, m5, m6, m7⟩, -, -, -, -, -, -, mq, ma⟩ := id hM
  have b7 : zr_7 (z_eB (c + 1)) σ.2 o u v w := (h.up (Nat.le_succ c)).2.2.2.2.2.2.2.2.2
  have hpE := a7.1 u (by omega)
  obtain ⟨hp, hE0⟩ := ze_hbc hpE hc
  have q7 := m_X7_load (l := l) (G := G) (σ := σ) P n o u v w rc tl hI x y
  by_cases c1 : ¬ z_se P n x y = 0
  · simp only [if_pos c1] at q7
    refine q7.mono ?_
    rintro v1 σ1 ⟨e1, e2⟩
    refine ⟨_, e1, ?_⟩
    rw [e2]
    have q8 := m_X8_load (l := l) (G := G) (σ := σ) P n u v w rc tl hM x y
    simp only [if_pos c1] at q8
    refine q8.mono ?_
    rintro v2 σ2 ⟨e3, e4⟩
    rw [e3, e4]
    exact ⟨rfl, h.two⟩
  have hFF : z_eq24 (z_src (σ.1 2) (σ.1 6) (σ.1 7) P (z_n x) (z_n y)) (z_src (σ.1 107) (σ.1 119) (z_shI (σ.1 119) 24) P (z_n x) (z_n y)) := zp_src a1 a3 jP jn (Decidable.not_not.mp c1)
  have hE : z_e (z_src (σ.1 2) (σ.1 6) (σ.1 7) P (z_n x) (z_n y)) 24 ≤ z_eB (c + 1) := Int.le_trans (ze_small (fun k hk => ze_src (fun i hi => (a1 i hi).2) (fun i hi => (a3 i hi).2.2.1) (fun i hi => (a3 i hi).2.2.2) jP jn (Decidable.not_not.mp c1) hk)) (z_eB_le (Nat.zero_le _))
  simp only [if_neg c1] at q7
  refine q7.mono ?_
  rintro v1 σ1 ⟨e1, e2⟩
  refine ⟨_, e1, ?_⟩
  rw [e2]
  have q8 := m_X8_load (l := l) (G := G) (σ := (z_nx σ o u (z_fil (z_src (σ.1 2) (σ.1 6) (σ.1 7) P (z_n x) (z_n y)) (σ.2 88) 24))) P n u v w rc tl (show z_mi _ P n u v w rc tl from hM) x y
  simp only [zp_nx (σ := σ) (o := o) (u := u) (F := (z_fil (z_src (σ.1 2) (σ.1 6) (σ.1 7) P (z_n x) (z_n y)) (σ.2 88) 24)) (i := 108) (by decide), zp_nx (σ := σ) (o := o) (u := u) (F := (z_fil (z_src (σ.1 2) (σ.1 6) (σ.1 7) P (z_n x) (z_n y)) (σ.2 88) 24)) (i := 109) (by decide), zp_nx (σ := σ) (o := o) (u := u) (F := (z_fil (z_src (σ.1 2) (σ.1 6) (σ.1 7) P (z_n x) (z_n y)) (σ.2 88) 24)) (i := 115) (by decide), show (z_nx σ o u (z_fil (z_src (σ.1 2) (σ.1 6) (σ.1 7) P (z_n x) (z_n y)) (σ.2 88) 24)).1 107 = σ.1 107 from rfl, show (z_nx σ o u (z_fil (z_src (σ.1 2) (σ.1 6) (σ.1 7) P (z_n x) (z_n y)) (σ.2 88) 24)).1 119 = σ.1 119 from rfl, if_neg c1] at q8
  refine q8.mono ?_
  rintro v2 σ2 ⟨e3, e4⟩
  rw [e3, e4]
  exact ⟨rfl, h.T (F := (z_fil (z_src (σ.1 2) (σ.1 6) (σ.1 7) P (z_n x) (z_n y)) (σ.2 88) 24)) (F2 := (z_fil (z_src (σ.1 107) (σ.1 119) (z_shI (σ.1 119) 24) P (z_n x) (z_n y)) (σ.2 109) 24)) (zp_filc hFF) (zp_file hE)⟩
theorem pr_recall {l : Launch} {G : z_Gl} {σ : z_St} {c : Nat} (h : z_R c σ) (x : Int32) (hc : c ≤ 600) : z_M l G yX7_recall cX7_recall 2 (some .int) (z_rm 3 82) [.ref (z_ad G 0), .int x] σ (fun v1 σ1 => ∃ xx : Int32, v1 = some (.int xx) ∧ z_M l G yX8_recall cX8_recall 3 (some .int) (z_rm 2 46) [.ref (z_ad G 105), .int x] σ1 (fun v2 σ2 => v2 = some (.int xx) ∧ z_R (c + 1) σ2)) := by
  obtain ⟨P, n, o, u, v, w, rc, tl, h⟩ := h
  obtain ⟨hI, hM, a1, a2, ⟨a3, a3x, a3y⟩, a4, a5, a6, aV, a7⟩ := id h
  obtain ⟨⟨i1, i2, i3, i4, i5, i6, i7, i8⟩, jP, jn, jo, ju, jw, jr, jt⟩ := id hI
  obtain ⟨⟨m1, m2, m3, m4, m5, m6, m7⟩, -, -, -, -, -, -, mq, ma⟩ := id hM
  have b7 : zr_7 (z_eB (c + 1)) σ.2 o u v w := (h.up (Nat.le_succ c)).2.2.2.2.2.2.2.2.2
  have hpE := a7.1 u (by omega)
  obtain ⟨hp, hE0⟩ := ze_hbc hpE hc
  have q7 := m_X7_recall (l := l) (G := G) (σ := σ) P n o u v w rc tl hI x
  by_cases c1 : x < nI 0 ∨ nI w - nI 1 < x
  · simp only [if_pos c1] at q7
    refine q7.mono ?_
    rintro v1 σ1 ⟨e1, e2⟩
    refine ⟨_, e1, ?_⟩
    rw [e2]
    have q8 := m_X8_recall (l := l) (G := G) (σ := σ) P n u v w rc tl hM x
    simp only [if_pos c1] at q8
    refine q8.mono ?_
    rintro v2 σ2 ⟨e3, e4⟩
    rw [e3, e4]
    exact ⟨rfl, h.two⟩
  have hFF : z_eq24 (σ.2 (34 + z_n x)) (z_sh (σ.2 115) (24 * z_n x)) := fun k hk => (a4.1 _ (zp_nw (by omega) c1)).1 k hk
  have hE : z_e (σ.2 (34 + z_n x)) 24 ≤ z_eB (c + 1) := Int.le_trans (a7.2 _ (zp_nw (by omega) c1)) (z_eB_le (Nat.le_succ c))
  simp only [if_neg c1] at q7
  refine q7.mono ?_
  rintro v1 σ1 ⟨e1, e2⟩
  refine ⟨_, e1, ?_⟩
  rw [e2]
  have q8 := m_X8_recall (l := l) (G := G) (σ := (z_nx σ o u (z_fil (σ.2 (34 + z_n x)) (σ.2 88) 24))) P n u v w rc tl (show z_mi _ P n u v w rc tl from hM) x
  simp only [zp_nx (σ := σ) (o := o) (u := u) (F := (z_fil (σ.2 (34 + z_n x)) (σ.2 88) 24)) (i := 108) (by decide), zp_nx (σ := σ) (o := o) (u := u) (F := (z_fil (σ.2 (34 + z_n x)) (σ.2 88) 24)) (i := 109) (by decide), zp_nx (σ := σ) (o := o) (u := u) (F := (z_fil (σ.2 (34 + z_n x)) (σ.2 88) 24)) (i := 115) (by decide), show (z_nx σ o u (z_fil (σ.2 (34 + z_n x)) (σ.2 88) 24)).1 107 = σ.1 107 from rfl, show (z_nx σ o u (z_fil (σ.2 (34 + z_n x)) (σ.2 88) 24)).1 119 = σ.1 119 from rfl, if_neg c1] at q8
  refine q8.mono ?_
  rintro v2 σ2 ⟨e3, e4⟩
  rw [e3, e4]
  exact ⟨z_ci (zp_eqc a2.1 hFF), h.T (F := (z_fil (σ.2 (34 + z_n x)) (σ.2 88) 24)) (F2 := (z_fil (z_sh (σ.2 115) (24 * z_n x)) (σ.2 109) 24)) (zp_filc hFF) (zp_file hE)⟩
theorem pr_subtract {l : Launch} {G : z_Gl} {σ : z_St} {c : Nat} (h : z_R c σ) (x y : Int32) (hc : c ≤ 600) : z_M l G yX7_subtract cX7_subtract 6 (some .int) (z_rm 6 139) [.ref (z_ad G 0), .int x, .int y] σ (fun v1 σ1 => ∃ xx : Int32, v1 = some (.int xx) ∧ z_M l G yX8_subtract cX8_subtract 5 (some .int) (z_rm 4 93) [.ref (z_ad G 105), .int x, .int y] σ1 (fun v2 σ2 => v2 = some (.int xx) ∧ z_R (c + 1) σ2)) := by
  obtain ⟨P, n, o, u, v, w, rc, tl, h⟩ := h
  obtain ⟨hI, hM, a1, a2, ⟨a3, a3x, a3y⟩, a4, a5, a6, aV, a7⟩ := id h
  obtain ⟨⟨i1, i2, i3, i4, i5, i6, i7, i8⟩, jP, jn, jo, ju, jw, jr, jt⟩ := id hI
  obtain ⟨⟨m1, m2, m3, m4, m5, m6, m7⟩, -, -, -, -, -, -, mq, ma⟩ := id hM
  have b7 : zr_7 (z_eB (c + 1)) σ.2 o u v w := (h.up (Nat.le_succ c)).2.2.2.2.2.2.2.2.2
  have hpE := a7.1 u (by omega)
  obtain ⟨hp, hE0⟩ := ze_hbc hpE hc
  have q7 := m_X7_subtract (l := l) (G := G) (σ := σ) P n o u v w rc tl hI x y
  by_cases c1 : ¬ z_se P n x y = 0
  · simp only [if_pos c1] at q7
    refine q7.mono ?_
    rintro v1 σ1 ⟨e1, e2⟩
    refine ⟨_, e1, ?_⟩
    rw [e2]
    have q8 := m_X8_subtract (l := l) (G := G) (σ := σ) P n u v w rc tl hM x y
    simp only [if_pos c1] at q8
    refine q8.mono ?_
    rintro v2 σ2 ⟨e3, e4⟩
    rw [e3, e4]
    exact ⟨rfl, h.two⟩
  have hFF : z_eq24 (z_sbt (σ.2 (10 + (o + u) % 21)) (z_src (σ.1 2) (σ.1 6) (σ.1 7) P (z_n x) (z_n y))) (z_sbt (σ.2 108) (z_src (σ.1 107) (σ.1 119) (z_shI (σ.1 119) 24) P (z_n x) (z_n y))) := zp_sbt a2.1 (zp_src a1 a3 jP jn (Decidable.not_not.mp c1))
  have ht : z_tg (z_sbt (σ.2 (10 + (o + u) % 21)) (z_src (σ.1 2) (σ.1 6) (σ.1 7) P (z_n x) (z_n y))) 24 = z_tg (z_sbt (σ.2 108) (z_src (σ.1 107) (σ.1 119) (z_shI (σ.1 119) 24) P (z_n x) (z_n y))) 24 := z_tg_ag hFF
  by_cases cf : z_tg (z_sbt (σ.2 (10 + (o + u) % 21)) (z_src (σ.1 2) (σ.1 6) (σ.1 7) P (z_n x) (z_n y))) 24 = true
  · have cf2 := cf
    rw [ht] at cf2
    simp only [if_neg c1, if_pos cf] at q7
    refine q7.mono ?_
    rintro v1 σ1 ⟨e1, e2⟩
    refine ⟨_, e1, ?_⟩
    rw [e2]
    have q8 := m_X8_subtract (l := l) (G := G) (σ := z_uL σ 88 (z_fil (z_sbt (σ.2 (10 + (o + u) % 21)) (z_src (σ.1 2) (σ.1 6) (σ.1 7) P (z_n x) (z_n y))) (σ.2 88) 24)) P n u v w rc tl hM x y
    simp only [show (z_uL σ 88 (z_fil (z_sbt (σ.2 (10 + (o + u) % 21)) (z_src (σ.1 2) (σ.1 6) (σ.1 7) P (z_n x) (z_n y))) (σ.2 88) 24)).2 108 = σ.2 108 from rfl, show (z_uL σ 88 (z_fil (z_sbt (σ.2 (10 + (o + u) % 21)) (z_src (σ.1 2) (σ.1 6) (σ.1 7) P (z_n x) (z_n y))) (σ.2 88) 24)).1 = σ.1 from rfl, if_neg c1, if_pos cf2] at q8
    refine q8.mono ?_
    rintro v2 σ2 ⟨e3, e4⟩
    rw [e3, e4]
    exact ⟨rfl, ((h.uL (Or.inr (Or.inl rfl))).uL (Or.inr (Or.inr rfl))).two⟩
  have cf2 := cf
  rw [ht] at cf2
  have hE : z_e (z_sbt (σ.2 (10 + (o + u) % 21)) (z_src (σ.1 2) (σ.1 6) (σ.1 7) P (z_n x) (z_n y))) 24 ≤ z_eB (c + 1) := Int.le_trans (ze_small (ze_far cf (fun k hk => ze_sbt hp ((fun k hk => ze_src (fun i hi => (a1 i hi).2) (fun i hi => (a3 i hi).2.2.1) (fun i hi => (a3 i hi).2.2.2) jP jn (Decidable.not_not.mp c1) hk) k hk) hk))) (z_eB_le (Nat.zero_le _))
  simp only [if_neg c1, if_neg cf] at q7
  refine q7.mono ?_
  rintro v1 σ1 ⟨e1, e2⟩
  refine ⟨_, e1, ?_⟩
  rw [e2]
  have q8 := m_X8_subtract (l := l) (G := G) (σ := (z_nx σ o u (z_fil (z_sbt (σ.2 (10 + (o + u) % 21)) (z_src (σ.1 2) (σ.1 6) (σ.1 7) P (z_n x) (z_n y))) (σ.2 88) 24))) P n u v w rc tl (show z_mi _ P n u v w rc tl from hM) x y
  simp only [zp_nx (σ := σ) (o := o) (u := u) (F := (z_fil (z_sbt (σ.2 (10 + (o + u) % 21)) (z_src (σ.1 2) (σ.1 6) (σ.1 7) P (z_n x) (z_n y))) (σ.2 88) 24)) (i := 108) (by decide), zp_nx (σ := σ) (o := o) (u := u) (F := (z_fil (z_sbt (σ.2 (10 + (o + u) % 21)) (z_src (σ.1 2) (σ.1 6) (σ.1 7) P (z_n x) (z_n y))) (σ.2 88) 24)) (i := 109) (by decide), zp_nx (σ := σ) (o := o) (u := u) (F := (z_fil (z_sbt (σ.2 (10 + (o + u) % 21)) (z_src (σ.1 2) (σ.1 6) (σ.1 7) P (z_n x) (z_n y))) (σ.2 88) 24)) (i := 115) (by decide), show (z_nx σ o u (z_fil (z_sbt (σ.2 (10 + (o + u) % 21)) (z_src (σ.1 2) (σ.1 6) (σ.1 7) P (z_n x) (z_n y))) (σ.2 88) 24)).1 107 = σ.1 107 from rfl, show (z_nx σ o u (z_fil (z_sbt (σ.2 (10 + (o + u) % 21)) (z_src (σ.1 2) (σ.1 6) (σ.1 7) P (z_n x) (z_n y))) (σ.2 88) 24)).1 119 = σ.1 119 from rfl, if_neg c1, if_neg cf2] at q8
  refine q8.mono ?_
  rintro v2 σ2 ⟨e3, e4⟩
  rw [e3, e4]
  exact ⟨z_ci (zp_eqc a2.1 hFF), h.T (F := (z_fil (z_sbt (σ.2 (10 + (o + u) % 21)) (z_src (σ.1 2) (σ.1 6) (σ.1 7) P (z_n x) (z_n y))) (σ.2 88) 24)) (F2 := (z_fil (z_sbt (σ.2 108) (z_src (σ.1 107) (σ.1 119) (z_shI (σ.1 119) 24) P (z_n x) (z_n y))) (σ.2 109) 24)) (zp_filc hFF) (zp_file hE)⟩
theorem pr_vBlock {l : Launch} {G : z_Gl} {σ : z_St} {c : Nat} (h : z_R c σ) (x : Int32) (hc : c ≤ 600) : z_M l G yX7_vBlock cX7_vBlock 6 (some .int) (z_rm 3 82) [.ref (z_ad G 0), .int x] σ (fun v1 σ1 => ∃ xx : Int32, v1 = some (.int xx) ∧ z_M l G yX8_vBlock cX8_vBlock 3 (some .int) (z_rm 2 43) [.ref (z_ad G 105), .int x] σ1 (fun v2 σ2 => v2 = some (.int xx) ∧ z_R (c + 1) σ2)) := by
  obtain ⟨P, n, o, u, v, w, rc, tl, h⟩ := h
  obtain ⟨hI, hM, a1, a2, ⟨a3, a3x, a3y⟩, a4, a5, a6, aV, a7⟩ := id h
  obtain ⟨⟨i1, i2, i3, i4, i5, i6, i7, i8⟩, jP, jn, jo, ju, jw, jr, jt⟩ := id hI
  obtain ⟨⟨m1, m2, m3, m4, m5, m6, m7⟩, -, -, -, -, -, -, mq, ma⟩ := id hM
  have b7 : zr_7 (z_eB (c + 1)) σ.2 o u v w := (h.up (Nat.le_succ c)).2.2.2.2.2.2.2.2.2
  have hpE := a7.1 u (by omega)
  obtain ⟨hp, hE0⟩ := ze_hbc hpE hc
  have q7 := m_X7_vBlock (l := l) (G := G) (σ := σ) P n o u v w rc tl hI x
  by_cases c1 : x < nI 1 ∨ nI 5 < x
  · simp only [if_pos c1] at q7
    refine q7.mono ?_
    rintro v1 σ1 ⟨e1, e2⟩
    refine ⟨_, e1, ?_⟩
    rw [e2]
    have q8 := m_X8_vBlock (l := l) (G := G) (σ := σ) P n u v w rc tl hM x
    simp only [if_pos c1] at q8
    refine q8.mono ?_
    rintro v2 σ2 ⟨e3, e4⟩
    rw [e3, e4]
    exact ⟨rfl, h.two⟩
  obtain ⟨hx1, hx5⟩ : 1 ≤ z_n x ∧ z_n x ≤ 5 := by
    obtain ⟨a, ha1, ha5, rfl⟩ := z_in1 (by decide) (by decide) c1
    rw [z_nk (by omega)]
    exact ⟨ha1, ha5⟩
  have hFF : z_eq24 (z_vb (σ.2 (10 + (o + u) % 21)) (z_n x)) (z_vb (σ.2 108) (z_n x)) := zp_vb a2.1 _
  have ht : z_tg (z_vb (σ.2 (10 + (o + u) % 21)) (z_n x)) 24 = z_tg (z_vb (σ.2 108) (z_n x)) 24 := z_tg_ag hFF
  by_cases cf : z_tg (z_vb (σ.2 (10 + (o + u) % 21)) (z_n x)) 24 = true
  · have cf2 := cf
    rw [ht] at cf2
    simp only [if_neg c1, if_pos cf] at q7
    refine q7.mono ?_
    rintro v1 σ1 ⟨e1, e2⟩
    refine ⟨_, e1, ?_⟩
    rw [e2]
    have q8 := m_X8_vBlock (l := l) (G := G) (σ := z_uL σ 88 (z_fil (z_vb (σ.2 (10 + (o + u) % 21)) (z_n x)) (σ.2 88) 24)) P n u v w rc tl hM x
    simp only [show (z_uL σ 88 (z_fil (z_vb (σ.2 (10 + (o + u) % 21)) (z_n x)) (σ.2 88) 24)).2 108 = σ.2 108 from rfl, show (z_uL σ 88 (z_fil (z_vb (σ.2 (10 + (o + u) % 21)) (z_n x)) (σ.2 88) 24)).1 = σ.1 from rfl, if_neg c1, if_pos cf2] at q8
    refine q8.mono ?_
    rintro v2 σ2 ⟨e3, e4⟩
    rw [e3, e4]
    exact ⟨rfl, ((h.uL (Or.inr (Or.inl rfl))).uL (Or.inr (Or.inr rfl))).two⟩
  have cf2 := cf
  rw [ht] at cf2
  have hE : z_e (z_vb (σ.2 (10 + (o + u) % 21)) (z_n x)) 24 ≤ z_eB (c + 1) := Int.le_trans (ze_small (ze_far cf (fun k hk => ze_vb hp hx1 hx5 hk))) (z_eB_le (Nat.zero_le _))
  simp only [if_neg c1, if_neg cf] at q7
  refine q7.mono ?_
  rintro v1 σ1 ⟨e1, e2⟩
  refine ⟨_, e1, ?_⟩
  rw [e2]
  have q8 := m_X8_vBlock (l := l) (G := G) (σ := (z_nx σ o u (z_fil (z_vb (σ.2 (10 + (o + u) % 21)) (z_n x)) (σ.2 88) 24))) P n u v w rc tl (show z_mi _ P n u v w rc tl from hM) x
  simp only [zp_nx (σ := σ) (o := o) (u := u) (F := (z_fil (z_vb (σ.2 (10 + (o + u) % 21)) (z_n x)) (σ.2 88) 24)) (i := 108) (by decide), zp_nx (σ := σ) (o := o) (u := u) (F := (z_fil (z_vb (σ.2 (10 + (o + u) % 21)) (z_n x)) (σ.2 88) 24)) (i := 109) (by decide), zp_nx (σ := σ) (o := o) (u := u) (F := (z_fil (z_vb (σ.2 (10 + (o + u) % 21)) (z_n x)) (σ.2 88) 24)) (i := 115) (by decide), show (z_nx σ o u (z_fil (z_vb (σ.2 (10 + (o + u) % 21)) (z_n x)) (σ.2 88) 24)).1 107 = σ.1 107 from rfl, show (z_nx σ o u (z_fil (z_vb (σ.2 (10 + (o + u) % 21)) (z_n x)) (σ.2 88) 24)).1 119 = σ.1 119 from rfl, if_neg c1, if_neg cf2] at q8
  refine q8.mono ?_
  rintro v2 σ2 ⟨e3, e4⟩
  rw [e3, e4]
  exact ⟨z_ci (zp_eqc a2.1 hFF), h.T (F := (z_fil (z_vb (σ.2 (10 + (o + u) % 21)) (z_n x)) (σ.2 88) 24)) (F2 := (z_fil (z_vb (σ.2 108) (z_n x)) (σ.2 109) 24)) (zp_filc hFF) (zp_file hE)⟩
