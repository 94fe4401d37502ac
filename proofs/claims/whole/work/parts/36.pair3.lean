/-! THE PAIRS: spikes, simulation, traces, rules -/
theorem zq_32 {x : Int64} (h1 : -2147483648 ≤ x.toInt) (h2 : x.toInt < 2147483648) : x.toInt32.toInt = x.toInt := by
  rw [Int64.toInt_toInt32]
  exact Int.bmod_eq_of_le (by omega) (by omega)
theorem zq_cla {x : Int64} {M : Nat} (hM : M ≤ 20000) : z_in M (z_cla x (nI M)).toInt := by
  have e1 : (nI M).toInt = M := nI_toInt (by omega)
  have e2 : (-nI M).toInt = -M := by
    have := fb_subI (x := 0) (y := nI M) (by rw [e1]; show _ ≤ (0 : Int) - _; omega) (by rw [e1]; show (0 : Int) - _ < _; omega)
    rw [Int32.zero_sub] at this
    rw [this, e1]
    show (0 : Int) - _ = _
    omega
  unfold z_cla
  by_cases c1 : (nI M).toInt64 < x
  · rw [if_pos c1, e1]
    constructor <;> omega
  · rw [if_neg c1]
    by_cases c2 : x < (-nI M).toInt64
    · rw [if_pos c2, e2]
      constructor <;> omega
    · rw [if_neg c2]
      rw [fa_lt64, Int32.toInt_toInt64, e1] at c1
      rw [fa_lt64, Int32.toInt_toInt64, e2] at c2
      rw [zq_32 (by omega) (by omega)]
      constructor <;> omega
/-- spikes: in ints, in longs -/
theorem zq_bnd {o : Nat → Int32} (ho : ∀ i, i < 24 → z_in 10000 (o i).toInt) {k : Nat} (hk : k < 24) : (z_sd o k).toInt = (o ((k + 23) % 24)).toInt + (o ((k + 1) % 24)).toInt ∧ (zm_sd o k).toInt = (o ((k + 23) % 24)).toInt + (o ((k + 1) % 24)).toInt ∧ z_in 20000 (z_sd o k).toInt := by
  have a := ho ((k + 23) % 24) (Nat.mod_lt _ (by decide))
  have b := ho ((k + 1) % 24) (Nat.mod_lt _ (by decide))
  have a1 := a.1; have a2 := a.2; have b1 := b.1; have b2 := b.2
  have e1 : (z_sd o k).toInt = (o ((k + 23) % 24)).toInt + (o ((k + 1) % 24)).toInt := fb_addI (by omega) (by omega)
  refine ⟨e1, ?_, ?_⟩
  · show ((o ((k + (24 - 1 % 24)) % 24)).toInt64 + (o ((k + 1) % 24)).toInt64).toInt = _
    rw [show k + (24 - 1 % 24) = k + 23 from rfl, fb_addL (by rw [Int32.toInt_toInt64, Int32.toInt_toInt64]; omega) (by rw [Int32.toInt_toInt64, Int32.toInt_toInt64]; omega), Int32.toInt_toInt64, Int32.toInt_toInt64]
  · rw [e1]
    constructor <;> omega
theorem zq_sk {o : Nat → Int32} {L k : Nat} (ho : ∀ i, i < 24 → z_in 10000 (o i).toInt) (hk : k < 24) (hL : L ≤ 20000) : z_sk o L k ↔ zm_sk o (nI L) k := by
  obtain ⟨e1, e2, b⟩ := zq_bnd ho hk
  have h := ho k hk
  have h1 := h.1; have h2 := h.2; have b1 := b.1; have b2 := b.2
  have n2 : (nI 2).toInt = 2 := by decide
  have l2 : (2 : Int64).toInt = 2 := by decide
  have m1 : (nI 2 * o k).toInt = 2 * (o k).toInt := by rw [fb_mulI (by rw [n2]; omega) (by rw [n2]; omega), n2]
  have s1 : (nI 2 * o k - z_sd o k).toInt = 2 * (o k).toInt - (z_sd o k).toInt := by rw [fb_subI (by rw [m1]; omega) (by rw [m1]; omega), m1]
  have m2 : (2 * (o k).toInt64).toInt = 2 * (o k).toInt := by rw [fb_mulL (by rw [l2, Int32.toInt_toInt64]; omega) (by rw [l2, Int32.toInt_toInt64]; omega), l2, Int32.toInt_toInt64]
  have e12 : (zm_sd o k).toInt = (z_sd o k).toInt := by rw [e1, e2]
  have s2 : (2 * (o k).toInt64 - zm_sd o k).toInt = 2 * (o k).toInt - (z_sd o k).toInt := by rw [fb_subL (by rw [m2, e12]; omega) (by rw [m2, e12]; omega), m2, e12]
  have m3 : (2 * (nI L).toInt64).toInt = 2 * L := by rw [fb_mulL (by rw [l2, Int32.toInt_toInt64, nI_toInt (by omega)]; omega) (by rw [l2, Int32.toInt_toInt64, nI_toInt (by omega)]; omega), l2, Int32.toInt_toInt64, nI_toInt (by omega)]
  have z0 : (0 : Int32).toInt = 0 := by decide
  have z1 : (0 : Int64).toInt = 0 := by decide
  unfold z_sk zm_sk z_abI z_ab
  rw [Int32.lt_iff_toInt_lt, fa_lt64, m3, nI_toInt (by omega)]
  clear e1 e2
  generalize (z_sd o k).toInt = D at *
  by_cases q : 2 * (o k).toInt - D < 0
  · rw [if_pos (by rw [Int32.lt_iff_toInt_lt, s1, z0]; exact q), if_pos (by rw [fa_lt64, s2, z1]; exact q)]
    have f1 : (-(nI 2 * o k - z_sd o k)).toInt = -(2 * (o k).toInt - D) := by
      have := fb_subI (x := 0) (y := nI 2 * o k - z_sd o k) (by rw [s1, z0]; omega) (by rw [s1, z0]; omega)
      rw [Int32.zero_sub] at this
      rw [this, s1, z0]; omega
    have f2 : (-(2 * (o k).toInt64 - zm_sd o k)).toInt = -(2 * (o k).toInt - D) := by
      have := fb_subL (x := 0) (y := 2 * (o k).toInt64 - zm_sd o k) (by rw [s2, z1]; omega) (by rw [s2, z1]; omega)
      rw [Int64.zero_sub] at this
      rw [this, s2, z1]; omega
    rw [f1, f2]
    omega
  · rw [if_neg (by rw [Int32.lt_iff_toInt_lt, s1, z0]; exact q), if_neg (by rw [fa_lt64, s2, z1]; exact q), s1, s2]
    omega
theorem zq_sv {o : Nat → Int32} {L k : Nat} (ho : ∀ i, i < 24 → z_in 10000 (o i).toInt) (hk : k < 24) (hL : L ≤ 20000) : z_sv o L k = zm_sv o (nI L) k ∧ z_in 10000 (z_sv o L k).toInt := by
  have hs := zq_sk ho hk hL
  obtain ⟨e1, e2, b⟩ := zq_bnd ho hk
  have b1 := b.1; have b2 := b.2
  unfold z_sv zm_sv
  by_cases q : z_sk o L k
  · rw [if_pos q, if_pos (hs.mp q)]
    have t1 := z_h2_t (z_sd o k)
    have t2 : (z_fd (zm_sd o k) 2).toInt = (z_sd o k).toInt / 2 := by
      rw [z_fd_t (by decide), e2, ← e1]
      rfl
    refine ⟨?_, ?_⟩
    · rw [fa_eq, t1, zq_32 (by rw [t2]; omega) (by rw [t2]; omega), t2]
    · rw [t1]
      constructor <;> omega
  · rw [if_neg q, if_neg (fun z => q (hs.mpr z))]
    exact ⟨rfl, ho k hk⟩
theorem zq_sc {o : Nat → Int32} {L : Nat} (ho : ∀ i, i < 24 → z_in 10000 (o i).toInt) (hL : L ≤ 20000) : ∀ n, n ≤ 24 → z_sc o L n = zm_sc o (nI L) n
  | 0, _ => rfl
  | n + 1, hn => by
    have hs := zq_sk ho (k := n) (by omega) hL
    rw [z_sc, zm_sc, zq_sc ho hL n (by omega)]
    by_cases q : z_sk o L n
    · rw [if_pos q, if_pos (hs.mp q)]
    · rw [if_neg q, if_neg (fun z => q (hs.mpr z))]

theorem zq_ru {F L M E R : Nat → Int32} {rc : Nat} {x y z f : Int32} (h : zr_5 F L M E R rc) (h1 : ∃ a b : Nat, a ≤ b ∧ b ≤ 12 ∧ x = nI a ∧ y = nI b) (h2 : ∃ k, k ≤ 3 ∧ z = nI k) : zr_5 (upd F rc x) (upd L rc y) (upd M rc z) (upd E rc f) (upd (upd (upd (upd R (4 * rc) x) (4 * rc + 1) y) (4 * rc + 2) z) (4 * rc + 3) f) (rc + 1) := by
  intro i hi
  obtain ⟨a, b, hab, hb, ex, ey⟩ := h1
  obtain ⟨mm, hm, ez⟩ := h2
  by_cases q : i = rc
  · subst q
    have n1 : ¬ 4 * i = 4 * i + 3 := by omega
    have n2 : ¬ 4 * i = 4 * i + 2 := by omega
    have n3 : ¬ 4 * i = 4 * i + 1 := by omega
    refine ⟨?_, ?_, ?_, ?_, a, b, mm, hab, hb, by omega, ?_, ?_, ?_⟩
    · simp [upd]
    · simp [upd]
    · simp [upd]
    · simp [upd]
    · simp [upd, ex]
    · simp [upd, ey]
    · simp [upd, ez]
  · obtain ⟨g1, g2, g3, g4, g5⟩ := h i (by omega)
    have n0 : ∀ d e, d < 4 → e < 4 → ¬ 4 * i + d = 4 * rc + e := by omega
    have r : ∀ d, d < 4 → upd (upd (upd (upd R (4 * rc) x) (4 * rc + 1) y) (4 * rc + 2) z) (4 * rc + 3) f (4 * i + d) = R (4 * i + d) := fun d hd => by
      have k0 : ¬ 4 * i + d = 4 * rc := n0 d 0 hd (by decide)
      have k1 := n0 d 1 hd (by decide)
      have k2 := n0 d 2 hd (by decide)
      have k3 := n0 d 3 hd (by decide)
      simp only [upd, if_neg k0, if_neg k1, if_neg k2, if_neg k3]
    have u : ∀ (A : Nat → Int32) (v : Int32), upd A rc v i = A i := fun A v => if_neg q
    rw [u, u, u, u, r 1 (by decide), r 2 (by decide), r 3 (by decide), show 4 * i = 4 * i + 0 from rfl, r 0 (by decide)]
    exact ⟨g1, g2, g3, g4, g5⟩

theorem zq_w {j w : Nat} (hj : j < w) (hw : w < 2 ^ 30) : ¬ (nI j < nI 0 ∨ nI w - nI 1 < nI j) := by
  intro z
  rcases z with z | z
  · rw [Int32.lt_iff_toInt_lt, nI_toInt (by omega), nI_toInt (by decide)] at z; omega
  · have e1 : (nI 1).toInt = 1 := by decide
    have ew : (nI w).toInt = w := nI_toInt (by omega)
    have ej : (nI j).toInt = j := nI_toInt (by omega)
    rw [Int32.lt_iff_toInt_lt, fb_subI (by rw [ew, e1]; omega) (by rw [ew, e1]; omega), ew, ej, e1] at z
    omega
theorem zq_sdg {o O : Nat → Int32} (h : ∀ i, i < 24 → o i = O i) (k : Nat) : zm_sd o k = zm_sd O k := by
  unfold zm_sd
  rw [h _ (Nat.mod_lt _ (by decide)), h _ (Nat.mod_lt _ (by decide))]
theorem zq_svg {o O : Nat → Int32} (h : ∀ i, i < 24 → o i = O i) {L : Int32} {k : Nat} (hk : k < 24) : zm_sv o L k = zm_sv O L k := by
  unfold zm_sv zm_sk
  rw [zq_sdg h, h k hk]
theorem zq_scg {o O : Nat → Int32} (h : ∀ i, i < 24 → o i = O i) (L : Int32) : ∀ n, n ≤ 24 → zm_sc o L n = zm_sc O L n
  | 0, _ => rfl
  | n + 1, hn => by
    rw [zm_sc, zm_sc, zq_scg h L n (by omega)]
    unfold zm_sk
    rw [zq_sdg h, h n (by omega)]
theorem zq_al {w : Nat} {h H : Nat → Int32} {x : Int32} (e : ∀ i, i < w → h i = H i) : (∀ j, j < w → ¬ H j = x) ↔ (∀ j, j < w → ¬ h j = x) := ⟨fun q j hj => by rw [e j hj]; exact q j hj, fun q j hj => by rw [← e j hj]; exact q j hj⟩
theorem zq_rg {p s t : Nat → Int32} {ex ey ex2 ey2 : Int32} {u k : Nat} (h : zr_3 p s t) (hx : ex = ex2) (hy : ey = ey2) (hk : k < 24) : z_rg p s ex ey k u = z_rg t (z_shI t 24) ex2 ey2 k u := by
  unfold z_rg
  rw [(h _ (Nat.mod_lt _ (by decide))).1, (h k hk).2.1, hx, hy]
  rfl
theorem zq_so {o O : Nat → Int32} {a : Int32} {h f k : Nat} (e : o k = O k) : z_so o a h f k = z_so O a h f k := by
  unfold z_so
  rw [e]
theorem zq_lo {h H : Nat → Int32} {n : Nat} (a1 : zr_1 n h H) {F G : Nat → Int32} {m : Nat} (hF : ∀ k, k < m → F k = G k ∧ z_in 10000 (F k).toInt) {j : Nat} (hj : j ≤ n) : zr_1 (max n (j + m)) (fb_put h F j m) (fb_put H G j m) := by
  intro k hk
  by_cases q : j ≤ k ∧ k < j + m
  · rw [fb_put_in q.1 q.2, fb_put_in q.1 q.2]
    exact hF _ (by omega)
  · rw [fb_put_out (by omega), fb_put_out (by omega)]
    exact a1 k (by omega)
theorem pr_despike {l : Launch} {G : z_Gl} {σ : z_St} {c : Nat} (h : z_R c σ) (x y : Int32) : z_M l G yX7_despike cX7_despike 3 (some .int) (z_rm 3 68) [.ref (z_ad G 0), .int x, .int y] σ (fun v1 σ1 => ∃ xx : Int32, v1 = some (.int xx) ∧ z_M l G yX8_despike cX8_despike 7 (some .int) (z_rm 2 46) [.ref (z_ad G 105), .int x, .int y] σ1 (fun v2 σ2 => v2 = some (.int xx) ∧ z_R (c + 1) σ2)) := by
  obtain ⟨P, n, o, u, v, w, rc, tl, h⟩ := h
  obtain ⟨hI, hM, a1, a2, ⟨a3, a3x, a3y⟩, a4, a5, a6, aV, a7⟩ := id h
  obtain ⟨⟨i1, i2, i3, i4, i5, i6, i7, i8⟩, jP, jn, jo, ju, jw, jr, jt⟩ := id hI
  obtain ⟨⟨m1, m2, m3, m4, m5, m6, m7⟩, -, -, -, -, -, -, mq, ma⟩ := id hM
  have b7 : zr_7 (z_eB (c + 1)) σ.2 o u v w := (h.up (Nat.le_succ c)).2.2.2.2.2.2.2.2.2
  have q7 := m_X7_despike (l := l) (G := G) (σ := σ) P n o u v w rc tl hI x y
  have q8 := m_X8_despike (l := l) (G := G) (σ := σ) P n u v w rc tl hM x y
  by_cases c1 : x < nI 0 ∨ nI (n / 24) - nI 1 < x
  · simp only [if_pos c1] at q7
    refine q7.mono ?_
    rintro v1 σ1 ⟨e1, e2⟩
    refine ⟨_, e1, ?_⟩
    rw [e2]
    by_cases d1 : x < nI 0 ∨ nI P - nI 1 < x
    · simp only [if_pos d1] at q8
      refine q8.mono ?_
      rintro v2 σ2 ⟨e3, e4⟩
      rw [e3, e4]
      exact ⟨rfl, h.two⟩
    · have d2 : ¬ 24 * (z_n x + 1) ≤ n := by
        obtain ⟨j, hj, rfl⟩ := z_inw (by omega) d1
        rw [z_nk (by omega)]
        intro z
        exact zq_w (j := j) (w := n / 24) (by omega) (by omega) c1
      simp only [if_neg d1, if_pos d2] at q8
      refine q8.mono ?_
      rintro v2 σ2 ⟨e3, e4⟩
      rw [e3, e4]
      exact ⟨rfl, h.two⟩
  · obtain ⟨j, hj, rfl⟩ := z_inw (by omega) c1
    have d1 : ¬ (nI j < nI 0 ∨ nI P - nI 1 < nI j) := zq_w (by omega) (by omega)
    have ej : z_n (nI j) = j := z_nk (by omega)
    have d2 : 24 * (j + 1) ≤ n := by omega
    by_cases c2 : y < nI 0 ∨ nI 20000 < y
    · simp only [if_neg c1, if_pos c2] at q7
      refine q7.mono ?_
      rintro v1 σ1 ⟨e1, e2⟩
      refine ⟨_, e1, ?_⟩
      rw [e2]
      simp only [ej, if_neg d1, if_neg (fun z => z d2 : ¬ ¬ 24 * (j + 1) ≤ n), if_pos c2] at q8
      refine q8.mono ?_
      rintro v2 σ2 ⟨e3, e4⟩
      rw [e3, e4]
      exact ⟨rfl, h.two⟩
    · obtain ⟨L, hL, rfl⟩ := z_in0 (by decide) c2
      have eL : z_n (nI L) = L := z_nk (by omega)
      simp only [if_neg c1, if_neg c2, ej, eL] at q7
      refine q7.mono ?_
      rintro v1 σ1 ⟨e1, e2⟩
      refine ⟨_, e1, ?_⟩
      rw [e2]
      clear q8
      have q8 := m_X8_despike (l := l) (G := G) (σ := z_uI (z_uI σ 3 (va_cpy (σ.1 2) (σ.1 3) (j * 24) 0 24)) 2 (fb_put (σ.1 2) (z_sv (z_rw (σ.1 2) j) L) (j * 24) 24)) P n u v w rc tl (show z_mi _ P n u v w rc tl from hM) (nI j) (nI L)
      simp only [ej, if_neg d1, if_neg (fun z => z d2 : ¬ ¬ 24 * (j + 1) ≤ n), if_neg c2] at q8
      refine q8.mono ?_
      rintro v2 σ2 ⟨e3, e4⟩
      rw [e3, e4]
      have hb : ∀ i, i < 24 → z_in 10000 (z_rw (σ.1 2) j i).toInt := fun i hi => (a1 (j * 24 + i) (by omega)).2
      have ho : ∀ i, i < 24 → z_rw (σ.1 2) j i = z_shI (σ.1 107) (24 * j) i := fun i hi => by
        have := (a1 (j * 24 + i) (by omega)).1
        show σ.1 2 (j * 24 + i) = σ.1 107 (24 * j + i)
        rw [this, Nat.mul_comm]
      have hsv : ∀ k, k < 24 → z_sv (z_rw (σ.1 2) j) L k = zm_sv (z_shI (σ.1 107) (24 * j)) (nI L) k ∧ z_in 10000 (z_sv (z_rw (σ.1 2) j) L k).toInt := fun k hk => by
        obtain ⟨g1, g2⟩ := zq_sv hb hk hL
        exact ⟨g1.trans (zq_svg ho hk), g2⟩
      have hz := (h.uL (i := 109) (f := z_fil (fun kk => Int32.toInt64 ((z_shI (σ.1 107) (24 * j)) kk)) (σ.2 109) 24) (Or.inr (Or.inr rfl))).up (Nat.le_succ c)
      obtain ⟨-, -, -, w2, -, w4, -, -, wV, w7⟩ := hz
      refine ⟨z_ci ?_, P, n, o, u, v, w, rc, tl, ⟨⟨i1, i2, i3, i4, i5, i6, i7, i8⟩, jP, jn, jo, ju, jw, jr, jt⟩, ⟨⟨m1, m2, m3, m4, m5, m6, m7⟩, jP, jn, ju, jw, jr, jt, mq, ma⟩, ?_, w2, ⟨a3, a3x, a3y⟩, w4, a5, a6, ?_, w7⟩
      · rw [zq_sc hb hL 24 (Nat.le_refl 24)]
        exact congrArg nI (zq_scg ho (nI L) 24 (Nat.le_refl 24)).symm
      · have := zq_lo a1 (m := 24) (j := j * 24) hsv (by omega)
        rw [show max n (j * 24 + 24) = n by omega] at this
        show zr_1 n (fb_put (σ.1 2) (z_sv (z_rw (σ.1 2) j) L) (j * 24) 24) (fb_put (σ.1 107) (zm_sv (z_shI (σ.1 107) (24 * j)) (nI L)) (24 * j) 24)
        rw [Nat.mul_comm 24 j] at this ⊢
        exact this
      · exact ((((aV.uI (by omega)).uI (by omega)).uL (by omega)).uI (by omega))
theorem pr_simulateStep {l : Launch} {G : z_Gl} {σ : z_St} {c : Nat} (h : z_R c σ) : z_M l G yX7_simulateStep cX7_simulateStep 3 (some .int) (z_rm 3 75) [.ref (z_ad G 0)] σ (fun v1 σ1 => ∃ xx : Int32, v1 = some (.int xx) ∧ z_M l G yX8_simulateStep cX8_simulateStep 6 (some .int) (z_rm 3 64) [.ref (z_ad G 105)] σ1 (fun v2 σ2 => v2 = some (.int xx) ∧ z_R (c + 1) σ2)) := by
  obtain ⟨P, n, o, u, v, w, rc, tl, h⟩ := h
  obtain ⟨hI, hM, a1, a2, ⟨a3, a3x, a3y⟩, a4, a5, a6, aV, a7⟩ := id h
  obtain ⟨⟨i1, i2, i3, i4, i5, i6, i7, i8⟩, jP, jn, jo, ju, jw, jr, jt⟩ := id hI
  obtain ⟨⟨m1, m2, m3, m4, m5, m6, m7⟩, -, -, -, -, -, -, mq, ma⟩ := id hM
  have b7 : zr_7 (z_eB (c + 1)) σ.2 o u v w := (h.up (Nat.le_succ c)).2.2.2.2.2.2.2.2.2
  have q7 := m_X7_simulateStep (l := l) (G := G) (σ := σ) P n o u v w rc tl hI 
  by_cases c1 : P * 24 ≤ n
  · simp only [if_pos c1] at q7
    refine q7.mono ?_
    rintro v1 σ1 ⟨e1, e2⟩
    refine ⟨_, e1, ?_⟩
    rw [e2]
    have q8 := m_X8_simulateStep (l := l) (G := G) (σ := σ) P n u v w rc tl (hM) 
    simp only [if_pos c1] at q8
    refine q8.mono ?_
    rintro v2 σ2 ⟨e3, e4⟩
    rw [e3, e4]
    exact ⟨rfl, h.two⟩
  by_cases c2 : ¬ n % 24 = 0
  · simp only [if_neg c1, if_pos c2] at q7
    refine q7.mono ?_
    rintro v1 σ1 ⟨e1, e2⟩
    refine ⟨_, e1, ?_⟩
    rw [e2]
    have q8 := m_X8_simulateStep (l := l) (G := G) (σ := σ) P n u v w rc tl (hM) 
    simp only [if_neg c1, if_pos c2] at q8
    refine q8.mono ?_
    rintro v2 σ2 ⟨e3, e4⟩
    rw [e3, e4]
    exact ⟨rfl, h.two⟩
  simp only [if_neg c1, if_neg c2] at q7
  refine q7.mono ?_
  rintro v1 σ1 ⟨e1, e2⟩
  refine ⟨_, e1, ?_⟩
  rw [e2]
  have q8 := m_X8_simulateStep (l := l) (G := G) (σ := z_ui (z_uI σ 2 (fb_put (σ.1 2) (fun kk => z_rg (σ.1 6) (σ.1 7) (σ.1 5 2) (σ.1 5 3) kk (n / 24 * (24 / P))) n 24)) 1 4 (nI (n + 24))) P n u v w rc tl (show z_mi _ P n u v w rc tl from hM) 
  simp only [if_neg c1, if_neg c2] at q8
  refine q8.mono ?_
  rintro v2 σ2 ⟨e3, e4⟩
  rw [e3, e4]
  refine ⟨rfl, P, (n + 24), o, u, v, w, rc, tl, ⟨⟨i1, rfl, i3, i4, i5, i6, i7, i8⟩, jP, by omega, jo, ju, jw, jr, jt⟩, ⟨⟨m1, rfl, m3, m4, m5, m6, m7⟩, jP, by omega, ju, jw, jr, jt, mq, ma⟩, ?_, a2, ⟨a3, a3x, a3y⟩, a4, a5, a6, ((((aV.uI (by omega)).ui (by omega)).uI (by omega)).ui (by omega)), b7⟩
  have := zq_lo a1 (m := 24) (j := n) (fun k hk => ⟨zq_rg (u := n / 24 * (24 / P)) a3 a3x a3y hk, zq_cla (M := 10000) (by decide)⟩) (Nat.le_refl n)
  rw [show max n (n + 24) = n + 24 by omega] at this
  exact this
theorem pr_addRule {l : Launch} {G : z_Gl} {σ : z_St} {c : Nat} (h : z_R c σ) (x y z f : Int32) : z_M l G yX7_addRule cX7_addRule 5 (some .int) (z_rm 2 42) [.ref (z_ad G 0), .int x, .int y, .int z, .int f] σ (fun v1 σ1 => ∃ xx : Int32, v1 = some (.int xx) ∧ z_M l G yX8_addRule cX8_addRule 5 (some .int) (z_rm 2 45) [.ref (z_ad G 105), .int x, .int y, .int z, .int f] σ1 (fun v2 σ2 => v2 = some (.int xx) ∧ z_R (c + 1) σ2)) := by
  obtain ⟨P, n, o, u, v, w, rc, tl, h⟩ := h
  obtain ⟨hI, hM, a1, a2, ⟨a3, a3x, a3y⟩, a4, a5, a6, aV, a7⟩ := id h
  obtain ⟨⟨i1, i2, i3, i4, i5, i6, i7, i8⟩, jP, jn, jo, ju, jw, jr, jt⟩ := id hI
  obtain ⟨⟨m1, m2, m3, m4, m5, m6, m7⟩, -, -, -, -, -, -, mq, ma⟩ := id hM
  have b7 : zr_7 (z_eB (c + 1)) σ.2 o u v w := (h.up (Nat.le_succ c)).2.2.2.2.2.2.2.2.2
  have q7 := m_X7_addRule (l := l) (G := G) (σ := σ) P n o u v w rc tl hI x y z f
  by_cases c1 : x < 0 ∨ y < x ∨ nI 12 < y
  · simp only [if_pos c1] at q7
    refine q7.mono ?_
    rintro v1 σ1 ⟨e1, e2⟩
    refine ⟨_, e1, ?_⟩
    rw [e2]
    have q8 := m_X8_addRule (l := l) (G := G) (σ := σ) P n u v w rc tl (hM) x y z f
    simp only [if_pos c1] at q8
    refine q8.mono ?_
    rintro v2 σ2 ⟨e3, e4⟩
    rw [e3, e4]
    exact ⟨rfl, h.two⟩
  by_cases c2 : z < nI 0 ∨ nI 3 < z
  · simp only [if_neg c1, if_pos c2] at q7
    refine q7.mono ?_
    rintro v1 σ1 ⟨e1, e2⟩
    refine ⟨_, e1, ?_⟩
    rw [e2]
    have q8 := m_X8_addRule (l := l) (G := G) (σ := σ) P n u v w rc tl (hM) x y z f
    simp only [if_neg c1, if_pos c2] at q8
    refine q8.mono ?_
    rintro v2 σ2 ⟨e3, e4⟩
    rw [e3, e4]
    exact ⟨rfl, h.two⟩
  by_cases c3 : f < nI 0 ∨ nI 20000 < f
  · simp only [if_neg c1, if_neg c2, if_pos c3] at q7
    refine q7.mono ?_
    rintro v1 σ1 ⟨e1, e2⟩
    refine ⟨_, e1, ?_⟩
    rw [e2]
    have q8 := m_X8_addRule (l := l) (G := G) (σ := σ) P n u v w rc tl (hM) x y z f
    simp only [if_neg c1, if_neg c2, if_pos c3] at q8
    refine q8.mono ?_
    rintro v2 σ2 ⟨e3, e4⟩
    rw [e3, e4]
    exact ⟨rfl, h.two⟩
  by_cases c4 : rc = 8
  · simp only [if_neg c1, if_neg c2, if_neg c3, if_pos c4] at q7
    refine q7.mono ?_
    rintro v1 σ1 ⟨e1, e2⟩
    refine ⟨_, e1, ?_⟩
    rw [e2]
    have q8 := m_X8_addRule (l := l) (G := G) (σ := σ) P n u v w rc tl (hM) x y z f
    simp only [if_neg c1, if_neg c2, if_neg c3, if_pos c4] at q8
    refine q8.mono ?_
    rintro v2 σ2 ⟨e3, e4⟩
    rw [e3, e4]
    exact ⟨rfl, h.two⟩
  simp only [if_neg c1, if_neg c2, if_neg c3, if_neg c4] at q7
  refine q7.mono ?_
  rintro v1 σ1 ⟨e1, e2⟩
  refine ⟨_, e1, ?_⟩
  rw [e2]
  have q8 := m_X8_addRule (l := l) (G := G) (σ := z_ui (z_ui (z_ui (z_ui (z_ui σ 45 rc x) 46 rc y) 47 rc z) 48 rc f) 44 5 (nI (rc + 1))) P n u v w rc tl (show z_mi _ P n u v w rc tl from hM) x y z f
  simp only [if_neg c1, if_neg c2, if_neg c3, if_neg c4] at q8
  refine q8.mono ?_
  rintro v2 σ2 ⟨e3, e4⟩
  rw [e3, e4]
  refine ⟨rfl, P, n, o, u, v, w, (rc + 1), tl, ⟨⟨i1, i2, i3, i4, i5, i6, rfl, i8⟩, jP, jn, jo, ju, jw, by omega, jt⟩, ⟨⟨m1, m2, m3, m4, m5, rfl, m7⟩, jP, jn, ju, jw, by omega, jt, mq, ma⟩, a1, a2, ⟨a3, a3x, a3y⟩, a4, ?_, a6, ((((((((((aV).ui (by omega)).ui (by omega)).ui (by omega)).ui (by omega)).ui (by omega)).ui (by omega)).ui (by omega)).ui (by omega)).ui (by omega)).ui (by omega), b7⟩
  exact zq_ru a5 (z_lob c1) (z_in0 (by decide) c2)
