/-! THE PAIRS: circles -/
theorem z_msq_ag {d e : Nat → Int64} (h : z_eq24 d e) : z_msq d = z_msq e := by unfold z_msq; rw [z_ssq_ag h]
theorem zm_xe_1 {d : Nat → Int64} {k : Nat} : zm_xe 1 d k = zm_ex d k := by
  unfold zm_xe
  rw [if_neg (by decide)]
theorem z_tp_e {z : Nat → Int64} {mm : Nat} : z_tp z mm = z_fmx (z_cd z mm) z_MIN 24 := rfl
theorem z_bt_e {z : Nat → Int64} {mm : Nat} : z_bt z mm = z_fmn (z_cd z mm) z_MAX 24 := rfl
theorem zt_dp2 {z : Nat → Int64} {mm cc : Nat} (hp : zs_hb z) (hc : cc ≤ 24) : zm_dp (z_tp z mm) (z_cd z mm) cc 24 = z_ld (z_tp z mm) (z_bt z mm) (z_cd z mm) cc 24 := by
  rw [z_tp_e, z_bt_e]
  exact zt_dp (zt_cdb hp) hc
theorem zp_out3 {x : Int32} (h : ¬ (x < nI 0 ∨ nI 3 < x)) : z_n x < 4 := by
  have := zp_n (by decide) h
  omega
theorem zt_dpag {d e : Nat → Int64} {g : Int64} {cc : Nat} (h : z_eq24 d e) : ∀ n, n ≤ 24 → zm_dp g d cc n = zm_dp g e cc n
  | 0, _ => rfl
  | n + 1, hn => by rw [zm_dp, zm_dp, zt_dpag h n (by omega), h n (by omega), z_cn_ag (n := 24) h]
theorem zp_rv {F L M E R : Nat → Int32} {Z X : Nat → Int64} {rc i : Nat} (h : zr_5 F L M E R rc) (hi : i < rc) (hz : z_eq24 Z X) : z_rv F L M Z i = z_rv (zm_rr R 0) (zm_rr R 1) (zm_rr R 2) X i := by
  obtain ⟨g1, g2, g3, g4, a, b, mm, q1, q2, q3, q4, q5, q6⟩ := h i hi
  rw [z_rv_e q4 q5 q6 q1 q2 q3, z_rv_e (f := zm_rr R 0) (l := zm_rr R 1) (m := zm_rr R 2) (g1.symm.trans q4) (g2.symm.trans q5) (g3.symm.trans q6) q1 q2 q3, z_tp_ag (fun k hk => z_kl_ag hz a k _), z_bt_ag (fun k hk => z_kl_ag hz a k _)]
theorem zp_vs {V W : Nat → Int64} {E R : Nat → Int32} : ∀ {n : Nat}, (∀ i, i < n → V i = W i ∧ E i = zm_rr R 3 i) → z_vs V E n = z_vs W (zm_rr R 3) n
  | 0, _ => rfl
  | n + 1, h => by rw [z_vs, z_vs, zp_vs (n := n) (fun i hi => h i (by omega)), (h n (by omega)).1, (h n (by omega)).2]
theorem pr_centre {l : Launch} {G : z_Gl} {σ : z_St} {c : Nat} (h : z_R c σ) (x : Int32) (t : Nat) (ht : t < 2) (hc : c ≤ 600) : z_M l G yX7_centre cX7_centre 4 (some .long) (z_rm 6 148) [.ref (z_ad G 0), .int x, .int (nI t)] σ (fun v1 σ1 => ∃ xx : Int64, v1 = some (.long xx) ∧ z_M l G yX8_centre cX8_centre 3 (some .long) (z_rm 7 178) [.ref (z_ad G 105), .int x, .int (nI t)] σ1 (fun v2 σ2 => v2 = some (.long xx) ∧ z_R (c + 1) σ2)) := by
  obtain ⟨P, n, o, u, v, w, rc, tl, h⟩ := h
  obtain ⟨hI, hM, a1, a2, ⟨a3, a3x, a3y⟩, a4, a5, a6, aV, a7⟩ := id h
  obtain ⟨⟨i1, i2, i3, i4, i5, i6, i7, i8⟩, jP, jn, jo, ju, jw, jr, jt⟩ := id hI
  obtain ⟨⟨m1, m2, m3, m4, m5, m6, m7⟩, -, -, -, -, -, -, mq, ma⟩ := id hM
  have b7 : zr_7 (z_eB (c + 1)) σ.2 o u v w := (h.up (Nat.le_succ c)).2.2.2.2.2.2.2.2.2
  have hpE := a7.1 u (by omega)
  obtain ⟨hp, hE0⟩ := ze_hbc hpE hc
  refine (m_X7_centre (l := l) (G := G) (σ := σ) P n o u v w rc tl hI x t ht aV hp).mono ?_
  rintro v1 σ1 ⟨e1, hk⟩
  refine ⟨_, e1, ?_⟩
  have hK := h.kp hk
  have hM1 := hK.2.1
  have hz1 : z_eq24 (σ1.2 (10 + (o + u) % 21)) (σ1.2 108) := hK.2.2.2.1.1
  have ez : σ1.2 (10 + (o + u) % 21) = σ.2 (10 + (o + u) % 21) := (hk.2 _ (by unfold z_cc; omega)).2
  rw [ez] at hz1
  have hp8 : zs_hb (σ1.2 108) := zs_hb_ag hz1.symm hp
  have q8 := m_X8_centre (l := l) (G := G) (σ := σ1) P n u v w rc tl hM1 (σ1.2 105 10) (σ1.2 105 11) (σ1.2 105 12) (σ1.2 105 13) (σ1.2 109) (σ1.2 114) x t ht hp8
  rw [z_mU_self] at q8
  refine q8.mono ?_
  rintro v2 σ2 ⟨e3, q1, q2, q3, q4, e4⟩
  rw [e3, e4]
  refine ⟨?_, hK.mU.two⟩
  rw [z_cx_ag hz1, z_cy_ag hz1]
theorem pr_deviation {l : Launch} {G : z_Gl} {σ : z_St} {c : Nat} (h : z_R c σ) (x y : Int32) (hc : c ≤ 600) : z_M l G yX7_deviation cX7_deviation 3 (some .long) (z_rm 6 148) [.ref (z_ad G 0), .int x, .int y] σ (fun v1 σ1 => ∃ xx : Int64, v1 = some (.long xx) ∧ z_M l G yX8_deviation cX8_deviation 3 (some .long) (z_rm 8 200) [.ref (z_ad G 105), .int x, .int y] σ1 (fun v2 σ2 => v2 = some (.long xx) ∧ z_R (c + 1) σ2)) := by
  obtain ⟨P, n, o, u, v, w, rc, tl, h⟩ := h
  obtain ⟨hI, hM, a1, a2, ⟨a3, a3x, a3y⟩, a4, a5, a6, aV, a7⟩ := id h
  obtain ⟨⟨i1, i2, i3, i4, i5, i6, i7, i8⟩, jP, jn, jo, ju, jw, jr, jt⟩ := id hI
  obtain ⟨⟨m1, m2, m3, m4, m5, m6, m7⟩, -, -, -, -, -, -, mq, ma⟩ := id hM
  have b7 : zr_7 (z_eB (c + 1)) σ.2 o u v w := (h.up (Nat.le_succ c)).2.2.2.2.2.2.2.2.2
  have hpE := a7.1 u (by omega)
  obtain ⟨hp, hE0⟩ := ze_hbc hpE hc
  refine (m_X7_deviation (l := l) (G := G) (σ := σ) P n o u v w rc tl hI x y aV hp).mono ?_
  rintro v1 σ1 ⟨e1, hk⟩
  refine ⟨_, e1, ?_⟩
  have hK := h.kp hk
  have hM1 := hK.2.1
  have hz1 : z_eq24 (σ1.2 (10 + (o + u) % 21)) (σ1.2 108) := hK.2.2.2.1.1
  have ez : σ1.2 (10 + (o + u) % 21) = σ.2 (10 + (o + u) % 21) := (hk.2 _ (by unfold z_cc; omega)).2
  rw [ez] at hz1
  have hp8 : zs_hb (σ1.2 108) := zs_hb_ag hz1.symm hp
  have q8 := m_X8_deviation (l := l) (G := G) (σ := σ1) P n u v w rc tl hM1 (σ1.2 105 10) (σ1.2 105 11) (σ1.2 105 12) (σ1.2 105 13) (σ1.2 109) (σ1.2 114) x y hp8
  rw [z_mU_self] at q8
  refine q8.mono ?_
  rintro v2 σ2 ⟨e3, q1, q2, q3, q4, oo, e4⟩
  rw [e3, e4]
  refine ⟨?_, hK.mU.two⟩
  refine z_cl ?_
  by_cases c1 : x < nI 0 ∨ nI 3 < x
  · rw [if_pos c1, if_pos c1]
  · rw [if_neg c1, if_neg c1]
    by_cases c2 : y < nI 0 ∨ nI 23 < y
    · rw [if_pos c2, if_pos c2]
    · rw [if_neg c2, if_neg c2]
      have hy := zp_n (by decide) c2
      exact (z_cd_ag hz1 _ _ (by omega)).symm
theorem pr_roundness {l : Launch} {G : z_Gl} {σ : z_St} {c : Nat} (h : z_R c σ) (x : Int32) (hc : c ≤ 600) : z_M l G yX7_roundness cX7_roundness 2 (some .double) (z_rm 6 148) [.ref (z_ad G 0), .int x] σ (fun v1 σ1 => ∃ xx : UInt64, v1 = some (.double xx) ∧ z_M l G yX8_roundness cX8_roundness 2 (some .double) (z_rm 8 200) [.ref (z_ad G 105), .int x] σ1 (fun v2 σ2 => v2 = some (.double xx) ∧ z_R (c + 1) σ2)) := by
  obtain ⟨P, n, o, u, v, w, rc, tl, h⟩ := h
  obtain ⟨hI, hM, a1, a2, ⟨a3, a3x, a3y⟩, a4, a5, a6, aV, a7⟩ := id h
  obtain ⟨⟨i1, i2, i3, i4, i5, i6, i7, i8⟩, jP, jn, jo, ju, jw, jr, jt⟩ := id hI
  obtain ⟨⟨m1, m2, m3, m4, m5, m6, m7⟩, -, -, -, -, -, -, mq, ma⟩ := id hM
  have b7 : zr_7 (z_eB (c + 1)) σ.2 o u v w := (h.up (Nat.le_succ c)).2.2.2.2.2.2.2.2.2
  have hpE := a7.1 u (by omega)
  obtain ⟨hp, hE0⟩ := ze_hbc hpE hc
  refine (m_X7_roundness (l := l) (G := G) (σ := σ) P n o u v w rc tl hI x aV hp).mono ?_
  rintro v1 σ1 ⟨e1, hk⟩
  refine ⟨_, e1, ?_⟩
  have hK := h.kp hk
  have hM1 := hK.2.1
  have hz1 : z_eq24 (σ1.2 (10 + (o + u) % 21)) (σ1.2 108) := hK.2.2.2.1.1
  have ez : σ1.2 (10 + (o + u) % 21) = σ.2 (10 + (o + u) % 21) := (hk.2 _ (by unfold z_cc; omega)).2
  rw [ez] at hz1
  have hp8 : zs_hb (σ1.2 108) := zs_hb_ag hz1.symm hp
  have q8 := m_X8_roundness (l := l) (G := G) (σ := σ1) P n u v w rc tl hM1 (σ1.2 105 10) (σ1.2 105 11) (σ1.2 105 12) (σ1.2 105 13) (σ1.2 109) (σ1.2 114) x hp8
  rw [z_mU_self] at q8
  refine q8.mono ?_
  rintro v2 σ2 ⟨e3, q1, q2, q3, q4, e4⟩
  rw [e3, e4]
  refine ⟨?_, hK.mU.two⟩
  rw [z_tp_ag hz1, z_bt_ag hz1]
theorem pr_extreme {l : Launch} {G : z_Gl} {σ : z_St} {c : Nat} (h : z_R c σ) (x : Int32) (t : Nat) (ht : t < 2) (hc : c ≤ 600) : z_M l G yX7_extreme cX7_extreme 4 (some .int) (z_rm 6 148) [.ref (z_ad G 0), .int x, .int (nI t)] σ (fun v1 σ1 => ∃ xx : Int32, v1 = some (.int xx) ∧ z_M l G yX8_extreme cX8_extreme 3 (some .int) (z_rm 8 200) [.ref (z_ad G 105), .int x, .int (nI t)] σ1 (fun v2 σ2 => v2 = some (.int xx) ∧ z_R (c + 1) σ2)) := by
  obtain ⟨P, n, o, u, v, w, rc, tl, h⟩ := h
  obtain ⟨hI, hM, a1, a2, ⟨a3, a3x, a3y⟩, a4, a5, a6, aV, a7⟩ := id h
  obtain ⟨⟨i1, i2, i3, i4, i5, i6, i7, i8⟩, jP, jn, jo, ju, jw, jr, jt⟩ := id hI
  obtain ⟨⟨m1, m2, m3, m4, m5, m6, m7⟩, -, -, -, -, -, -, mq, ma⟩ := id hM
  have b7 : zr_7 (z_eB (c + 1)) σ.2 o u v w := (h.up (Nat.le_succ c)).2.2.2.2.2.2.2.2.2
  have hpE := a7.1 u (by omega)
  obtain ⟨hp, hE0⟩ := ze_hbc hpE hc
  refine (m_X7_extreme (l := l) (G := G) (σ := σ) P n o u v w rc tl hI x t ht aV hp).mono ?_
  rintro v1 σ1 ⟨e1, hk⟩
  refine ⟨_, e1, ?_⟩
  have hK := h.kp hk
  have hM1 := hK.2.1
  have hz1 : z_eq24 (σ1.2 (10 + (o + u) % 21)) (σ1.2 108) := hK.2.2.2.1.1
  have ez : σ1.2 (10 + (o + u) % 21) = σ.2 (10 + (o + u) % 21) := (hk.2 _ (by unfold z_cc; omega)).2
  rw [ez] at hz1
  have hp8 : zs_hb (σ1.2 108) := zs_hb_ag hz1.symm hp
  have q8 := m_X8_extreme (l := l) (G := G) (σ := σ1) P n u v w rc tl hM1 (σ1.2 105 10) (σ1.2 105 11) (σ1.2 105 12) (σ1.2 105 13) (σ1.2 109) (σ1.2 114) x t ht hp8
  rw [z_mU_self] at q8
  refine q8.mono ?_
  rintro v2 σ2 ⟨e3, q1, q2, q3, q4, oo, e4⟩
  rw [e3, e4]
  refine ⟨?_, hK.mU.two⟩
  refine z_ci ?_
  by_cases c1 : x < nI 0 ∨ nI 3 < x
  · rw [if_pos c1, if_pos c1]
  · rw [if_neg c1, if_neg c1]
    have hof : z_eq24 (z_fil (z_cd (σ1.2 108) (z_n x)) (σ1.2 114) 24) (z_cd (σ.2 (10 + (o + u) % 21)) (z_n x)) := fun k hk => by rw [z_fil_lt hk]; exact (z_cd_ag hz1 _ k hk).symm
    rw [zt_xe_ag hof]
    unfold zm_xe z_bt z_tp
    by_cases c2 : t = 0
    · rw [if_pos c2, if_pos c2, zt_fsn]
    · rw [if_neg c2, if_neg c2, zt_fsx]
theorem pr_meanSquare {l : Launch} {G : z_Gl} {σ : z_St} {c : Nat} (h : z_R c σ) (hc : c ≤ 600) : z_M l G yX7_meanSquare cX7_meanSquare 7 (some .float) (z_rm 6 148) [.ref (z_ad G 0)] σ (fun v1 σ1 => ∃ xx : UInt32, v1 = some (.float xx) ∧ vf_n64 (FP.f2d xx) ∧ z_M l G yX8_meanSquare cX8_meanSquare 6 (some .float) (z_rm 8 200) [.ref (z_ad G 105)] σ1 (fun v2 σ2 => v2 = some (.float xx) ∧ z_R (c + 1) σ2)) := by
  obtain ⟨P, n, o, u, v, w, rc, tl, h⟩ := h
  obtain ⟨hI, hM, a1, a2, ⟨a3, a3x, a3y⟩, a4, a5, a6, aV, a7⟩ := id h
  obtain ⟨⟨i1, i2, i3, i4, i5, i6, i7, i8⟩, jP, jn, jo, ju, jw, jr, jt⟩ := id hI
  obtain ⟨⟨m1, m2, m3, m4, m5, m6, m7⟩, -, -, -, -, -, -, mq, ma⟩ := id hM
  have b7 : zr_7 (z_eB (c + 1)) σ.2 o u v w := (h.up (Nat.le_succ c)).2.2.2.2.2.2.2.2.2
  have hpE := a7.1 u (by omega)
  obtain ⟨hp, hE0⟩ := ze_hbc hpE hc
  refine (m_X7_meanSquare (l := l) (G := G) (σ := σ) P n o u v w rc tl hI  aV hp).mono ?_
  rintro v1 σ1 ⟨e1, hk⟩
  refine ⟨_, e1, (zf_msq _).2.2, ?_⟩
  have hK := h.kp hk
  have hM1 := hK.2.1
  have hz1 : z_eq24 (σ1.2 (10 + (o + u) % 21)) (σ1.2 108) := hK.2.2.2.1.1
  have ez : σ1.2 (10 + (o + u) % 21) = σ.2 (10 + (o + u) % 21) := (hk.2 _ (by unfold z_cc; omega)).2
  rw [ez] at hz1
  have hp8 : zs_hb (σ1.2 108) := zs_hb_ag hz1.symm hp
  have q8 := m_X8_meanSquare (l := l) (G := G) (σ := σ1) P n u v w rc tl hM1 (σ1.2 105 10) (σ1.2 105 11) (σ1.2 105 12) (σ1.2 105 13) (σ1.2 109) (σ1.2 114)  hp8
  rw [z_mU_self] at q8
  refine q8.mono ?_
  rintro v2 σ2 ⟨e3, q1, q2, q3, q4, oo, e4⟩
  rw [e3, e4]
  refine ⟨?_, hK.mU.two⟩
  rw [z_msq_ag (fun k hk => z_cd_ag hz1 0 k hk)]
theorem pr_materialAt {l : Launch} {G : z_Gl} {σ : z_St} {c : Nat} (h : z_R c σ) (x : Int32) (dp : Int64) (hc : c ≤ 600) : z_M l G yX7_materialAt cX7_materialAt 4 (some .int) (z_rm 6 148) [.ref (z_ad G 0), .int x, .long dp] σ (fun v1 σ1 => ∃ xx : Int32, v1 = some (.int xx) ∧ z_M l G yX8_materialAt cX8_materialAt 4 (some .int) (z_rm 8 200) [.ref (z_ad G 105), .int x, .long dp] σ1 (fun v2 σ2 => v2 = some (.int xx) ∧ z_R (c + 1) σ2)) := by
  obtain ⟨P, n, o, u, v, w, rc, tl, h⟩ := h
  obtain ⟨hI, hM, a1, a2, ⟨a3, a3x, a3y⟩, a4, a5, a6, aV, a7⟩ := id h
  obtain ⟨⟨i1, i2, i3, i4, i5, i6, i7, i8⟩, jP, jn, jo, ju, jw, jr, jt⟩ := id hI
  obtain ⟨⟨m1, m2, m3, m4, m5, m6, m7⟩, -, -, -, -, -, -, mq, ma⟩ := id hM
  have b7 : zr_7 (z_eB (c + 1)) σ.2 o u v w := (h.up (Nat.le_succ c)).2.2.2.2.2.2.2.2.2
  have hpE := a7.1 u (by omega)
  obtain ⟨hp, hE0⟩ := ze_hbc hpE hc
  refine (m_X7_materialAt (l := l) (G := G) (σ := σ) P n o u v w rc tl hI x dp aV hp).mono ?_
  rintro v1 σ1 ⟨e1, hk⟩
  refine ⟨_, e1, ?_⟩
  have hK := h.kp hk
  have hM1 := hK.2.1
  have hz1 : z_eq24 (σ1.2 (10 + (o + u) % 21)) (σ1.2 108) := hK.2.2.2.1.1
  have ez : σ1.2 (10 + (o + u) % 21) = σ.2 (10 + (o + u) % 21) := (hk.2 _ (by unfold z_cc; omega)).2
  rw [ez] at hz1
  have hp8 : zs_hb (σ1.2 108) := zs_hb_ag hz1.symm hp
  have q8 := m_X8_materialAt (l := l) (G := G) (σ := σ1) P n u v w rc tl hM1 (σ1.2 105 10) (σ1.2 105 11) (σ1.2 105 12) (σ1.2 105 13) (σ1.2 109) (σ1.2 114) x dp hp8
  rw [z_mU_self] at q8
  refine q8.mono ?_
  rintro v2 σ2 ⟨e3, q1, q2, q3, q4, oo, e4⟩
  rw [e3, e4]
  refine ⟨?_, hK.mU.two⟩
  refine z_ci ?_
  by_cases c1 : x < nI 0 ∨ nI 3 < x
  · rw [if_pos c1, if_pos c1]
  · rw [if_neg c1, if_neg c1]
    by_cases c2 : dp < 0
    · rw [if_pos c2, if_pos c2]
    · rw [if_neg c2, if_neg c2]
      have hof : z_eq24 (z_fil (z_cd (σ1.2 108) (z_n x)) (σ1.2 114) 24) (z_cd (σ.2 (10 + (o + u) % 21)) (z_n x)) := fun k hk => by rw [z_fil_lt hk]; exact (z_cd_ag hz1 _ k hk).symm
      have htop : z_fil (z_cd (σ1.2 108) (z_n x)) (σ1.2 114) 24 (zm_xe 1 (z_fil (z_cd (σ1.2 108) (z_n x)) (σ1.2 114) 24) 24) = z_tp (σ.2 (10 + (o + u) % 21)) (z_n x) := by
        have hl : zm_ex (z_cd (σ.2 (10 + (o + u) % 21)) (z_n x)) 24 ≤ 23 := zm_ex_lt _ 23
        rw [zt_xe_ag hof, zm_xe_1, hof _ (by omega), ← zt_top (z_cd (σ.2 (10 + (o + u) % 21)) (z_n x)), ← z_tp_e]
      rw [htop, z_cn_ag (n := 24) hof]
theorem pr_depthFor {l : Launch} {G : z_Gl} {σ : z_St} {c : Nat} (h : z_R c σ) (x y : Int32) (hc : c ≤ 600) : z_M l G yX7_depthFor cX7_depthFor 3 (some .long) (z_rm 6 148) [.ref (z_ad G 0), .int x, .int y] σ (fun v1 σ1 => ∃ xx : Int64, v1 = some (.long xx) ∧ z_M l G yX8_depthFor cX8_depthFor 10 (some .long) (z_rm 8 200) [.ref (z_ad G 105), .int x, .int y] σ1 (fun v2 σ2 => v2 = some (.long xx) ∧ z_R (c + 1) σ2)) := by
  obtain ⟨P, n, o, u, v, w, rc, tl, h⟩ := h
  obtain ⟨hI, hM, a1, a2, ⟨a3, a3x, a3y⟩, a4, a5, a6, aV, a7⟩ := id h
  obtain ⟨⟨i1, i2, i3, i4, i5, i6, i7, i8⟩, jP, jn, jo, ju, jw, jr, jt⟩ := id hI
  obtain ⟨⟨m1, m2, m3, m4, m5, m6, m7⟩, -, -, -, -, -, -, mq, ma⟩ := id hM
  have b7 : zr_7 (z_eB (c + 1)) σ.2 o u v w := (h.up (Nat.le_succ c)).2.2.2.2.2.2.2.2.2
  have hpE := a7.1 u (by omega)
  obtain ⟨hp, hE0⟩ := ze_hbc hpE hc
  refine (m_X7_depthFor (l := l) (G := G) (σ := σ) P n o u v w rc tl hI x y aV hp).mono ?_
  rintro v1 σ1 ⟨e1, hk⟩
  refine ⟨_, e1, ?_⟩
  have hK := h.kp hk
  have hM1 := hK.2.1
  have hz1 : z_eq24 (σ1.2 (10 + (o + u) % 21)) (σ1.2 108) := hK.2.2.2.1.1
  have ez : σ1.2 (10 + (o + u) % 21) = σ.2 (10 + (o + u) % 21) := (hk.2 _ (by unfold z_cc; omega)).2
  rw [ez] at hz1
  have hp8 : zs_hb (σ1.2 108) := zs_hb_ag hz1.symm hp
  have q8 := m_X8_depthFor (l := l) (G := G) (σ := σ1) P n u v w rc tl hM1 (σ1.2 105 10) (σ1.2 105 11) (σ1.2 105 12) (σ1.2 105 13) (σ1.2 109) (σ1.2 114) x y hp8
  rw [z_mU_self] at q8
  refine q8.mono ?_
  rintro v2 σ2 ⟨e3, q1, q2, q3, q4, oo, e4⟩
  rw [e3, e4]
  refine ⟨?_, hK.mU.two⟩
  refine z_cl ?_
  by_cases c1 : x < nI 0 ∨ nI 3 < x
  · rw [if_pos c1, if_pos c1]
  · rw [if_neg c1, if_neg c1]
    by_cases c2 : y < nI 1 ∨ nI 24 < y
    · rw [if_pos c2, if_pos c2]
    · rw [if_neg c2, if_neg c2]
      have hof : z_eq24 (z_fil (z_cd (σ1.2 108) (z_n x)) (σ1.2 114) 24) (z_cd (σ.2 (10 + (o + u) % 21)) (z_n x)) := fun k hk => by rw [z_fil_lt hk]; exact (z_cd_ag hz1 _ k hk).symm
      have htop : z_fil (z_cd (σ1.2 108) (z_n x)) (σ1.2 114) 24 (zm_xe 1 (z_fil (z_cd (σ1.2 108) (z_n x)) (σ1.2 114) 24) 24) = z_tp (σ.2 (10 + (o + u) % 21)) (z_n x) := by
        have hl : zm_ex (z_cd (σ.2 (10 + (o + u) % 21)) (z_n x)) 24 ≤ 23 := zm_ex_lt _ 23
        rw [zt_xe_ag hof, zm_xe_1, hof _ (by omega), ← zt_top (z_cd (σ.2 (10 + (o + u) % 21)) (z_n x)), ← z_tp_e]
      obtain ⟨d, hd1, hd2, rfl⟩ := z_in1 (by decide) (by decide) c2
      rw [htop, z_nk (k := d) (by omega), zt_dpag hof 24 (Nat.le_refl 24)]
      exact zt_dp2 hp hd2
theorem pr_ruleValue {l : Launch} {G : z_Gl} {σ : z_St} {c : Nat} (h : z_R c σ) (x : Int32) (hc : c ≤ 600) : z_M l G yX7_ruleValue cX7_ruleValue 2 (some .long) (z_rm 6 148) [.ref (z_ad G 0), .int x] σ (fun v1 σ1 => ∃ xx : Int64, v1 = some (.long xx) ∧ z_M l G yX8_ruleValue cX8_ruleValue 2 (some .long) (z_rm 9 221) [.ref (z_ad G 105), .int x] σ1 (fun v2 σ2 => v2 = some (.long xx) ∧ z_R (c + 1) σ2)) := by
  obtain ⟨P, n, o, u, v, w, rc, tl, h⟩ := h
  obtain ⟨hI, hM, a1, a2, ⟨a3, a3x, a3y⟩, a4, a5, a6, aV, a7⟩ := id h
  obtain ⟨⟨i1, i2, i3, i4, i5, i6, i7, i8⟩, jP, jn, jo, ju, jw, jr, jt⟩ := id hI
  obtain ⟨⟨m1, m2, m3, m4, m5, m6, m7⟩, -, -, -, -, -, -, mq, ma⟩ := id hM
  have b7 : zr_7 (z_eB (c + 1)) σ.2 o u v w := (h.up (Nat.le_succ c)).2.2.2.2.2.2.2.2.2
  have hpE := a7.1 u (by omega)
  obtain ⟨hp, hE0⟩ := ze_hbc hpE hc
  have hkb := ze_kb hpE hc
  have hru : z_ru σ rc := fun i hi => (a5 i hi).2.2.2.2
  refine (m_X7_ruleValue (l := l) (G := G) (σ := σ) P n o u v w rc tl hI x aV hru hkb).mono ?_
  rintro v1 σ1 ⟨e1, hk⟩
  refine ⟨_, e1, ?_⟩
  have hK := h.kp hk
  have hM1 := hK.2.1
  have hz1 : z_eq24 (σ1.2 (10 + (o + u) % 21)) (σ1.2 108) := hK.2.2.2.1.1
  have ez : σ1.2 (10 + (o + u) % 21) = σ.2 (10 + (o + u) % 21) := (hk.2 _ (by unfold z_cc; omega)).2
  rw [ez] at hz1
  have hp8 : zs_hb (σ1.2 108) := zs_hb_ag hz1.symm hp
  have hkb8 : z_kb (σ1.2 108) := fun a b h1 h2 => zs_hb_ag (fun k hk => (z_kl_ag hz1 a k _).symm) (hkb a b h1 h2)
  have h5 := hK.2.2.2.2.2.2.1
  have f45 : σ1.1 45 = σ.1 45 := (hk.2 45 (by unfold z_cc; omega)).1
  have f46 : σ1.1 46 = σ.1 46 := (hk.2 46 (by unfold z_cc; omega)).1
  have f47 : σ1.1 47 = σ.1 47 := (hk.2 47 (by unfold z_cc; omega)).1
  have f48 : σ1.1 48 = σ.1 48 := (hk.2 48 (by unfold z_cc; omega)).1
  rw [f45, f46, f47, f48] at h5
  have hru8 : zm_ru σ1 rc := fun i hi => by
    obtain ⟨g1, g2, g3, g4, a, b, mm, q1, q2, q3, q4, q5, q6⟩ := h5 i hi
    exact ⟨a, b, mm, q1, q2, q3, g1.symm.trans q4, g2.symm.trans q5, g3.symm.trans q6⟩
  have q8 := m_X8_ruleValue (l := l) (G := G) (σ := σ1) P n u v w rc tl hM1 (σ1.2 105 10) (σ1.2 105 11) (σ1.2 105 12) (σ1.2 105 13) (σ1.2 109) (σ1.2 114) x hru8 hkb8
  rw [z_mU_self] at q8
  refine q8.mono ?_
  rintro v2 σ2 ⟨e3, q1, q2, q3, q4, oo, e4⟩
  rw [e3, e4]
  refine ⟨?_, hK.mU.two⟩
  refine z_cl ?_
  by_cases c1 : x < nI 0 ∨ nI rc - nI 1 < x
  · rw [if_pos c1, if_pos c1]
  · rw [if_neg c1, if_neg c1]
    exact (zp_rv h5 (zp_nw (by omega) c1) hz1).symm
theorem pr_violated {l : Launch} {G : z_Gl} {σ : z_St} {c : Nat} (h : z_R c σ) (hc : c ≤ 600) : z_M l G yX7_violated cX7_violated 3 (some .int) (z_rm 6 148) [.ref (z_ad G 0)] σ (fun v1 σ1 => ∃ xx : Int32, v1 = some (.int xx) ∧ z_M l G yX8_violated cX8_violated 3 (some .int) (z_rm 9 221) [.ref (z_ad G 105)] σ1 (fun v2 σ2 => v2 = some (.int xx) ∧ z_R (c + 1) σ2)) := by
  obtain ⟨P, n, o, u, v, w, rc, tl, h⟩ := h
  obtain ⟨hI, hM, a1, a2, ⟨a3, a3x, a3y⟩, a4, a5, a6, aV, a7⟩ := id h
  obtain ⟨⟨i1, i2, i3, i4, i5, i6, i7, i8⟩, jP, jn, jo, ju, jw, jr, jt⟩ := id hI
  obtain ⟨⟨m1, m2, m3, m4, m5, m6, m7⟩, -, -, -, -, -, -, mq, ma⟩ := id hM
  have b7 : zr_7 (z_eB (c + 1)) σ.2 o u v w := (h.up (Nat.le_succ c)).2.2.2.2.2.2.2.2.2
  have hpE := a7.1 u (by omega)
  obtain ⟨hp, hE0⟩ := ze_hbc hpE hc
  have hkb := ze_kb hpE hc
  have hru : z_ru σ rc := fun i hi => (a5 i hi).2.2.2.2
  refine (m_X7_violated (l := l) (G := G) (σ := σ) P n o u v w rc tl hI  aV hru hkb).mono ?_
  rintro v1 σ1 ⟨e1, hk⟩
  refine ⟨_, e1, ?_⟩
  have hK := h.kp hk
  have hM1 := hK.2.1
  have hz1 : z_eq24 (σ1.2 (10 + (o + u) % 21)) (σ1.2 108) := hK.2.2.2.1.1
  have ez : σ1.2 (10 + (o + u) % 21) = σ.2 (10 + (o + u) % 21) := (hk.2 _ (by unfold z_cc; omega)).2
  rw [ez] at hz1
  have hp8 : zs_hb (σ1.2 108) := zs_hb_ag hz1.symm hp
  have hkb8 : z_kb (σ1.2 108) := fun a b h1 h2 => zs_hb_ag (fun k hk => (z_kl_ag hz1 a k _).symm) (hkb a b h1 h2)
  have h5 := hK.2.2.2.2.2.2.1
  have f45 : σ1.1 45 = σ.1 45 := (hk.2 45 (by unfold z_cc; omega)).1
  have f46 : σ1.1 46 = σ.1 46 := (hk.2 46 (by unfold z_cc; omega)).1
  have f47 : σ1.1 47 = σ.1 47 := (hk.2 47 (by unfold z_cc; omega)).1
  have f48 : σ1.1 48 = σ.1 48 := (hk.2 48 (by unfold z_cc; omega)).1
  rw [f45, f46, f47, f48] at h5
  have hru8 : zm_ru σ1 rc := fun i hi => by
    obtain ⟨g1, g2, g3, g4, a, b, mm, q1, q2, q3, q4, q5, q6⟩ := h5 i hi
    exact ⟨a, b, mm, q1, q2, q3, g1.symm.trans q4, g2.symm.trans q5, g3.symm.trans q6⟩
  have q8 := m_X8_violated (l := l) (G := G) (σ := σ1) P n u v w rc tl hM1 (σ1.2 105 10) (σ1.2 105 11) (σ1.2 105 12) (σ1.2 105 13) (σ1.2 109) (σ1.2 114)  hru8 hkb8
  rw [z_mU_self] at q8
  refine q8.mono ?_
  rintro v2 σ2 ⟨e3, q1, q2, q3, q4, oo, e4⟩
  rw [e3, e4]
  refine ⟨?_, hK.mU.two⟩
  exact z_ci (zp_vs (fun i hi => ⟨zp_rv h5 hi hz1, (h5 i hi).2.2.2.1⟩)).symm
