/-! THE PAIRS: a text is read -/
theorem zm_ob_fr (B : z_St) (x : zt_It) : (∀ a, ¬ a = 105 → ¬ a = 119 → (zm_ob B x).1 a = B.1 a) ∧ (∀ k, ¬ k = 1 → ¬ k = 2 → ¬ k = 28 → ¬ k = 29 → (zm_ob B x).1 105 k = B.1 105 k) ∧ (zm_ob B x).2 = B.2 := by
  unfold zm_ob
  split
  · exact ⟨fun a h1 h2 => by simp [z_ui, h1], fun k h1 h2 h3 h4 => by simp [z_ui, upd, h1, h2], rfl⟩
  · split
    · exact ⟨fun a h1 h2 => by simp [z_ui, h1], fun k h1 h2 h3 h4 => by simp [z_ui, upd, h3, h4], rfl⟩
    · exact ⟨fun a h1 h2 => by simp [z_uI, h2], fun k h1 h2 h3 h4 => by simp [z_uI], rfl⟩
theorem zm_obs_fr (l : List zt_It) : ∀ B : z_St, (∀ a, ¬ a = 105 → ¬ a = 119 → (zm_obs B l).1 a = B.1 a) ∧ (∀ k, ¬ k = 1 → ¬ k = 2 → ¬ k = 28 → ¬ k = 29 → (zm_obs B l).1 105 k = B.1 105 k) ∧ (zm_obs B l).2 = B.2 := by
  induction l with
  | nil => exact fun B => ⟨fun _ _ _ => rfl, fun _ _ _ _ _ => rfl, rfl⟩
  | cons x l ih =>
    intro B
    obtain ⟨h1, h2, h3⟩ := ih (zm_ob B x)
    obtain ⟨g1, g2, g3⟩ := zm_ob_fr B x
    exact ⟨fun a a1 a2 => (h1 a a1 a2).trans (g1 a a1 a2), fun k k1 k2 k3 k4 => (h2 k k1 k2 k3 k4).trans (g2 k k1 k2 k3 k4), h3.trans g3⟩
theorem zm_rst_fr (B : z_St) : (∀ a, ¬ a = 105 → ¬ a = 119 → (zm_rst B).1 a = B.1 a) ∧ (∀ k, ¬ k = 28 → ¬ k = 29 → (zm_rst B).1 105 k = B.1 105 k) ∧ (zm_rst B).2 = B.2 := by
  unfold zm_rst
  exact ⟨fun a h1 h2 => by simp [z_ui, z_uI, h1, h2], fun k h3 h4 => by simp [z_ui, z_uI, upd, h3, h4], rfl⟩
/-- the true values, steps and readings of the class in one store, of the reference in another -/
def zo_R (A B : z_St) : Prop := zr_3 (A.1 6) (A.1 7) (B.1 119) ∧ A.1 5 2 = B.1 105 28 ∧ A.1 5 3 = B.1 105 29 ∧ ∃ P n : Nat, (P = 2 ∨ P = 3 ∨ P = 4 ∨ P = 6 ∨ P = 8 ∨ P = 12) ∧ n ≤ P * 24 ∧ A.1 1 3 = nI P ∧ A.1 1 4 = nI n ∧ B.1 105 1 = nI P ∧ B.1 105 2 = nI n ∧ zr_1 n (A.1 2) (B.1 107)
theorem zo_R.ob {A B : z_St} {x : zt_It} (h : zo_R A B) (hv : zt_val x) : zo_R (z_ob A x) (zm_ob B x) := by
  obtain ⟨h3, hx, hy, P, n, jP, jn, e1, e2, e3, e4, h1⟩ := h
  rcases hv with ⟨hk, hok⟩ | ⟨hk, hr1, hr2⟩ | ⟨hk, hb, hh, hf, hh12, hf24, eh, ef⟩
  · obtain ⟨P2, ep, hP2⟩ := zp_st hok
    unfold z_ob zm_ob
    rw [if_pos hk, if_pos hk]
    exact ⟨h3, hx, hy, P2, 0, hP2, Nat.zero_le _, ep, rfl, ep, rfl, fun k hk => absurd hk (Nat.not_lt_zero k)⟩
  · have n1 : ¬ x.1 = nI 110 := by rw [hk]; decide
    unfold z_ob zm_ob
    rw [if_neg n1, if_neg n1, if_pos hk, if_pos hk]
    exact ⟨h3, rfl, rfl, P, n, jP, jn, e1, e2, e3, e4, h1⟩
  · have n1 : ¬ x.1 = nI 110 := by rcases hk with z | z <;> (rw [z]; decide)
    have n2 : ¬ x.1 = nI 101 := by rcases hk with z | z <;> (rw [z]; decide)
    unfold z_ob zm_ob
    rw [if_neg n1, if_neg n1, if_neg n2, if_neg n2]
    rcases zt_t01 x.1 with t | t
    · rw [t]
      have hS : ∀ k, k < 24 → z_so (A.1 (6 + 0)) x.2.2.1 (z_n x.2.1) (z_n x.2.2.2) k = z_so (z_shI (B.1 119) (24 * 0)) x.2.2.1 (z_n x.2.1) (z_n x.2.2.2) k ∧ z_in 5000 (z_so (A.1 (6 + 0)) x.2.2.1 (z_n x.2.1) (z_n x.2.2.2) k).toInt := fun k hk => ⟨zq_so (by
        show A.1 6 k = B.1 119 (24 * 0 + k)
        rw [show 24 * 0 + k = k by omega]
        exact (h3 k hk).1), zq_cla (M := 5000) (by decide)⟩
      exact ⟨zs_lp h3 hS, hx, hy, P, n, jP, jn, e1, e2, e3, e4, h1⟩
    · rw [t]
      have hS : ∀ k, k < 24 → z_so (A.1 (6 + 1)) x.2.2.1 (z_n x.2.1) (z_n x.2.2.2) k = z_so (z_shI (B.1 119) (24 * 1)) x.2.2.1 (z_n x.2.1) (z_n x.2.2.2) k ∧ z_in 5000 (z_so (A.1 (6 + 1)) x.2.2.1 (z_n x.2.1) (z_n x.2.2.2) k).toInt := fun k hk => ⟨zq_so (h3 k hk).2.1, zq_cla (M := 5000) (by decide)⟩
      exact ⟨zs_ls h3 hS, hx, hy, P, n, jP, jn, e1, e2, e3, e4, h1⟩
theorem zo_R.obs (l : List zt_It) : ∀ {A B : z_St}, zo_R A B → (∀ x ∈ l, zt_val x) → zo_R (z_obs A l) (zm_obs B l) := by
  induction l with
  | nil => exact fun h _ => h
  | cons x l ih => exact fun h hv => ih (h.ob (hv x List.mem_cons_self)) (fun y hy => hv y (List.mem_cons_of_mem _ hy))
theorem zo_R.rst {A B : z_St} (h : zo_R A B) : zo_R (zt_rst A) (zm_rst B) := by
  obtain ⟨-, -, -, P, n, jP, jn, e1, e2, e3, e4, h1⟩ := h
  refine ⟨fun k hk => ?_, rfl, rfl, P, n, jP, jn, e1, e2, e3, e4, h1⟩
  have f1 : (zt_rst A).1 6 k = nI 0 := by show z_fil (fun _ => nI 0) (A.1 6) 24 k = nI 0; exact z_fil_lt hk
  have f2 : (zt_rst A).1 7 k = nI 0 := by show z_fil (fun _ => nI 0) (A.1 7) 24 k = nI 0; exact z_fil_lt hk
  have f3 : (zm_rst B).1 119 k = nI 0 := by show z_fil (fun _ => nI 0) (B.1 119) 48 k = nI 0; exact z_fil_lt (by omega)
  have f4 : (zm_rst B).1 119 (24 + k) = nI 0 := by show z_fil (fun _ => nI 0) (B.1 119) 48 (24 + k) = nI 0; exact z_fil_lt (by omega)
  rw [f1, f2, f3, f4]
  exact ⟨rfl, rfl, by constructor <;> decide, by constructor <;> decide⟩
theorem zo_fin {c : Nat} {σ σ1 σ2 : z_St} {P n o u v w rc tl : Nat} (h : z_Rq c σ P n o u v w rc tl) (f1 : ∀ a, ¬ a = 1 → ¬ a = 5 → ¬ a = 6 → ¬ a = 7 → ¬ a = 82 → ¬ (84 ≤ a ∧ a ≤ 87) → σ1.1 a = σ.1 a) (f2 : σ1.1 82 5 = σ.1 82 5) (f3 : σ1.2 = σ.2) (g1 : ∀ a, ¬ a = 105 → ¬ a = 119 → σ2.1 a = σ1.1 a) (g2 : ∀ k, ¬ k = 1 → ¬ k = 2 → ¬ (24 ≤ k ∧ k ≤ 26) → ¬ k = 28 → ¬ k = 29 → σ2.1 105 k = σ1.1 105 k) (g3 : σ2.2 = σ1.2) (ho : zo_R σ1 σ2) : z_R (c + 1) σ2 := by
  obtain ⟨hI, hM, a1, a2, a3, a4, a5, a6, aV, a7⟩ := h.up (Nat.le_succ c)
  obtain ⟨⟨i1, i2, i3, i4, i5, i6, i7, i8⟩, jP, jn, jo, ju, jw, jr, jt⟩ := hI
  obtain ⟨⟨m1, m2, m3, m4, m5, m6, m7⟩, -, -, -, -, -, -, mq, ma⟩ := hM
  obtain ⟨o3, ox, oy, P2, n2, kP, kn, e1, e2, e3, e4, o1⟩ := ho
  have L : σ2.2 = σ.2 := g3.trans f3
  have k1 : ∀ a, ¬ a = 1 → ¬ a = 5 → ¬ a = 6 → ¬ a = 7 → ¬ a = 82 → ¬ (84 ≤ a ∧ a ≤ 87) → ¬ a = 105 → ¬ a = 119 → σ2.1 a = σ.1 a := fun a b1 b2 b3 b4 b5 b6 b7 b8 => (g1 a b7 b8).trans (f1 a b1 b2 b3 b4 b5 b6)
  have c105 : σ1.1 105 = σ.1 105 := f1 105 (by decide) (by decide) (by decide) (by decide) (by decide) (by decide)
  have g82 : σ2.1 82 = σ1.1 82 := g1 82 (by decide) (by decide)
  have q2 : σ2.1 2 = σ1.1 2 := g1 2 (by decide) (by decide)
  have q1 : σ2.1 1 = σ1.1 1 := g1 1 (by decide) (by decide)
  have q5 : σ2.1 5 = σ1.1 5 := g1 5 (by decide) (by decide)
  have q6 : σ2.1 6 = σ1.1 6 := g1 6 (by decide) (by decide)
  have q7 : σ2.1 7 = σ1.1 7 := g1 7 (by decide) (by decide)
  have e8 := k1 8 (by decide) (by decide) (by decide) (by decide) (by decide) (by decide) (by decide) (by decide)
  have e32 := k1 32 (by decide) (by decide) (by decide) (by decide) (by decide) (by decide) (by decide) (by decide)
  have e44 := k1 44 (by decide) (by decide) (by decide) (by decide) (by decide) (by decide) (by decide) (by decide)
  have kk : ∀ k, ¬ k = 1 → ¬ k = 2 → ¬ (24 ≤ k ∧ k ≤ 26) → ¬ k = 28 → ¬ k = 29 → σ2.1 105 k = σ.1 105 k := fun k b1 b2 b3 b4 b5 => (g2 k b1 b2 b3 b4 b5).trans (by rw [c105])
  refine ⟨P2, n2, o, u, v, w, rc, tl, ⟨⟨by rw [q1]; exact e1, by rw [q1]; exact e2, by rw [e8]; exact i3, by rw [e8]; exact i4, by rw [e8]; exact i5, by rw [e32]; exact i6, by rw [e44]; exact i7, by rw [g82, f2]; exact i8⟩, kP, kn, jo, ju, jw, jr, jt⟩, ⟨⟨e3, e4, (kk 8 (by decide) (by decide) (by decide) (by decide) (by decide)).trans m3, (kk 9 (by decide) (by decide) (by decide) (by decide) (by decide)).trans m4, (kk 17 (by decide) (by decide) (by decide) (by decide) (by decide)).trans m5, (kk 20 (by decide) (by decide) (by decide) (by decide) (by decide)).trans m6, (kk 22 (by decide) (by decide) (by decide) (by decide) (by decide)).trans m7⟩, kP, kn, ju, jw, jr, jt, ?_, ?_⟩, ?_, by rw [L]; exact a2, ⟨by rw [q6, q7]; exact o3, by rw [q5]; exact ox, by rw [q5]; exact oy⟩, ?_, ?_, ?_, ?_, by rw [L]; exact a7⟩
  · rw [k1 106 (by decide) (by decide) (by decide) (by decide) (by decide) (by decide) (by decide) (by decide)]
    exact mq
  · rw [k1 112 (by decide) (by decide) (by decide) (by decide) (by decide) (by decide) (by decide) (by decide), k1 113 (by decide) (by decide) (by decide) (by decide) (by decide) (by decide) (by decide) (by decide)]
    exact ma
  · rw [q2]
    exact o1
  · rw [L, k1 40 (by decide) (by decide) (by decide) (by decide) (by decide) (by decide) (by decide) (by decide), k1 116 (by decide) (by decide) (by decide) (by decide) (by decide) (by decide) (by decide) (by decide)]
    exact a4
  · rw [k1 45 (by decide) (by decide) (by decide) (by decide) (by decide) (by decide) (by decide) (by decide), k1 46 (by decide) (by decide) (by decide) (by decide) (by decide) (by decide) (by decide) (by decide), k1 47 (by decide) (by decide) (by decide) (by decide) (by decide) (by decide) (by decide) (by decide), k1 48 (by decide) (by decide) (by decide) (by decide) (by decide) (by decide) (by decide) (by decide), k1 117 (by decide) (by decide) (by decide) (by decide) (by decide) (by decide) (by decide) (by decide)]
    exact a5
  · rw [k1 83 (by decide) (by decide) (by decide) (by decide) (by decide) (by decide) (by decide) (by decide), k1 118 (by decide) (by decide) (by decide) (by decide) (by decide) (by decide) (by decide) (by decide)]
    exact a6
  · exact aV.of (fun a ha => ⟨k1 a (by omega) (by omega) (by omega) (by omega) (by omega) (by omega) (by omega) (by omega), by rw [L]⟩)
theorem pr_readText {l : Launch} {G : z_Gl} {σ : z_St} {c : Nat} (h : z_R c σ) : z_M l G yX7_readText cX7_readText 2 (some .int) (z_rm 6 134) [.ref (z_ad G 0)] σ (fun v1 σ1 => ∃ xx : Int32, v1 = some (.int xx) ∧ z_M l G yX8_readText cX8_readText 2 (some .int) (z_rm 6 145) [.ref (z_ad G 105)] σ1 (fun v2 σ2 => v2 = some (.int xx) ∧ z_R (c + 1) σ2)) := by
  obtain ⟨P, n, o, u, v, w, rc, tl, h⟩ := h
  obtain ⟨hI, hM, a1, a2, ⟨a3, a3x, a3y⟩, a4, a5, a6, aV, a7⟩ := id h
  obtain ⟨⟨i1, i2, i3, i4, i5, i6, i7, i8⟩, jP, jn, jo, ju, jw, jr, jt⟩ := id hI
  obtain ⟨⟨m1, m2, m3, m4, m5, m6, m7⟩, -, -, -, -, -, -, mq, ma⟩ := id hM
  have b7 : zr_7 (z_eB (c + 1)) σ.2 o u v w := (h.up (Nat.le_succ c)).2.2.2.2.2.2.2.2.2
  refine (m_X7_readText (l := l) (G := G) (σ := σ) P n o u v w rc tl hI).mono ?_
  have hO : zo_R σ σ := ⟨a3, a3x, a3y, P, n, jP, jn, i1, i2, m1, m2, a1⟩
  have a6 : σ.1 83 = σ.1 118 := a6
  rintro v1 σ1 hq
  have hM1 : z_mi σ1 P n u v w rc tl ∧ σ1.1 118 = σ.1 118 := by
    have fr : (∀ a, ¬ a = 1 → ¬ a = 5 → ¬ a = 6 → ¬ a = 7 → ¬ a = 82 → ¬ (84 ≤ a ∧ a ≤ 87) → σ1.1 a = σ.1 a) := by
      rcases hq with ⟨f, -, -, s1, s2, s3⟩ | ⟨its, -, -, s1, s2, s3⟩
      · exact fun a b1 b2 b3 b4 b5 b6 => s1 a b5 b6
      · exact fun a b1 b2 b3 b4 b5 b6 => (s1 a b5 b6).trans (((z_obs_fr its _).1 a b1 b2 b3 b4).trans ((zt_rst_fr σ).1 a b2 b3 b4))
    have c105 := fr 105 (by decide) (by decide) (by decide) (by decide) (by decide) (by decide)
    have c106 := fr 106 (by decide) (by decide) (by decide) (by decide) (by decide) (by decide)
    have c112 := fr 112 (by decide) (by decide) (by decide) (by decide) (by decide) (by decide)
    have c113 := fr 113 (by decide) (by decide) (by decide) (by decide) (by decide) (by decide)
    refine ⟨?_, fr 118 (by decide) (by decide) (by decide) (by decide) (by decide) (by decide)⟩
    unfold z_mi
    rw [c105, c106, c112, c113]
    exact hM
  obtain ⟨hM1, h118⟩ := hM1
  have q8 := m_X8_readText (l := l) (G := G) (σ := σ1) P n u v w rc tl hM1
  rw [h118, ← a6] at q8
  rcases hq with ⟨f, hf, e1, s1, s2, s3⟩ | ⟨its, hf, e1, s1, s2, s3⟩
  · refine ⟨_, e1, ?_⟩
    refine q8.mono ?_
    rintro v2 σ2 (⟨f2, hf2, -, e3, t1, t2, t3⟩ | ⟨its, hf2, -⟩)
    · have ef : f2 = f := Sum.inl.inj (hf2.symm.trans hf)
      rw [e3, ef]
      refine ⟨rfl, zo_fin h (fun a b1 b2 b3 b4 b5 b6 => s1 a b5 b6) s2 s3 (fun a b1 _ => t1 a b1) (fun k _ _ b3 _ _ => t2 k b3) t3 ?_⟩
      obtain ⟨h3, hx, hy, P2, n2, jP2, jn2, e1, e2, e3, e4, h1⟩ := hO
      have r : ∀ a, ¬ a = 82 → ¬ (84 ≤ a ∧ a ≤ 87) → ¬ a = 105 → σ2.1 a = σ.1 a := fun a b1 b2 b3 => (t1 a b3).trans (s1 a b1 b2)
      have r5 : ∀ k, ¬ (24 ≤ k ∧ k ≤ 26) → σ2.1 105 k = σ.1 105 k := fun k hk => (t2 k hk).trans (by rw [s1 105 (by decide) (by decide)])
      refine ⟨by rw [s1 6 (by decide) (by decide), s1 7 (by decide) (by decide), r 119 (by decide) (by decide) (by decide)]; exact h3, by rw [s1 5 (by decide) (by decide), r5 28 (by decide)]; exact hx, by rw [s1 5 (by decide) (by decide), r5 29 (by decide)]; exact hy, P2, n2, jP2, jn2, by rw [s1 1 (by decide) (by decide)]; exact e1, by rw [s1 1 (by decide) (by decide)]; exact e2, by rw [r5 1 (by decide)]; exact e3, by rw [r5 2 (by decide)]; exact e4, by rw [s1 2 (by decide) (by decide), r 107 (by decide) (by decide) (by decide)]; exact h1⟩
    · rw [hf] at hf2
      exact absurd hf2 (by simp)
  · refine ⟨_, e1, ?_⟩
    refine q8.mono ?_
    rintro v2 σ2 (⟨f2, hf2, -⟩ | ⟨its2, hf2, e3, t1, t2, t3⟩)
    · rw [hf] at hf2
      exact absurd hf2 (by simp)
    · have ei : its2 = its := Sum.inr.inj (hf2.symm.trans hf)
      subst ei
      rw [e3]
      have hOO := (hO.rst).obs its2 (zt_all_val hf)
      obtain ⟨b1, b2, b3⟩ := zm_obs_fr its2 (zm_rst σ1)
      obtain ⟨d1, d2, d3⟩ := zm_rst_fr σ1
      obtain ⟨x1, x2⟩ := z_obs_fr its2 (zt_rst σ)
      obtain ⟨y1, y2⟩ := zt_rst_fr σ
      refine ⟨rfl, zo_fin h (fun a c1 c2 c3 c4 c5 c6 => (s1 a c5 c6).trans ((x1 a c1 c2 c3 c4).trans (y1 a c2 c3 c4))) (s2.trans (by rw [x1 82 (by decide) (by decide) (by decide) (by decide), y1 82 (by decide) (by decide) (by decide)])) (s3.trans (x2.trans y2)) (fun a c1 c2 => (t1 a c1).trans ((b1 a c1 c2).trans (d1 a c1 c2))) (fun k c1 c2 c3 c4 c5 => (t2 k c3).trans ((b2 k c1 c2 c4 c5).trans (d2 k c4 c5))) (t3.trans (b3.trans d3)) ?_⟩
      have hB : zo_R (z_obs (zt_rst σ) its2) (zm_obs (zm_rst σ1) its2) := by
        have hO1 : zo_R σ σ1 := by
          obtain ⟨h3, hx, hy, P2, n2, jP2, jn2, e1, e2, e3, e4, h1⟩ := hO
          have c105 : σ1.1 105 = σ.1 105 := (s1 105 (by decide) (by decide)).trans ((x1 105 (by decide) (by decide) (by decide) (by decide)).trans (y1 105 (by decide) (by decide) (by decide)))
          have c107 : σ1.1 107 = σ.1 107 := (s1 107 (by decide) (by decide)).trans ((x1 107 (by decide) (by decide) (by decide) (by decide)).trans (y1 107 (by decide) (by decide) (by decide)))
          have c119 : σ1.1 119 = σ.1 119 := (s1 119 (by decide) (by decide)).trans ((x1 119 (by decide) (by decide) (by decide) (by decide)).trans (y1 119 (by decide) (by decide) (by decide)))
          exact ⟨by rw [c119]; exact h3, by rw [c105]; exact hx, by rw [c105]; exact hy, P2, n2, jP2, jn2, e1, e2, by rw [c105]; exact e3, by rw [c105]; exact e4, by rw [c107]; exact h1⟩
        exact (hO1.rst).obs its2 (zt_all_val hf)
      obtain ⟨h3, hx, hy, P2, n2, jP2, jn2, e1, e2, e3, e4, h1⟩ := hB
      have r5 : ∀ k, ¬ (24 ≤ k ∧ k ≤ 26) → σ2.1 105 k = (zm_obs (zm_rst σ1) its2).1 105 k := t2
      refine ⟨by rw [s1 6 (by decide) (by decide), s1 7 (by decide) (by decide), t1 119 (by decide)]; exact h3, by rw [s1 5 (by decide) (by decide), r5 28 (by decide)]; exact hx, by rw [s1 5 (by decide) (by decide), r5 29 (by decide)]; exact hy, P2, n2, jP2, jn2, by rw [s1 1 (by decide) (by decide)]; exact e1, by rw [s1 1 (by decide) (by decide)]; exact e2, by rw [r5 1 (by decide)]; exact e3, by rw [r5 2 (by decide)]; exact e4, by rw [s1 2 (by decide) (by decide), t1 107 (by decide)]; exact h1⟩
