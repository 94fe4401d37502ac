/-! CLASS AND REFERENCE: what holds of both between two calls -/
/-- readings -/
def zr_1 (n : Nat) (A B : Nat → Int32) : Prop := ∀ k, k < n → A k = B k ∧ z_in 10000 (A k).toInt
/-- profiles: the ring of the class, the three rows of the reference -/
def zr_2 (R : Nat → Nat → Int64) (o u v : Nat) (X U V : Nat → Int64) : Prop := z_eq24 (R (10 + (o + u) % 21)) X ∧ (∀ j, j < u → ∀ k, k < 24 → R (10 + (o + j) % 21) k = U (24 * j + k)) ∧ ∀ j, j < v → ∀ k, k < 24 → R (10 + (o + u + (v - j)) % 21) k = V (24 * j + k)
/-- the true part and spindle -/
def zr_3 (p s t : Nat → Int32) : Prop := ∀ k, k < 24 → p k = t k ∧ s k = t (24 + k) ∧ z_in 5000 (p k).toInt ∧ z_in 5000 (s k).toInt
/-- traces -/
def zr_4 (R : Nat → Nat → Int64) (h H : Nat → Int32) (x y m T : Nat → Int64) (w : Nat) : Prop := (∀ i, i < w → (∀ k, k < 24 → R (34 + i) k = T (24 * i + k)) ∧ h i = H i ∧ (0 ≤ (h i).toInt ∧ (h i).toInt ≤ 100) ∧ x i = z_cf (R (34 + i)) 0 1 ∧ y i = z_cf (R (34 + i)) 1 1 ∧ m i = z_cf (R (34 + i)) 0 0) ∧ ∀ i j, i < w → j < w → h i = h j → i = j
/-- rules -/
def zr_5 (F L M E R : Nat → Int32) (rc : Nat) : Prop := ∀ i, i < rc → F i = R (4 * i) ∧ L i = R (4 * i + 1) ∧ M i = R (4 * i + 2) ∧ E i = R (4 * i + 3) ∧ ∃ a b mm : Nat, a ≤ b ∧ b ≤ 12 ∧ mm < 4 ∧ F i = nI a ∧ L i = nI b ∧ M i = nI mm
/-- texts -/
def zr_6 (A B : Nat → Int32) (_ : Nat) : Prop := A = B
/-- a row's energy -/
def z_e (z : Nat → Int64) : Nat → Int
  | 0 => 0
  | k + 1 => z_e z k + (z k).toInt * (z k).toInt
def zr_7 (B : Int) (R : Nat → Nat → Int64) (o u v w : Nat) : Prop := (∀ j, j ≤ u + v → z_e (R (10 + (o + j) % 21)) 24 ≤ B) ∧ ∀ i, i < w → z_e (R (34 + i)) 24 ≤ B
/-- all, after c calls -/
def z_eB (c : Nat) : Int := 38400000000000000000000 + c * 2000000000000000000
def z_Rq (c : Nat) (σ : z_St) (P n o u v w rc tl : Nat) : Prop := z_inv σ P n o u v w rc tl ∧ z_mi σ P n u v w rc tl ∧ zr_1 n (σ.1 2) (σ.1 107) ∧ zr_2 σ.2 o u v (σ.2 108) (σ.2 110) (σ.2 111) ∧ (zr_3 (σ.1 6) (σ.1 7) (σ.1 119) ∧ σ.1 5 2 = σ.1 105 28 ∧ σ.1 5 3 = σ.1 105 29) ∧ zr_4 σ.2 (σ.1 40) (σ.1 116) (σ.2 41) (σ.2 42) (σ.2 43) (σ.2 115) w ∧ zr_5 (σ.1 45) (σ.1 46) (σ.1 47) (σ.1 48) (σ.1 117) rc ∧ zr_6 (σ.1 83) (σ.1 118) tl ∧ z_vcs σ ∧ zr_7 (z_eB c) σ.2 o u v w
def z_R (c : Nat) (σ : z_St) : Prop := ∃ P n o u v w rc tl, z_Rq c σ P n o u v w rc tl
theorem z_eB_le {c d : Nat} (h : c ≤ d) : z_eB c ≤ z_eB d := by
  unfold z_eB
  omega
theorem z_Rq.up {c d : Nat} {σ : z_St} {P n o u v w rc tl : Nat} (h : z_Rq c σ P n o u v w rc tl) (hd : c ≤ d) : z_Rq d σ P n o u v w rc tl := by
  obtain ⟨h1, h2, h3, h4, h5, h6, h7, h8, h9, h10, h11⟩ := h
  exact ⟨h1, h2, h3, h4, h5, h6, h7, h8, h9, fun j hj => Int.le_trans (h10 j hj) (z_eB_le hd), fun i hi => Int.le_trans (h11 i hi) (z_eB_le hd)⟩
/-- the circles' cells stand: their caches stay right -/
theorem z_vcs.of {σ τ : z_St} (h : z_vcs σ) (hs : ∀ a, ((50 ≤ a ∧ a < 82) ∨ (89 ≤ a ∧ a < 105)) → τ.1 a = σ.1 a ∧ τ.2 a = σ.2 a) : z_vcs τ := by
  intro b hb
  have hq := (z_iC_cc b hb).1
  have hh := h b hb
  unfold z_vc at hh ⊢
  rw [(hs b (by omega)).1, (hs b (by omega)).2, (hs (b + 1) (by omega)).2, (hs (b + 2) (by omega)).2]
  exact hh
theorem z_vcs.ui {σ : z_St} {i j : Nat} {x : Int32} (h : z_vcs σ) (hi : i < 50 ∨ (82 ≤ i ∧ i < 89) ∨ 105 ≤ i) : z_vcs (z_ui σ i j x) := h.of (fun a ha => ⟨if_neg (by omega), rfl⟩)
theorem z_vcs.ul {σ : z_St} {i j : Nat} {x : Int64} (h : z_vcs σ) (hi : i < 50 ∨ (82 ≤ i ∧ i < 89) ∨ 105 ≤ i) : z_vcs (z_ul σ i j x) := h.of (fun a ha => ⟨rfl, if_neg (by omega)⟩)
theorem z_vcs.uI {σ : z_St} {i : Nat} {f : Nat → Int32} (h : z_vcs σ) (hi : i < 50 ∨ (82 ≤ i ∧ i < 89) ∨ 105 ≤ i) : z_vcs (z_uI σ i f) := h.of (fun a ha => ⟨if_neg (by omega), rfl⟩)
theorem z_vcs.uL {σ : z_St} {i : Nat} {f : Nat → Int64} (h : z_vcs σ) (hi : i < 50 ∨ (82 ≤ i ∧ i < 89) ∨ 105 ≤ i) : z_vcs (z_uL σ i f) := h.of (fun a ha => ⟨rfl, if_neg (by omega)⟩)
theorem z_vcs.mU {σ : z_St} {cx cy mo le : Int64} {as_ of_ : Nat → Int64} (h : z_vcs σ) : z_vcs (z_mU σ cx cy mo le as_ of_) := h.of (fun a ha => by
  have h1 : ¬ a = 105 := by omega
  have h2 : ¬ a = 109 := by omega
  have h3 : ¬ a = 114 := by omega
  exact ⟨rfl, (if_neg h1).trans ((if_neg h2).trans (if_neg h3))⟩)
/-- the class's circles were used -/
theorem z_Rq.kp {c : Nat} {σ τ : z_St} {P n o u v w rc tl : Nat} (h : z_Rq c σ P n o u v w rc tl) (k : z_kp σ τ) : z_Rq c τ P n o u v w rc tl := by
  obtain ⟨h1, h2, h3, h4, h5, h6, h7, h8, h9, h10, h11⟩ := h
  have eI : ∀ a, ¬ z_cc a → τ.1 a = σ.1 a := fun a ha => (k.2 a ha).1
  have eL : ∀ a, ¬ z_cc a → τ.2 a = σ.2 a := fun a ha => (k.2 a ha).2
  have c1 : ∀ j, τ.2 (10 + j % 21) = σ.2 (10 + j % 21) := fun j => eL _ (by unfold z_cc; omega)
  refine ⟨h1.kp k, ?_, ?_, ?_, ?_, ?_, ?_, ?_, k.1, ?_, ?_⟩
  · unfold z_mi at h2 ⊢
    rw [eI 105 (by unfold z_cc; omega), eI 106 (by unfold z_cc; omega), eI 112 (by unfold z_cc; omega), eI 113 (by unfold z_cc; omega)]
    exact h2
  · rw [eI 2 (by unfold z_cc; omega), eI 107 (by unfold z_cc; omega)]; exact h3
  · unfold zr_2 at h4 ⊢
    simp only [c1]
    rw [eL 108 (by unfold z_cc; omega), eL 110 (by unfold z_cc; omega), eL 111 (by unfold z_cc; omega)]
    exact h4
  · rw [eI 6 (by unfold z_cc; omega), eI 7 (by unfold z_cc; omega), eI 119 (by unfold z_cc; omega), eI 5 (by unfold z_cc; omega), eI 105 (by unfold z_cc; omega)]
    exact h5
  · rw [eI 40 (by unfold z_cc; omega), eI 116 (by unfold z_cc; omega), eL 41 (by unfold z_cc; omega), eL 42 (by unfold z_cc; omega), eL 43 (by unfold z_cc; omega), eL 115 (by unfold z_cc; omega)]
    have hw : w ≤ 6 := h1.2.2.2.2.2.1
    refine ⟨fun i hi => ?_, h6.2⟩
    rw [eL (34 + i) (by unfold z_cc; omega)]
    exact h6.1 i hi
  · rw [eI 45 (by unfold z_cc; omega), eI 46 (by unfold z_cc; omega), eI 47 (by unfold z_cc; omega), eI 48 (by unfold z_cc; omega), eI 117 (by unfold z_cc; omega)]
    exact h7
  · rw [eI 83 (by unfold z_cc; omega), eI 118 (by unfold z_cc; omega)]; exact h8
  · intro j hj
    rw [c1]
    exact h10 j hj
  · have hw : w ≤ 6 := h1.2.2.2.2.2.1
    intro i hi
    rw [eL (34 + i) (by unfold z_cc; omega)]
    exact h11 i hi
/-- the reference's circles were used -/
theorem z_Rq.mU {c : Nat} {σ : z_St} {P n o u v w rc tl : Nat} {cx cy mo le : Int64} {as_ of_ : Nat → Int64} (h : z_Rq c σ P n o u v w rc tl) : z_Rq c (z_mU σ cx cy mo le as_ of_) P n o u v w rc tl := by
  obtain ⟨h1, h2, h3, h4, h5, h6, h7, h8, h9, h10, h11⟩ := h
  have hw : w ≤ 6 := h1.2.2.2.2.2.1
  have eL : ∀ a, a < 105 → (z_mU σ cx cy mo le as_ of_).2 a = σ.2 a := fun a ha => by
    have q1 : ¬ a = 105 := by omega
    have q2 : ¬ a = 109 := by omega
    have q3 : ¬ a = 114 := by omega
    exact (if_neg q1).trans ((if_neg q2).trans (if_neg q3))
  have c1 : ∀ j, (z_mU σ cx cy mo le as_ of_).2 (10 + j % 21) = σ.2 (10 + j % 21) := fun j => eL _ (by omega)
  refine ⟨h1, h2, h3, ?_, h5, ?_, h7, h8, h9.mU, ?_, ?_⟩
  · unfold zr_2 at h4 ⊢
    simp only [c1]
    exact h4
  · refine ⟨fun i hi => ?_, h6.2⟩
    rw [eL (34 + i) (by omega)]
    exact h6.1 i hi
  · intro j hj
    rw [c1]
    exact h10 j hj
  · intro i hi
    rw [eL (34 + i) (by omega)]
    exact h11 i hi
theorem z_Rq.two {c : Nat} {σ : z_St} {P n o u v w rc tl : Nat} (h : z_Rq c σ P n o u v w rc tl) : z_R (c + 1) σ := ⟨P, n, o, u, v, w, rc, tl, h.up (Nat.le_succ c)⟩
