/-! THE REFERENCE: circles. What its searches write, at once -/
def z_mU (σ : z_St) (cx cy mo le : Int64) (as_ of_ : Nat → Int64) : z_St :=
  (σ.1, fun a => if a = 105 then (fun k => if k = 10 then cx else if k = 11 then cy else if k = 12 then mo else if k = 13 then le else σ.2 105 k) else if a = 109 then as_ else if a = 114 then of_ else σ.2 a)
theorem z_mU_self (σ : z_St) : z_mU σ (σ.2 105 10) (σ.2 105 11) (σ.2 105 12) (σ.2 105 13) (σ.2 109) (σ.2 114) = σ := by
  unfold z_mU
  refine Prod.ext rfl ?_
  funext a
  by_cases h : a = 105
  · subst h
    funext k
    by_cases h6 : k = 10
    · subst h6; simp
    · by_cases h7 : k = 11
      · subst h7; simp
      · by_cases h8 : k = 12
        · subst h8; simp
        · by_cases h9 : k = 13
          · subst h9; simp
          · simp [h6, h7, h8, h9]
  · by_cases h4 : a = 109
    · subst h4; simp
    · by_cases h5 : a = 114
      · subst h5; simp
      · simp [h, h4, h5]
theorem zm_f1 (D : Nat → Int64) : D 0 = z_fmx D (-9223372036854775808) 1 ∧ D 0 = z_fmn D 9223372036854775807 1 := by
  constructor
  · show D 0 = z_mx z_MIN (D 0)
    exact Int64.le_antisymm (z_mx_r _ _) (by unfold z_mx; split; exact Int64.le_refl _; exact z_MIN_le _)
  · show D 0 = z_mn z_MAX (D 0)
    exact Int64.le_antisymm (by unfold z_mn; split; exact Int64.le_refl _; exact z_le_MAX _) (z_mn_r _ _)
/-- the best of the ways, as the reference keeps it -/
def zm_bst (D : Nat → Int64) : Nat → Int64
  | 0 => 0
  | k + 1 => if k = 0 ∨ D k < zm_bst D k then D k else zm_bst D k
def zm_way (D : Nat → Int64) : Nat → Nat
  | 0 => 0
  | k + 1 => if k = 0 ∨ D k < zm_bst D k then k else zm_way D k
theorem zm_wb1 {D : Nat → Int64} {k : Nat} (h : k = 0 ∨ D k < zm_bst D k) : zm_way D (k + 1) = k ∧ zm_bst D (k + 1) = D k := ⟨if_pos h, if_pos h⟩
theorem zm_wb0 {D : Nat → Int64} {k : Nat} (h0 : ¬ k = 0) (h : zm_bst D k ≤ D k) : zm_way D (k + 1) = zm_way D k ∧ zm_bst D (k + 1) = zm_bst D k := ⟨if_neg (fun z => z.elim h0 (Int64.not_lt.mpr h)), if_neg (fun z => z.elim h0 (Int64.not_lt.mpr h))⟩
theorem zm_rel (D : Nat → Int64) (v : Int64) : ∀ n, zm_way D (n + 1) ≤ n ∧ zm_bst D (n + 1) = D (zm_way D (n + 1)) ∧ ((z_bw D v (n + 1) = -1 ∧ z_fmn D v (n + 1) = v ∧ v ≤ zm_bst D (n + 1)) ∨ (z_bw D v (n + 1) = nI (zm_way D (n + 1)) ∧ z_fmn D v (n + 1) = zm_bst D (n + 1) ∧ zm_bst D (n + 1) < v))
  | 0 => by
    obtain ⟨e1, e2⟩ := zm_wb1 (D := D) (k := 0) (Or.inl rfl)
    rw [e1, e2]
    refine ⟨Nat.le_refl 0, rfl, ?_⟩
    by_cases h : D 0 < v
    · exact Or.inr ⟨if_pos h, if_pos h, h⟩
    · exact Or.inl ⟨if_neg h, if_neg h, Int64.not_lt.mp h⟩
  | n + 1 => by
    obtain ⟨i1, i2, i3⟩ := zm_rel D v n
    by_cases h : D (n + 1) < zm_bst D (n + 1)
    · obtain ⟨e1, e2⟩ := zm_wb1 (D := D) (k := n + 1) (Or.inr h)
      rw [e1, e2]
      refine ⟨Nat.le_refl _, rfl, ?_⟩
      rcases i3 with ⟨a1, a2, a3⟩ | ⟨a1, a2, a3⟩
      · by_cases q : D (n + 1) < v
        · exact Or.inr ⟨if_pos (by rw [a2]; exact q), if_pos (by rw [a2]; exact q), q⟩
        · exact Or.inl ⟨(if_neg (by rw [a2]; exact q)).trans a1, (if_neg (by rw [a2]; exact q)).trans a2, Int64.not_lt.mp q⟩
      · have q : D (n + 1) < v := by rw [fa_lt64] at h a3 ⊢; omega
        exact Or.inr ⟨if_pos (by rw [a2]; exact h), if_pos (by rw [a2]; exact h), q⟩
    · obtain ⟨e1, e2⟩ := zm_wb0 (D := D) (k := n + 1) (by omega) (Int64.not_lt.mp h)
      rw [e1, e2]
      refine ⟨by omega, i2, ?_⟩
      rcases i3 with ⟨a1, a2, a3⟩ | ⟨a1, a2, a3⟩
      · have q : ¬ D (n + 1) < z_fmn D v (n + 1) := by
          rw [a2]
          intro z
          apply h
          rw [fa_lt64] at z ⊢
          rw [fa_le64] at a3
          omega
        exact Or.inl ⟨(if_neg q).trans a1, (if_neg q).trans a2, a3⟩
      · have q : ¬ D (n + 1) < z_fmn D v (n + 1) := by rw [a2]; exact h
        exact Or.inr ⟨(if_neg q).trans a1, (if_neg q).trans a2, a3⟩
/-- what holds at the head of the reference's search -/
def zm_inv (pf : Nat → Int64) (me : Int32) (x y sd : Int64) : Prop := ∃ n, zs_go pf me n = ⟨x, y, sd⟩
theorem zm_inv.good {pf : Nat → Int64} {me : Int32} {x y sd : Int64} (h : zm_inv pf me x y sd) (hp : zs_hb pf) : z_good pf me ⟨x, y, sd⟩ := by
  obtain ⟨n, hg⟩ := h
  have := zs_go_good me hp n
  rw [hg] at this
  exact this
theorem zm_stepH {pf : Nat → Int64} {me : Int32} {x y sd : Int64} (h : zm_inv pf me x y sd) (hp : zs_hb pf) (hs : ¬ sd ≤ 0) (hb : z_F pf me x y ≤ zm_bst (zs_D pf me x y sd) 8) : zm_inv pf me x y (sd / 2) ∧ z_pot pf me ⟨x, y, sd / 2⟩ < z_pot pf me ⟨x, y, sd⟩ := by
  have hs1 : ¬ sd < 1 := by
    rw [fa_le64] at hs; rw [fa_lt64]; show ¬ _ < (1 : Int)
    have : (0 : Int64).toInt = 0 := by decide
    omega
  have g := h.good hp
  obtain ⟨n, hg⟩ := h
  obtain ⟨-, -, r⟩ := zm_rel (zs_D pf me x y sd) (z_F pf me x y) 7
  have hw : z_bw (zs_D pf me x y sd) (z_F pf me x y) 8 = -1 := by
    rcases r with r | r
    · exact r.1
    · have : zm_bst (zs_D pf me x y sd) 8 < z_F pf me x y := r.2.2
      rw [fa_lt64] at this
      rw [fa_le64] at hb
      omega
  have e := z_stp_0 hw
  have hl := (z_stp_good hp g hs1).2
  rw [e] at hl
  exact ⟨⟨n + 1, by rw [zs_go_s hg hs1, e]⟩, hl⟩
theorem zm_stepM {pf : Nat → Int64} {me : Int32} {x y sd : Int64} (h : zm_inv pf me x y sd) (hp : zs_hb pf) (hs : ¬ sd ≤ 0) (hb : ¬ z_F pf me x y ≤ zm_bst (zs_D pf me x y sd) 8) : zm_way (zs_D pf me x y sd) 8 < 8 ∧ zm_bst (zs_D pf me x y sd) 8 = z_F pf me (x + sd * (z_tv 2 (zm_way (zs_D pf me x y sd) 8)).toInt64) (y + sd * (z_tv 3 (zm_way (zs_D pf me x y sd) 8)).toInt64) ∧ zm_inv pf me (x + sd * (z_tv 2 (zm_way (zs_D pf me x y sd) 8)).toInt64) (y + sd * (z_tv 3 (zm_way (zs_D pf me x y sd) 8)).toInt64) sd ∧ z_pot pf me ⟨x + sd * (z_tv 2 (zm_way (zs_D pf me x y sd) 8)).toInt64, y + sd * (z_tv 3 (zm_way (zs_D pf me x y sd) 8)).toInt64, sd⟩ < z_pot pf me ⟨x, y, sd⟩ := by
  have hs1 : ¬ sd < 1 := by
    rw [fa_le64] at hs; rw [fa_lt64]; show ¬ _ < (1 : Int)
    have : (0 : Int64).toInt = 0 := by decide
    omega
  have g := h.good hp
  obtain ⟨n, hg⟩ := h
  obtain ⟨w1, w2, r⟩ := zm_rel (zs_D pf me x y sd) (z_F pf me x y) 7
  have hw : z_bw (zs_D pf me x y sd) (z_F pf me x y) 8 = nI (zm_way (zs_D pf me x y sd) 8) := by
    rcases r with r | r
    · exact absurd r.2.2 hb
    · exact r.1
  have w8 : zm_way (zs_D pf me x y sd) 8 < 8 := by
    have := w1
    exact Nat.lt_succ_of_le this
  have e := z_stp_w w8 hw
  have hl := (z_stp_good hp g hs1).2
  rw [e] at hl
  exact ⟨w8, w2, ⟨n + 1, by rw [zs_go_s hg hs1, e]⟩, hl⟩
theorem zm_fin {pf : Nat → Int64} {mm : Nat} {x y sd : Int64} (h : zm_inv pf (nI mm) x y sd) (hm : ¬ mm = 0) (hs : sd ≤ 0) : x = z_cx pf mm ∧ y = z_cy pf mm := by
  obtain ⟨n, hg⟩ := h
  have hs1 : sd < 1 := by
    rw [fa_le64] at hs; rw [fa_lt64]; show _ < (1 : Int)
    have : (0 : Int64).toInt = 0 := by decide
    omega
  have e := z_ce_eq hg hs1
  constructor
  · unfold z_cx; rw [if_neg hm, e]
  · unfold z_cy; rw [if_neg hm, e]
/-- the first of the greatest, of the least -/
def zm_ex (d : Nat → Int64) : Nat → Nat
  | 0 => 0
  | k + 1 => if d (zm_ex d k) < d k then k else zm_ex d k
def zm_en (d : Nat → Int64) : Nat → Nat
  | 0 => 0
  | k + 1 => if d k < d (zm_en d k) then k else zm_en d k
def zm_xe (t : Nat) (d : Nat → Int64) (k : Nat) : Nat := if t = 0 then zm_en d k else zm_ex d k
theorem zm_xe1 (t : Nat) (d : Nat → Int64) : 0 = zm_xe t d 1 := by
  unfold zm_xe
  split
  · show 0 = if d 0 < d 0 then 0 else 0
    split <;> rfl
  · show 0 = if d 0 < d 0 then 0 else 0
    split <;> rfl
theorem zm_ex_lt (d : Nat → Int64) : ∀ n, zm_ex d (n + 1) ≤ n
  | 0 => by show (if d 0 < d 0 then 0 else 0) ≤ 0; split <;> exact Nat.le_refl 0
  | n + 1 => by
    have := zm_ex_lt d n
    rw [zm_ex]
    split <;> omega
theorem zm_en_lt (d : Nat → Int64) : ∀ n, zm_en d (n + 1) ≤ n
  | 0 => by show (if d 0 < d 0 then 0 else 0) ≤ 0; split <;> exact Nat.le_refl 0
  | n + 1 => by
    have := zm_en_lt d n
    rw [zm_en]
    split <;> omega
theorem zm_xe_lt (t : Nat) (d : Nat → Int64) {k : Nat} (h : 1 ≤ k) : zm_xe t d k < k := by
  obtain ⟨n, rfl⟩ : ∃ n, k = n + 1 := ⟨k - 1, by omega⟩
  unfold zm_xe
  split
  · have := zm_en_lt d n; omega
  · have := zm_ex_lt d n; omega
theorem zm_xe_a {t : Nat} {d : Nat → Int64} {k : Nat} (ht : ¬ t = 0) (h : ¬ d k ≤ d (zm_xe t d k)) : zm_xe t d (k + 1) = k := by
  unfold zm_xe at h ⊢
  rw [if_neg ht] at h ⊢
  exact if_pos (Int64.not_le.mp h)
theorem zm_xe_b {t : Nat} {d : Nat → Int64} {k : Nat} (ht : ¬ t = 0) (h : d k ≤ d (zm_xe t d k)) : zm_xe t d (k + 1) = zm_xe t d k := by
  unfold zm_xe at h ⊢
  rw [if_neg ht] at h
  rw [if_neg ht, if_neg ht]
  exact if_neg (Int64.not_lt.mpr h)
theorem zm_xe_c {t : Nat} {d : Nat → Int64} {k : Nat} (ht : t = 0) (h : ¬ d (zm_xe t d k) ≤ d k) : zm_xe t d (k + 1) = k := by
  unfold zm_xe at h ⊢
  rw [if_pos ht] at h ⊢
  exact if_pos (Int64.not_le.mp h)
theorem zm_xe_d {t : Nat} {d : Nat → Int64} {k : Nat} (ht : t = 0) (h : d (zm_xe t d k) ≤ d k) : zm_xe t d (k + 1) = zm_xe t d k := by
  unfold zm_xe at h ⊢
  rw [if_pos ht] at h
  rw [if_pos ht, if_pos ht]
  exact if_neg (Int64.not_lt.mpr h)
/-- how deep, as the reference finds it -/
def zm_dp (top : Int64) (d : Nat → Int64) (cc : Nat) : Nat → Int64
  | 0 => -1
  | k + 1 => if cc ≤ z_cn top d (top - d k) 24 ∧ (zm_dp top d cc k < 0 ∨ top - d k < zm_dp top d cc k) then top - d k else zm_dp top d cc k
theorem zm_dp1 {top : Int64} {d : Nat → Int64} {cc k : Nat} (h : cc ≤ z_cn top d (top - d k) 24) (h2 : zm_dp top d cc k < 0 ∨ top - d k < zm_dp top d cc k) : zm_dp top d cc (k + 1) = top - d k := if_pos ⟨h, h2⟩
theorem zm_dp0 {top : Int64} {d : Nat → Int64} {cc k : Nat} (h : ¬ (cc ≤ z_cn top d (top - d k) 24 ∧ (zm_dp top d cc k < 0 ∨ top - d k < zm_dp top d cc k))) : zm_dp top d cc (k + 1) = zm_dp top d cc k := if_neg h
section ZR
variable {p : Program} {l : Launch} {e : Env} {R : Room} {s : State} {m : MethodId} {args : Array Value} {below : List Frame} {meth : Method} {c : Code} {G : z_Gl} {ce sl : Nat} {Q : State → Prop} {nL : Nat} {lv : List (Nat × Value)} {st : List Value} {σ : z_St} {cc : ByteArray} {own : String} {ret : Option FieldType}
theorem z_lp5 {A0 A1 A2 A3 A4 : Type} {pc : Nat} (I : A0 → A1 → A2 → A3 → A4 → Prop) (μ : A0 → A1 → A2 → A3 → A4 → Nat) (LV : A0 → A1 → A2 → A3 → A4 → List (Nat × Value)) (S : A0 → A1 → A2 → A3 → A4 → z_St) (body : ∀ a0 a1 a2 a3 a4, I a0 a1 a2 a3 a4 → (∀ b0 b1 b2 b3 b4, I b0 b1 b2 b3 b4 → μ b0 b1 b2 b3 b4 < μ a0 a1 a2 a3 a4 → z_V p l e R s m args below meth c G ce sl Q nL pc (LV b0 b1 b2 b3 b4) st (S b0 b1 b2 b3 b4)) → z_V p l e R s m args below meth c G ce sl Q nL pc (LV a0 a1 a2 a3 a4) st (S a0 a1 a2 a3 a4)) (a0 : A0) ( a1 : A1) ( a2 : A2) ( a3 : A3) ( a4 : A4) (h : I a0 a1 a2 a3 a4) : z_V p l e R s m args below meth c G ce sl Q nL pc (LV a0 a1 a2 a3 a4) st (S a0 a1 a2 a3 a4) :=
  z_lp1 (A := A0 × A1 × A2 × A3 × A4) (fun q => I q.1 q.2.1 q.2.2.1 q.2.2.2.1 q.2.2.2.2) (fun q => μ q.1 q.2.1 q.2.2.1 q.2.2.2.1 q.2.2.2.2) (fun q => LV q.1 q.2.1 q.2.2.1 q.2.2.2.1 q.2.2.2.2) (fun q => S q.1 q.2.1 q.2.2.1 q.2.2.2.1 q.2.2.2.2) (fun q hq ih => body q.1 q.2.1 q.2.2.1 q.2.2.2.1 q.2.2.2.2 hq (fun b0 b1 b2 b3 b4 => ih (b0, b1, b2, b3, b4))) (a0, a1, a2, a3, a4) h
theorem z_lp6 {A0 A1 A2 A3 A4 A5 : Type} {pc : Nat} (I : A0 → A1 → A2 → A3 → A4 → A5 → Prop) (μ : A0 → A1 → A2 → A3 → A4 → A5 → Nat) (LV : A0 → A1 → A2 → A3 → A4 → A5 → List (Nat × Value)) (S : A0 → A1 → A2 → A3 → A4 → A5 → z_St) (body : ∀ a0 a1 a2 a3 a4 a5, I a0 a1 a2 a3 a4 a5 → (∀ b0 b1 b2 b3 b4 b5, I b0 b1 b2 b3 b4 b5 → μ b0 b1 b2 b3 b4 b5 < μ a0 a1 a2 a3 a4 a5 → z_V p l e R s m args below meth c G ce sl Q nL pc (LV b0 b1 b2 b3 b4 b5) st (S b0 b1 b2 b3 b4 b5)) → z_V p l e R s m args below meth c G ce sl Q nL pc (LV a0 a1 a2 a3 a4 a5) st (S a0 a1 a2 a3 a4 a5)) (a0 : A0) ( a1 : A1) ( a2 : A2) ( a3 : A3) ( a4 : A4) ( a5 : A5) (h : I a0 a1 a2 a3 a4 a5) : z_V p l e R s m args below meth c G ce sl Q nL pc (LV a0 a1 a2 a3 a4 a5) st (S a0 a1 a2 a3 a4 a5) :=
  z_lp1 (A := A0 × A1 × A2 × A3 × A4 × A5) (fun q => I q.1 q.2.1 q.2.2.1 q.2.2.2.1 q.2.2.2.2.1 q.2.2.2.2.2) (fun q => μ q.1 q.2.1 q.2.2.1 q.2.2.2.1 q.2.2.2.2.1 q.2.2.2.2.2) (fun q => LV q.1 q.2.1 q.2.2.1 q.2.2.2.1 q.2.2.2.2.1 q.2.2.2.2.2) (fun q => S q.1 q.2.1 q.2.2.1 q.2.2.2.1 q.2.2.2.2.1 q.2.2.2.2.2) (fun q hq ih => body q.1 q.2.1 q.2.2.1 q.2.2.2.1 q.2.2.2.2.1 q.2.2.2.2.2 hq (fun b0 b1 b2 b3 b4 b5 => ih (b0, b1, b2, b3, b4, b5))) (a0, a1, a2, a3, a4, a5) h
end ZR
theorem z_mU_pcx {σ : z_St} {cx cy mo le : Int64} {as_ of_ : Nat → Int64} {v : Int64} : z_ul (z_mU σ cx cy mo le as_ of_) 105 10 v = z_mU σ v cy mo le as_ of_ := by
  unfold z_ul z_mU
  refine Prod.ext rfl ?_
  funext a
  by_cases h : a = 105
  · subst h
    funext k
    simp only [if_true, vp_updL]
    by_cases h2 : k = 10
    · subst h2; simp
    · simp [h2]
  · simp [h]
theorem z_mU_pcy {σ : z_St} {cx cy mo le : Int64} {as_ of_ : Nat → Int64} {v : Int64} : z_ul (z_mU σ cx cy mo le as_ of_) 105 11 v = z_mU σ cx v mo le as_ of_ := by
  unfold z_ul z_mU
  refine Prod.ext rfl ?_
  funext a
  by_cases h : a = 105
  · subst h
    funext k
    simp only [if_true, vp_updL]
    by_cases h2 : k = 11
    · subst h2; simp
    · simp [h2]
  · simp [h]
theorem z_mU_pmo {σ : z_St} {cx cy mo le : Int64} {as_ of_ : Nat → Int64} {v : Int64} : z_ul (z_mU σ cx cy mo le as_ of_) 105 12 v = z_mU σ cx cy v le as_ of_ := by
  unfold z_ul z_mU
  refine Prod.ext rfl ?_
  funext a
  by_cases h : a = 105
  · subst h
    funext k
    simp only [if_true, vp_updL]
    by_cases h2 : k = 12
    · subst h2; simp
    · simp [h2]
  · simp [h]
theorem z_mU_ple {σ : z_St} {cx cy mo le : Int64} {as_ of_ : Nat → Int64} {v : Int64} : z_ul (z_mU σ cx cy mo le as_ of_) 105 13 v = z_mU σ cx cy mo v as_ of_ := by
  unfold z_ul z_mU
  refine Prod.ext rfl ?_
  funext a
  by_cases h : a = 105
  · subst h
    funext k
    simp only [if_true, vp_updL]
    by_cases h2 : k = 13
    · subst h2; simp
    · simp [h2]
  · simp [h]
theorem z_mU_was_ {σ : z_St} {cx cy mo le : Int64} {as_ of_ : Nat → Int64} {j : Nat} {v : Int64} : z_ul (z_mU σ cx cy mo le as_ of_) 109 j v = z_mU σ cx cy mo le (vp_updL as_ j v) of_ := by
  unfold z_ul z_mU
  refine Prod.ext rfl ?_
  funext a
  by_cases h : a = 109
  · subst h; simp
  · simp [h]
theorem z_mU_wof_ {σ : z_St} {cx cy mo le : Int64} {as_ of_ : Nat → Int64} {j : Nat} {v : Int64} : z_ul (z_mU σ cx cy mo le as_ of_) 114 j v = z_mU σ cx cy mo le as_ (vp_updL of_ j v) := by
  unfold z_ul z_mU
  refine Prod.ext rfl ?_
  funext a
  by_cases h : a = 114
  · subst h; simp
  · simp [h]
theorem z_mU_u9 {σ : z_St} {f : Nat → Int64} : z_uL σ 109 f = z_mU σ (σ.2 105 10) (σ.2 105 11) (σ.2 105 12) (σ.2 105 13) f (σ.2 114) := by
  unfold z_mU z_uL
  refine Prod.ext rfl ?_
  funext a
  by_cases h : a = 105
  · subst h
    funext k
    by_cases h6 : k = 10
    · subst h6; simp
    · by_cases h7 : k = 11
      · subst h7; simp
      · by_cases h8 : k = 12
        · subst h8; simp
        · by_cases h9 : k = 13
          · subst h9; simp
          · simp [h6, h7, h8, h9]
  · by_cases h4 : a = 109
    · subst h4; simp
    · by_cases h5 : a = 114
      · subst h5; simp
      · simp [h, h4, h5]
theorem z_mU_gcx {G : z_Gl} {σ : z_St} {cx cy mo le : Int64} {as_ of_ : Nat → Int64} : (z_fl G 105 ((z_mU σ cx cy mo le as_ of_).1 105) ((z_mU σ cx cy mo le as_ of_).2 105) 8)[10]? = some (.long cx) := rfl
theorem z_mU_hcx {G : z_Gl} {X : Nat → Int32} {Y : Nat → Int64} {v : Int64} : 10 < (z_fl G 105 X Y 8).length ∧ (z_fl G 105 X Y 8).set 10 (.long v) = z_fl G 105 X (vp_updL Y 10 v) 8 := ⟨Nat.le_of_ble_eq_true rfl, rfl⟩
theorem z_mU_gcy {G : z_Gl} {σ : z_St} {cx cy mo le : Int64} {as_ of_ : Nat → Int64} : (z_fl G 105 ((z_mU σ cx cy mo le as_ of_).1 105) ((z_mU σ cx cy mo le as_ of_).2 105) 8)[11]? = some (.long cy) := rfl
theorem z_mU_hcy {G : z_Gl} {X : Nat → Int32} {Y : Nat → Int64} {v : Int64} : 11 < (z_fl G 105 X Y 8).length ∧ (z_fl G 105 X Y 8).set 11 (.long v) = z_fl G 105 X (vp_updL Y 11 v) 8 := ⟨Nat.le_of_ble_eq_true rfl, rfl⟩
theorem z_mU_gmo {G : z_Gl} {σ : z_St} {cx cy mo le : Int64} {as_ of_ : Nat → Int64} : (z_fl G 105 ((z_mU σ cx cy mo le as_ of_).1 105) ((z_mU σ cx cy mo le as_ of_).2 105) 8)[12]? = some (.long mo) := rfl
theorem z_mU_hmo {G : z_Gl} {X : Nat → Int32} {Y : Nat → Int64} {v : Int64} : 12 < (z_fl G 105 X Y 8).length ∧ (z_fl G 105 X Y 8).set 12 (.long v) = z_fl G 105 X (vp_updL Y 12 v) 8 := ⟨Nat.le_of_ble_eq_true rfl, rfl⟩
theorem z_mU_gle {G : z_Gl} {σ : z_St} {cx cy mo le : Int64} {as_ of_ : Nat → Int64} : (z_fl G 105 ((z_mU σ cx cy mo le as_ of_).1 105) ((z_mU σ cx cy mo le as_ of_).2 105) 8)[13]? = some (.long le) := rfl
theorem z_mU_hle {G : z_Gl} {X : Nat → Int32} {Y : Nat → Int64} {v : Int64} : 13 < (z_fl G 105 X Y 8).length ∧ (z_fl G 105 X Y 8).set 13 (.long v) = z_fl G 105 X (vp_updL Y 13 v) 8 := ⟨Nat.le_of_ble_eq_true rfl, rfl⟩
theorem z_mU_qas_ {σ : z_St} {cx cy mo le : Int64} {as_ of_ : Nat → Int64} : (z_mU σ cx cy mo le as_ of_).2 109 = as_ := rfl
theorem z_mU_qof_ {σ : z_St} {cx cy mo le : Int64} {as_ of_ : Nat → Int64} : (z_mU σ cx cy mo le as_ of_).2 114 = of_ := rfl
theorem z_mi.mU {σ : z_St} {cx cy mo le : Int64} {as_ of_ : Nat → Int64} {P n u v w rc tl : Nat} (h : z_mi σ P n u v w rc tl) : z_mi (z_mU σ cx cy mo le as_ of_) P n u v w rc tl := h
theorem dX8_off_0 : decode cX8_off 0 = .ok (.lload_n 0, 1) := by decide +kernel
theorem dX8_off_1 : decode cX8_off 1 = .ok (.lload_n 2, 1) := by decide +kernel
theorem dX8_off_2 : decode cX8_off 2 = .ok (.lload 6, 2) := by decide +kernel
theorem dX8_off_4 : decode cX8_off 4 = .ok (.lmul, 1) := by decide +kernel
theorem dX8_off_5 : decode cX8_off 5 = .ok (.lload 4, 2) := by decide +kernel
theorem dX8_off_7 : decode cX8_off 7 = .ok (.lload 8, 2) := by decide +kernel
theorem dX8_off_9 : decode cX8_off 9 = .ok (.lmul, 1) := by decide +kernel
theorem dX8_off_10 : decode cX8_off 10 = .ok (.ladd, 1) := by decide +kernel
theorem dX8_off_11 : decode cX8_off 11 = .ok (.ldc2_w 125, 3) := by decide +kernel
theorem dX8_off_14 : decode cX8_off 14 = .ok (.invokestatic 115, 3) := by decide +kernel
theorem dX8_off_17 : decode cX8_off 17 = .ok (.lsub, 1) := by decide +kernel
theorem dX8_off_18 : decode cX8_off 18 = .ok (.lreturn, 1) := by decide +kernel
set_option maxRecDepth 100000 in
set_option maxHeartbeats 4000000 in
theorem m_X8_off {l : Launch} {G : z_Gl} {σ : z_St} (a1 a2 a3 a4 a5 : Int64) : z_M l G yX8_off cX8_off 10 (some .long) (z_rm 1 25) [.long a1, .long a2, .long a3, .long a4, .long a5] σ (z_p1 (.long (a1 - z_fd (a2 * a4 + a3 * a5) 1000000)) σ) := by
  refine z_M.of (by decide) (Nat.le_of_ble_eq_true rfl) (fun p e s m below meth c C => ?_)
  refine z_sub [0, 1, 2, 3, 4] (lv1 := [(0, .long a1), (2, .long a2), (4, .long a3), (6, .long a4), (8, .long a5)]) rfl ?_
  refine z_lload_n 0 C dX8_off_0 0 rfl ?_
  refine z_lload_n 1 C dX8_off_1 1 rfl ?_
  refine z_lload 2 C dX8_off_2 3 rfl ?_
  refine z_lmul 4 C dX8_off_4 ?_
  refine z_lload 5 C dX8_off_5 2 rfl ?_
  refine z_lload 7 C dX8_off_7 4 rfl ?_
  refine z_lmul 9 C dX8_off_9 ?_
  refine z_ladd 10 C dX8_off_10 ?_
  refine z_ldc2 11 C dX8_off_11 q1139 ?_
  refine z_callS 14 C (As := [.long ((a2 * a4) + (a3 * a5)), .long 1000000]) (rest := [.long a1]) (m_X8_down ((a2 * a4) + (a3 * a5)) 1000000 (by decide)) k_X8_down q1116 ⟨rfl, rfl⟩ ⟨Nat.le_of_ble_eq_true rfl, Nat.le_of_ble_eq_true rfl⟩ rfl (Nat.le_of_ble_eq_true rfl) ⟨Nat.le_of_ble_eq_true rfl, Nat.le_of_ble_eq_true rfl⟩ rfl dX8_off_14 (z_k1 ?_)
  refine z_lsub 17 C dX8_off_17 ?_
  refine z_lret 18 C dX8_off_18 ?_
  exact ⟨rfl, rfl⟩
theorem dX8_offAt_0 : decode cX8_offAt 0 = .ok (.aload_n 1, 1) := by decide +kernel
theorem dX8_offAt_1 : decode cX8_offAt 1 = .ok (.iload_n 2, 1) := by decide +kernel
theorem dX8_offAt_2 : decode cX8_offAt 2 = .ok (.iload_n 3, 1) := by decide +kernel
theorem dX8_offAt_3 : decode cX8_offAt 3 = .ok (.iadd, 1) := by decide +kernel
theorem dX8_offAt_4 : decode cX8_offAt 4 = .ok (.laload, 1) := by decide +kernel
theorem dX8_offAt_5 : decode cX8_offAt 5 = .ok (.lload 4, 2) := by decide +kernel
theorem dX8_offAt_7 : decode cX8_offAt 7 = .ok (.lload 6, 2) := by decide +kernel
theorem dX8_offAt_9 : decode cX8_offAt 9 = .ok (.aload_n 0, 1) := by decide +kernel
theorem dX8_offAt_10 : decode cX8_offAt 10 = .ok (.iload_n 3, 1) := by decide +kernel
theorem dX8_offAt_11 : decode cX8_offAt 11 = .ok (.invokevirtual 76, 3) := by decide +kernel
theorem dX8_offAt_14 : decode cX8_offAt 14 = .ok (.aload_n 0, 1) := by decide +kernel
theorem dX8_offAt_15 : decode cX8_offAt 15 = .ok (.iload_n 3, 1) := by decide +kernel
theorem dX8_offAt_16 : decode cX8_offAt 16 = .ok (.invokevirtual 161, 3) := by decide +kernel
theorem dX8_offAt_19 : decode cX8_offAt 19 = .ok (.invokestatic 195, 3) := by decide +kernel
theorem dX8_offAt_22 : decode cX8_offAt 22 = .ok (.lreturn, 1) := by decide +kernel
set_option maxRecDepth 100000 in
set_option maxHeartbeats 4000000 in
theorem m_X8_offAt {l : Launch} {G : z_Gl} {σ : z_St} (P n u v w rc tl : Nat) (hM : z_mi σ P n u v w rc tl) (r f k sz : Nat) (x y : Int64) (zr : Nat → Int64) (hr : z_kd r = 2 ∧ z_sz r = sz) (hf : f + 24 ≤ sz) (hsz : sz ≤ 480) (hk : k < 24) (hz : σ.2 r = zr) : z_M l G yX8_offAt cX8_offAt 8 (some .long) (z_rm 3 64) [.ref (z_ad G 105), .ref (z_ad G r), .int (nI f), .int (nI k), .long x, .long y] σ (z_p1 (.long (z_df (z_sh zr f) x y k)) σ) := by
  refine z_M.of (by decide) (Nat.le_of_ble_eq_true rfl) (fun p e s m below meth c C => ?_)
  refine z_sub [0, 1, 2, 3, 4, 5] (lv1 := [(0, .ref (z_ad G 105)), (1, .ref (z_ad G r)), (2, .int (nI f)), (3, .int (nI k)), (4, .long x), (6, .long y)]) rfl ?_
  have hM0 := hM
  obtain ⟨⟨hP, hn, hu, hv, hw, hrc, htl⟩, hPs, hnP, huv, hw6, hrc8, htl2, hqt, hah⟩ := hM0
  have h0 : 0 < P := by omega
  have h12 : P ≤ 12 := by omega
  have h288 : n ≤ 288 := by omega
  refine z_aload_n 0 C dX8_offAt_0 1 rfl ?_
  refine z_iload_n 1 C dX8_offAt_1 2 rfl ?_
  refine z_iload_n 2 C dX8_offAt_2 3 rfl ?_
  refine z_iaddN 3 C f k rfl rfl dX8_offAt_3 ?_
  refine z_laldN 4 C r (n := sz) (hr) (f + k) rfl (by omega) (by omega) dX8_offAt_4 ?_
  refine z_cv (lv1 := [(0, .ref (z_ad G 105)), (1, .ref (z_ad G r)), (2, .int (nI f)), (3, .int (nI k)), (4, .long x), (6, .long y)]) (st1 := [.long (zr (f + k))]) (σ1 := σ) rfl (by rw [hz]) rfl ?_
  refine z_lload 5 C dX8_offAt_5 4 rfl ?_
  refine z_lload 7 C dX8_offAt_7 5 rfl ?_
  refine z_aload_n 9 C dX8_offAt_9 0 rfl ?_
  refine z_iload_n 10 C dX8_offAt_10 3 rfl ?_
  refine z_callV 11 C 105 (⟨rfl, rfl⟩) rfl (As := [.int (nI k)]) (rest := [.long y, .long x, .long (zr (f + k))]) (m_X8_cosine_n P n u v w rc tl hM k (by omega)) k_X8_cosine q1203 ⟨rfl, rfl⟩ ⟨Nat.le_of_ble_eq_true rfl, Nat.le_of_ble_eq_true rfl⟩ rfl (Nat.le_of_ble_eq_true rfl) ⟨Nat.le_of_ble_eq_true rfl, Nat.le_of_ble_eq_true rfl⟩ rfl dX8_offAt_11 (z_k1 ?_)
  refine z_aload_n 14 C dX8_offAt_14 0 rfl ?_
  refine z_iload_n 15 C dX8_offAt_15 3 rfl ?_
  refine z_callV 16 C 105 (⟨rfl, rfl⟩) rfl (As := [.int (nI k)]) (rest := [.long (Int32.toInt64 (z_tv 0 (k % 24))), .long y, .long x, .long (zr (f + k))]) (m_X8_sine P n u v w rc tl hM k (by omega)) k_X8_sine q1199 ⟨rfl, rfl⟩ ⟨Nat.le_of_ble_eq_true rfl, Nat.le_of_ble_eq_true rfl⟩ rfl (Nat.le_of_ble_eq_true rfl) ⟨Nat.le_of_ble_eq_true rfl, Nat.le_of_ble_eq_true rfl⟩ rfl dX8_offAt_16 (z_k1 ?_)
  refine z_callS 19 C (As := [.long (zr (f + k)), .long x, .long y, .long (Int32.toInt64 (z_tv 0 (k % 24))), .long (Int32.toInt64 (z_tv 1 (k % 24)))]) (rest := []) (m_X8_off (zr (f + k)) x y (Int32.toInt64 (z_tv 0 (k % 24))) (Int32.toInt64 (z_tv 1 (k % 24)))) k_X8_off q1282 ⟨rfl, rfl⟩ ⟨Nat.le_of_ble_eq_true rfl, Nat.le_of_ble_eq_true rfl⟩ rfl (Nat.le_of_ble_eq_true rfl) ⟨Nat.le_of_ble_eq_true rfl, Nat.le_of_ble_eq_true rfl⟩ rfl dX8_offAt_19 (z_k1 ?_)
  refine z_lret 22 C dX8_offAt_22 ?_
  exact ⟨rfl, rfl⟩
theorem dX8_findEnds_0 : decode cX8_findEnds 0 = .ok (.aload_n 0, 1) := by decide +kernel
theorem dX8_findEnds_1 : decode cX8_findEnds 1 = .ok (.aload_n 0, 1) := by decide +kernel
theorem dX8_findEnds_2 : decode cX8_findEnds 2 = .ok (.aload_n 1, 1) := by decide +kernel
theorem dX8_findEnds_3 : decode cX8_findEnds 3 = .ok (.iload_n 2, 1) := by decide +kernel
theorem dX8_findEnds_4 : decode cX8_findEnds 4 = .ok (.iconst 0, 1) := by decide +kernel
theorem dX8_findEnds_5 : decode cX8_findEnds 5 = .ok (.lload_n 3, 1) := by decide +kernel
theorem dX8_findEnds_6 : decode cX8_findEnds 6 = .ok (.lload 5, 2) := by decide +kernel
theorem dX8_findEnds_8 : decode cX8_findEnds 8 = .ok (.invokevirtual 199, 3) := by decide +kernel
theorem dX8_findEnds_11 : decode cX8_findEnds 11 = .ok (.putfield 203, 3) := by decide +kernel
theorem dX8_findEnds_14 : decode cX8_findEnds 14 = .ok (.aload_n 0, 1) := by decide +kernel
theorem dX8_findEnds_15 : decode cX8_findEnds 15 = .ok (.aload_n 0, 1) := by decide +kernel
theorem dX8_findEnds_16 : decode cX8_findEnds 16 = .ok (.getfield 203, 3) := by decide +kernel
theorem dX8_findEnds_19 : decode cX8_findEnds 19 = .ok (.putfield 207, 3) := by decide +kernel
theorem dX8_findEnds_22 : decode cX8_findEnds 22 = .ok (.iconst 1, 1) := by decide +kernel
theorem dX8_findEnds_23 : decode cX8_findEnds 23 = .ok (.istore 7, 2) := by decide +kernel
theorem dX8_findEnds_25 : decode cX8_findEnds 25 = .ok (.iload 7, 2) := by decide +kernel
theorem dX8_findEnds_27 : decode cX8_findEnds 27 = .ok (.bipush 24, 2) := by decide +kernel
theorem dX8_findEnds_29 : decode cX8_findEnds 29 = .ok (.if_icmp .ge 68, 3) := by decide +kernel
theorem dX8_findEnds_32 : decode cX8_findEnds 32 = .ok (.aload_n 0, 1) := by decide +kernel
theorem dX8_findEnds_33 : decode cX8_findEnds 33 = .ok (.aload_n 1, 1) := by decide +kernel
theorem dX8_findEnds_34 : decode cX8_findEnds 34 = .ok (.iload_n 2, 1) := by decide +kernel
theorem dX8_findEnds_35 : decode cX8_findEnds 35 = .ok (.iload 7, 2) := by decide +kernel
theorem dX8_findEnds_37 : decode cX8_findEnds 37 = .ok (.lload_n 3, 1) := by decide +kernel
theorem dX8_findEnds_38 : decode cX8_findEnds 38 = .ok (.lload 5, 2) := by decide +kernel
theorem dX8_findEnds_40 : decode cX8_findEnds 40 = .ok (.invokevirtual 199, 3) := by decide +kernel
theorem dX8_findEnds_43 : decode cX8_findEnds 43 = .ok (.lstore 8, 2) := by decide +kernel
theorem dX8_findEnds_45 : decode cX8_findEnds 45 = .ok (.aload_n 0, 1) := by decide +kernel
theorem dX8_findEnds_46 : decode cX8_findEnds 46 = .ok (.lload 8, 2) := by decide +kernel
theorem dX8_findEnds_48 : decode cX8_findEnds 48 = .ok (.aload_n 0, 1) := by decide +kernel
theorem dX8_findEnds_49 : decode cX8_findEnds 49 = .ok (.getfield 203, 3) := by decide +kernel
theorem dX8_findEnds_52 : decode cX8_findEnds 52 = .ok (.lcmp, 1) := by decide +kernel
theorem dX8_findEnds_53 : decode cX8_findEnds 53 = .ok (.ifCond .le 8, 3) := by decide +kernel
theorem dX8_findEnds_56 : decode cX8_findEnds 56 = .ok (.lload 8, 2) := by decide +kernel
theorem dX8_findEnds_58 : decode cX8_findEnds 58 = .ok (.goto 7, 3) := by decide +kernel
theorem dX8_findEnds_61 : decode cX8_findEnds 61 = .ok (.aload_n 0, 1) := by decide +kernel
theorem dX8_findEnds_62 : decode cX8_findEnds 62 = .ok (.getfield 203, 3) := by decide +kernel
theorem dX8_findEnds_65 : decode cX8_findEnds 65 = .ok (.putfield 203, 3) := by decide +kernel
theorem dX8_findEnds_68 : decode cX8_findEnds 68 = .ok (.aload_n 0, 1) := by decide +kernel
theorem dX8_findEnds_69 : decode cX8_findEnds 69 = .ok (.lload 8, 2) := by decide +kernel
theorem dX8_findEnds_71 : decode cX8_findEnds 71 = .ok (.aload_n 0, 1) := by decide +kernel
theorem dX8_findEnds_72 : decode cX8_findEnds 72 = .ok (.getfield 207, 3) := by decide +kernel
theorem dX8_findEnds_75 : decode cX8_findEnds 75 = .ok (.lcmp, 1) := by decide +kernel
theorem dX8_findEnds_76 : decode cX8_findEnds 76 = .ok (.ifCond .ge 8, 3) := by decide +kernel
theorem dX8_findEnds_79 : decode cX8_findEnds 79 = .ok (.lload 8, 2) := by decide +kernel
theorem dX8_findEnds_81 : decode cX8_findEnds 81 = .ok (.goto 7, 3) := by decide +kernel
theorem dX8_findEnds_84 : decode cX8_findEnds 84 = .ok (.aload_n 0, 1) := by decide +kernel
theorem dX8_findEnds_85 : decode cX8_findEnds 85 = .ok (.getfield 207, 3) := by decide +kernel
theorem dX8_findEnds_88 : decode cX8_findEnds 88 = .ok (.putfield 207, 3) := by decide +kernel
theorem dX8_findEnds_91 : decode cX8_findEnds 91 = .ok (.iinc 7 1, 3) := by decide +kernel
theorem dX8_findEnds_94 : decode cX8_findEnds 94 = .ok (.goto (-69), 3) := by decide +kernel
theorem dX8_findEnds_97 : decode cX8_findEnds 97 = .ok (.return_, 1) := by decide +kernel
set_option maxRecDepth 100000 in
set_option maxHeartbeats 4000000 in
theorem m_X8_findEnds {l : Launch} {G : z_Gl} {σ : z_St} (P n u v w rc tl : Nat) (hM : z_mi σ P n u v w rc tl) (cx cy mo le : Int64) (as_ of_ : Nat → Int64) (r f sz : Nat) (x y : Int64) (zr : Nat → Int64) (hr : z_kd r = 2 ∧ z_sz r = sz) (hf : f + 24 ≤ sz) (hsz : sz ≤ 480) (hz : ∀ cx cy mo le, (z_mU σ cx cy mo le as_ of_).2 r = zr) : z_M l G yX8_findEnds cX8_findEnds 10 none (z_rm 4 91) [.ref (z_ad G 105), .ref (z_ad G r), .int (nI f), .long x, .long y] (z_mU σ cx cy mo le as_ of_) (z_p0 (z_mU σ cx cy (z_fmx (z_df (z_sh zr f) x y) (-9223372036854775808) 24) (z_fmn (z_df (z_sh zr f) x y) 9223372036854775807 24) as_ of_)) := by
  refine z_M.of (by decide) (Nat.le_of_ble_eq_true rfl) (fun p e s m below meth c C => ?_)
  refine z_sub [0, 1, 2, 3, 4] (lv1 := [(0, .ref (z_ad G 105)), (1, .ref (z_ad G r)), (2, .int (nI f)), (3, .long x), (5, .long y)]) rfl ?_
  have hM0 := hM
  obtain ⟨⟨hP, hn, hu, hv, hw, hrc, htl⟩, hPs, hnP, huv, hw6, hrc8, htl2, hqt, hah⟩ := hM0
  have h0 : 0 < P := by omega
  have h12 : P ≤ 12 := by omega
  have h288 : n ≤ 288 := by omega
  refine z_aload_n 0 C dX8_findEnds_0 0 rfl ?_
  refine z_aload_n 1 C dX8_findEnds_1 0 rfl ?_
  refine z_aload_n 2 C dX8_findEnds_2 1 rfl ?_
  refine z_iload_n 3 C dX8_findEnds_3 2 rfl ?_
  refine z_iconst 4 C dX8_findEnds_4 (nI 0) rfl ?_
  refine z_lload_n 5 C dX8_findEnds_5 3 rfl ?_
  refine z_lload 6 C dX8_findEnds_6 4 rfl ?_
  refine z_callV 8 C 105 (⟨rfl, rfl⟩) rfl (As := [.ref (z_ad G r), .int (nI f), .int (nI 0), .long x, .long y]) (rest := [.ref (z_ad G 105)]) (m_X8_offAt (σ := z_mU σ cx cy mo le as_ of_) P n u v w rc tl hM.mU r f 0 sz x y zr (hr) (by omega) (by omega) (by omega) (hz _ _ _ _)) k_X8_offAt q1278 ⟨rfl, rfl⟩ ⟨Nat.le_of_ble_eq_true rfl, Nat.le_of_ble_eq_true rfl⟩ rfl (Nat.le_of_ble_eq_true rfl) ⟨Nat.le_of_ble_eq_true rfl, Nat.le_of_ble_eq_true rfl⟩ rfl dX8_findEnds_8 (z_k1 ?_)
  refine z_putl 11 C 105 z_dX8 (⟨rfl, rfl⟩) 12 (by decide) q978 rfl (rfl) rfl z_mU_hmo dX8_findEnds_11 ?_
  refine z_cv (σ1 := z_mU σ cx cy (z_df (z_sh zr f) x y 0) le as_ of_) rfl rfl z_mU_pmo ?_
  refine z_aload_n 14 C dX8_findEnds_14 0 rfl ?_
  refine z_aload_n 15 C dX8_findEnds_15 0 rfl ?_
  refine z_getf 16 C 105 z_dX8 (⟨rfl, rfl⟩) 12 (by decide) q978 (.long (z_df (z_sh zr f) x y 0)) z_mU_gmo dX8_findEnds_16 ?_
  refine z_putl 19 C 105 z_dX8 (⟨rfl, rfl⟩) 13 (by decide) q979 rfl (rfl) rfl z_mU_hle dX8_findEnds_19 ?_
  refine z_cv (σ1 := z_mU σ cx cy (z_df (z_sh zr f) x y 0) (z_df (z_sh zr f) x y 0) as_ of_) rfl rfl z_mU_ple ?_
  refine z_iconst 22 C dX8_findEnds_22 (nI 1) rfl ?_
  refine z_istore 23 C dX8_findEnds_23 [(7, .int (nI 1)), (0, .ref (z_ad G 105)), (1, .ref (z_ad G r)), (2, .int (nI f)), (3, .long x), (5, .long y)] (by decide) rfl ?_
  refine z_sub [1, 2, 3, 4, 5, 0] (lv1 := [(0, .ref (z_ad G 105)), (1, .ref (z_ad G r)), (2, .int (nI f)), (3, .long x), (5, .long y), (7, .int (nI 1))]) rfl ?_
  refine z_cv (lv1 := [(0, .ref (z_ad G 105)), (1, .ref (z_ad G r)), (2, .int (nI f)), (3, .long x), (5, .long y), (7, .int (nI 1))]) (st1 := []) (σ1 := z_mU σ cx cy (z_fmx (z_df (z_sh zr f) x y) (-9223372036854775808) 1) (z_fmn (z_df (z_sh zr f) x y) 9223372036854775807 1) as_ of_) rfl rfl (by rw [← (zm_f1 (z_df (z_sh zr f) x y)).1, ← (zm_f1 (z_df (z_sh zr f) x y)).2]) ?_
  refine z_lp1 (fun (k : Nat) => 1 ≤ k ∧ k ≤ 24) (fun (k : Nat) => 24 - k) (fun (k : Nat) => [(0, .ref (z_ad G 105)), (1, .ref (z_ad G r)), (2, .int (nI f)), (3, .long x), (5, .long y), (7, .int (nI k))]) (fun (k : Nat) => z_mU σ cx cy (z_fmx (z_df (z_sh zr f) x y) (-9223372036854775808) k) (z_fmn (z_df (z_sh zr f) x y) 9223372036854775807 k) as_ of_) (fun k hi_25 ih_25 => ?_) 1 (by omega)
  try dsimp only
  refine z_iload 25 C dX8_findEnds_25 5 rfl ?_
  refine z_bipush 27 C dX8_findEnds_27 (nI 24) rfl ?_
  refine z_icmp_geN 29 C k 24 rfl rfl (by omega) (by omega) 97 dX8_findEnds_29 (by decide) (fun c29 => ?_) (fun c29 => ?_)
  · skip
    have ek : k = 24 := by omega
    subst ek
    refine z_vret 97 C dX8_findEnds_97 ?_
    exact ⟨rfl, rfl⟩
  · skip
    refine z_aload_n 32 C dX8_findEnds_32 0 rfl ?_
    refine z_aload_n 33 C dX8_findEnds_33 1 rfl ?_
    refine z_iload_n 34 C dX8_findEnds_34 2 rfl ?_
    refine z_iload 35 C dX8_findEnds_35 5 rfl ?_
    refine z_lload_n 37 C dX8_findEnds_37 3 rfl ?_
    refine z_lload 38 C dX8_findEnds_38 4 rfl ?_
    refine z_callV 40 C 105 (⟨rfl, rfl⟩) rfl (As := [.ref (z_ad G r), .int (nI f), .int (nI k), .long x, .long y]) (rest := []) (m_X8_offAt (σ := z_mU σ cx cy (z_fmx (z_df (z_sh zr f) x y) (-9223372036854775808) k) (z_fmn (z_df (z_sh zr f) x y) 9223372036854775807 k) as_ of_) P n u v w rc tl hM.mU r f k sz x y zr (hr) (by omega) (by omega) (by omega) (hz _ _ _ _)) k_X8_offAt q1278 ⟨rfl, rfl⟩ ⟨Nat.le_of_ble_eq_true rfl, Nat.le_of_ble_eq_true rfl⟩ rfl (Nat.le_of_ble_eq_true rfl) ⟨Nat.le_of_ble_eq_true rfl, Nat.le_of_ble_eq_true rfl⟩ rfl dX8_findEnds_40 (z_k1 ?_)
    refine z_lstore 43 C dX8_findEnds_43 [(8, .long (z_df (z_sh zr f) x y k)), (0, .ref (z_ad G 105)), (1, .ref (z_ad G r)), (2, .int (nI f)), (3, .long x), (5, .long y), (7, .int (nI k))] (by decide) rfl ?_
    refine z_aload_n 45 C dX8_findEnds_45 1 rfl ?_
    refine z_lload 46 C dX8_findEnds_46 0 rfl ?_
    refine z_aload_n 48 C dX8_findEnds_48 1 rfl ?_
    refine z_getf 49 C 105 z_dX8 (⟨rfl, rfl⟩) 12 (by decide) q978 (.long (z_fmx (z_df (z_sh zr f) x y) (-9223372036854775808) k)) z_mU_gmo dX8_findEnds_49 ?_
    refine z_lcmp_le 52 C 61 dX8_findEnds_52 dX8_findEnds_53 (by decide) (fun c52 => ?_) (fun c52 => ?_)
    · skip
      refine z_aload_n 61 C dX8_findEnds_61 1 rfl ?_
      refine z_getf 62 C 105 z_dX8 (⟨rfl, rfl⟩) 12 (by decide) q978 (.long (z_fmx (z_df (z_sh zr f) x y) (-9223372036854775808) k)) z_mU_gmo dX8_findEnds_62 ?_
      refine z_putl 65 C 105 z_dX8 (⟨rfl, rfl⟩) 12 (by decide) q978 rfl (rfl) rfl z_mU_hmo dX8_findEnds_65 ?_
      refine z_cv (σ1 := z_mU σ cx cy (z_fmx (z_df (z_sh zr f) x y) (-9223372036854775808) k) (z_fmn (z_df (z_sh zr f) x y) 9223372036854775807 k) as_ of_) rfl rfl z_mU_pmo ?_
      refine z_aload_n 68 C dX8_findEnds_68 1 rfl ?_
      refine z_lload 69 C dX8_findEnds_69 0 rfl ?_
      refine z_aload_n 71 C dX8_findEnds_71 1 rfl ?_
      refine z_getf 72 C 105 z_dX8 (⟨rfl, rfl⟩) 13 (by decide) q979 (.long (z_fmn (z_df (z_sh zr f) x y) 9223372036854775807 k)) z_mU_gle dX8_findEnds_72 ?_
      refine z_lcmp_ge 75 C 84 dX8_findEnds_75 dX8_findEnds_76 (by decide) (fun c75 => ?_) (fun c75 => ?_)
      · skip
        refine z_aload_n 84 C dX8_findEnds_84 1 rfl ?_
        refine z_getf 85 C 105 z_dX8 (⟨rfl, rfl⟩) 13 (by decide) q979 (.long (z_fmn (z_df (z_sh zr f) x y) 9223372036854775807 k)) z_mU_gle dX8_findEnds_85 ?_
        refine z_putl 88 C 105 z_dX8 (⟨rfl, rfl⟩) 13 (by decide) q979 rfl (rfl) rfl z_mU_hle dX8_findEnds_88 ?_
        refine z_cv (σ1 := z_mU σ cx cy (z_fmx (z_df (z_sh zr f) x y) (-9223372036854775808) k) (z_fmn (z_df (z_sh zr f) x y) 9223372036854775807 k) as_ of_) rfl rfl z_mU_ple ?_
        refine z_iincN 91 C 6 k [(7, .int (nI (k + 1))), (8, .long (z_df (z_sh zr f) x y k)), (0, .ref (z_ad G 105)), (1, .ref (z_ad G r)), (2, .int (nI f)), (3, .long x), (5, .long y)] rfl rfl (by decide) rfl dX8_findEnds_91 ?_
        refine z_goto 94 C 25 dX8_findEnds_94 (by decide) ?_
        refine z_sub [2, 3, 4, 5, 6, 0] (lv1 := [(0, .ref (z_ad G 105)), (1, .ref (z_ad G r)), (2, .int (nI f)), (3, .long x), (5, .long y), (7, .int (nI (k + 1)))]) rfl ?_
        refine z_cv (lv1 := [(0, .ref (z_ad G 105)), (1, .ref (z_ad G r)), (2, .int (nI f)), (3, .long x), (5, .long y), (7, .int (nI (k + 1)))]) (st1 := []) (σ1 := z_mU σ cx cy (z_fmx (z_df (z_sh zr f) x y) (-9223372036854775808) (k + 1)) (z_fmn (z_df (z_sh zr f) x y) 9223372036854775807 (k + 1)) as_ of_) rfl rfl (by rw [show z_fmx (z_df (z_sh zr f) x y) (-9223372036854775808) (k + 1) = z_mx (z_fmx (z_df (z_sh zr f) x y) (-9223372036854775808) k) (z_df (z_sh zr f) x y k) from rfl, show z_fmn (z_df (z_sh zr f) x y) 9223372036854775807 (k + 1) = z_mn (z_fmn (z_df (z_sh zr f) x y) 9223372036854775807 k) (z_df (z_sh zr f) x y k) from rfl]; first | rw [← z_mx_0 c52, ← z_mn_0 c75] | rw [← z_mx_1 c52, ← z_mn_0 c75] | rw [← z_mx_0 c52, ← z_mn_1 c75] | rw [← z_mx_1 c52, ← z_mn_1 c75]) ?_
        exact ih_25 (k + 1) (by omega) (by omega)
      · skip
        refine z_lload 79 C dX8_findEnds_79 0 rfl ?_
        refine z_goto 81 C 88 dX8_findEnds_81 (by decide) ?_
        refine z_putl 88 C 105 z_dX8 (⟨rfl, rfl⟩) 13 (by decide) q979 rfl (rfl) rfl z_mU_hle dX8_findEnds_88 ?_
        refine z_cv (σ1 := z_mU σ cx cy (z_fmx (z_df (z_sh zr f) x y) (-9223372036854775808) k) (z_df (z_sh zr f) x y k) as_ of_) rfl rfl z_mU_ple ?_
        refine z_iincN 91 C 6 k [(7, .int (nI (k + 1))), (8, .long (z_df (z_sh zr f) x y k)), (0, .ref (z_ad G 105)), (1, .ref (z_ad G r)), (2, .int (nI f)), (3, .long x), (5, .long y)] rfl rfl (by decide) rfl dX8_findEnds_91 ?_
        refine z_goto 94 C 25 dX8_findEnds_94 (by decide) ?_
        refine z_sub [2, 3, 4, 5, 6, 0] (lv1 := [(0, .ref (z_ad G 105)), (1, .ref (z_ad G r)), (2, .int (nI f)), (3, .long x), (5, .long y), (7, .int (nI (k + 1)))]) rfl ?_
        refine z_cv (lv1 := [(0, .ref (z_ad G 105)), (1, .ref (z_ad G r)), (2, .int (nI f)), (3, .long x), (5, .long y), (7, .int (nI (k + 1)))]) (st1 := []) (σ1 := z_mU σ cx cy (z_fmx (z_df (z_sh zr f) x y) (-9223372036854775808) (k + 1)) (z_fmn (z_df (z_sh zr f) x y) 9223372036854775807 (k + 1)) as_ of_) rfl rfl (by rw [show z_fmx (z_df (z_sh zr f) x y) (-9223372036854775808) (k + 1) = z_mx (z_fmx (z_df (z_sh zr f) x y) (-9223372036854775808) k) (z_df (z_sh zr f) x y k) from rfl, show z_fmn (z_df (z_sh zr f) x y) 9223372036854775807 (k + 1) = z_mn (z_fmn (z_df (z_sh zr f) x y) 9223372036854775807 k) (z_df (z_sh zr f) x y k) from rfl]; first | rw [← z_mx_0 c52, ← z_mn_0 c75] | rw [← z_mx_1 c52, ← z_mn_0 c75] | rw [← z_mx_0 c52, ← z_mn_1 c75] | rw [← z_mx_1 c52, ← z_mn_1 c75]) ?_
        exact ih_25 (k + 1) (by omega) (by omega)
    · skip
      refine z_lload 56 C dX8_findEnds_56 0 rfl ?_
      refine z_goto 58 C 65 dX8_findEnds_58 (by decide) ?_
      refine z_putl 65 C 105 z_dX8 (⟨rfl, rfl⟩) 12 (by decide) q978 rfl (rfl) rfl z_mU_hmo dX8_findEnds_65 ?_
      refine z_cv (σ1 := z_mU σ cx cy (z_df (z_sh zr f) x y k) (z_fmn (z_df (z_sh zr f) x y) 9223372036854775807 k) as_ of_) rfl rfl z_mU_pmo ?_
      refine z_aload_n 68 C dX8_findEnds_68 1 rfl ?_
      refine z_lload 69 C dX8_findEnds_69 0 rfl ?_
      refine z_aload_n 71 C dX8_findEnds_71 1 rfl ?_
      refine z_getf 72 C 105 z_dX8 (⟨rfl, rfl⟩) 13 (by decide) q979 (.long (z_fmn (z_df (z_sh zr f) x y) 9223372036854775807 k)) z_mU_gle dX8_findEnds_72 ?_
      refine z_lcmp_ge 75 C 84 dX8_findEnds_75 dX8_findEnds_76 (by decide) (fun c75 => ?_) (fun c75 => ?_)
      · skip
        refine z_aload_n 84 C dX8_findEnds_84 1 rfl ?_
        refine z_getf 85 C 105 z_dX8 (⟨rfl, rfl⟩) 13 (by decide) q979 (.long (z_fmn (z_df (z_sh zr f) x y) 9223372036854775807 k)) z_mU_gle dX8_findEnds_85 ?_
        refine z_putl 88 C 105 z_dX8 (⟨rfl, rfl⟩) 13 (by decide) q979 rfl (rfl) rfl z_mU_hle dX8_findEnds_88 ?_
        refine z_cv (σ1 := z_mU σ cx cy (z_df (z_sh zr f) x y k) (z_fmn (z_df (z_sh zr f) x y) 9223372036854775807 k) as_ of_) rfl rfl z_mU_ple ?_
        refine z_iincN 91 C 6 k [(7, .int (nI (k + 1))), (8, .long (z_df (z_sh zr f) x y k)), (0, .ref (z_ad G 105)), (1, .ref (z_ad G r)), (2, .int (nI f)), (3, .long x), (5, .long y)] rfl rfl (by decide) rfl dX8_findEnds_91 ?_
        refine z_goto 94 C 25 dX8_findEnds_94 (by decide) ?_
        refine z_sub [2, 3, 4, 5, 6, 0] (lv1 := [(0, .ref (z_ad G 105)), (1, .ref (z_ad G r)), (2, .int (nI f)), (3, .long x), (5, .long y), (7, .int (nI (k + 1)))]) rfl ?_
        refine z_cv (lv1 := [(0, .ref (z_ad G 105)), (1, .ref (z_ad G r)), (2, .int (nI f)), (3, .long x), (5, .long y), (7, .int (nI (k + 1)))]) (st1 := []) (σ1 := z_mU σ cx cy (z_fmx (z_df (z_sh zr f) x y) (-9223372036854775808) (k + 1)) (z_fmn (z_df (z_sh zr f) x y) 9223372036854775807 (k + 1)) as_ of_) rfl rfl (by rw [show z_fmx (z_df (z_sh zr f) x y) (-9223372036854775808) (k + 1) = z_mx (z_fmx (z_df (z_sh zr f) x y) (-9223372036854775808) k) (z_df (z_sh zr f) x y k) from rfl, show z_fmn (z_df (z_sh zr f) x y) 9223372036854775807 (k + 1) = z_mn (z_fmn (z_df (z_sh zr f) x y) 9223372036854775807 k) (z_df (z_sh zr f) x y k) from rfl]; first | rw [← z_mx_0 c52, ← z_mn_0 c75] | rw [← z_mx_1 c52, ← z_mn_0 c75] | rw [← z_mx_0 c52, ← z_mn_1 c75] | rw [← z_mx_1 c52, ← z_mn_1 c75]) ?_
        exact ih_25 (k + 1) (by omega) (by omega)
      · skip
        refine z_lload 79 C dX8_findEnds_79 0 rfl ?_
        refine z_goto 81 C 88 dX8_findEnds_81 (by decide) ?_
        refine z_putl 88 C 105 z_dX8 (⟨rfl, rfl⟩) 13 (by decide) q979 rfl (rfl) rfl z_mU_hle dX8_findEnds_88 ?_
        refine z_cv (σ1 := z_mU σ cx cy (z_df (z_sh zr f) x y k) (z_df (z_sh zr f) x y k) as_ of_) rfl rfl z_mU_ple ?_
        refine z_iincN 91 C 6 k [(7, .int (nI (k + 1))), (8, .long (z_df (z_sh zr f) x y k)), (0, .ref (z_ad G 105)), (1, .ref (z_ad G r)), (2, .int (nI f)), (3, .long x), (5, .long y)] rfl rfl (by decide) rfl dX8_findEnds_91 ?_
        refine z_goto 94 C 25 dX8_findEnds_94 (by decide) ?_
        refine z_sub [2, 3, 4, 5, 6, 0] (lv1 := [(0, .ref (z_ad G 105)), (1, .ref (z_ad G r)), (2, .int (nI f)), (3, .long x), (5, .long y), (7, .int (nI (k + 1)))]) rfl ?_
        refine z_cv (lv1 := [(0, .ref (z_ad G 105)), (1, .ref (z_ad G r)), (2, .int (nI f)), (3, .long x), (5, .long y), (7, .int (nI (k + 1)))]) (st1 := []) (σ1 := z_mU σ cx cy (z_fmx (z_df (z_sh zr f) x y) (-9223372036854775808) (k + 1)) (z_fmn (z_df (z_sh zr f) x y) 9223372036854775807 (k + 1)) as_ of_) rfl rfl (by rw [show z_fmx (z_df (z_sh zr f) x y) (-9223372036854775808) (k + 1) = z_mx (z_fmx (z_df (z_sh zr f) x y) (-9223372036854775808) k) (z_df (z_sh zr f) x y k) from rfl, show z_fmn (z_df (z_sh zr f) x y) 9223372036854775807 (k + 1) = z_mn (z_fmn (z_df (z_sh zr f) x y) 9223372036854775807 k) (z_df (z_sh zr f) x y k) from rfl]; first | rw [← z_mx_0 c52, ← z_mn_0 c75] | rw [← z_mx_1 c52, ← z_mn_0 c75] | rw [← z_mx_0 c52, ← z_mn_1 c75] | rw [← z_mx_1 c52, ← z_mn_1 c75]) ?_
        exact ih_25 (k + 1) (by omega) (by omega)
theorem dX8_valueBy_0 : decode cX8_valueBy 0 = .ok (.aload_n 0, 1) := by decide +kernel
theorem dX8_valueBy_1 : decode cX8_valueBy 1 = .ok (.aload_n 1, 1) := by decide +kernel
theorem dX8_valueBy_2 : decode cX8_valueBy 2 = .ok (.iconst 0, 1) := by decide +kernel
theorem dX8_valueBy_3 : decode cX8_valueBy 3 = .ok (.lload_n 3, 1) := by decide +kernel
theorem dX8_valueBy_4 : decode cX8_valueBy 4 = .ok (.lload 5, 2) := by decide +kernel
theorem dX8_valueBy_6 : decode cX8_valueBy 6 = .ok (.invokevirtual 210, 3) := by decide +kernel
theorem dX8_valueBy_9 : decode cX8_valueBy 9 = .ok (.iload_n 2, 1) := by decide +kernel
theorem dX8_valueBy_10 : decode cX8_valueBy 10 = .ok (.iconst 1, 1) := by decide +kernel
theorem dX8_valueBy_11 : decode cX8_valueBy 11 = .ok (.if_icmp .ne 15, 3) := by decide +kernel
theorem dX8_valueBy_14 : decode cX8_valueBy 14 = .ok (.aload_n 0, 1) := by decide +kernel
theorem dX8_valueBy_15 : decode cX8_valueBy 15 = .ok (.getfield 203, 3) := by decide +kernel
theorem dX8_valueBy_18 : decode cX8_valueBy 18 = .ok (.aload_n 0, 1) := by decide +kernel
theorem dX8_valueBy_19 : decode cX8_valueBy 19 = .ok (.getfield 207, 3) := by decide +kernel
theorem dX8_valueBy_22 : decode cX8_valueBy 22 = .ok (.lsub, 1) := by decide +kernel
theorem dX8_valueBy_23 : decode cX8_valueBy 23 = .ok (.goto 20, 3) := by decide +kernel
theorem dX8_valueBy_26 : decode cX8_valueBy 26 = .ok (.iload_n 2, 1) := by decide +kernel
theorem dX8_valueBy_27 : decode cX8_valueBy 27 = .ok (.iconst 2, 1) := by decide +kernel
theorem dX8_valueBy_28 : decode cX8_valueBy 28 = .ok (.if_icmp .ne 10, 3) := by decide +kernel
theorem dX8_valueBy_31 : decode cX8_valueBy 31 = .ok (.aload_n 0, 1) := by decide +kernel
theorem dX8_valueBy_32 : decode cX8_valueBy 32 = .ok (.getfield 203, 3) := by decide +kernel
theorem dX8_valueBy_35 : decode cX8_valueBy 35 = .ok (.goto 8, 3) := by decide +kernel
theorem dX8_valueBy_38 : decode cX8_valueBy 38 = .ok (.aload_n 0, 1) := by decide +kernel
theorem dX8_valueBy_39 : decode cX8_valueBy 39 = .ok (.getfield 207, 3) := by decide +kernel
theorem dX8_valueBy_42 : decode cX8_valueBy 42 = .ok (.lneg, 1) := by decide +kernel
theorem dX8_valueBy_43 : decode cX8_valueBy 43 = .ok (.lreturn, 1) := by decide +kernel
set_option maxRecDepth 100000 in
set_option maxHeartbeats 4000000 in
theorem m_X8_valueBy {l : Launch} {G : z_Gl} {σ : z_St} (P n u v w rc tl : Nat) (hM : z_mi σ P n u v w rc tl) (cx cy mo le : Int64) (as_ of_ : Nat → Int64) (r : Nat) (me : Int32) (x y : Int64) (zr : Nat → Int64) (hr : z_kd r = 2 ∧ z_sz r = 24) (hz : ∀ cx cy mo le, (z_mU σ cx cy mo le as_ of_).2 r = zr) : z_M l G yX8_valueBy cX8_valueBy 7 (some .long) (z_rm 5 120) [.ref (z_ad G 105), .ref (z_ad G r), .int me, .long x, .long y] (z_mU σ cx cy mo le as_ of_) (z_p1 (.long (z_F zr me x y)) (z_mU σ cx cy (z_fmx (z_df zr x y) (-9223372036854775808) 24) (z_fmn (z_df zr x y) 9223372036854775807 24) as_ of_)) := by
  refine z_M.of (by decide) (Nat.le_of_ble_eq_true rfl) (fun p e s m below meth c C => ?_)
  refine z_sub [0, 1, 2, 3, 4] (lv1 := [(0, .ref (z_ad G 105)), (1, .ref (z_ad G r)), (2, .int me), (3, .long x), (5, .long y)]) rfl ?_
  have hM0 := hM
  obtain ⟨⟨hP, hn, hu, hv, hw, hrc, htl⟩, hPs, hnP, huv, hw6, hrc8, htl2, hqt, hah⟩ := hM0
  have h0 : 0 < P := by omega
  have h12 : P ≤ 12 := by omega
  have h288 : n ≤ 288 := by omega
  refine z_aload_n 0 C dX8_valueBy_0 0 rfl ?_
  refine z_aload_n 1 C dX8_valueBy_1 1 rfl ?_
  refine z_iconst 2 C dX8_valueBy_2 (nI 0) rfl ?_
  refine z_lload_n 3 C dX8_valueBy_3 3 rfl ?_
  refine z_lload 4 C dX8_valueBy_4 4 rfl ?_
  refine z_callV 6 C 105 (⟨rfl, rfl⟩) rfl (As := [.ref (z_ad G r), .int (nI 0), .long x, .long y]) (rest := []) (@m_X8_findEnds _ _ σ P n u v w rc tl hM cx cy mo le as_ of_ r 0 24 x y zr (hr) (by omega) (by omega) (hz)) k_X8_findEnds q1274 ⟨rfl, rfl⟩ ⟨Nat.le_of_ble_eq_true rfl, Nat.le_of_ble_eq_true rfl⟩ rfl (Nat.le_of_ble_eq_true rfl) ⟨Nat.le_of_ble_eq_true rfl, Nat.le_of_ble_eq_true rfl⟩ rfl dX8_valueBy_6 (z_k0 ?_)
  refine z_cv (lv1 := [(0, .ref (z_ad G 105)), (1, .ref (z_ad G r)), (2, .int me), (3, .long x), (5, .long y)]) (st1 := []) (σ1 := z_mU σ cx cy (z_fmx (z_df zr x y) (-9223372036854775808) 24) (z_fmn (z_df zr x y) 9223372036854775807 24) as_ of_) rfl rfl (by rw [z_sh0]) ?_
  refine z_iload_n 9 C dX8_valueBy_9 2 rfl ?_
  refine z_iconst 10 C dX8_valueBy_10 (nI 1) rfl ?_
  refine z_icmp_ne 11 C 26 dX8_valueBy_11 (by decide) (fun c11 => ?_) (fun c11 => ?_)
  · skip
    refine z_iload_n 26 C dX8_valueBy_26 2 rfl ?_
    refine z_iconst 27 C dX8_valueBy_27 (nI 2) rfl ?_
    refine z_icmp_ne 28 C 38 dX8_valueBy_28 (by decide) (fun c28 => ?_) (fun c28 => ?_)
    · skip
      refine z_aload_n 38 C dX8_valueBy_38 0 rfl ?_
      refine z_getf 39 C 105 z_dX8 (⟨rfl, rfl⟩) 13 (by decide) q979 (.long (z_fmn (z_df zr x y) 9223372036854775807 24)) z_mU_gle dX8_valueBy_39 ?_
      refine z_lneg 42 C dX8_valueBy_42 ?_
      refine z_lret 43 C dX8_valueBy_43 ?_
      first | exact ⟨z_cl (if_pos c11).symm, rfl⟩ | exact ⟨z_cl ((if_neg c11).trans (if_pos c28)).symm, rfl⟩ | exact ⟨z_cl ((if_neg c11).trans (if_neg c28)).symm, rfl⟩
    · skip
      refine z_aload_n 31 C dX8_valueBy_31 0 rfl ?_
      refine z_getf 32 C 105 z_dX8 (⟨rfl, rfl⟩) 12 (by decide) q978 (.long (z_fmx (z_df zr x y) (-9223372036854775808) 24)) z_mU_gmo dX8_valueBy_32 ?_
      refine z_goto 35 C 43 dX8_valueBy_35 (by decide) ?_
      refine z_lret 43 C dX8_valueBy_43 ?_
      first | exact ⟨z_cl (if_pos c11).symm, rfl⟩ | exact ⟨z_cl ((if_neg c11).trans (if_pos c28)).symm, rfl⟩ | exact ⟨z_cl ((if_neg c11).trans (if_neg c28)).symm, rfl⟩
  · skip
    refine z_aload_n 14 C dX8_valueBy_14 0 rfl ?_
    refine z_getf 15 C 105 z_dX8 (⟨rfl, rfl⟩) 12 (by decide) q978 (.long (z_fmx (z_df zr x y) (-9223372036854775808) 24)) z_mU_gmo dX8_valueBy_15 ?_
    refine z_aload_n 18 C dX8_valueBy_18 0 rfl ?_
    refine z_getf 19 C 105 z_dX8 (⟨rfl, rfl⟩) 13 (by decide) q979 (.long (z_fmn (z_df zr x y) 9223372036854775807 24)) z_mU_gle dX8_valueBy_19 ?_
    refine z_lsub 22 C dX8_valueBy_22 ?_
    refine z_goto 23 C 43 dX8_valueBy_23 (by decide) ?_
    refine z_lret 43 C dX8_valueBy_43 ?_
    first | exact ⟨z_cl (if_pos c11).symm, rfl⟩ | exact ⟨z_cl ((if_neg c11).trans (if_pos c28)).symm, rfl⟩ | exact ⟨z_cl ((if_neg c11).trans (if_neg c28)).symm, rfl⟩
theorem dX8_findCentre_0 : decode cX8_findCentre 0 = .ok (.aload_n 0, 1) := by decide +kernel
theorem dX8_findCentre_1 : decode cX8_findCentre 1 = .ok (.lconst 0, 1) := by decide +kernel
theorem dX8_findCentre_2 : decode cX8_findCentre 2 = .ok (.putfield 214, 3) := by decide +kernel
theorem dX8_findCentre_5 : decode cX8_findCentre 5 = .ok (.aload_n 0, 1) := by decide +kernel
theorem dX8_findCentre_6 : decode cX8_findCentre 6 = .ok (.lconst 0, 1) := by decide +kernel
theorem dX8_findCentre_7 : decode cX8_findCentre 7 = .ok (.putfield 217, 3) := by decide +kernel
theorem dX8_findCentre_10 : decode cX8_findCentre 10 = .ok (.iload_n 2, 1) := by decide +kernel
theorem dX8_findCentre_11 : decode cX8_findCentre 11 = .ok (.ifCond .ne 28, 3) := by decide +kernel
theorem dX8_findCentre_14 : decode cX8_findCentre 14 = .ok (.aload_n 0, 1) := by decide +kernel
theorem dX8_findCentre_15 : decode cX8_findCentre 15 = .ok (.aload_n 0, 1) := by decide +kernel
theorem dX8_findCentre_16 : decode cX8_findCentre 16 = .ok (.aload_n 1, 1) := by decide +kernel
theorem dX8_findCentre_17 : decode cX8_findCentre 17 = .ok (.iconst 0, 1) := by decide +kernel
theorem dX8_findCentre_18 : decode cX8_findCentre 18 = .ok (.iconst 1, 1) := by decide +kernel
theorem dX8_findCentre_19 : decode cX8_findCentre 19 = .ok (.iconst 0, 1) := by decide +kernel
theorem dX8_findCentre_20 : decode cX8_findCentre 20 = .ok (.invokevirtual 181, 3) := by decide +kernel
theorem dX8_findCentre_23 : decode cX8_findCentre 23 = .ok (.putfield 214, 3) := by decide +kernel
theorem dX8_findCentre_26 : decode cX8_findCentre 26 = .ok (.aload_n 0, 1) := by decide +kernel
theorem dX8_findCentre_27 : decode cX8_findCentre 27 = .ok (.aload_n 0, 1) := by decide +kernel
theorem dX8_findCentre_28 : decode cX8_findCentre 28 = .ok (.aload_n 1, 1) := by decide +kernel
theorem dX8_findCentre_29 : decode cX8_findCentre 29 = .ok (.iconst 0, 1) := by decide +kernel
theorem dX8_findCentre_30 : decode cX8_findCentre 30 = .ok (.iconst 1, 1) := by decide +kernel
theorem dX8_findCentre_31 : decode cX8_findCentre 31 = .ok (.iconst 1, 1) := by decide +kernel
theorem dX8_findCentre_32 : decode cX8_findCentre 32 = .ok (.invokevirtual 181, 3) := by decide +kernel
theorem dX8_findCentre_35 : decode cX8_findCentre 35 = .ok (.putfield 217, 3) := by decide +kernel
theorem dX8_findCentre_38 : decode cX8_findCentre 38 = .ok (.return_, 1) := by decide +kernel
theorem dX8_findCentre_39 : decode cX8_findCentre 39 = .ok (.aload_n 0, 1) := by decide +kernel
theorem dX8_findCentre_40 : decode cX8_findCentre 40 = .ok (.aload_n 1, 1) := by decide +kernel
theorem dX8_findCentre_41 : decode cX8_findCentre 41 = .ok (.iload_n 2, 1) := by decide +kernel
theorem dX8_findCentre_42 : decode cX8_findCentre 42 = .ok (.lconst 0, 1) := by decide +kernel
theorem dX8_findCentre_43 : decode cX8_findCentre 43 = .ok (.lconst 0, 1) := by decide +kernel
theorem dX8_findCentre_44 : decode cX8_findCentre 44 = .ok (.invokevirtual 220, 3) := by decide +kernel
theorem dX8_findCentre_47 : decode cX8_findCentre 47 = .ok (.lstore_n 3, 1) := by decide +kernel
theorem dX8_findCentre_48 : decode cX8_findCentre 48 = .ok (.ldc2_w 224, 3) := by decide +kernel
theorem dX8_findCentre_51 : decode cX8_findCentre 51 = .ok (.lstore 5, 2) := by decide +kernel
theorem dX8_findCentre_53 : decode cX8_findCentre 53 = .ok (.lload 5, 2) := by decide +kernel
theorem dX8_findCentre_55 : decode cX8_findCentre 55 = .ok (.lconst 0, 1) := by decide +kernel
theorem dX8_findCentre_56 : decode cX8_findCentre 56 = .ok (.lcmp, 1) := by decide +kernel
theorem dX8_findCentre_57 : decode cX8_findCentre 57 = .ok (.ifCond .le 173, 3) := by decide +kernel
theorem dX8_findCentre_60 : decode cX8_findCentre 60 = .ok (.iconst 0, 1) := by decide +kernel
theorem dX8_findCentre_61 : decode cX8_findCentre 61 = .ok (.istore 7, 2) := by decide +kernel
theorem dX8_findCentre_63 : decode cX8_findCentre 63 = .ok (.lconst 0, 1) := by decide +kernel
theorem dX8_findCentre_64 : decode cX8_findCentre 64 = .ok (.lstore 8, 2) := by decide +kernel
theorem dX8_findCentre_66 : decode cX8_findCentre 66 = .ok (.iconst 0, 1) := by decide +kernel
theorem dX8_findCentre_67 : decode cX8_findCentre 67 = .ok (.istore 10, 2) := by decide +kernel
theorem dX8_findCentre_69 : decode cX8_findCentre 69 = .ok (.iload 10, 2) := by decide +kernel
theorem dX8_findCentre_71 : decode cX8_findCentre 71 = .ok (.bipush 8, 2) := by decide +kernel
theorem dX8_findCentre_73 : decode cX8_findCentre 73 = .ok (.if_icmp .ge 93, 3) := by decide +kernel
theorem dX8_findCentre_76 : decode cX8_findCentre 76 = .ok (.aload_n 0, 1) := by decide +kernel
theorem dX8_findCentre_77 : decode cX8_findCentre 77 = .ok (.aload_n 1, 1) := by decide +kernel
theorem dX8_findCentre_78 : decode cX8_findCentre 78 = .ok (.iload_n 2, 1) := by decide +kernel
theorem dX8_findCentre_79 : decode cX8_findCentre 79 = .ok (.aload_n 0, 1) := by decide +kernel
theorem dX8_findCentre_80 : decode cX8_findCentre 80 = .ok (.getfield 214, 3) := by decide +kernel
theorem dX8_findCentre_83 : decode cX8_findCentre 83 = .ok (.lload 5, 2) := by decide +kernel
theorem dX8_findCentre_85 : decode cX8_findCentre 85 = .ok (.aload_n 0, 1) := by decide +kernel
theorem dX8_findCentre_86 : decode cX8_findCentre 86 = .ok (.getfield 35, 3) := by decide +kernel
theorem dX8_findCentre_89 : decode cX8_findCentre 89 = .ok (.iload 10, 2) := by decide +kernel
theorem dX8_findCentre_91 : decode cX8_findCentre 91 = .ok (.iaload, 1) := by decide +kernel
theorem dX8_findCentre_92 : decode cX8_findCentre 92 = .ok (.i2l, 1) := by decide +kernel
theorem dX8_findCentre_93 : decode cX8_findCentre 93 = .ok (.lmul, 1) := by decide +kernel
theorem dX8_findCentre_94 : decode cX8_findCentre 94 = .ok (.ladd, 1) := by decide +kernel
theorem dX8_findCentre_95 : decode cX8_findCentre 95 = .ok (.aload_n 0, 1) := by decide +kernel
theorem dX8_findCentre_96 : decode cX8_findCentre 96 = .ok (.getfield 217, 3) := by decide +kernel
theorem dX8_findCentre_99 : decode cX8_findCentre 99 = .ok (.lload 5, 2) := by decide +kernel
theorem dX8_findCentre_101 : decode cX8_findCentre 101 = .ok (.aload_n 0, 1) := by decide +kernel
theorem dX8_findCentre_102 : decode cX8_findCentre 102 = .ok (.getfield 38, 3) := by decide +kernel
theorem dX8_findCentre_105 : decode cX8_findCentre 105 = .ok (.iload 10, 2) := by decide +kernel
theorem dX8_findCentre_107 : decode cX8_findCentre 107 = .ok (.iaload, 1) := by decide +kernel
theorem dX8_findCentre_108 : decode cX8_findCentre 108 = .ok (.i2l, 1) := by decide +kernel
theorem dX8_findCentre_109 : decode cX8_findCentre 109 = .ok (.lmul, 1) := by decide +kernel
theorem dX8_findCentre_110 : decode cX8_findCentre 110 = .ok (.ladd, 1) := by decide +kernel
theorem dX8_findCentre_111 : decode cX8_findCentre 111 = .ok (.invokevirtual 220, 3) := by decide +kernel
theorem dX8_findCentre_114 : decode cX8_findCentre 114 = .ok (.lstore 11, 2) := by decide +kernel
theorem dX8_findCentre_116 : decode cX8_findCentre 116 = .ok (.iload 10, 2) := by decide +kernel
theorem dX8_findCentre_118 : decode cX8_findCentre 118 = .ok (.ifCond .eq 11, 3) := by decide +kernel
theorem dX8_findCentre_121 : decode cX8_findCentre 121 = .ok (.lload 11, 2) := by decide +kernel
theorem dX8_findCentre_123 : decode cX8_findCentre 123 = .ok (.lload 8, 2) := by decide +kernel
theorem dX8_findCentre_125 : decode cX8_findCentre 125 = .ok (.lcmp, 1) := by decide +kernel
theorem dX8_findCentre_126 : decode cX8_findCentre 126 = .ok (.ifCond .ge 8, 3) := by decide +kernel
theorem dX8_findCentre_129 : decode cX8_findCentre 129 = .ok (.iload 10, 2) := by decide +kernel
theorem dX8_findCentre_131 : decode cX8_findCentre 131 = .ok (.goto 5, 3) := by decide +kernel
theorem dX8_findCentre_134 : decode cX8_findCentre 134 = .ok (.iload 7, 2) := by decide +kernel
theorem dX8_findCentre_136 : decode cX8_findCentre 136 = .ok (.istore 7, 2) := by decide +kernel
theorem dX8_findCentre_138 : decode cX8_findCentre 138 = .ok (.iload 10, 2) := by decide +kernel
theorem dX8_findCentre_140 : decode cX8_findCentre 140 = .ok (.ifCond .eq 11, 3) := by decide +kernel
theorem dX8_findCentre_143 : decode cX8_findCentre 143 = .ok (.lload 11, 2) := by decide +kernel
theorem dX8_findCentre_145 : decode cX8_findCentre 145 = .ok (.lload 8, 2) := by decide +kernel
theorem dX8_findCentre_147 : decode cX8_findCentre 147 = .ok (.lcmp, 1) := by decide +kernel
theorem dX8_findCentre_148 : decode cX8_findCentre 148 = .ok (.ifCond .ge 8, 3) := by decide +kernel
theorem dX8_findCentre_151 : decode cX8_findCentre 151 = .ok (.lload 11, 2) := by decide +kernel
theorem dX8_findCentre_153 : decode cX8_findCentre 153 = .ok (.goto 5, 3) := by decide +kernel
theorem dX8_findCentre_156 : decode cX8_findCentre 156 = .ok (.lload 8, 2) := by decide +kernel
theorem dX8_findCentre_158 : decode cX8_findCentre 158 = .ok (.lstore 8, 2) := by decide +kernel
theorem dX8_findCentre_160 : decode cX8_findCentre 160 = .ok (.iinc 10 1, 3) := by decide +kernel
theorem dX8_findCentre_163 : decode cX8_findCentre 163 = .ok (.goto (-94), 3) := by decide +kernel
theorem dX8_findCentre_166 : decode cX8_findCentre 166 = .ok (.lload 8, 2) := by decide +kernel
theorem dX8_findCentre_168 : decode cX8_findCentre 168 = .ok (.lload_n 3, 1) := by decide +kernel
theorem dX8_findCentre_169 : decode cX8_findCentre 169 = .ok (.lcmp, 1) := by decide +kernel
theorem dX8_findCentre_170 : decode cX8_findCentre 170 = .ok (.ifCond .ge 49, 3) := by decide +kernel
theorem dX8_findCentre_173 : decode cX8_findCentre 173 = .ok (.aload_n 0, 1) := by decide +kernel
theorem dX8_findCentre_174 : decode cX8_findCentre 174 = .ok (.dup, 1) := by decide +kernel
theorem dX8_findCentre_175 : decode cX8_findCentre 175 = .ok (.getfield 214, 3) := by decide +kernel
theorem dX8_findCentre_178 : decode cX8_findCentre 178 = .ok (.lload 5, 2) := by decide +kernel
theorem dX8_findCentre_180 : decode cX8_findCentre 180 = .ok (.aload_n 0, 1) := by decide +kernel
theorem dX8_findCentre_181 : decode cX8_findCentre 181 = .ok (.getfield 35, 3) := by decide +kernel
theorem dX8_findCentre_184 : decode cX8_findCentre 184 = .ok (.iload 7, 2) := by decide +kernel
theorem dX8_findCentre_186 : decode cX8_findCentre 186 = .ok (.iaload, 1) := by decide +kernel
theorem dX8_findCentre_187 : decode cX8_findCentre 187 = .ok (.i2l, 1) := by decide +kernel
theorem dX8_findCentre_188 : decode cX8_findCentre 188 = .ok (.lmul, 1) := by decide +kernel
theorem dX8_findCentre_189 : decode cX8_findCentre 189 = .ok (.ladd, 1) := by decide +kernel
theorem dX8_findCentre_190 : decode cX8_findCentre 190 = .ok (.putfield 214, 3) := by decide +kernel
theorem dX8_findCentre_193 : decode cX8_findCentre 193 = .ok (.aload_n 0, 1) := by decide +kernel
theorem dX8_findCentre_194 : decode cX8_findCentre 194 = .ok (.dup, 1) := by decide +kernel
theorem dX8_findCentre_195 : decode cX8_findCentre 195 = .ok (.getfield 217, 3) := by decide +kernel
theorem dX8_findCentre_198 : decode cX8_findCentre 198 = .ok (.lload 5, 2) := by decide +kernel
theorem dX8_findCentre_200 : decode cX8_findCentre 200 = .ok (.aload_n 0, 1) := by decide +kernel
theorem dX8_findCentre_201 : decode cX8_findCentre 201 = .ok (.getfield 38, 3) := by decide +kernel
theorem dX8_findCentre_204 : decode cX8_findCentre 204 = .ok (.iload 7, 2) := by decide +kernel
theorem dX8_findCentre_206 : decode cX8_findCentre 206 = .ok (.iaload, 1) := by decide +kernel
theorem dX8_findCentre_207 : decode cX8_findCentre 207 = .ok (.i2l, 1) := by decide +kernel
theorem dX8_findCentre_208 : decode cX8_findCentre 208 = .ok (.lmul, 1) := by decide +kernel
theorem dX8_findCentre_209 : decode cX8_findCentre 209 = .ok (.ladd, 1) := by decide +kernel
theorem dX8_findCentre_210 : decode cX8_findCentre 210 = .ok (.putfield 217, 3) := by decide +kernel
theorem dX8_findCentre_213 : decode cX8_findCentre 213 = .ok (.lload 8, 2) := by decide +kernel
theorem dX8_findCentre_215 : decode cX8_findCentre 215 = .ok (.lstore_n 3, 1) := by decide +kernel
theorem dX8_findCentre_216 : decode cX8_findCentre 216 = .ok (.goto 11, 3) := by decide +kernel
theorem dX8_findCentre_219 : decode cX8_findCentre 219 = .ok (.lload 5, 2) := by decide +kernel
theorem dX8_findCentre_221 : decode cX8_findCentre 221 = .ok (.ldc2_w 109, 3) := by decide +kernel
theorem dX8_findCentre_224 : decode cX8_findCentre 224 = .ok (.ldiv, 1) := by decide +kernel
theorem dX8_findCentre_225 : decode cX8_findCentre 225 = .ok (.lstore 5, 2) := by decide +kernel
theorem dX8_findCentre_227 : decode cX8_findCentre 227 = .ok (.goto (-174), 3) := by decide +kernel
theorem dX8_findCentre_230 : decode cX8_findCentre 230 = .ok (.return_, 1) := by decide +kernel
set_option maxRecDepth 100000 in
set_option maxHeartbeats 4000000 in
theorem m_X8_findCentre {l : Launch} {G : z_Gl} {σ : z_St} (P n u v w rc tl : Nat) (hM : z_mi σ P n u v w rc tl) (cx cy mo le : Int64) (as_ of_ : Nat → Int64) (r mm : Nat) (hmm : mm ≤ 3) (zr : Nat → Int64) (hp : zs_hb zr) (hr : z_kd r = 2 ∧ z_sz r = 24) (hz : ∀ cx cy mo le, (z_mU σ cx cy mo le as_ of_).2 r = zr) : z_M l G yX8_findCentre cX8_findCentre 13 none (z_rm 6 146) [.ref (z_ad G 105), .ref (z_ad G r), .int (nI mm)] (z_mU σ cx cy mo le as_ of_) (fun v σ1 => v = none ∧ ∃ q1 q2, σ1 = z_mU σ (z_cx zr mm) (z_cy zr mm) q1 q2 as_ of_) := by
  refine z_M.of (by decide) (Nat.le_of_ble_eq_true rfl) (fun p e s m below meth c C => ?_)
  refine z_sub [0, 1, 2] (lv1 := [(0, .ref (z_ad G 105)), (1, .ref (z_ad G r)), (2, .int (nI mm))]) rfl ?_
  have hM0 := hM
  obtain ⟨⟨hP, hn, hu, hv, hw, hrc, htl⟩, hPs, hnP, huv, hw6, hrc8, htl2, hqt, hah⟩ := hM0
  have h0 : 0 < P := by omega
  have h12 : P ≤ 12 := by omega
  have h288 : n ≤ 288 := by omega
  refine z_aload_n 0 C dX8_findCentre_0 0 rfl ?_
  refine z_lconst 1 C dX8_findCentre_1 0 rfl ?_
  refine z_putl 2 C 105 z_dX8 (⟨rfl, rfl⟩) 10 (by decide) q976 rfl (rfl) rfl z_mU_hcx dX8_findCentre_2 ?_
  refine z_cv (σ1 := z_mU σ 0 cy mo le as_ of_) rfl rfl z_mU_pcx ?_
  refine z_aload_n 5 C dX8_findCentre_5 0 rfl ?_
  refine z_lconst 6 C dX8_findCentre_6 0 rfl ?_
  refine z_putl 7 C 105 z_dX8 (⟨rfl, rfl⟩) 11 (by decide) q977 rfl (rfl) rfl z_mU_hcy dX8_findCentre_7 ?_
  refine z_cv (σ1 := z_mU σ 0 0 mo le as_ of_) rfl rfl z_mU_pcy ?_
  refine z_iload_n 10 C dX8_findCentre_10 2 rfl ?_
  refine z_if_ne 11 C 39 dX8_findCentre_11 (by decide) (fun c11 => ?_) (fun c11 => ?_)
  · skip
    have cm : ¬ mm = 0 := fun z => c11 (by rw [z]; rfl)
    refine z_aload_n 39 C dX8_findCentre_39 0 rfl ?_
    refine z_aload_n 40 C dX8_findCentre_40 1 rfl ?_
    refine z_iload_n 41 C dX8_findCentre_41 2 rfl ?_
    refine z_lconst 42 C dX8_findCentre_42 0 rfl ?_
    refine z_lconst 43 C dX8_findCentre_43 0 rfl ?_
    refine z_callV 44 C 105 (⟨rfl, rfl⟩) rfl (As := [.ref (z_ad G r), .int (nI mm), .long 0, .long 0]) (rest := []) (@m_X8_valueBy _ _ σ P n u v w rc tl hM 0 0 mo le as_ of_ r (nI mm) 0 0 zr (hr) (hz)) k_X8_valueBy q1270 ⟨rfl, rfl⟩ ⟨Nat.le_of_ble_eq_true rfl, Nat.le_of_ble_eq_true rfl⟩ rfl (Nat.le_of_ble_eq_true rfl) ⟨Nat.le_of_ble_eq_true rfl, Nat.le_of_ble_eq_true rfl⟩ rfl dX8_findCentre_44 (z_k1 ?_)
    refine z_lstore_n 47 C dX8_findCentre_47 [(3, .long (z_F zr (nI mm) 0 0)), (0, .ref (z_ad G 105)), (1, .ref (z_ad G r)), (2, .int (nI mm))] (by decide) rfl ?_
    refine z_ldc2 48 C dX8_findCentre_48 q1285 ?_
    refine z_lstore 51 C dX8_findCentre_51 [(5, .long 1073741824), (3, .long (z_F zr (nI mm) 0 0)), (0, .ref (z_ad G 105)), (1, .ref (z_ad G r)), (2, .int (nI mm))] (by decide) rfl ?_
    refine z_sub [2, 3, 4, 1, 0] (lv1 := [(0, .ref (z_ad G 105)), (1, .ref (z_ad G r)), (2, .int (nI mm)), (3, .long (z_F zr (nI mm) 0 0)), (5, .long 1073741824)]) rfl ?_
    refine z_cv (lv1 := [(0, .ref (z_ad G 105)), (1, .ref (z_ad G r)), (2, .int (nI mm)), (3, .long (z_F zr (nI mm) 0 0)), (5, .long 1073741824)]) (st1 := []) (σ1 := z_mU σ 0 0 (z_fmx (z_df zr 0 0) (-9223372036854775808) 24) (z_fmn (z_df zr 0 0) 9223372036854775807 24) as_ of_) rfl rfl rfl ?_
    refine z_lp5 (fun (xx : Int64) (yy : Int64) (sd : Int64) (ma : Int64) (mb : Int64) => zm_inv zr (nI mm) xx yy sd) (fun (xx : Int64) (yy : Int64) (sd : Int64) (ma : Int64) (mb : Int64) => z_pot zr (nI mm) ⟨xx, yy, sd⟩) (fun (xx : Int64) (yy : Int64) (sd : Int64) (ma : Int64) (mb : Int64) => [(0, .ref (z_ad G 105)), (1, .ref (z_ad G r)), (2, .int (nI mm)), (3, .long (z_F zr (nI mm) xx yy)), (5, .long sd)]) (fun (xx : Int64) (yy : Int64) (sd : Int64) (ma : Int64) (mb : Int64) => z_mU σ xx yy ma mb as_ of_) (fun xx yy sd ma mb hi_53 ih_53 => ?_) 0 0 1073741824 (z_fmx (z_df zr 0 0) (-9223372036854775808) 24) (z_fmn (z_df zr 0 0) 9223372036854775807 24) (⟨0, rfl⟩)
    try dsimp only
    refine z_lload 53 C dX8_findCentre_53 4 rfl ?_
    refine z_lconst 55 C dX8_findCentre_55 0 rfl ?_
    refine z_lcmp_le 56 C 230 dX8_findCentre_56 dX8_findCentre_57 (by decide) (fun c56 => ?_) (fun c56 => ?_)
    · skip
      refine z_vret 230 C dX8_findCentre_230 ?_
      obtain ⟨ex, ey⟩ := zm_fin hi_53 cm c56
      exact ⟨rfl, ma, mb, by rw [← ex, ← ey]⟩
    · skip
      refine z_iconst 60 C dX8_findCentre_60 (nI 0) rfl ?_
      refine z_istore 61 C dX8_findCentre_61 [(7, .int (nI 0)), (0, .ref (z_ad G 105)), (1, .ref (z_ad G r)), (2, .int (nI mm)), (3, .long (z_F zr (nI mm) xx yy)), (5, .long sd)] (by decide) rfl ?_
      refine z_lconst 63 C dX8_findCentre_63 0 rfl ?_
      refine z_lstore 64 C dX8_findCentre_64 [(8, .long 0), (7, .int (nI 0)), (0, .ref (z_ad G 105)), (1, .ref (z_ad G r)), (2, .int (nI mm)), (3, .long (z_F zr (nI mm) xx yy)), (5, .long sd)] (by decide) rfl ?_
      refine z_iconst 66 C dX8_findCentre_66 (nI 0) rfl ?_
      refine z_istore 67 C dX8_findCentre_67 [(10, .int (nI 0)), (8, .long 0), (7, .int (nI 0)), (0, .ref (z_ad G 105)), (1, .ref (z_ad G r)), (2, .int (nI mm)), (3, .long (z_F zr (nI mm) xx yy)), (5, .long sd)] (by decide) rfl ?_
      refine z_sub [3, 4, 5, 6, 7, 2, 1, 0] (lv1 := [(0, .ref (z_ad G 105)), (1, .ref (z_ad G r)), (2, .int (nI mm)), (3, .long (z_F zr (nI mm) xx yy)), (5, .long sd), (7, .int (nI 0)), (8, .long 0), (10, .int (nI 0))]) rfl ?_
      refine z_cv (lv1 := [(0, .ref (z_ad G 105)), (1, .ref (z_ad G r)), (2, .int (nI mm)), (3, .long (z_F zr (nI mm) xx yy)), (5, .long sd), (7, .int (nI (zm_way (zs_D zr (nI mm) xx yy sd) 0))), (8, .long (zm_bst (zs_D zr (nI mm) xx yy sd) 0)), (10, .int (nI 0))]) (st1 := []) (σ1 := z_mU σ xx yy ma mb as_ of_) rfl rfl rfl ?_
      refine z_lp3 (fun (k : Nat) (md : Int64) (me : Int64) => k ≤ 8) (fun (k : Nat) (md : Int64) (me : Int64) => 8 - k) (fun (k : Nat) (md : Int64) (me : Int64) => [(0, .ref (z_ad G 105)), (1, .ref (z_ad G r)), (2, .int (nI mm)), (3, .long (z_F zr (nI mm) xx yy)), (5, .long sd), (7, .int (nI (zm_way (zs_D zr (nI mm) xx yy sd) k))), (8, .long (zm_bst (zs_D zr (nI mm) xx yy sd) k)), (10, .int (nI k))]) (fun (k : Nat) (md : Int64) (me : Int64) => z_mU σ xx yy md me as_ of_) (fun k md me hi_69 ih_69 => ?_) 0 ma mb (by omega)
      try dsimp only
      refine z_iload 69 C dX8_findCentre_69 7 rfl ?_
      refine z_bipush 71 C dX8_findCentre_71 (nI 8) rfl ?_
      refine z_icmp_geN 73 C k 8 rfl rfl (by omega) (by omega) 166 dX8_findCentre_73 (by decide) (fun c73 => ?_) (fun c73 => ?_)
      · skip
        have ek : k = 8 := by omega
        subst ek
        refine z_lload 166 C dX8_findCentre_166 6 rfl ?_
        refine z_lload_n 168 C dX8_findCentre_168 3 rfl ?_
        refine z_lcmp_ge 169 C 219 dX8_findCentre_169 dX8_findCentre_170 (by decide) (fun c169 => ?_) (fun c169 => ?_)
        · skip
          refine z_lload 219 C dX8_findCentre_219 4 rfl ?_
          refine z_ldc2 221 C dX8_findCentre_221 q1112 ?_
          refine z_ldiv 224 C dX8_findCentre_224 (by decide) ?_
          refine z_lstore 225 C dX8_findCentre_225 [(5, .long (sd / 2)), (0, .ref (z_ad G 105)), (1, .ref (z_ad G r)), (2, .int (nI mm)), (3, .long (z_F zr (nI mm) xx yy)), (7, .int (nI (zm_way (zs_D zr (nI mm) xx yy sd) 8))), (8, .long (zm_bst (zs_D zr (nI mm) xx yy sd) 8)), (10, .int (nI 8))] (by decide) rfl ?_
          refine z_goto 227 C 53 dX8_findCentre_227 (by decide) ?_
          refine z_sub [1, 2, 3, 4, 0] (lv1 := [(0, .ref (z_ad G 105)), (1, .ref (z_ad G r)), (2, .int (nI mm)), (3, .long (z_F zr (nI mm) xx yy)), (5, .long (sd / 2))]) rfl ?_
          refine z_cv (lv1 := [(0, .ref (z_ad G 105)), (1, .ref (z_ad G r)), (2, .int (nI mm)), (3, .long (z_F zr (nI mm) xx yy)), (5, .long (sd / 2))]) (st1 := []) (σ1 := z_mU σ xx yy md me as_ of_) rfl rfl rfl ?_
          exact ih_53 xx yy (sd / 2) md me ((zm_stepH hi_53 hp c56 c169).1) ((zm_stepH hi_53 hp c56 c169).2)
        · skip
          obtain ⟨w8, hbe, hiv, hpo⟩ := zm_stepM hi_53 hp c56 c169
          refine z_aload_n 173 C dX8_findCentre_173 0 rfl ?_
          refine z_dup 174 C dX8_findCentre_174 rfl ?_
          refine z_getf 175 C 105 z_dX8 (⟨rfl, rfl⟩) 10 (by decide) q976 (.long xx) z_mU_gcx dX8_findCentre_175 ?_
          refine z_lload 178 C dX8_findCentre_178 4 rfl ?_
          refine z_aload_n 180 C dX8_findCentre_180 0 rfl ?_
          refine z_getf 181 C 105 z_dX8 (⟨rfl, rfl⟩) 14 (by decide) q980 (.ref (z_ad G 112)) rfl dX8_findCentre_181 ?_
          refine z_iload 184 C dX8_findCentre_184 5 rfl ?_
          refine z_ialdN 186 C 112 (n := 8) (⟨rfl, rfl⟩) (zm_way (zs_D zr (nI mm) xx yy sd) 8) rfl (by omega) (by decide) dX8_findCentre_186 ?_
          refine z_cv (st1 := [.int (σ.1 112 (zm_way (zs_D zr (nI mm) xx yy sd) 8)), .long sd, .long xx, .ref (z_ad G 105)]) rfl rfl rfl ?_
          refine z_cv (lv1 := [(0, .ref (z_ad G 105)), (1, .ref (z_ad G r)), (2, .int (nI mm)), (3, .long (z_F zr (nI mm) xx yy)), (5, .long sd), (7, .int (nI (zm_way (zs_D zr (nI mm) xx yy sd) 8))), (8, .long (zm_bst (zs_D zr (nI mm) xx yy sd) 8)), (10, .int (nI 8))]) (st1 := [.int (z_tv 2 (zm_way (zs_D zr (nI mm) xx yy sd) 8)), .long sd, .long xx, .ref (z_ad G 105)]) (σ1 := z_mU σ xx yy md me as_ of_) rfl (by rw [(hah _ (by omega)).1]) rfl ?_
          refine z_i2l 187 C dX8_findCentre_187 ?_
          refine z_lmul 188 C dX8_findCentre_188 ?_
          refine z_ladd 189 C dX8_findCentre_189 ?_
          refine z_putl 190 C 105 z_dX8 (⟨rfl, rfl⟩) 10 (by decide) q976 rfl (rfl) rfl z_mU_hcx dX8_findCentre_190 ?_
          refine z_cv (σ1 := z_mU σ (xx + (sd * (Int32.toInt64 (z_tv 2 (zm_way (zs_D zr (nI mm) xx yy sd) 8))))) yy md me as_ of_) rfl rfl z_mU_pcx ?_
          refine z_aload_n 193 C dX8_findCentre_193 0 rfl ?_
          refine z_dup 194 C dX8_findCentre_194 rfl ?_
          refine z_getf 195 C 105 z_dX8 (⟨rfl, rfl⟩) 11 (by decide) q977 (.long yy) z_mU_gcy dX8_findCentre_195 ?_
          refine z_lload 198 C dX8_findCentre_198 4 rfl ?_
          refine z_aload_n 200 C dX8_findCentre_200 0 rfl ?_
          refine z_getf 201 C 105 z_dX8 (⟨rfl, rfl⟩) 15 (by decide) q981 (.ref (z_ad G 113)) rfl dX8_findCentre_201 ?_
          refine z_iload 204 C dX8_findCentre_204 5 rfl ?_
          refine z_ialdN 206 C 113 (n := 8) (⟨rfl, rfl⟩) (zm_way (zs_D zr (nI mm) xx yy sd) 8) rfl (by omega) (by decide) dX8_findCentre_206 ?_
          refine z_cv (st1 := [.int (σ.1 113 (zm_way (zs_D zr (nI mm) xx yy sd) 8)), .long sd, .long yy, .ref (z_ad G 105)]) rfl rfl rfl ?_
          refine z_cv (lv1 := [(0, .ref (z_ad G 105)), (1, .ref (z_ad G r)), (2, .int (nI mm)), (3, .long (z_F zr (nI mm) xx yy)), (5, .long sd), (7, .int (nI (zm_way (zs_D zr (nI mm) xx yy sd) 8))), (8, .long (zm_bst (zs_D zr (nI mm) xx yy sd) 8)), (10, .int (nI 8))]) (st1 := [.int (z_tv 3 (zm_way (zs_D zr (nI mm) xx yy sd) 8)), .long sd, .long yy, .ref (z_ad G 105)]) (σ1 := z_mU σ (xx + (sd * (Int32.toInt64 (z_tv 2 (zm_way (zs_D zr (nI mm) xx yy sd) 8))))) yy md me as_ of_) rfl (by rw [(hah _ (by omega)).2]) rfl ?_
          refine z_i2l 207 C dX8_findCentre_207 ?_
          refine z_lmul 208 C dX8_findCentre_208 ?_
          refine z_ladd 209 C dX8_findCentre_209 ?_
          refine z_putl 210 C 105 z_dX8 (⟨rfl, rfl⟩) 11 (by decide) q977 rfl (rfl) rfl z_mU_hcy dX8_findCentre_210 ?_
          refine z_cv (σ1 := z_mU σ (xx + (sd * (Int32.toInt64 (z_tv 2 (zm_way (zs_D zr (nI mm) xx yy sd) 8))))) (yy + (sd * (Int32.toInt64 (z_tv 3 (zm_way (zs_D zr (nI mm) xx yy sd) 8))))) md me as_ of_) rfl rfl z_mU_pcy ?_
          refine z_lload 213 C dX8_findCentre_213 6 rfl ?_
          refine z_lstore_n 215 C dX8_findCentre_215 [(3, .long (zm_bst (zs_D zr (nI mm) xx yy sd) 8)), (0, .ref (z_ad G 105)), (1, .ref (z_ad G r)), (2, .int (nI mm)), (5, .long sd), (7, .int (nI (zm_way (zs_D zr (nI mm) xx yy sd) 8))), (8, .long (zm_bst (zs_D zr (nI mm) xx yy sd) 8)), (10, .int (nI 8))] (by decide) rfl ?_
          refine z_goto 216 C 227 dX8_findCentre_216 (by decide) ?_
          refine z_goto 227 C 53 dX8_findCentre_227 (by decide) ?_
          refine z_sub [1, 2, 3, 0, 4] (lv1 := [(0, .ref (z_ad G 105)), (1, .ref (z_ad G r)), (2, .int (nI mm)), (3, .long (zm_bst (zs_D zr (nI mm) xx yy sd) 8)), (5, .long sd)]) rfl ?_
          refine z_cv (lv1 := [(0, .ref (z_ad G 105)), (1, .ref (z_ad G r)), (2, .int (nI mm)), (3, .long (z_F zr (nI mm) (xx + (sd * (Int32.toInt64 (z_tv 2 (zm_way (zs_D zr (nI mm) xx yy sd) 8))))) (yy + (sd * (Int32.toInt64 (z_tv 3 (zm_way (zs_D zr (nI mm) xx yy sd) 8))))))), (5, .long sd)]) (st1 := []) (σ1 := z_mU σ (xx + (sd * (Int32.toInt64 (z_tv 2 (zm_way (zs_D zr (nI mm) xx yy sd) 8))))) (yy + (sd * (Int32.toInt64 (z_tv 3 (zm_way (zs_D zr (nI mm) xx yy sd) 8))))) md me as_ of_) (by rw [hbe]) rfl rfl ?_
          exact ih_53 (xx + (sd * (Int32.toInt64 (z_tv 2 (zm_way (zs_D zr (nI mm) xx yy sd) 8))))) (yy + (sd * (Int32.toInt64 (z_tv 3 (zm_way (zs_D zr (nI mm) xx yy sd) 8))))) sd md me (hiv) (hpo)
      · skip
        refine z_aload_n 76 C dX8_findCentre_76 0 rfl ?_
        refine z_aload_n 77 C dX8_findCentre_77 1 rfl ?_
        refine z_iload_n 78 C dX8_findCentre_78 2 rfl ?_
        refine z_aload_n 79 C dX8_findCentre_79 0 rfl ?_
        refine z_getf 80 C 105 z_dX8 (⟨rfl, rfl⟩) 10 (by decide) q976 (.long xx) z_mU_gcx dX8_findCentre_80 ?_
        refine z_lload 83 C dX8_findCentre_83 4 rfl ?_
        refine z_aload_n 85 C dX8_findCentre_85 0 rfl ?_
        refine z_getf 86 C 105 z_dX8 (⟨rfl, rfl⟩) 14 (by decide) q980 (.ref (z_ad G 112)) rfl dX8_findCentre_86 ?_
        refine z_iload 89 C dX8_findCentre_89 7 rfl ?_
        refine z_ialdN 91 C 112 (n := 8) (⟨rfl, rfl⟩) k rfl (by omega) (by decide) dX8_findCentre_91 ?_
        refine z_cv (st1 := [.int (σ.1 112 k), .long sd, .long xx, .int (nI mm), .ref (z_ad G r), .ref (z_ad G 105)]) rfl rfl rfl ?_
        refine z_cv (lv1 := [(0, .ref (z_ad G 105)), (1, .ref (z_ad G r)), (2, .int (nI mm)), (3, .long (z_F zr (nI mm) xx yy)), (5, .long sd), (7, .int (nI (zm_way (zs_D zr (nI mm) xx yy sd) k))), (8, .long (zm_bst (zs_D zr (nI mm) xx yy sd) k)), (10, .int (nI k))]) (st1 := [.int (z_tv 2 k), .long sd, .long xx, .int (nI mm), .ref (z_ad G r), .ref (z_ad G 105)]) (σ1 := z_mU σ xx yy md me as_ of_) rfl (by rw [(hah _ (by omega)).1]) rfl ?_
        refine z_i2l 92 C dX8_findCentre_92 ?_
        refine z_lmul 93 C dX8_findCentre_93 ?_
        refine z_ladd 94 C dX8_findCentre_94 ?_
        refine z_aload_n 95 C dX8_findCentre_95 0 rfl ?_
        refine z_getf 96 C 105 z_dX8 (⟨rfl, rfl⟩) 11 (by decide) q977 (.long yy) z_mU_gcy dX8_findCentre_96 ?_
        refine z_lload 99 C dX8_findCentre_99 4 rfl ?_
        refine z_aload_n 101 C dX8_findCentre_101 0 rfl ?_
        refine z_getf 102 C 105 z_dX8 (⟨rfl, rfl⟩) 15 (by decide) q981 (.ref (z_ad G 113)) rfl dX8_findCentre_102 ?_
        refine z_iload 105 C dX8_findCentre_105 7 rfl ?_
        refine z_ialdN 107 C 113 (n := 8) (⟨rfl, rfl⟩) k rfl (by omega) (by decide) dX8_findCentre_107 ?_
        refine z_cv (st1 := [.int (σ.1 113 k), .long sd, .long yy, .long (xx + (sd * (Int32.toInt64 (z_tv 2 k)))), .int (nI mm), .ref (z_ad G r), .ref (z_ad G 105)]) rfl rfl rfl ?_
        refine z_cv (lv1 := [(0, .ref (z_ad G 105)), (1, .ref (z_ad G r)), (2, .int (nI mm)), (3, .long (z_F zr (nI mm) xx yy)), (5, .long sd), (7, .int (nI (zm_way (zs_D zr (nI mm) xx yy sd) k))), (8, .long (zm_bst (zs_D zr (nI mm) xx yy sd) k)), (10, .int (nI k))]) (st1 := [.int (z_tv 3 k), .long sd, .long yy, .long (xx + (sd * (Int32.toInt64 (z_tv 2 k)))), .int (nI mm), .ref (z_ad G r), .ref (z_ad G 105)]) (σ1 := z_mU σ xx yy md me as_ of_) rfl (by rw [(hah _ (by omega)).2]) rfl ?_
        refine z_i2l 108 C dX8_findCentre_108 ?_
        refine z_lmul 109 C dX8_findCentre_109 ?_
        refine z_ladd 110 C dX8_findCentre_110 ?_
        refine z_callV 111 C 105 (⟨rfl, rfl⟩) rfl (As := [.ref (z_ad G r), .int (nI mm), .long (xx + (sd * (Int32.toInt64 (z_tv 2 k)))), .long (yy + (sd * (Int32.toInt64 (z_tv 3 k))))]) (rest := []) (@m_X8_valueBy _ _ σ P n u v w rc tl hM xx yy md me as_ of_ r (nI mm) (xx + (sd * (Int32.toInt64 (z_tv 2 k)))) (yy + (sd * (Int32.toInt64 (z_tv 3 k)))) zr (hr) (hz)) k_X8_valueBy q1270 ⟨rfl, rfl⟩ ⟨Nat.le_of_ble_eq_true rfl, Nat.le_of_ble_eq_true rfl⟩ rfl (Nat.le_of_ble_eq_true rfl) ⟨Nat.le_of_ble_eq_true rfl, Nat.le_of_ble_eq_true rfl⟩ rfl dX8_findCentre_111 (z_k1 ?_)
        refine z_cv (lv1 := [(0, .ref (z_ad G 105)), (1, .ref (z_ad G r)), (2, .int (nI mm)), (3, .long (z_F zr (nI mm) xx yy)), (5, .long sd), (7, .int (nI (zm_way (zs_D zr (nI mm) xx yy sd) k))), (8, .long (zm_bst (zs_D zr (nI mm) xx yy sd) k)), (10, .int (nI k))]) (st1 := [.long ((zs_D zr (nI mm) xx yy sd) k)]) (σ1 := z_mU σ xx yy (z_fmx (z_df zr (xx + (sd * (Int32.toInt64 (z_tv 2 k)))) (yy + (sd * (Int32.toInt64 (z_tv 3 k))))) (-9223372036854775808) 24) (z_fmn (z_df zr (xx + (sd * (Int32.toInt64 (z_tv 2 k)))) (yy + (sd * (Int32.toInt64 (z_tv 3 k))))) 9223372036854775807 24) as_ of_) rfl rfl rfl ?_
        refine z_lstore 114 C dX8_findCentre_114 [(11, .long ((zs_D zr (nI mm) xx yy sd) k)), (0, .ref (z_ad G 105)), (1, .ref (z_ad G r)), (2, .int (nI mm)), (3, .long (z_F zr (nI mm) xx yy)), (5, .long sd), (7, .int (nI (zm_way (zs_D zr (nI mm) xx yy sd) k))), (8, .long (zm_bst (zs_D zr (nI mm) xx yy sd) k)), (10, .int (nI k))] (by decide) rfl ?_
        refine z_iload 116 C dX8_findCentre_116 8 rfl ?_
        refine z_if_eq 118 C 129 dX8_findCentre_118 (by decide) (fun c118 => ?_) (fun c118 => ?_)
        · skip
          refine z_iload 129 C dX8_findCentre_129 8 rfl ?_
          refine z_goto 131 C 136 dX8_findCentre_131 (by decide) ?_
          refine z_istore 136 C dX8_findCentre_136 [(7, .int (nI k)), (11, .long ((zs_D zr (nI mm) xx yy sd) k)), (0, .ref (z_ad G 105)), (1, .ref (z_ad G r)), (2, .int (nI mm)), (3, .long (z_F zr (nI mm) xx yy)), (5, .long sd), (8, .long (zm_bst (zs_D zr (nI mm) xx yy sd) k)), (10, .int (nI k))] (by decide) rfl ?_
          refine z_iload 138 C dX8_findCentre_138 8 rfl ?_
          refine z_if_eq 140 C 151 dX8_findCentre_140 (by decide) (fun c140 => ?_) (fun c140 => ?_)
          · skip
            refine z_lload 151 C dX8_findCentre_151 1 rfl ?_
            refine z_goto 153 C 158 dX8_findCentre_153 (by decide) ?_
            refine z_lstore 158 C dX8_findCentre_158 [(8, .long ((zs_D zr (nI mm) xx yy sd) k)), (7, .int (nI k)), (11, .long ((zs_D zr (nI mm) xx yy sd) k)), (0, .ref (z_ad G 105)), (1, .ref (z_ad G r)), (2, .int (nI mm)), (3, .long (z_F zr (nI mm) xx yy)), (5, .long sd), (10, .int (nI k))] (by decide) rfl ?_
            refine z_iincN 160 C 8 k [(10, .int (nI (k + 1))), (8, .long ((zs_D zr (nI mm) xx yy sd) k)), (7, .int (nI k)), (11, .long ((zs_D zr (nI mm) xx yy sd) k)), (0, .ref (z_ad G 105)), (1, .ref (z_ad G r)), (2, .int (nI mm)), (3, .long (z_F zr (nI mm) xx yy)), (5, .long sd)] rfl rfl (by decide) rfl dX8_findCentre_160 ?_
            refine z_goto 163 C 69 dX8_findCentre_163 (by decide) ?_
            refine z_sub [4, 5, 6, 7, 8, 2, 1, 0] (lv1 := [(0, .ref (z_ad G 105)), (1, .ref (z_ad G r)), (2, .int (nI mm)), (3, .long (z_F zr (nI mm) xx yy)), (5, .long sd), (7, .int (nI k)), (8, .long ((zs_D zr (nI mm) xx yy sd) k)), (10, .int (nI (k + 1)))]) rfl ?_
            refine z_cv (lv1 := [(0, .ref (z_ad G 105)), (1, .ref (z_ad G r)), (2, .int (nI mm)), (3, .long (z_F zr (nI mm) xx yy)), (5, .long sd), (7, .int (nI (zm_way (zs_D zr (nI mm) xx yy sd) (k + 1)))), (8, .long (zm_bst (zs_D zr (nI mm) xx yy sd) (k + 1))), (10, .int (nI (k + 1)))]) (st1 := []) (σ1 := z_mU σ xx yy (z_fmx (z_df zr (xx + (sd * (Int32.toInt64 (z_tv 2 k)))) (yy + (sd * (Int32.toInt64 (z_tv 3 k))))) (-9223372036854775808) 24) (z_fmn (z_df zr (xx + (sd * (Int32.toInt64 (z_tv 2 k)))) (yy + (sd * (Int32.toInt64 (z_tv 3 k))))) 9223372036854775807 24) as_ of_) (by rw [(zm_wb1 (D := (zs_D zr (nI mm) xx yy sd)) (Or.inl ((z_nI0 (by omega)).mp c118))).1, (zm_wb1 (D := (zs_D zr (nI mm) xx yy sd)) (Or.inl ((z_nI0 (by omega)).mp c118))).2]) rfl rfl ?_
            exact ih_69 (k + 1) (z_fmx (z_df zr (xx + (sd * (Int32.toInt64 (z_tv 2 k)))) (yy + (sd * (Int32.toInt64 (z_tv 3 k))))) (-9223372036854775808) 24) (z_fmn (z_df zr (xx + (sd * (Int32.toInt64 (z_tv 2 k)))) (yy + (sd * (Int32.toInt64 (z_tv 3 k))))) 9223372036854775807 24) (by omega) (by omega)
          · skip
            exact absurd c118 c140
        · skip
          refine z_lload 121 C dX8_findCentre_121 0 rfl ?_
          refine z_lload 123 C dX8_findCentre_123 7 rfl ?_
          refine z_lcmp_ge 125 C 134 dX8_findCentre_125 dX8_findCentre_126 (by decide) (fun c125 => ?_) (fun c125 => ?_)
          · skip
            refine z_iload 134 C dX8_findCentre_134 6 rfl ?_
            refine z_istore 136 C dX8_findCentre_136 [(7, .int (nI (zm_way (zs_D zr (nI mm) xx yy sd) k))), (11, .long ((zs_D zr (nI mm) xx yy sd) k)), (0, .ref (z_ad G 105)), (1, .ref (z_ad G r)), (2, .int (nI mm)), (3, .long (z_F zr (nI mm) xx yy)), (5, .long sd), (8, .long (zm_bst (zs_D zr (nI mm) xx yy sd) k)), (10, .int (nI k))] (by decide) rfl ?_
            refine z_iload 138 C dX8_findCentre_138 8 rfl ?_
            refine z_if_eq 140 C 151 dX8_findCentre_140 (by decide) (fun c140 => ?_) (fun c140 => ?_)
            · skip
              exact absurd c140 c118
            · skip
              refine z_lload 143 C dX8_findCentre_143 1 rfl ?_
              refine z_lload 145 C dX8_findCentre_145 7 rfl ?_
              refine z_lcmp_ge 147 C 156 dX8_findCentre_147 dX8_findCentre_148 (by decide) (fun c147 => ?_) (fun c147 => ?_)
              · skip
                refine z_lload 156 C dX8_findCentre_156 7 rfl ?_
                refine z_lstore 158 C dX8_findCentre_158 [(8, .long (zm_bst (zs_D zr (nI mm) xx yy sd) k)), (7, .int (nI (zm_way (zs_D zr (nI mm) xx yy sd) k))), (11, .long ((zs_D zr (nI mm) xx yy sd) k)), (0, .ref (z_ad G 105)), (1, .ref (z_ad G r)), (2, .int (nI mm)), (3, .long (z_F zr (nI mm) xx yy)), (5, .long sd), (10, .int (nI k))] (by decide) rfl ?_
                refine z_iincN 160 C 8 k [(10, .int (nI (k + 1))), (8, .long (zm_bst (zs_D zr (nI mm) xx yy sd) k)), (7, .int (nI (zm_way (zs_D zr (nI mm) xx yy sd) k))), (11, .long ((zs_D zr (nI mm) xx yy sd) k)), (0, .ref (z_ad G 105)), (1, .ref (z_ad G r)), (2, .int (nI mm)), (3, .long (z_F zr (nI mm) xx yy)), (5, .long sd)] rfl rfl (by decide) rfl dX8_findCentre_160 ?_
                refine z_goto 163 C 69 dX8_findCentre_163 (by decide) ?_
                refine z_sub [4, 5, 6, 7, 8, 2, 1, 0] (lv1 := [(0, .ref (z_ad G 105)), (1, .ref (z_ad G r)), (2, .int (nI mm)), (3, .long (z_F zr (nI mm) xx yy)), (5, .long sd), (7, .int (nI (zm_way (zs_D zr (nI mm) xx yy sd) k))), (8, .long (zm_bst (zs_D zr (nI mm) xx yy sd) k)), (10, .int (nI (k + 1)))]) rfl ?_
                refine z_cv (lv1 := [(0, .ref (z_ad G 105)), (1, .ref (z_ad G r)), (2, .int (nI mm)), (3, .long (z_F zr (nI mm) xx yy)), (5, .long sd), (7, .int (nI (zm_way (zs_D zr (nI mm) xx yy sd) (k + 1)))), (8, .long (zm_bst (zs_D zr (nI mm) xx yy sd) (k + 1))), (10, .int (nI (k + 1)))]) (st1 := []) (σ1 := z_mU σ xx yy (z_fmx (z_df zr (xx + (sd * (Int32.toInt64 (z_tv 2 k)))) (yy + (sd * (Int32.toInt64 (z_tv 3 k))))) (-9223372036854775808) 24) (z_fmn (z_df zr (xx + (sd * (Int32.toInt64 (z_tv 2 k)))) (yy + (sd * (Int32.toInt64 (z_tv 3 k))))) 9223372036854775807 24) as_ of_) (by rw [(zm_wb0 (D := (zs_D zr (nI mm) xx yy sd)) (fun z => c118 ((z_nI0 (by omega)).mpr z)) c125).1, (zm_wb0 (D := (zs_D zr (nI mm) xx yy sd)) (fun z => c118 ((z_nI0 (by omega)).mpr z)) c125).2]) rfl rfl ?_
                exact ih_69 (k + 1) (z_fmx (z_df zr (xx + (sd * (Int32.toInt64 (z_tv 2 k)))) (yy + (sd * (Int32.toInt64 (z_tv 3 k))))) (-9223372036854775808) 24) (z_fmn (z_df zr (xx + (sd * (Int32.toInt64 (z_tv 2 k)))) (yy + (sd * (Int32.toInt64 (z_tv 3 k))))) 9223372036854775807 24) (by omega) (by omega)
              · skip
                exact absurd c125 c147
          · skip
            refine z_iload 129 C dX8_findCentre_129 8 rfl ?_
            refine z_goto 131 C 136 dX8_findCentre_131 (by decide) ?_
            refine z_istore 136 C dX8_findCentre_136 [(7, .int (nI k)), (11, .long ((zs_D zr (nI mm) xx yy sd) k)), (0, .ref (z_ad G 105)), (1, .ref (z_ad G r)), (2, .int (nI mm)), (3, .long (z_F zr (nI mm) xx yy)), (5, .long sd), (8, .long (zm_bst (zs_D zr (nI mm) xx yy sd) k)), (10, .int (nI k))] (by decide) rfl ?_
            refine z_iload 138 C dX8_findCentre_138 8 rfl ?_
            refine z_if_eq 140 C 151 dX8_findCentre_140 (by decide) (fun c140 => ?_) (fun c140 => ?_)
            · skip
              exact absurd c140 c118
            · skip
              refine z_lload 143 C dX8_findCentre_143 1 rfl ?_
              refine z_lload 145 C dX8_findCentre_145 7 rfl ?_
              refine z_lcmp_ge 147 C 156 dX8_findCentre_147 dX8_findCentre_148 (by decide) (fun c147 => ?_) (fun c147 => ?_)
              · skip
                exact absurd c147 c125
              · skip
                refine z_lload 151 C dX8_findCentre_151 1 rfl ?_
                refine z_goto 153 C 158 dX8_findCentre_153 (by decide) ?_
                refine z_lstore 158 C dX8_findCentre_158 [(8, .long ((zs_D zr (nI mm) xx yy sd) k)), (7, .int (nI k)), (11, .long ((zs_D zr (nI mm) xx yy sd) k)), (0, .ref (z_ad G 105)), (1, .ref (z_ad G r)), (2, .int (nI mm)), (3, .long (z_F zr (nI mm) xx yy)), (5, .long sd), (10, .int (nI k))] (by decide) rfl ?_
                refine z_iincN 160 C 8 k [(10, .int (nI (k + 1))), (8, .long ((zs_D zr (nI mm) xx yy sd) k)), (7, .int (nI k)), (11, .long ((zs_D zr (nI mm) xx yy sd) k)), (0, .ref (z_ad G 105)), (1, .ref (z_ad G r)), (2, .int (nI mm)), (3, .long (z_F zr (nI mm) xx yy)), (5, .long sd)] rfl rfl (by decide) rfl dX8_findCentre_160 ?_
                refine z_goto 163 C 69 dX8_findCentre_163 (by decide) ?_
                refine z_sub [4, 5, 6, 7, 8, 2, 1, 0] (lv1 := [(0, .ref (z_ad G 105)), (1, .ref (z_ad G r)), (2, .int (nI mm)), (3, .long (z_F zr (nI mm) xx yy)), (5, .long sd), (7, .int (nI k)), (8, .long ((zs_D zr (nI mm) xx yy sd) k)), (10, .int (nI (k + 1)))]) rfl ?_
                refine z_cv (lv1 := [(0, .ref (z_ad G 105)), (1, .ref (z_ad G r)), (2, .int (nI mm)), (3, .long (z_F zr (nI mm) xx yy)), (5, .long sd), (7, .int (nI (zm_way (zs_D zr (nI mm) xx yy sd) (k + 1)))), (8, .long (zm_bst (zs_D zr (nI mm) xx yy sd) (k + 1))), (10, .int (nI (k + 1)))]) (st1 := []) (σ1 := z_mU σ xx yy (z_fmx (z_df zr (xx + (sd * (Int32.toInt64 (z_tv 2 k)))) (yy + (sd * (Int32.toInt64 (z_tv 3 k))))) (-9223372036854775808) 24) (z_fmn (z_df zr (xx + (sd * (Int32.toInt64 (z_tv 2 k)))) (yy + (sd * (Int32.toInt64 (z_tv 3 k))))) 9223372036854775807 24) as_ of_) (by rw [(zm_wb1 (D := (zs_D zr (nI mm) xx yy sd)) (Or.inr (Int64.not_le.mp c125))).1, (zm_wb1 (D := (zs_D zr (nI mm) xx yy sd)) (Or.inr (Int64.not_le.mp c125))).2]) rfl rfl ?_
                exact ih_69 (k + 1) (z_fmx (z_df zr (xx + (sd * (Int32.toInt64 (z_tv 2 k)))) (yy + (sd * (Int32.toInt64 (z_tv 3 k))))) (-9223372036854775808) 24) (z_fmn (z_df zr (xx + (sd * (Int32.toInt64 (z_tv 2 k)))) (yy + (sd * (Int32.toInt64 (z_tv 3 k))))) 9223372036854775807 24) (by omega) (by omega)
  · skip
    have cm : mm = 0 := (z_nI0 (by omega)).mp c11
    refine z_aload_n 14 C dX8_findCentre_14 0 rfl ?_
    refine z_aload_n 15 C dX8_findCentre_15 0 rfl ?_
    refine z_aload_n 16 C dX8_findCentre_16 1 rfl ?_
    refine z_iconst 17 C dX8_findCentre_17 (nI 0) rfl ?_
    refine z_iconst 18 C dX8_findCentre_18 (nI 1) rfl ?_
    refine z_iconst 19 C dX8_findCentre_19 (nI 0) rfl ?_
    refine z_callV 20 C 105 (⟨rfl, rfl⟩) rfl (As := [.ref (z_ad G r), .int (nI 0), .int (nI 1), .int (nI 0)]) (rest := [.ref (z_ad G 105)]) (m_X8_harmonicIn (σ := z_mU σ 0 0 mo le as_ of_) P n u v w rc tl hM.mU r 0 1 0 24 (hr) (by omega) (by omega) (by omega) (by omega)) k_X8_harmonicIn q1195 ⟨rfl, rfl⟩ ⟨Nat.le_of_ble_eq_true rfl, Nat.le_of_ble_eq_true rfl⟩ rfl (Nat.le_of_ble_eq_true rfl) ⟨Nat.le_of_ble_eq_true rfl, Nat.le_of_ble_eq_true rfl⟩ rfl dX8_findCentre_20 (z_k1 ?_)
    refine z_cv (lv1 := [(0, .ref (z_ad G 105)), (1, .ref (z_ad G r)), (2, .int (nI mm))]) (st1 := [.long (z_cf zr 0 1), .ref (z_ad G 105)]) (σ1 := z_mU σ 0 0 mo le as_ of_) rfl (by rw [hz, z_sh0]) rfl ?_
    refine z_putl 23 C 105 z_dX8 (⟨rfl, rfl⟩) 10 (by decide) q976 rfl (rfl) rfl z_mU_hcx dX8_findCentre_23 ?_
    refine z_cv (σ1 := z_mU σ (z_cf zr 0 1) 0 mo le as_ of_) rfl rfl z_mU_pcx ?_
    refine z_aload_n 26 C dX8_findCentre_26 0 rfl ?_
    refine z_aload_n 27 C dX8_findCentre_27 0 rfl ?_
    refine z_aload_n 28 C dX8_findCentre_28 1 rfl ?_
    refine z_iconst 29 C dX8_findCentre_29 (nI 0) rfl ?_
    refine z_iconst 30 C dX8_findCentre_30 (nI 1) rfl ?_
    refine z_iconst 31 C dX8_findCentre_31 (nI 1) rfl ?_
    refine z_callV 32 C 105 (⟨rfl, rfl⟩) rfl (As := [.ref (z_ad G r), .int (nI 0), .int (nI 1), .int (nI 1)]) (rest := [.ref (z_ad G 105)]) (m_X8_harmonicIn (σ := z_mU σ (z_cf zr 0 1) 0 mo le as_ of_) P n u v w rc tl hM.mU r 0 1 1 24 (hr) (by omega) (by omega) (by omega) (by omega)) k_X8_harmonicIn q1195 ⟨rfl, rfl⟩ ⟨Nat.le_of_ble_eq_true rfl, Nat.le_of_ble_eq_true rfl⟩ rfl (Nat.le_of_ble_eq_true rfl) ⟨Nat.le_of_ble_eq_true rfl, Nat.le_of_ble_eq_true rfl⟩ rfl dX8_findCentre_32 (z_k1 ?_)
    refine z_cv (lv1 := [(0, .ref (z_ad G 105)), (1, .ref (z_ad G r)), (2, .int (nI mm))]) (st1 := [.long (z_cf zr 1 1), .ref (z_ad G 105)]) (σ1 := z_mU σ (z_cf zr 0 1) 0 mo le as_ of_) rfl (by rw [hz, z_sh0]) rfl ?_
    refine z_putl 35 C 105 z_dX8 (⟨rfl, rfl⟩) 11 (by decide) q977 rfl (rfl) rfl z_mU_hcy dX8_findCentre_35 ?_
    refine z_cv (σ1 := z_mU σ (z_cf zr 0 1) (z_cf zr 1 1) mo le as_ of_) rfl rfl z_mU_pcy ?_
    refine z_vret 38 C dX8_findCentre_38 ?_
    refine ⟨rfl, mo, le, ?_⟩
    rw [show z_cx zr mm = z_cf zr 0 1 from if_pos cm, show z_cy zr mm = z_cf zr 1 1 from if_pos cm]
theorem dX8_roundnessOf_0 : decode cX8_roundnessOf 0 = .ok (.aload_n 0, 1) := by decide +kernel
theorem dX8_roundnessOf_1 : decode cX8_roundnessOf 1 = .ok (.aload_n 1, 1) := by decide +kernel
theorem dX8_roundnessOf_2 : decode cX8_roundnessOf 2 = .ok (.iload_n 2, 1) := by decide +kernel
theorem dX8_roundnessOf_3 : decode cX8_roundnessOf 3 = .ok (.invokevirtual 226, 3) := by decide +kernel
theorem dX8_roundnessOf_6 : decode cX8_roundnessOf 6 = .ok (.aload_n 0, 1) := by decide +kernel
theorem dX8_roundnessOf_7 : decode cX8_roundnessOf 7 = .ok (.aload_n 1, 1) := by decide +kernel
theorem dX8_roundnessOf_8 : decode cX8_roundnessOf 8 = .ok (.iconst 0, 1) := by decide +kernel
theorem dX8_roundnessOf_9 : decode cX8_roundnessOf 9 = .ok (.aload_n 0, 1) := by decide +kernel
theorem dX8_roundnessOf_10 : decode cX8_roundnessOf 10 = .ok (.getfield 214, 3) := by decide +kernel
theorem dX8_roundnessOf_13 : decode cX8_roundnessOf 13 = .ok (.aload_n 0, 1) := by decide +kernel
theorem dX8_roundnessOf_14 : decode cX8_roundnessOf 14 = .ok (.getfield 217, 3) := by decide +kernel
theorem dX8_roundnessOf_17 : decode cX8_roundnessOf 17 = .ok (.invokevirtual 210, 3) := by decide +kernel
theorem dX8_roundnessOf_20 : decode cX8_roundnessOf 20 = .ok (.aload_n 0, 1) := by decide +kernel
theorem dX8_roundnessOf_21 : decode cX8_roundnessOf 21 = .ok (.getfield 203, 3) := by decide +kernel
theorem dX8_roundnessOf_24 : decode cX8_roundnessOf 24 = .ok (.aload_n 0, 1) := by decide +kernel
theorem dX8_roundnessOf_25 : decode cX8_roundnessOf 25 = .ok (.getfield 207, 3) := by decide +kernel
theorem dX8_roundnessOf_28 : decode cX8_roundnessOf 28 = .ok (.lsub, 1) := by decide +kernel
theorem dX8_roundnessOf_29 : decode cX8_roundnessOf 29 = .ok (.lreturn, 1) := by decide +kernel
set_option maxRecDepth 100000 in
set_option maxHeartbeats 4000000 in
theorem m_X8_roundnessOf {l : Launch} {G : z_Gl} {σ : z_St} (P n u v w rc tl : Nat) (hM : z_mi σ P n u v w rc tl) (cx cy mo le : Int64) (as_ of_ : Nat → Int64) (r mm : Nat) (hmm : mm ≤ 3) (zr : Nat → Int64) (hp : zs_hb zr) (hr : z_kd r = 2 ∧ z_sz r = 24) (hz : ∀ cx cy mo le, (z_mU σ cx cy mo le as_ of_).2 r = zr) : z_M l G yX8_roundnessOf cX8_roundnessOf 3 (some .long) (z_rm 7 178) [.ref (z_ad G 105), .ref (z_ad G r), .int (nI mm)] (z_mU σ cx cy mo le as_ of_) (fun v σ1 => v = some (.long (z_tp zr mm - z_bt zr mm)) ∧ ∃ q1 q2 q3 q4, σ1 = z_mU σ q1 q2 q3 q4 as_ of_) := by
  refine z_M.of (by decide) (Nat.le_of_ble_eq_true rfl) (fun p e s m below meth c C => ?_)
  refine z_sub [0, 1, 2] (lv1 := [(0, .ref (z_ad G 105)), (1, .ref (z_ad G r)), (2, .int (nI mm))]) rfl ?_
  have hM0 := hM
  obtain ⟨⟨hP, hn, hu, hv, hw, hrc, htl⟩, hPs, hnP, huv, hw6, hrc8, htl2, hqt, hah⟩ := hM0
  have h0 : 0 < P := by omega
  have h12 : P ≤ 12 := by omega
  have h288 : n ≤ 288 := by omega
  refine z_aload_n 0 C dX8_roundnessOf_0 0 rfl ?_
  refine z_aload_n 1 C dX8_roundnessOf_1 1 rfl ?_
  refine z_iload_n 2 C dX8_roundnessOf_2 2 rfl ?_
  refine z_callV 3 C 105 (⟨rfl, rfl⟩) rfl (As := [.ref (z_ad G r), .int (nI mm)]) (rest := []) (@m_X8_findCentre _ _ σ P n u v w rc tl hM cx cy mo le as_ of_ r mm (by omega) zr (hp) (hr) (hz)) k_X8_findCentre q1266 ⟨rfl, rfl⟩ ⟨Nat.le_of_ble_eq_true rfl, Nat.le_of_ble_eq_true rfl⟩ rfl (Nat.le_of_ble_eq_true rfl) ⟨Nat.le_of_ble_eq_true rfl, Nat.le_of_ble_eq_true rfl⟩ rfl dX8_roundnessOf_3 (fun v3 σ3 hv3 => ?_)
  rcases hv3 with ⟨rfl, q1_3, q2_3, rfl⟩
  · skip
    refine z_cv (st1 := []) rfl rfl rfl ?_
    refine z_aload_n 6 C dX8_roundnessOf_6 0 rfl ?_
    refine z_aload_n 7 C dX8_roundnessOf_7 1 rfl ?_
    refine z_iconst 8 C dX8_roundnessOf_8 (nI 0) rfl ?_
    refine z_aload_n 9 C dX8_roundnessOf_9 0 rfl ?_
    refine z_getf 10 C 105 z_dX8 (⟨rfl, rfl⟩) 10 (by decide) q976 (.long (z_cx zr mm)) z_mU_gcx dX8_roundnessOf_10 ?_
    refine z_aload_n 13 C dX8_roundnessOf_13 0 rfl ?_
    refine z_getf 14 C 105 z_dX8 (⟨rfl, rfl⟩) 11 (by decide) q977 (.long (z_cy zr mm)) z_mU_gcy dX8_roundnessOf_14 ?_
    refine z_callV 17 C 105 (⟨rfl, rfl⟩) rfl (As := [.ref (z_ad G r), .int (nI 0), .long (z_cx zr mm), .long (z_cy zr mm)]) (rest := []) (@m_X8_findEnds _ _ σ P n u v w rc tl hM (z_cx zr mm) (z_cy zr mm) q1_3 q2_3 as_ of_ r 0 24 (z_cx zr mm) (z_cy zr mm) zr (hr) (by omega) (by omega) (hz)) k_X8_findEnds q1274 ⟨rfl, rfl⟩ ⟨Nat.le_of_ble_eq_true rfl, Nat.le_of_ble_eq_true rfl⟩ rfl (Nat.le_of_ble_eq_true rfl) ⟨Nat.le_of_ble_eq_true rfl, Nat.le_of_ble_eq_true rfl⟩ rfl dX8_roundnessOf_17 (z_k0 ?_)
    refine z_aload_n 20 C dX8_roundnessOf_20 0 rfl ?_
    refine z_getf 21 C 105 z_dX8 (⟨rfl, rfl⟩) 12 (by decide) q978 (.long (z_fmx (z_df (z_sh zr 0) (z_cx zr mm) (z_cy zr mm)) (-9223372036854775808) 24)) z_mU_gmo dX8_roundnessOf_21 ?_
    refine z_aload_n 24 C dX8_roundnessOf_24 0 rfl ?_
    refine z_getf 25 C 105 z_dX8 (⟨rfl, rfl⟩) 13 (by decide) q979 (.long (z_fmn (z_df (z_sh zr 0) (z_cx zr mm) (z_cy zr mm)) 9223372036854775807 24)) z_mU_gle dX8_roundnessOf_25 ?_
    refine z_lsub 28 C dX8_roundnessOf_28 ?_
    refine z_lret 29 C dX8_roundnessOf_29 ?_
    refine ⟨z_cl ?_, _, _, _, _, rfl⟩
    rw [z_sh0]
    rfl
theorem dX8_centre_0 : decode cX8_centre 0 = .ok (.iload_n 1, 1) := by decide +kernel
theorem dX8_centre_1 : decode cX8_centre 1 = .ok (.invokestatic 232, 3) := by decide +kernel
theorem dX8_centre_4 : decode cX8_centre 4 = .ok (.ifCond .eq 7, 3) := by decide +kernel
theorem dX8_centre_7 : decode cX8_centre 7 = .ok (.invokestatic 127, 3) := by decide +kernel
theorem dX8_centre_10 : decode cX8_centre 10 = .ok (.lreturn, 1) := by decide +kernel
theorem dX8_centre_11 : decode cX8_centre 11 = .ok (.aload_n 0, 1) := by decide +kernel
theorem dX8_centre_12 : decode cX8_centre 12 = .ok (.aload_n 0, 1) := by decide +kernel
theorem dX8_centre_13 : decode cX8_centre 13 = .ok (.getfield 22, 3) := by decide +kernel
theorem dX8_centre_16 : decode cX8_centre 16 = .ok (.iload_n 1, 1) := by decide +kernel
theorem dX8_centre_17 : decode cX8_centre 17 = .ok (.invokevirtual 226, 3) := by decide +kernel
theorem dX8_centre_20 : decode cX8_centre 20 = .ok (.iload_n 2, 1) := by decide +kernel
theorem dX8_centre_21 : decode cX8_centre 21 = .ok (.ifCond .eq 10, 3) := by decide +kernel
theorem dX8_centre_24 : decode cX8_centre 24 = .ok (.aload_n 0, 1) := by decide +kernel
theorem dX8_centre_25 : decode cX8_centre 25 = .ok (.getfield 217, 3) := by decide +kernel
theorem dX8_centre_28 : decode cX8_centre 28 = .ok (.goto 7, 3) := by decide +kernel
theorem dX8_centre_31 : decode cX8_centre 31 = .ok (.aload_n 0, 1) := by decide +kernel
theorem dX8_centre_32 : decode cX8_centre 32 = .ok (.getfield 214, 3) := by decide +kernel
theorem dX8_centre_35 : decode cX8_centre 35 = .ok (.lreturn, 1) := by decide +kernel
set_option maxRecDepth 100000 in
set_option maxHeartbeats 4000000 in
theorem m_X8_centre {l : Launch} {G : z_Gl} {σ : z_St} (P n u v w rc tl : Nat) (hM : z_mi σ P n u v w rc tl) (cx cy mo le : Int64) (as_ of_ : Nat → Int64) (x : Int32) (t : Nat) (ht : t < 2) (hp : zs_hb (σ.2 108)) : z_M l G yX8_centre cX8_centre 3 (some .long) (z_rm 7 178) [.ref (z_ad G 105), .int x, .int (nI t)] (z_mU σ cx cy mo le as_ of_) (fun w_ σ1 => w_ = some (.long (if x < nI 0 ∨ nI 3 < x then (-9223372036854775808) else if t = 0 then z_cx (σ.2 108) (z_n x) else z_cy (σ.2 108) (z_n x))) ∧ ∃ q1 q2 q3 q4, σ1 = z_mU σ q1 q2 q3 q4 as_ of_) := by
  refine z_M.of (by decide) (Nat.le_of_ble_eq_true rfl) (fun p e s m below meth c C => ?_)
  refine z_sub [0, 1, 2] (lv1 := [(0, .ref (z_ad G 105)), (1, .int x), (2, .int (nI t))]) rfl ?_
  have hM0 := hM
  obtain ⟨⟨hP, hn, hu, hv, hw, hrc, htl⟩, hPs, hnP, huv, hw6, hrc8, htl2, hqt, hah⟩ := hM0
  have h0 : 0 < P := by omega
  have h12 : P ≤ 12 := by omega
  have h288 : n ≤ 288 := by omega
  refine z_iload_n 0 C dX8_centre_0 1 rfl ?_
  refine z_callS 1 C (As := [.int x]) (rest := []) (m_X8_noMethod (σ := z_mU σ cx cy mo le as_ of_) x) k_X8_noMethod q1262 ⟨rfl, rfl⟩ ⟨Nat.le_of_ble_eq_true rfl, Nat.le_of_ble_eq_true rfl⟩ rfl (Nat.le_of_ble_eq_true rfl) ⟨Nat.le_of_ble_eq_true rfl, Nat.le_of_ble_eq_true rfl⟩ rfl dX8_centre_1 (z_k1 ?_)
  refine z_if_eqb 4 C 11 dX8_centre_4 (by decide) (fun c4 => ?_) (fun c4 => ?_)
  · skip
    obtain ⟨a, ha, rfl⟩ := z_in0 (by decide) c4
    refine z_aload_n 11 C dX8_centre_11 0 rfl ?_
    refine z_aload_n 12 C dX8_centre_12 0 rfl ?_
    refine z_getf 13 C 105 z_dX8 (⟨rfl, rfl⟩) 4 (by decide) q970 (.ref (z_ad G 108)) rfl dX8_centre_13 ?_
    refine z_iload_n 16 C dX8_centre_16 1 rfl ?_
    refine z_callV 17 C 105 (⟨rfl, rfl⟩) rfl (As := [.ref (z_ad G 108), .int (nI a)]) (rest := []) (@m_X8_findCentre _ _ σ P n u v w rc tl hM cx cy mo le as_ of_ 108 a (by omega) (σ.2 108) (hp) (⟨rfl, rfl⟩) (fun _ _ _ _ => rfl)) k_X8_findCentre q1266 ⟨rfl, rfl⟩ ⟨Nat.le_of_ble_eq_true rfl, Nat.le_of_ble_eq_true rfl⟩ rfl (Nat.le_of_ble_eq_true rfl) ⟨Nat.le_of_ble_eq_true rfl, Nat.le_of_ble_eq_true rfl⟩ rfl dX8_centre_17 (fun v17 σ17 hv17 => ?_)
    rcases hv17 with ⟨rfl, q1_17, q2_17, rfl⟩
    · skip
      refine z_cv (st1 := []) rfl rfl rfl ?_
      refine z_iload_n 20 C dX8_centre_20 2 rfl ?_
      refine z_if_eq 21 C 31 dX8_centre_21 (by decide) (fun c21 => ?_) (fun c21 => ?_)
      · skip
        refine z_aload_n 31 C dX8_centre_31 0 rfl ?_
        refine z_getf 32 C 105 z_dX8 (⟨rfl, rfl⟩) 10 (by decide) q976 (.long (z_cx (σ.2 108) a)) z_mU_gcx dX8_centre_32 ?_
        refine z_lret 35 C dX8_centre_35 ?_
        first | exact ⟨z_cl (by rw [if_neg c4, if_pos ((z_nI0 (by omega)).mp c21), z_nk (k := a) (by omega)]), _, _, _, _, rfl⟩ | exact ⟨z_cl (by rw [if_neg c4, if_neg (fun z => c21 ((z_nI0 (by omega)).mpr z)), z_nk (k := a) (by omega)]), _, _, _, _, rfl⟩
      · skip
        refine z_aload_n 24 C dX8_centre_24 0 rfl ?_
        refine z_getf 25 C 105 z_dX8 (⟨rfl, rfl⟩) 11 (by decide) q977 (.long (z_cy (σ.2 108) a)) z_mU_gcy dX8_centre_25 ?_
        refine z_goto 28 C 35 dX8_centre_28 (by decide) ?_
        refine z_lret 35 C dX8_centre_35 ?_
        first | exact ⟨z_cl (by rw [if_neg c4, if_pos ((z_nI0 (by omega)).mp c21), z_nk (k := a) (by omega)]), _, _, _, _, rfl⟩ | exact ⟨z_cl (by rw [if_neg c4, if_neg (fun z => c21 ((z_nI0 (by omega)).mpr z)), z_nk (k := a) (by omega)]), _, _, _, _, rfl⟩
  · skip
    refine z_callS 7 C (As := []) (rest := []) (m_X8_lost (σ := z_mU σ cx cy mo le as_ of_)) k_X8_lost q1123 ⟨rfl, rfl⟩ ⟨Nat.le_of_ble_eq_true rfl, Nat.le_of_ble_eq_true rfl⟩ rfl (Nat.le_of_ble_eq_true rfl) ⟨Nat.le_of_ble_eq_true rfl, Nat.le_of_ble_eq_true rfl⟩ rfl dX8_centre_7 (z_k1 ?_)
    refine z_lret 10 C dX8_centre_10 ?_
    exact ⟨z_cl (by rw [if_pos c4]), _, _, _, _, rfl⟩
theorem dX8_layOff_0 : decode cX8_layOff 0 = .ok (.aload_n 0, 1) := by decide +kernel
theorem dX8_layOff_1 : decode cX8_layOff 1 = .ok (.aload_n 0, 1) := by decide +kernel
theorem dX8_layOff_2 : decode cX8_layOff 2 = .ok (.getfield 22, 3) := by decide +kernel
theorem dX8_layOff_5 : decode cX8_layOff 5 = .ok (.iload_n 1, 1) := by decide +kernel
theorem dX8_layOff_6 : decode cX8_layOff 6 = .ok (.invokevirtual 226, 3) := by decide +kernel
theorem dX8_layOff_9 : decode cX8_layOff 9 = .ok (.iconst 0, 1) := by decide +kernel
theorem dX8_layOff_10 : decode cX8_layOff 10 = .ok (.istore_n 2, 1) := by decide +kernel
theorem dX8_layOff_11 : decode cX8_layOff 11 = .ok (.iload_n 2, 1) := by decide +kernel
theorem dX8_layOff_12 : decode cX8_layOff 12 = .ok (.bipush 24, 2) := by decide +kernel
theorem dX8_layOff_14 : decode cX8_layOff 14 = .ok (.if_icmp .ge 33, 3) := by decide +kernel
theorem dX8_layOff_17 : decode cX8_layOff 17 = .ok (.aload_n 0, 1) := by decide +kernel
theorem dX8_layOff_18 : decode cX8_layOff 18 = .ok (.getfield 41, 3) := by decide +kernel
theorem dX8_layOff_21 : decode cX8_layOff 21 = .ok (.iload_n 2, 1) := by decide +kernel
theorem dX8_layOff_22 : decode cX8_layOff 22 = .ok (.aload_n 0, 1) := by decide +kernel
theorem dX8_layOff_23 : decode cX8_layOff 23 = .ok (.aload_n 0, 1) := by decide +kernel
theorem dX8_layOff_24 : decode cX8_layOff 24 = .ok (.getfield 22, 3) := by decide +kernel
theorem dX8_layOff_27 : decode cX8_layOff 27 = .ok (.iconst 0, 1) := by decide +kernel
theorem dX8_layOff_28 : decode cX8_layOff 28 = .ok (.iload_n 2, 1) := by decide +kernel
theorem dX8_layOff_29 : decode cX8_layOff 29 = .ok (.aload_n 0, 1) := by decide +kernel
theorem dX8_layOff_30 : decode cX8_layOff 30 = .ok (.getfield 214, 3) := by decide +kernel
theorem dX8_layOff_33 : decode cX8_layOff 33 = .ok (.aload_n 0, 1) := by decide +kernel
theorem dX8_layOff_34 : decode cX8_layOff 34 = .ok (.getfield 217, 3) := by decide +kernel
theorem dX8_layOff_37 : decode cX8_layOff 37 = .ok (.invokevirtual 199, 3) := by decide +kernel
theorem dX8_layOff_40 : decode cX8_layOff 40 = .ok (.lastore, 1) := by decide +kernel
theorem dX8_layOff_41 : decode cX8_layOff 41 = .ok (.iinc 2 1, 3) := by decide +kernel
theorem dX8_layOff_44 : decode cX8_layOff 44 = .ok (.goto (-33), 3) := by decide +kernel
theorem dX8_layOff_47 : decode cX8_layOff 47 = .ok (.return_, 1) := by decide +kernel
set_option maxRecDepth 100000 in
set_option maxHeartbeats 4000000 in
theorem m_X8_layOff {l : Launch} {G : z_Gl} {σ : z_St} (P n u v w rc tl : Nat) (hM : z_mi σ P n u v w rc tl) (cx cy mo le : Int64) (as_ of_ : Nat → Int64) (mm : Nat) (hmm : mm ≤ 3) (hp : zs_hb (σ.2 108)) : z_M l G yX8_layOff cX8_layOff 3 none (z_rm 7 178) [.ref (z_ad G 105), .int (nI mm)] (z_mU σ cx cy mo le as_ of_) (fun v σ1 => v = none ∧ ∃ q1 q2 q3 q4, σ1 = z_mU σ q1 q2 q3 q4 as_ (z_fil (z_cd (σ.2 108) mm) of_ 24)) := by
  refine z_M.of (by decide) (Nat.le_of_ble_eq_true rfl) (fun p e s m below meth c C => ?_)
  refine z_sub [0, 1] (lv1 := [(0, .ref (z_ad G 105)), (1, .int (nI mm))]) rfl ?_
  have hM0 := hM
  obtain ⟨⟨hP, hn, hu, hv, hw, hrc, htl⟩, hPs, hnP, huv, hw6, hrc8, htl2, hqt, hah⟩ := hM0
  have h0 : 0 < P := by omega
  have h12 : P ≤ 12 := by omega
  have h288 : n ≤ 288 := by omega
  refine z_aload_n 0 C dX8_layOff_0 0 rfl ?_
  refine z_aload_n 1 C dX8_layOff_1 0 rfl ?_
  refine z_getf 2 C 105 z_dX8 (⟨rfl, rfl⟩) 4 (by decide) q970 (.ref (z_ad G 108)) rfl dX8_layOff_2 ?_
  refine z_iload_n 5 C dX8_layOff_5 1 rfl ?_
  refine z_callV 6 C 105 (⟨rfl, rfl⟩) rfl (As := [.ref (z_ad G 108), .int (nI mm)]) (rest := []) (@m_X8_findCentre _ _ σ P n u v w rc tl hM cx cy mo le as_ of_ 108 mm (by omega) (σ.2 108) (hp) (⟨rfl, rfl⟩) (fun _ _ _ _ => rfl)) k_X8_findCentre q1266 ⟨rfl, rfl⟩ ⟨Nat.le_of_ble_eq_true rfl, Nat.le_of_ble_eq_true rfl⟩ rfl (Nat.le_of_ble_eq_true rfl) ⟨Nat.le_of_ble_eq_true rfl, Nat.le_of_ble_eq_true rfl⟩ rfl dX8_layOff_6 (fun v6 σ6 hv6 => ?_)
  rcases hv6 with ⟨rfl, q1_6, q2_6, rfl⟩
  · skip
    refine z_cv (st1 := []) rfl rfl rfl ?_
    refine z_iconst 9 C dX8_layOff_9 (nI 0) rfl ?_
    refine z_istore_n 10 C dX8_layOff_10 [(2, .int (nI 0)), (0, .ref (z_ad G 105)), (1, .int (nI mm))] (by decide) rfl ?_
    refine z_sub [1, 2, 0] (lv1 := [(0, .ref (z_ad G 105)), (1, .int (nI mm)), (2, .int (nI 0))]) rfl ?_
    refine z_cv (lv1 := [(0, .ref (z_ad G 105)), (1, .int (nI mm)), (2, .int (nI 0))]) (st1 := []) (σ1 := z_mU σ (z_cx (σ.2 108) mm) (z_cy (σ.2 108) mm) q1_6 q2_6 as_ (z_fil (z_cd (σ.2 108) mm) of_ 0)) rfl rfl (by rw [z_fil_0]) ?_
    refine z_lp1 (fun (k : Nat) => k ≤ 24) (fun (k : Nat) => 24 - k) (fun (k : Nat) => [(0, .ref (z_ad G 105)), (1, .int (nI mm)), (2, .int (nI k))]) (fun (k : Nat) => z_mU σ (z_cx (σ.2 108) mm) (z_cy (σ.2 108) mm) q1_6 q2_6 as_ (z_fil (z_cd (σ.2 108) mm) of_ k)) (fun k hi_11 ih_11 => ?_) 0 (by omega)
    try dsimp only
    refine z_iload_n 11 C dX8_layOff_11 2 rfl ?_
    refine z_bipush 12 C dX8_layOff_12 (nI 24) rfl ?_
    refine z_icmp_geN 14 C k 24 rfl rfl (by omega) (by omega) 47 dX8_layOff_14 (by decide) (fun c14 => ?_) (fun c14 => ?_)
    · skip
      have ek : k = 24 := by omega
      subst ek
      refine z_vret 47 C dX8_layOff_47 ?_
      exact ⟨rfl, _, _, _, _, rfl⟩
    · skip
      refine z_aload_n 17 C dX8_layOff_17 0 rfl ?_
      refine z_getf 18 C 105 z_dX8 (⟨rfl, rfl⟩) 16 (by decide) q982 (.ref (z_ad G 114)) rfl dX8_layOff_18 ?_
      refine z_iload_n 21 C dX8_layOff_21 2 rfl ?_
      refine z_aload_n 22 C dX8_layOff_22 0 rfl ?_
      refine z_aload_n 23 C dX8_layOff_23 0 rfl ?_
      refine z_getf 24 C 105 z_dX8 (⟨rfl, rfl⟩) 4 (by decide) q970 (.ref (z_ad G 108)) rfl dX8_layOff_24 ?_
      refine z_iconst 27 C dX8_layOff_27 (nI 0) rfl ?_
      refine z_iload_n 28 C dX8_layOff_28 2 rfl ?_
      refine z_aload_n 29 C dX8_layOff_29 0 rfl ?_
      refine z_getf 30 C 105 z_dX8 (⟨rfl, rfl⟩) 10 (by decide) q976 (.long (z_cx (σ.2 108) mm)) z_mU_gcx dX8_layOff_30 ?_
      refine z_aload_n 33 C dX8_layOff_33 0 rfl ?_
      refine z_getf 34 C 105 z_dX8 (⟨rfl, rfl⟩) 11 (by decide) q977 (.long (z_cy (σ.2 108) mm)) z_mU_gcy dX8_layOff_34 ?_
      refine z_callV 37 C 105 (⟨rfl, rfl⟩) rfl (As := [.ref (z_ad G 108), .int (nI 0), .int (nI k), .long (z_cx (σ.2 108) mm), .long (z_cy (σ.2 108) mm)]) (rest := [.int (nI k), .ref (z_ad G 114)]) (m_X8_offAt (σ := z_mU σ (z_cx (σ.2 108) mm) (z_cy (σ.2 108) mm) q1_6 q2_6 as_ (z_fil (z_cd (σ.2 108) mm) of_ k)) P n u v w rc tl hM.mU 108 0 k 24 (z_cx (σ.2 108) mm) (z_cy (σ.2 108) mm) (σ.2 108) (⟨rfl, rfl⟩) (by omega) (by omega) (by omega) (rfl)) k_X8_offAt q1278 ⟨rfl, rfl⟩ ⟨Nat.le_of_ble_eq_true rfl, Nat.le_of_ble_eq_true rfl⟩ rfl (Nat.le_of_ble_eq_true rfl) ⟨Nat.le_of_ble_eq_true rfl, Nat.le_of_ble_eq_true rfl⟩ rfl dX8_layOff_37 (z_k1 ?_)
      refine z_cv (lv1 := [(0, .ref (z_ad G 105)), (1, .int (nI mm)), (2, .int (nI k))]) (st1 := [.long (z_cd (σ.2 108) mm k), .int (nI k), .ref (z_ad G 114)]) (σ1 := z_mU σ (z_cx (σ.2 108) mm) (z_cy (σ.2 108) mm) q1_6 q2_6 as_ (z_fil (z_cd (σ.2 108) mm) of_ k)) rfl (by rw [z_sh0]; rfl) rfl ?_
      refine z_lastN 40 C 114 (n := 24) (⟨rfl, rfl⟩) k rfl (by omega) (by decide) dX8_layOff_40 ?_
      refine z_cv (σ1 := z_mU σ (z_cx (σ.2 108) mm) (z_cy (σ.2 108) mm) q1_6 q2_6 as_ (vp_updL (z_fil (z_cd (σ.2 108) mm) of_ k) k (z_cd (σ.2 108) mm k))) rfl rfl z_mU_wof_ ?_
      refine z_iincN 41 C 2 k [(2, .int (nI (k + 1))), (0, .ref (z_ad G 105)), (1, .int (nI mm))] rfl rfl (by decide) rfl dX8_layOff_41 ?_
      refine z_goto 44 C 11 dX8_layOff_44 (by decide) ?_
      refine z_sub [1, 2, 0] (lv1 := [(0, .ref (z_ad G 105)), (1, .int (nI mm)), (2, .int (nI (k + 1)))]) rfl ?_
      refine z_cv (lv1 := [(0, .ref (z_ad G 105)), (1, .int (nI mm)), (2, .int (nI (k + 1)))]) (st1 := []) (σ1 := z_mU σ (z_cx (σ.2 108) mm) (z_cy (σ.2 108) mm) q1_6 q2_6 as_ (z_fil (z_cd (σ.2 108) mm) of_ (k + 1))) rfl rfl (by rw [z_filS1]) ?_
      exact ih_11 (k + 1) (by omega) (by omega)
theorem dX8_deviation_0 : decode cX8_deviation 0 = .ok (.iload_n 1, 1) := by decide +kernel
theorem dX8_deviation_1 : decode cX8_deviation 1 = .ok (.invokestatic 232, 3) := by decide +kernel
theorem dX8_deviation_4 : decode cX8_deviation 4 = .ok (.ifCond .ne 10, 3) := by decide +kernel
theorem dX8_deviation_7 : decode cX8_deviation 7 = .ok (.iload_n 2, 1) := by decide +kernel
theorem dX8_deviation_8 : decode cX8_deviation 8 = .ok (.invokestatic 101, 3) := by decide +kernel
theorem dX8_deviation_11 : decode cX8_deviation 11 = .ok (.ifCond .eq 7, 3) := by decide +kernel
theorem dX8_deviation_14 : decode cX8_deviation 14 = .ok (.invokestatic 127, 3) := by decide +kernel
theorem dX8_deviation_17 : decode cX8_deviation 17 = .ok (.lreturn, 1) := by decide +kernel
theorem dX8_deviation_18 : decode cX8_deviation 18 = .ok (.aload_n 0, 1) := by decide +kernel
theorem dX8_deviation_19 : decode cX8_deviation 19 = .ok (.iload_n 1, 1) := by decide +kernel
theorem dX8_deviation_20 : decode cX8_deviation 20 = .ok (.invokevirtual 235, 3) := by decide +kernel
theorem dX8_deviation_23 : decode cX8_deviation 23 = .ok (.aload_n 0, 1) := by decide +kernel
theorem dX8_deviation_24 : decode cX8_deviation 24 = .ok (.getfield 41, 3) := by decide +kernel
theorem dX8_deviation_27 : decode cX8_deviation 27 = .ok (.iload_n 2, 1) := by decide +kernel
theorem dX8_deviation_28 : decode cX8_deviation 28 = .ok (.laload, 1) := by decide +kernel
theorem dX8_deviation_29 : decode cX8_deviation 29 = .ok (.lreturn, 1) := by decide +kernel
set_option maxRecDepth 100000 in
set_option maxHeartbeats 4000000 in
theorem m_X8_deviation {l : Launch} {G : z_Gl} {σ : z_St} (P n u v w rc tl : Nat) (hM : z_mi σ P n u v w rc tl) (cx cy mo le : Int64) (as_ of_ : Nat → Int64) (x y : Int32) (hp : zs_hb (σ.2 108)) : z_M l G yX8_deviation cX8_deviation 3 (some .long) (z_rm 8 200) [.ref (z_ad G 105), .int x, .int y] (z_mU σ cx cy mo le as_ of_) (fun w_ σ1 => w_ = some (.long (if x < nI 0 ∨ nI 3 < x then (-9223372036854775808) else if y < nI 0 ∨ nI 23 < y then (-9223372036854775808) else z_cd (σ.2 108) (z_n x) (z_n y))) ∧ ∃ q1 q2 q3 q4 oo, σ1 = z_mU σ q1 q2 q3 q4 as_ oo) := by
  refine z_M.of (by decide) (Nat.le_of_ble_eq_true rfl) (fun p e s m below meth c C => ?_)
  refine z_sub [0, 1, 2] (lv1 := [(0, .ref (z_ad G 105)), (1, .int x), (2, .int y)]) rfl ?_
  have hM0 := hM
  obtain ⟨⟨hP, hn, hu, hv, hw, hrc, htl⟩, hPs, hnP, huv, hw6, hrc8, htl2, hqt, hah⟩ := hM0
  have h0 : 0 < P := by omega
  have h12 : P ≤ 12 := by omega
  have h288 : n ≤ 288 := by omega
  refine z_iload_n 0 C dX8_deviation_0 1 rfl ?_
  refine z_callS 1 C (As := [.int x]) (rest := []) (m_X8_noMethod (σ := z_mU σ cx cy mo le as_ of_) x) k_X8_noMethod q1262 ⟨rfl, rfl⟩ ⟨Nat.le_of_ble_eq_true rfl, Nat.le_of_ble_eq_true rfl⟩ rfl (Nat.le_of_ble_eq_true rfl) ⟨Nat.le_of_ble_eq_true rfl, Nat.le_of_ble_eq_true rfl⟩ rfl dX8_deviation_1 (z_k1 ?_)
  refine z_if_neb 4 C 14 dX8_deviation_4 (by decide) (fun c4 => ?_) (fun c4 => ?_)
  · skip
    refine z_callS 14 C (As := []) (rest := []) (m_X8_lost (σ := z_mU σ cx cy mo le as_ of_)) k_X8_lost q1123 ⟨rfl, rfl⟩ ⟨Nat.le_of_ble_eq_true rfl, Nat.le_of_ble_eq_true rfl⟩ rfl (Nat.le_of_ble_eq_true rfl) ⟨Nat.le_of_ble_eq_true rfl, Nat.le_of_ble_eq_true rfl⟩ rfl dX8_deviation_14 (z_k1 ?_)
    refine z_lret 17 C dX8_deviation_17 ?_
    first | exact ⟨z_cl (by rw [if_pos c4]), _, _, _, _, _, rfl⟩ | exact ⟨z_cl (by rw [if_neg c4, if_pos c11]), _, _, _, _, _, rfl⟩
  · skip
    obtain ⟨a, ha, rfl⟩ := z_in0 (by decide) c4
    refine z_iload_n 7 C dX8_deviation_7 2 rfl ?_
    refine z_callS 8 C (As := [.int y]) (rest := []) (m_X8_noPlace (σ := z_mU σ cx cy mo le as_ of_) y) k_X8_noPlace q1096 ⟨rfl, rfl⟩ ⟨Nat.le_of_ble_eq_true rfl, Nat.le_of_ble_eq_true rfl⟩ rfl (Nat.le_of_ble_eq_true rfl) ⟨Nat.le_of_ble_eq_true rfl, Nat.le_of_ble_eq_true rfl⟩ rfl dX8_deviation_8 (z_k1 ?_)
    refine z_if_eqb 11 C 18 dX8_deviation_11 (by decide) (fun c11 => ?_) (fun c11 => ?_)
    · skip
      obtain ⟨d, hd, rfl⟩ := z_in0 (by decide) c11
      refine z_aload_n 18 C dX8_deviation_18 0 rfl ?_
      refine z_iload_n 19 C dX8_deviation_19 1 rfl ?_
      refine z_callV 20 C 105 (⟨rfl, rfl⟩) rfl (As := [.int (nI a)]) (rest := []) (@m_X8_layOff _ _ σ P n u v w rc tl hM cx cy mo le as_ of_ a (by omega) hp) k_X8_layOff q1290 ⟨rfl, rfl⟩ ⟨Nat.le_of_ble_eq_true rfl, Nat.le_of_ble_eq_true rfl⟩ rfl (Nat.le_of_ble_eq_true rfl) ⟨Nat.le_of_ble_eq_true rfl, Nat.le_of_ble_eq_true rfl⟩ rfl dX8_deviation_20 (fun v20 σ20 hv20 => ?_)
      rcases hv20 with ⟨rfl, q1_20, q2_20, q3_20, q4_20, rfl⟩
      · skip
        refine z_cv (st1 := []) rfl rfl rfl ?_
        refine z_aload_n 23 C dX8_deviation_23 0 rfl ?_
        refine z_getf 24 C 105 z_dX8 (⟨rfl, rfl⟩) 16 (by decide) q982 (.ref (z_ad G 114)) rfl dX8_deviation_24 ?_
        refine z_iload_n 27 C dX8_deviation_27 2 rfl ?_
        refine z_laldN 28 C 114 (n := 24) (⟨rfl, rfl⟩) d rfl (by omega) (by decide) dX8_deviation_28 ?_
        refine z_cv (st1 := [.long ((z_fil (z_cd (σ.2 108) a) of_ 24) d)]) rfl (by rw [z_mU_qof_]) rfl ?_
        refine z_lret 29 C dX8_deviation_29 ?_
        exact ⟨z_cl (by rw [if_neg c4, if_neg c11, z_nk (k := a) (by omega), z_nk (k := d) (by omega), z_fil_lt (by omega)]), _, _, _, _, _, rfl⟩
    · skip
      refine z_callS 14 C (As := []) (rest := []) (m_X8_lost (σ := z_mU σ cx cy mo le as_ of_)) k_X8_lost q1123 ⟨rfl, rfl⟩ ⟨Nat.le_of_ble_eq_true rfl, Nat.le_of_ble_eq_true rfl⟩ rfl (Nat.le_of_ble_eq_true rfl) ⟨Nat.le_of_ble_eq_true rfl, Nat.le_of_ble_eq_true rfl⟩ rfl dX8_deviation_14 (z_k1 ?_)
      refine z_lret 17 C dX8_deviation_17 ?_
      first | exact ⟨z_cl (by rw [if_pos c4]), _, _, _, _, _, rfl⟩ | exact ⟨z_cl (by rw [if_neg c4, if_pos c11]), _, _, _, _, _, rfl⟩
theorem dX8_roundness_0 : decode cX8_roundness 0 = .ok (.iload_n 1, 1) := by decide +kernel
theorem dX8_roundness_1 : decode cX8_roundness 1 = .ok (.invokestatic 232, 3) := by decide +kernel
theorem dX8_roundness_4 : decode cX8_roundness 4 = .ok (.ifCond .eq 9, 3) := by decide +kernel
theorem dX8_roundness_7 : decode cX8_roundness 7 = .ok (.ldc2_w 239, 3) := by decide +kernel
theorem dX8_roundness_10 : decode cX8_roundness 10 = .ok (.goto 17, 3) := by decide +kernel
theorem dX8_roundness_13 : decode cX8_roundness 13 = .ok (.aload_n 0, 1) := by decide +kernel
theorem dX8_roundness_14 : decode cX8_roundness 14 = .ok (.aload_n 0, 1) := by decide +kernel
theorem dX8_roundness_15 : decode cX8_roundness 15 = .ok (.getfield 22, 3) := by decide +kernel
theorem dX8_roundness_18 : decode cX8_roundness 18 = .ok (.iload_n 1, 1) := by decide +kernel
theorem dX8_roundness_19 : decode cX8_roundness 19 = .ok (.invokevirtual 241, 3) := by decide +kernel
theorem dX8_roundness_22 : decode cX8_roundness 22 = .ok (.l2d, 1) := by decide +kernel
theorem dX8_roundness_23 : decode cX8_roundness 23 = .ok (.ldc2_w 245, 3) := by decide +kernel
theorem dX8_roundness_26 : decode cX8_roundness 26 = .ok (.ddiv, 1) := by decide +kernel
theorem dX8_roundness_27 : decode cX8_roundness 27 = .ok (.dreturn, 1) := by decide +kernel
set_option maxRecDepth 100000 in
set_option maxHeartbeats 4000000 in
theorem m_X8_roundness {l : Launch} {G : z_Gl} {σ : z_St} (P n u v w rc tl : Nat) (hM : z_mi σ P n u v w rc tl) (cx cy mo le : Int64) (as_ of_ : Nat → Int64) (x : Int32) (hp : zs_hb (σ.2 108)) : z_M l G yX8_roundness cX8_roundness 2 (some .double) (z_rm 8 200) [.ref (z_ad G 105), .int x] (z_mU σ cx cy mo le as_ of_) (fun w_ σ1 => w_ = some (.double (if x < nI 0 ∨ nI 3 < x then 13830554455654793216 else z_mic (z_tp (σ.2 108) (z_n x) - z_bt (σ.2 108) (z_n x)))) ∧ ∃ q1 q2 q3 q4, σ1 = z_mU σ q1 q2 q3 q4 as_ of_) := by
  refine z_M.of (by decide) (Nat.le_of_ble_eq_true rfl) (fun p e s m below meth c C => ?_)
  refine z_sub [0, 1] (lv1 := [(0, .ref (z_ad G 105)), (1, .int x)]) rfl ?_
  have hM0 := hM
  obtain ⟨⟨hP, hn, hu, hv, hw, hrc, htl⟩, hPs, hnP, huv, hw6, hrc8, htl2, hqt, hah⟩ := hM0
  have h0 : 0 < P := by omega
  have h12 : P ≤ 12 := by omega
  have h288 : n ≤ 288 := by omega
  refine z_iload_n 0 C dX8_roundness_0 1 rfl ?_
  refine z_callS 1 C (As := [.int x]) (rest := []) (m_X8_noMethod (σ := z_mU σ cx cy mo le as_ of_) x) k_X8_noMethod q1262 ⟨rfl, rfl⟩ ⟨Nat.le_of_ble_eq_true rfl, Nat.le_of_ble_eq_true rfl⟩ rfl (Nat.le_of_ble_eq_true rfl) ⟨Nat.le_of_ble_eq_true rfl, Nat.le_of_ble_eq_true rfl⟩ rfl dX8_roundness_1 (z_k1 ?_)
  refine z_if_eqb 4 C 13 dX8_roundness_4 (by decide) (fun c4 => ?_) (fun c4 => ?_)
  · skip
    obtain ⟨a, ha, rfl⟩ := z_in0 (by decide) c4
    refine z_aload_n 13 C dX8_roundness_13 0 rfl ?_
    refine z_aload_n 14 C dX8_roundness_14 0 rfl ?_
    refine z_getf 15 C 105 z_dX8 (⟨rfl, rfl⟩) 4 (by decide) q970 (.ref (z_ad G 108)) rfl dX8_roundness_15 ?_
    refine z_iload_n 18 C dX8_roundness_18 1 rfl ?_
    refine z_callV 19 C 105 (⟨rfl, rfl⟩) rfl (As := [.ref (z_ad G 108), .int (nI a)]) (rest := []) (@m_X8_roundnessOf _ _ σ P n u v w rc tl hM cx cy mo le as_ of_ 108 a (by omega) (σ.2 108) (hp) (⟨rfl, rfl⟩) (fun _ _ _ _ => rfl)) k_X8_roundnessOf q1299 ⟨rfl, rfl⟩ ⟨Nat.le_of_ble_eq_true rfl, Nat.le_of_ble_eq_true rfl⟩ rfl (Nat.le_of_ble_eq_true rfl) ⟨Nat.le_of_ble_eq_true rfl, Nat.le_of_ble_eq_true rfl⟩ rfl dX8_roundness_19 (fun v19 σ19 hv19 => ?_)
    rcases hv19 with ⟨rfl, q1_19, q2_19, q3_19, q4_19, rfl⟩
    · skip
      refine z_cv (st1 := [.long (z_tp (σ.2 108) a - z_bt (σ.2 108) a)]) rfl rfl rfl ?_
      refine z_l2d 22 C dX8_roundness_22 ?_
      refine z_ldc2d 23 C dX8_roundness_23 q1303 ?_
      refine z_ddiv 26 C dX8_roundness_26 ((zf_mic _).1) ?_
      refine z_dret 27 C dX8_roundness_27 ?_
      first | exact ⟨z_cdb (by rw [if_pos c4]), _, _, _, _, rfl⟩ | exact ⟨z_cdb (by rw [if_neg c4, z_nk (k := a) (by omega)]; rfl), _, _, _, _, rfl⟩
  · skip
    refine z_ldc2d 7 C dX8_roundness_7 q1298 ?_
    refine z_goto 10 C 27 dX8_roundness_10 (by decide) ?_
    refine z_dret 27 C dX8_roundness_27 ?_
    first | exact ⟨z_cdb (by rw [if_pos c4]), _, _, _, _, rfl⟩ | exact ⟨z_cdb (by rw [if_neg c4, z_nk (k := a) (by omega)]; rfl), _, _, _, _, rfl⟩
theorem dX8_extremeAt_0 : decode cX8_extremeAt 0 = .ok (.iconst 0, 1) := by decide +kernel
theorem dX8_extremeAt_1 : decode cX8_extremeAt 1 = .ok (.istore_n 2, 1) := by decide +kernel
theorem dX8_extremeAt_2 : decode cX8_extremeAt 2 = .ok (.iconst 1, 1) := by decide +kernel
theorem dX8_extremeAt_3 : decode cX8_extremeAt 3 = .ok (.istore_n 3, 1) := by decide +kernel
theorem dX8_extremeAt_4 : decode cX8_extremeAt 4 = .ok (.iload_n 3, 1) := by decide +kernel
theorem dX8_extremeAt_5 : decode cX8_extremeAt 5 = .ok (.bipush 24, 2) := by decide +kernel
theorem dX8_extremeAt_7 : decode cX8_extremeAt 7 = .ok (.if_icmp .ge 59, 3) := by decide +kernel
theorem dX8_extremeAt_10 : decode cX8_extremeAt 10 = .ok (.iload_n 1, 1) := by decide +kernel
theorem dX8_extremeAt_11 : decode cX8_extremeAt 11 = .ok (.ifCond .eq 27, 3) := by decide +kernel
theorem dX8_extremeAt_14 : decode cX8_extremeAt 14 = .ok (.aload_n 0, 1) := by decide +kernel
theorem dX8_extremeAt_15 : decode cX8_extremeAt 15 = .ok (.getfield 41, 3) := by decide +kernel
theorem dX8_extremeAt_18 : decode cX8_extremeAt 18 = .ok (.iload_n 3, 1) := by decide +kernel
theorem dX8_extremeAt_19 : decode cX8_extremeAt 19 = .ok (.laload, 1) := by decide +kernel
theorem dX8_extremeAt_20 : decode cX8_extremeAt 20 = .ok (.aload_n 0, 1) := by decide +kernel
theorem dX8_extremeAt_21 : decode cX8_extremeAt 21 = .ok (.getfield 41, 3) := by decide +kernel
theorem dX8_extremeAt_24 : decode cX8_extremeAt 24 = .ok (.iload_n 2, 1) := by decide +kernel
theorem dX8_extremeAt_25 : decode cX8_extremeAt 25 = .ok (.laload, 1) := by decide +kernel
theorem dX8_extremeAt_26 : decode cX8_extremeAt 26 = .ok (.lcmp, 1) := by decide +kernel
theorem dX8_extremeAt_27 : decode cX8_extremeAt 27 = .ok (.ifCond .le 7, 3) := by decide +kernel
theorem dX8_extremeAt_30 : decode cX8_extremeAt 30 = .ok (.iload_n 3, 1) := by decide +kernel
theorem dX8_extremeAt_31 : decode cX8_extremeAt 31 = .ok (.goto 28, 3) := by decide +kernel
theorem dX8_extremeAt_34 : decode cX8_extremeAt 34 = .ok (.iload_n 2, 1) := by decide +kernel
theorem dX8_extremeAt_35 : decode cX8_extremeAt 35 = .ok (.goto 24, 3) := by decide +kernel
theorem dX8_extremeAt_38 : decode cX8_extremeAt 38 = .ok (.aload_n 0, 1) := by decide +kernel
theorem dX8_extremeAt_39 : decode cX8_extremeAt 39 = .ok (.getfield 41, 3) := by decide +kernel
theorem dX8_extremeAt_42 : decode cX8_extremeAt 42 = .ok (.iload_n 3, 1) := by decide +kernel
theorem dX8_extremeAt_43 : decode cX8_extremeAt 43 = .ok (.laload, 1) := by decide +kernel
theorem dX8_extremeAt_44 : decode cX8_extremeAt 44 = .ok (.aload_n 0, 1) := by decide +kernel
theorem dX8_extremeAt_45 : decode cX8_extremeAt 45 = .ok (.getfield 41, 3) := by decide +kernel
theorem dX8_extremeAt_48 : decode cX8_extremeAt 48 = .ok (.iload_n 2, 1) := by decide +kernel
theorem dX8_extremeAt_49 : decode cX8_extremeAt 49 = .ok (.laload, 1) := by decide +kernel
theorem dX8_extremeAt_50 : decode cX8_extremeAt 50 = .ok (.lcmp, 1) := by decide +kernel
theorem dX8_extremeAt_51 : decode cX8_extremeAt 51 = .ok (.ifCond .ge 7, 3) := by decide +kernel
theorem dX8_extremeAt_54 : decode cX8_extremeAt 54 = .ok (.iload_n 3, 1) := by decide +kernel
theorem dX8_extremeAt_55 : decode cX8_extremeAt 55 = .ok (.goto 4, 3) := by decide +kernel
theorem dX8_extremeAt_58 : decode cX8_extremeAt 58 = .ok (.iload_n 2, 1) := by decide +kernel
theorem dX8_extremeAt_59 : decode cX8_extremeAt 59 = .ok (.istore_n 2, 1) := by decide +kernel
theorem dX8_extremeAt_60 : decode cX8_extremeAt 60 = .ok (.iinc 3 1, 3) := by decide +kernel
theorem dX8_extremeAt_63 : decode cX8_extremeAt 63 = .ok (.goto (-59), 3) := by decide +kernel
theorem dX8_extremeAt_66 : decode cX8_extremeAt 66 = .ok (.iload_n 2, 1) := by decide +kernel
theorem dX8_extremeAt_67 : decode cX8_extremeAt 67 = .ok (.ireturn, 1) := by decide +kernel
set_option maxRecDepth 100000 in
set_option maxHeartbeats 4000000 in
theorem m_X8_extremeAt {l : Launch} {G : z_Gl} {σ : z_St} (P n u v w rc tl : Nat) (hM : z_mi σ P n u v w rc tl) (cx cy mo le : Int64) (as_ of_ : Nat → Int64) (t : Nat) (ht : t < 2) : z_M l G yX8_extremeAt cX8_extremeAt 4 (some .int) (z_rm 0 0) [.ref (z_ad G 105), .int (nI t)] (z_mU σ cx cy mo le as_ of_) (z_p1 (.int (nI (zm_xe t of_ 24))) (z_mU σ cx cy mo le as_ of_)) := by
  refine z_M.of (by decide) (Nat.le_of_ble_eq_true rfl) (fun p e s m below meth c C => ?_)
  refine z_sub [0, 1] (lv1 := [(0, .ref (z_ad G 105)), (1, .int (nI t))]) rfl ?_
  have hM0 := hM
  obtain ⟨⟨hP, hn, hu, hv, hw, hrc, htl⟩, hPs, hnP, huv, hw6, hrc8, htl2, hqt, hah⟩ := hM0
  have h0 : 0 < P := by omega
  have h12 : P ≤ 12 := by omega
  have h288 : n ≤ 288 := by omega
  refine z_iconst 0 C dX8_extremeAt_0 (nI 0) rfl ?_
  refine z_istore_n 1 C dX8_extremeAt_1 [(2, .int (nI 0)), (0, .ref (z_ad G 105)), (1, .int (nI t))] (by decide) rfl ?_
  refine z_iconst 2 C dX8_extremeAt_2 (nI 1) rfl ?_
  refine z_istore_n 3 C dX8_extremeAt_3 [(3, .int (nI 1)), (2, .int (nI 0)), (0, .ref (z_ad G 105)), (1, .int (nI t))] (by decide) rfl ?_
  refine z_sub [2, 3, 1, 0] (lv1 := [(0, .ref (z_ad G 105)), (1, .int (nI t)), (2, .int (nI 0)), (3, .int (nI 1))]) rfl ?_
  refine z_cv (lv1 := [(0, .ref (z_ad G 105)), (1, .int (nI t)), (2, .int (nI (zm_xe t of_ 1))), (3, .int (nI 1))]) (st1 := []) (σ1 := z_mU σ cx cy mo le as_ of_) (by rw [← zm_xe1]) rfl rfl ?_
  refine z_lp1 (fun (k : Nat) => 1 ≤ k ∧ k ≤ 24) (fun (k : Nat) => 24 - k) (fun (k : Nat) => [(0, .ref (z_ad G 105)), (1, .int (nI t)), (2, .int (nI (zm_xe t of_ k))), (3, .int (nI k))]) (fun (k : Nat) => z_mU σ cx cy mo le as_ of_) (fun k hi_4 ih_4 => ?_) 1 (by omega)
  try dsimp only
  obtain ⟨hk1, hk2⟩ := hi_4
  refine z_iload_n 4 C dX8_extremeAt_4 3 rfl ?_
  refine z_bipush 5 C dX8_extremeAt_5 (nI 24) rfl ?_
  refine z_icmp_geN 7 C k 24 rfl rfl (by omega) (by omega) 66 dX8_extremeAt_7 (by decide) (fun c7 => ?_) (fun c7 => ?_)
  · skip
    have ek : k = 24 := by omega
    subst ek
    refine z_iload_n 66 C dX8_extremeAt_66 2 rfl ?_
    refine z_iret 67 C dX8_extremeAt_67 ?_
    exact ⟨rfl, rfl⟩
  · skip
    have hxe := zm_xe_lt t of_ (k := k) hk1
    refine z_iload_n 10 C dX8_extremeAt_10 1 rfl ?_
    refine z_if_eq 11 C 38 dX8_extremeAt_11 (by decide) (fun c11 => ?_) (fun c11 => ?_)
    · skip
      have et : t = 0 := (z_nI0 (by omega)).mp c11
      refine z_aload_n 38 C dX8_extremeAt_38 0 rfl ?_
      refine z_getf 39 C 105 z_dX8 (⟨rfl, rfl⟩) 16 (by decide) q982 (.ref (z_ad G 114)) rfl dX8_extremeAt_39 ?_
      refine z_iload_n 42 C dX8_extremeAt_42 3 rfl ?_
      refine z_laldN 43 C 114 (n := 24) (⟨rfl, rfl⟩) k rfl (by omega) (by decide) dX8_extremeAt_43 ?_
      refine z_cv (st1 := [.long (of_ k)]) rfl (by rw [z_mU_qof_]) rfl ?_
      refine z_aload_n 44 C dX8_extremeAt_44 0 rfl ?_
      refine z_getf 45 C 105 z_dX8 (⟨rfl, rfl⟩) 16 (by decide) q982 (.ref (z_ad G 114)) rfl dX8_extremeAt_45 ?_
      refine z_iload_n 48 C dX8_extremeAt_48 2 rfl ?_
      refine z_laldN 49 C 114 (n := 24) (⟨rfl, rfl⟩) (zm_xe t of_ k) rfl (by omega) (by decide) dX8_extremeAt_49 ?_
      refine z_cv (st1 := [.long (of_ (zm_xe t of_ k)), .long (of_ k)]) rfl (by rw [z_mU_qof_]) rfl ?_
      refine z_lcmp_ge 50 C 58 dX8_extremeAt_50 dX8_extremeAt_51 (by decide) (fun c50 => ?_) (fun c50 => ?_)
      · skip
        refine z_iload_n 58 C dX8_extremeAt_58 2 rfl ?_
        refine z_istore_n 59 C dX8_extremeAt_59 [(2, .int (nI (zm_xe t of_ k))), (0, .ref (z_ad G 105)), (1, .int (nI t)), (3, .int (nI k))] (by decide) rfl ?_
        refine z_iincN 60 C 3 k [(3, .int (nI (k + 1))), (2, .int (nI (zm_xe t of_ k))), (0, .ref (z_ad G 105)), (1, .int (nI t))] rfl rfl (by decide) rfl dX8_extremeAt_60 ?_
        refine z_goto 63 C 4 dX8_extremeAt_63 (by decide) ?_
        refine z_sub [2, 3, 1, 0] (lv1 := [(0, .ref (z_ad G 105)), (1, .int (nI t)), (2, .int (nI (zm_xe t of_ k))), (3, .int (nI (k + 1)))]) rfl ?_
        refine z_cv (lv1 := [(0, .ref (z_ad G 105)), (1, .int (nI t)), (2, .int (nI (zm_xe t of_ (k + 1)))), (3, .int (nI (k + 1)))]) (st1 := []) (σ1 := z_mU σ cx cy mo le as_ of_) (by first | rw [zm_xe_a et c26] | rw [zm_xe_b et c26] | rw [zm_xe_c et c50] | rw [zm_xe_d et c50]) rfl rfl ?_
        exact ih_4 (k + 1) (by omega) (by omega)
      · skip
        refine z_iload_n 54 C dX8_extremeAt_54 3 rfl ?_
        refine z_goto 55 C 59 dX8_extremeAt_55 (by decide) ?_
        refine z_istore_n 59 C dX8_extremeAt_59 [(2, .int (nI k)), (0, .ref (z_ad G 105)), (1, .int (nI t)), (3, .int (nI k))] (by decide) rfl ?_
        refine z_iincN 60 C 3 k [(3, .int (nI (k + 1))), (2, .int (nI k)), (0, .ref (z_ad G 105)), (1, .int (nI t))] rfl rfl (by decide) rfl dX8_extremeAt_60 ?_
        refine z_goto 63 C 4 dX8_extremeAt_63 (by decide) ?_
        refine z_sub [2, 3, 1, 0] (lv1 := [(0, .ref (z_ad G 105)), (1, .int (nI t)), (2, .int (nI k)), (3, .int (nI (k + 1)))]) rfl ?_
        refine z_cv (lv1 := [(0, .ref (z_ad G 105)), (1, .int (nI t)), (2, .int (nI (zm_xe t of_ (k + 1)))), (3, .int (nI (k + 1)))]) (st1 := []) (σ1 := z_mU σ cx cy mo le as_ of_) (by first | rw [zm_xe_a et c26] | rw [zm_xe_b et c26] | rw [zm_xe_c et c50] | rw [zm_xe_d et c50]) rfl rfl ?_
        exact ih_4 (k + 1) (by omega) (by omega)
    · skip
      have et : ¬ t = 0 := fun z => c11 (by rw [z]; rfl)
      refine z_aload_n 14 C dX8_extremeAt_14 0 rfl ?_
      refine z_getf 15 C 105 z_dX8 (⟨rfl, rfl⟩) 16 (by decide) q982 (.ref (z_ad G 114)) rfl dX8_extremeAt_15 ?_
      refine z_iload_n 18 C dX8_extremeAt_18 3 rfl ?_
      refine z_laldN 19 C 114 (n := 24) (⟨rfl, rfl⟩) k rfl (by omega) (by decide) dX8_extremeAt_19 ?_
      refine z_cv (st1 := [.long (of_ k)]) rfl (by rw [z_mU_qof_]) rfl ?_
      refine z_aload_n 20 C dX8_extremeAt_20 0 rfl ?_
      refine z_getf 21 C 105 z_dX8 (⟨rfl, rfl⟩) 16 (by decide) q982 (.ref (z_ad G 114)) rfl dX8_extremeAt_21 ?_
      refine z_iload_n 24 C dX8_extremeAt_24 2 rfl ?_
      refine z_laldN 25 C 114 (n := 24) (⟨rfl, rfl⟩) (zm_xe t of_ k) rfl (by omega) (by decide) dX8_extremeAt_25 ?_
      refine z_cv (st1 := [.long (of_ (zm_xe t of_ k)), .long (of_ k)]) rfl (by rw [z_mU_qof_]) rfl ?_
      refine z_lcmp_le 26 C 34 dX8_extremeAt_26 dX8_extremeAt_27 (by decide) (fun c26 => ?_) (fun c26 => ?_)
      · skip
        refine z_iload_n 34 C dX8_extremeAt_34 2 rfl ?_
        refine z_goto 35 C 59 dX8_extremeAt_35 (by decide) ?_
        refine z_istore_n 59 C dX8_extremeAt_59 [(2, .int (nI (zm_xe t of_ k))), (0, .ref (z_ad G 105)), (1, .int (nI t)), (3, .int (nI k))] (by decide) rfl ?_
        refine z_iincN 60 C 3 k [(3, .int (nI (k + 1))), (2, .int (nI (zm_xe t of_ k))), (0, .ref (z_ad G 105)), (1, .int (nI t))] rfl rfl (by decide) rfl dX8_extremeAt_60 ?_
        refine z_goto 63 C 4 dX8_extremeAt_63 (by decide) ?_
        refine z_sub [2, 3, 1, 0] (lv1 := [(0, .ref (z_ad G 105)), (1, .int (nI t)), (2, .int (nI (zm_xe t of_ k))), (3, .int (nI (k + 1)))]) rfl ?_
        refine z_cv (lv1 := [(0, .ref (z_ad G 105)), (1, .int (nI t)), (2, .int (nI (zm_xe t of_ (k + 1)))), (3, .int (nI (k + 1)))]) (st1 := []) (σ1 := z_mU σ cx cy mo le as_ of_) (by first | rw [zm_xe_a et c26] | rw [zm_xe_b et c26] | rw [zm_xe_c et c50] | rw [zm_xe_d et c50]) rfl rfl ?_
        exact ih_4 (k + 1) (by omega) (by omega)
      · skip
        refine z_iload_n 30 C dX8_extremeAt_30 3 rfl ?_
        refine z_goto 31 C 59 dX8_extremeAt_31 (by decide) ?_
        refine z_istore_n 59 C dX8_extremeAt_59 [(2, .int (nI k)), (0, .ref (z_ad G 105)), (1, .int (nI t)), (3, .int (nI k))] (by decide) rfl ?_
        refine z_iincN 60 C 3 k [(3, .int (nI (k + 1))), (2, .int (nI k)), (0, .ref (z_ad G 105)), (1, .int (nI t))] rfl rfl (by decide) rfl dX8_extremeAt_60 ?_
        refine z_goto 63 C 4 dX8_extremeAt_63 (by decide) ?_
        refine z_sub [2, 3, 1, 0] (lv1 := [(0, .ref (z_ad G 105)), (1, .int (nI t)), (2, .int (nI k)), (3, .int (nI (k + 1)))]) rfl ?_
        refine z_cv (lv1 := [(0, .ref (z_ad G 105)), (1, .int (nI t)), (2, .int (nI (zm_xe t of_ (k + 1)))), (3, .int (nI (k + 1)))]) (st1 := []) (σ1 := z_mU σ cx cy mo le as_ of_) (by first | rw [zm_xe_a et c26] | rw [zm_xe_b et c26] | rw [zm_xe_c et c50] | rw [zm_xe_d et c50]) rfl rfl ?_
        exact ih_4 (k + 1) (by omega) (by omega)
theorem dX8_extreme_0 : decode cX8_extreme 0 = .ok (.iload_n 1, 1) := by decide +kernel
theorem dX8_extreme_1 : decode cX8_extreme 1 = .ok (.invokestatic 232, 3) := by decide +kernel
theorem dX8_extreme_4 : decode cX8_extreme 4 = .ok (.ifCond .eq 6, 3) := by decide +kernel
theorem dX8_extreme_7 : decode cX8_extreme 7 = .ok (.ldc 87, 2) := by decide +kernel
theorem dX8_extreme_9 : decode cX8_extreme 9 = .ok (.ireturn, 1) := by decide +kernel
theorem dX8_extreme_10 : decode cX8_extreme 10 = .ok (.aload_n 0, 1) := by decide +kernel
theorem dX8_extreme_11 : decode cX8_extreme 11 = .ok (.iload_n 1, 1) := by decide +kernel
theorem dX8_extreme_12 : decode cX8_extreme 12 = .ok (.invokevirtual 235, 3) := by decide +kernel
theorem dX8_extreme_15 : decode cX8_extreme 15 = .ok (.aload_n 0, 1) := by decide +kernel
theorem dX8_extreme_16 : decode cX8_extreme 16 = .ok (.iload_n 2, 1) := by decide +kernel
theorem dX8_extreme_17 : decode cX8_extreme 17 = .ok (.invokevirtual 247, 3) := by decide +kernel
theorem dX8_extreme_20 : decode cX8_extreme 20 = .ok (.ireturn, 1) := by decide +kernel
set_option maxRecDepth 100000 in
set_option maxHeartbeats 4000000 in
theorem m_X8_extreme {l : Launch} {G : z_Gl} {σ : z_St} (P n u v w rc tl : Nat) (hM : z_mi σ P n u v w rc tl) (cx cy mo le : Int64) (as_ of_ : Nat → Int64) (x : Int32) (t : Nat) (ht : t < 2) (hp : zs_hb (σ.2 108)) : z_M l G yX8_extreme cX8_extreme 3 (some .int) (z_rm 8 200) [.ref (z_ad G 105), .int x, .int (nI t)] (z_mU σ cx cy mo le as_ of_) (fun w_ σ1 => w_ = some (.int (if x < nI 0 ∨ nI 3 < x then (-1000001) else nI (zm_xe t (z_fil (z_cd (σ.2 108) (z_n x)) of_ 24) 24))) ∧ ∃ q1 q2 q3 q4 oo, σ1 = z_mU σ q1 q2 q3 q4 as_ oo) := by
  refine z_M.of (by decide) (Nat.le_of_ble_eq_true rfl) (fun p e s m below meth c C => ?_)
  refine z_sub [0, 1, 2] (lv1 := [(0, .ref (z_ad G 105)), (1, .int x), (2, .int (nI t))]) rfl ?_
  have hM0 := hM
  obtain ⟨⟨hP, hn, hu, hv, hw, hrc, htl⟩, hPs, hnP, huv, hw6, hrc8, htl2, hqt, hah⟩ := hM0
  have h0 : 0 < P := by omega
  have h12 : P ≤ 12 := by omega
  have h288 : n ≤ 288 := by omega
  refine z_iload_n 0 C dX8_extreme_0 1 rfl ?_
  refine z_callS 1 C (As := [.int x]) (rest := []) (m_X8_noMethod (σ := z_mU σ cx cy mo le as_ of_) x) k_X8_noMethod q1262 ⟨rfl, rfl⟩ ⟨Nat.le_of_ble_eq_true rfl, Nat.le_of_ble_eq_true rfl⟩ rfl (Nat.le_of_ble_eq_true rfl) ⟨Nat.le_of_ble_eq_true rfl, Nat.le_of_ble_eq_true rfl⟩ rfl dX8_extreme_1 (z_k1 ?_)
  refine z_if_eqb 4 C 10 dX8_extreme_4 (by decide) (fun c4 => ?_) (fun c4 => ?_)
  · skip
    obtain ⟨a, ha, rfl⟩ := z_in0 (by decide) c4
    refine z_aload_n 10 C dX8_extreme_10 0 rfl ?_
    refine z_iload_n 11 C dX8_extreme_11 1 rfl ?_
    refine z_callV 12 C 105 (⟨rfl, rfl⟩) rfl (As := [.int (nI a)]) (rest := []) (@m_X8_layOff _ _ σ P n u v w rc tl hM cx cy mo le as_ of_ a (by omega) hp) k_X8_layOff q1290 ⟨rfl, rfl⟩ ⟨Nat.le_of_ble_eq_true rfl, Nat.le_of_ble_eq_true rfl⟩ rfl (Nat.le_of_ble_eq_true rfl) ⟨Nat.le_of_ble_eq_true rfl, Nat.le_of_ble_eq_true rfl⟩ rfl dX8_extreme_12 (fun v12 σ12 hv12 => ?_)
    rcases hv12 with ⟨rfl, q1_12, q2_12, q3_12, q4_12, rfl⟩
    · skip
      refine z_cv (st1 := []) rfl rfl rfl ?_
      refine z_aload_n 15 C dX8_extreme_15 0 rfl ?_
      refine z_iload_n 16 C dX8_extreme_16 2 rfl ?_
      refine z_callV 17 C 105 (⟨rfl, rfl⟩) rfl (As := [.int (nI t)]) (rest := []) (@m_X8_extremeAt _ _ σ P n u v w rc tl hM q1_12 q2_12 q3_12 q4_12 as_ (z_fil (z_cd (σ.2 108) a) of_ 24) t (by omega)) k_X8_extremeAt q1308 ⟨rfl, rfl⟩ ⟨Nat.le_of_ble_eq_true rfl, Nat.le_of_ble_eq_true rfl⟩ rfl (Nat.le_of_ble_eq_true rfl) ⟨Nat.le_of_ble_eq_true rfl, Nat.le_of_ble_eq_true rfl⟩ rfl dX8_extreme_17 (z_k1 ?_)
      refine z_iret 20 C dX8_extreme_20 ?_
      exact ⟨z_ci (by rw [if_neg c4, z_nk (k := a) (by omega)]), _, _, _, _, _, rfl⟩
  · skip
    refine z_ldc 7 C dX8_extreme_7 q1064 ?_
    refine z_iret 9 C dX8_extreme_9 ?_
    exact ⟨z_ci (by rw [if_pos c4]), _, _, _, _, _, rfl⟩
theorem dX8_meanSquare_0 : decode cX8_meanSquare 0 = .ok (.aload_n 0, 1) := by decide +kernel
theorem dX8_meanSquare_1 : decode cX8_meanSquare 1 = .ok (.iconst 0, 1) := by decide +kernel
theorem dX8_meanSquare_2 : decode cX8_meanSquare 2 = .ok (.invokevirtual 235, 3) := by decide +kernel
theorem dX8_meanSquare_5 : decode cX8_meanSquare 5 = .ok (.dconst 0, 1) := by decide +kernel
theorem dX8_meanSquare_6 : decode cX8_meanSquare 6 = .ok (.dstore_n 1, 1) := by decide +kernel
theorem dX8_meanSquare_7 : decode cX8_meanSquare 7 = .ok (.iconst 0, 1) := by decide +kernel
theorem dX8_meanSquare_8 : decode cX8_meanSquare 8 = .ok (.istore_n 3, 1) := by decide +kernel
theorem dX8_meanSquare_9 : decode cX8_meanSquare 9 = .ok (.iload_n 3, 1) := by decide +kernel
theorem dX8_meanSquare_10 : decode cX8_meanSquare 10 = .ok (.bipush 24, 2) := by decide +kernel
theorem dX8_meanSquare_12 : decode cX8_meanSquare 12 = .ok (.if_icmp .ge 30, 3) := by decide +kernel
theorem dX8_meanSquare_15 : decode cX8_meanSquare 15 = .ok (.aload_n 0, 1) := by decide +kernel
theorem dX8_meanSquare_16 : decode cX8_meanSquare 16 = .ok (.getfield 41, 3) := by decide +kernel
theorem dX8_meanSquare_19 : decode cX8_meanSquare 19 = .ok (.iload_n 3, 1) := by decide +kernel
theorem dX8_meanSquare_20 : decode cX8_meanSquare 20 = .ok (.laload, 1) := by decide +kernel
theorem dX8_meanSquare_21 : decode cX8_meanSquare 21 = .ok (.l2d, 1) := by decide +kernel
theorem dX8_meanSquare_22 : decode cX8_meanSquare 22 = .ok (.ldc2_w 245, 3) := by decide +kernel
theorem dX8_meanSquare_25 : decode cX8_meanSquare 25 = .ok (.ddiv, 1) := by decide +kernel
theorem dX8_meanSquare_26 : decode cX8_meanSquare 26 = .ok (.dstore 4, 2) := by decide +kernel
theorem dX8_meanSquare_28 : decode cX8_meanSquare 28 = .ok (.dload_n 1, 1) := by decide +kernel
theorem dX8_meanSquare_29 : decode cX8_meanSquare 29 = .ok (.dload 4, 2) := by decide +kernel
theorem dX8_meanSquare_31 : decode cX8_meanSquare 31 = .ok (.dload 4, 2) := by decide +kernel
theorem dX8_meanSquare_33 : decode cX8_meanSquare 33 = .ok (.dmul, 1) := by decide +kernel
theorem dX8_meanSquare_34 : decode cX8_meanSquare 34 = .ok (.dadd, 1) := by decide +kernel
theorem dX8_meanSquare_35 : decode cX8_meanSquare 35 = .ok (.dstore_n 1, 1) := by decide +kernel
theorem dX8_meanSquare_36 : decode cX8_meanSquare 36 = .ok (.iinc 3 1, 3) := by decide +kernel
theorem dX8_meanSquare_39 : decode cX8_meanSquare 39 = .ok (.goto (-30), 3) := by decide +kernel
theorem dX8_meanSquare_42 : decode cX8_meanSquare 42 = .ok (.dload_n 1, 1) := by decide +kernel
theorem dX8_meanSquare_43 : decode cX8_meanSquare 43 = .ok (.ldc2_w 251, 3) := by decide +kernel
theorem dX8_meanSquare_46 : decode cX8_meanSquare 46 = .ok (.ddiv, 1) := by decide +kernel
theorem dX8_meanSquare_47 : decode cX8_meanSquare 47 = .ok (.d2f, 1) := by decide +kernel
theorem dX8_meanSquare_48 : decode cX8_meanSquare 48 = .ok (.freturn, 1) := by decide +kernel
set_option maxRecDepth 100000 in
set_option maxHeartbeats 4000000 in
theorem m_X8_meanSquare {l : Launch} {G : z_Gl} {σ : z_St} (P n u v w rc tl : Nat) (hM : z_mi σ P n u v w rc tl) (cx cy mo le : Int64) (as_ of_ : Nat → Int64) (hp : zs_hb (σ.2 108)) : z_M l G yX8_meanSquare cX8_meanSquare 6 (some .float) (z_rm 8 200) [.ref (z_ad G 105)] (z_mU σ cx cy mo le as_ of_) (fun w_ σ1 => w_ = some (.float (z_msq (z_cd (σ.2 108) 0))) ∧ ∃ q1 q2 q3 q4 oo, σ1 = z_mU σ q1 q2 q3 q4 as_ oo) := by
  refine z_M.of (by decide) (Nat.le_of_ble_eq_true rfl) (fun p e s m below meth c C => ?_)
  refine z_sub [0] (lv1 := [(0, .ref (z_ad G 105))]) rfl ?_
  have hM0 := hM
  obtain ⟨⟨hP, hn, hu, hv, hw, hrc, htl⟩, hPs, hnP, huv, hw6, hrc8, htl2, hqt, hah⟩ := hM0
  have h0 : 0 < P := by omega
  have h12 : P ≤ 12 := by omega
  have h288 : n ≤ 288 := by omega
  refine z_aload_n 0 C dX8_meanSquare_0 0 rfl ?_
  refine z_iconst 1 C dX8_meanSquare_1 (nI 0) rfl ?_
  refine z_callV 2 C 105 (⟨rfl, rfl⟩) rfl (As := [.int (nI 0)]) (rest := []) (@m_X8_layOff _ _ σ P n u v w rc tl hM cx cy mo le as_ of_ 0 (by omega) hp) k_X8_layOff q1290 ⟨rfl, rfl⟩ ⟨Nat.le_of_ble_eq_true rfl, Nat.le_of_ble_eq_true rfl⟩ rfl (Nat.le_of_ble_eq_true rfl) ⟨Nat.le_of_ble_eq_true rfl, Nat.le_of_ble_eq_true rfl⟩ rfl dX8_meanSquare_2 (fun v2 σ2 hv2 => ?_)
  rcases hv2 with ⟨rfl, q1_2, q2_2, q3_2, q4_2, rfl⟩
  · skip
    refine z_cv (st1 := []) rfl rfl rfl ?_
    refine z_dconst0 5 C dX8_meanSquare_5 ?_
    refine z_dstore_n 6 C dX8_meanSquare_6 [(1, .double 0), (0, .ref (z_ad G 105))] (by decide) rfl ?_
    refine z_iconst 7 C dX8_meanSquare_7 (nI 0) rfl ?_
    refine z_istore_n 8 C dX8_meanSquare_8 [(3, .int (nI 0)), (1, .double 0), (0, .ref (z_ad G 105))] (by decide) rfl ?_
    refine z_sub [2, 1, 0] (lv1 := [(0, .ref (z_ad G 105)), (1, .double 0), (3, .int (nI 0))]) rfl ?_
    refine z_cv (lv1 := [(0, .ref (z_ad G 105)), (1, .double (z_ssq (z_cd (σ.2 108) 0) 0)), (3, .int (nI 0))]) (st1 := []) (σ1 := z_mU σ q1_2 q2_2 q3_2 q4_2 as_ (z_fil (z_cd (σ.2 108) 0) of_ 24)) rfl rfl rfl ?_
    refine z_lp1 (fun (k : Nat) => k ≤ 24) (fun (k : Nat) => 24 - k) (fun (k : Nat) => [(0, .ref (z_ad G 105)), (1, .double (z_ssq (z_cd (σ.2 108) 0) k)), (3, .int (nI k))]) (fun (k : Nat) => z_mU σ q1_2 q2_2 q3_2 q4_2 as_ (z_fil (z_cd (σ.2 108) 0) of_ 24)) (fun k hi_9 ih_9 => ?_) 0 (by omega)
    try dsimp only
    refine z_iload_n 9 C dX8_meanSquare_9 2 rfl ?_
    refine z_bipush 10 C dX8_meanSquare_10 (nI 24) rfl ?_
    refine z_icmp_geN 12 C k 24 rfl rfl (by omega) (by omega) 42 dX8_meanSquare_12 (by decide) (fun c12 => ?_) (fun c12 => ?_)
    · skip
      have ek : k = 24 := by omega
      subst ek
      refine z_dload_n 42 C dX8_meanSquare_42 1 rfl ?_
      refine z_ldc2d 43 C dX8_meanSquare_43 q1316 ?_
      refine z_ddiv 46 C dX8_meanSquare_46 ((zf_msq _).1) ?_
      refine z_d2f 47 C dX8_meanSquare_47 ((zf_msq _).2.1) ?_
      refine z_fret 48 C dX8_meanSquare_48 ?_
      exact ⟨rfl, _, _, _, _, _, rfl⟩
    · skip
      refine z_aload_n 15 C dX8_meanSquare_15 0 rfl ?_
      refine z_getf 16 C 105 z_dX8 (⟨rfl, rfl⟩) 16 (by decide) q982 (.ref (z_ad G 114)) rfl dX8_meanSquare_16 ?_
      refine z_iload_n 19 C dX8_meanSquare_19 2 rfl ?_
      refine z_laldN 20 C 114 (n := 24) (⟨rfl, rfl⟩) k rfl (by omega) (by decide) dX8_meanSquare_20 ?_
      refine z_cv (st1 := [.long ((z_fil (z_cd (σ.2 108) 0) of_ 24) k)]) rfl (by rw [z_mU_qof_]) rfl ?_
      refine z_cv (lv1 := [(0, .ref (z_ad G 105)), (1, .double (z_ssq (z_cd (σ.2 108) 0) k)), (3, .int (nI k))]) (st1 := [.long (z_cd (σ.2 108) 0 k)]) (σ1 := z_mU σ q1_2 q2_2 q3_2 q4_2 as_ (z_fil (z_cd (σ.2 108) 0) of_ 24)) rfl (by rw [z_fil_lt (by omega)]) rfl ?_
      refine z_l2d 21 C dX8_meanSquare_21 ?_
      refine z_ldc2d 22 C dX8_meanSquare_22 q1303 ?_
      refine z_ddiv 25 C dX8_meanSquare_25 ((zf_mic _).1) ?_
      refine z_cv (lv1 := [(0, .ref (z_ad G 105)), (1, .double (z_ssq (z_cd (σ.2 108) 0) k)), (3, .int (nI k))]) (st1 := [.double (z_mic (z_cd (σ.2 108) 0 k))]) (σ1 := z_mU σ q1_2 q2_2 q3_2 q4_2 as_ (z_fil (z_cd (σ.2 108) 0) of_ 24)) rfl rfl rfl ?_
      refine z_dstore 26 C dX8_meanSquare_26 [(4, .double (z_mic (z_cd (σ.2 108) 0 k))), (0, .ref (z_ad G 105)), (1, .double (z_ssq (z_cd (σ.2 108) 0) k)), (3, .int (nI k))] (by decide) rfl ?_
      refine z_dload_n 28 C dX8_meanSquare_28 2 rfl ?_
      refine z_dload 29 C dX8_meanSquare_29 0 rfl ?_
      refine z_dload 31 C dX8_meanSquare_31 0 rfl ?_
      refine z_dmul 33 C dX8_meanSquare_33 ((zf_s1 _ k).1) ?_
      refine z_dadd 34 C dX8_meanSquare_34 ((zf_s1 _ k).2) ?_
      refine z_dstore_n 35 C dX8_meanSquare_35 [(1, .double (FP.dadd (z_ssq (z_cd (σ.2 108) 0) k) (FP.dmul (z_mic (z_cd (σ.2 108) 0 k)) (z_mic (z_cd (σ.2 108) 0 k))))), (4, .double (z_mic (z_cd (σ.2 108) 0 k))), (0, .ref (z_ad G 105)), (3, .int (nI k))] (by decide) rfl ?_
      refine z_iincN 36 C 3 k [(3, .int (nI (k + 1))), (1, .double (FP.dadd (z_ssq (z_cd (σ.2 108) 0) k) (FP.dmul (z_mic (z_cd (σ.2 108) 0 k)) (z_mic (z_cd (σ.2 108) 0 k))))), (4, .double (z_mic (z_cd (σ.2 108) 0 k))), (0, .ref (z_ad G 105))] rfl rfl (by decide) rfl dX8_meanSquare_36 ?_
      refine z_goto 39 C 9 dX8_meanSquare_39 (by decide) ?_
      refine z_sub [3, 1, 0] (lv1 := [(0, .ref (z_ad G 105)), (1, .double (FP.dadd (z_ssq (z_cd (σ.2 108) 0) k) (FP.dmul (z_mic (z_cd (σ.2 108) 0 k)) (z_mic (z_cd (σ.2 108) 0 k))))), (3, .int (nI (k + 1)))]) rfl ?_
      refine z_cv (lv1 := [(0, .ref (z_ad G 105)), (1, .double (z_ssq (z_cd (σ.2 108) 0) (k + 1))), (3, .int (nI (k + 1)))]) (st1 := []) (σ1 := z_mU σ q1_2 q2_2 q3_2 q4_2 as_ (z_fil (z_cd (σ.2 108) 0) of_ 24)) rfl rfl rfl ?_
      exact ih_9 (k + 1) (by omega) (by omega)
theorem dX8_countTo_0 : decode cX8_countTo 0 = .ok (.aload_n 0, 1) := by decide +kernel
theorem dX8_countTo_1 : decode cX8_countTo 1 = .ok (.getfield 41, 3) := by decide +kernel
theorem dX8_countTo_4 : decode cX8_countTo 4 = .ok (.aload_n 0, 1) := by decide +kernel
theorem dX8_countTo_5 : decode cX8_countTo 5 = .ok (.iconst 1, 1) := by decide +kernel
theorem dX8_countTo_6 : decode cX8_countTo 6 = .ok (.invokevirtual 247, 3) := by decide +kernel
theorem dX8_countTo_9 : decode cX8_countTo 9 = .ok (.laload, 1) := by decide +kernel
theorem dX8_countTo_10 : decode cX8_countTo 10 = .ok (.lstore_n 3, 1) := by decide +kernel
theorem dX8_countTo_11 : decode cX8_countTo 11 = .ok (.iconst 0, 1) := by decide +kernel
theorem dX8_countTo_12 : decode cX8_countTo 12 = .ok (.istore 5, 2) := by decide +kernel
theorem dX8_countTo_14 : decode cX8_countTo 14 = .ok (.iconst 0, 1) := by decide +kernel
theorem dX8_countTo_15 : decode cX8_countTo 15 = .ok (.istore 6, 2) := by decide +kernel
theorem dX8_countTo_17 : decode cX8_countTo 17 = .ok (.iload 6, 2) := by decide +kernel
theorem dX8_countTo_19 : decode cX8_countTo 19 = .ok (.bipush 24, 2) := by decide +kernel
theorem dX8_countTo_21 : decode cX8_countTo 21 = .ok (.if_icmp .ge 33, 3) := by decide +kernel
theorem dX8_countTo_24 : decode cX8_countTo 24 = .ok (.iload 5, 2) := by decide +kernel
theorem dX8_countTo_26 : decode cX8_countTo 26 = .ok (.lload_n 3, 1) := by decide +kernel
theorem dX8_countTo_27 : decode cX8_countTo 27 = .ok (.aload_n 0, 1) := by decide +kernel
theorem dX8_countTo_28 : decode cX8_countTo 28 = .ok (.getfield 41, 3) := by decide +kernel
theorem dX8_countTo_31 : decode cX8_countTo 31 = .ok (.iload 6, 2) := by decide +kernel
theorem dX8_countTo_33 : decode cX8_countTo 33 = .ok (.laload, 1) := by decide +kernel
theorem dX8_countTo_34 : decode cX8_countTo 34 = .ok (.lsub, 1) := by decide +kernel
theorem dX8_countTo_35 : decode cX8_countTo 35 = .ok (.lload_n 1, 1) := by decide +kernel
theorem dX8_countTo_36 : decode cX8_countTo 36 = .ok (.lcmp, 1) := by decide +kernel
theorem dX8_countTo_37 : decode cX8_countTo 37 = .ok (.ifCond .gt 7, 3) := by decide +kernel
theorem dX8_countTo_40 : decode cX8_countTo 40 = .ok (.iconst 1, 1) := by decide +kernel
theorem dX8_countTo_41 : decode cX8_countTo 41 = .ok (.goto 4, 3) := by decide +kernel
theorem dX8_countTo_44 : decode cX8_countTo 44 = .ok (.iconst 0, 1) := by decide +kernel
theorem dX8_countTo_45 : decode cX8_countTo 45 = .ok (.iadd, 1) := by decide +kernel
theorem dX8_countTo_46 : decode cX8_countTo 46 = .ok (.istore 5, 2) := by decide +kernel
theorem dX8_countTo_48 : decode cX8_countTo 48 = .ok (.iinc 6 1, 3) := by decide +kernel
theorem dX8_countTo_51 : decode cX8_countTo 51 = .ok (.goto (-34), 3) := by decide +kernel
theorem dX8_countTo_54 : decode cX8_countTo 54 = .ok (.iload 5, 2) := by decide +kernel
theorem dX8_countTo_56 : decode cX8_countTo 56 = .ok (.ireturn, 1) := by decide +kernel
set_option maxRecDepth 100000 in
set_option maxHeartbeats 4000000 in
theorem m_X8_countTo {l : Launch} {G : z_Gl} {σ : z_St} (P n u v w rc tl : Nat) (hM : z_mi σ P n u v w rc tl) (cx cy mo le : Int64) (as_ of_ : Nat → Int64) (u_ : Int64) : z_M l G yX8_countTo cX8_countTo 7 (some .int) (z_rm 1 23) [.ref (z_ad G 105), .long u_] (z_mU σ cx cy mo le as_ of_) (z_p1 (.int (nI (z_cn (of_ (zm_xe 1 of_ 24)) of_ u_ 24))) (z_mU σ cx cy mo le as_ of_)) := by
  refine z_M.of (by decide) (Nat.le_of_ble_eq_true rfl) (fun p e s m below meth c C => ?_)
  refine z_sub [0, 1] (lv1 := [(0, .ref (z_ad G 105)), (1, .long u_)]) rfl ?_
  have hM0 := hM
  obtain ⟨⟨hP, hn, hu, hv, hw, hrc, htl⟩, hPs, hnP, huv, hw6, hrc8, htl2, hqt, hah⟩ := hM0
  have h0 : 0 < P := by omega
  have h12 : P ≤ 12 := by omega
  have h288 : n ≤ 288 := by omega
  refine z_aload_n 0 C dX8_countTo_0 0 rfl ?_
  refine z_getf 1 C 105 z_dX8 (⟨rfl, rfl⟩) 16 (by decide) q982 (.ref (z_ad G 114)) rfl dX8_countTo_1 ?_
  refine z_aload_n 4 C dX8_countTo_4 0 rfl ?_
  refine z_iconst 5 C dX8_countTo_5 (nI 1) rfl ?_
  refine z_callV 6 C 105 (⟨rfl, rfl⟩) rfl (As := [.int (nI 1)]) (rest := [.ref (z_ad G 114)]) (@m_X8_extremeAt _ _ σ P n u v w rc tl hM cx cy mo le as_ of_ 1 (by omega)) k_X8_extremeAt q1308 ⟨rfl, rfl⟩ ⟨Nat.le_of_ble_eq_true rfl, Nat.le_of_ble_eq_true rfl⟩ rfl (Nat.le_of_ble_eq_true rfl) ⟨Nat.le_of_ble_eq_true rfl, Nat.le_of_ble_eq_true rfl⟩ rfl dX8_countTo_6 (z_k1 ?_)
  refine z_laldN 9 C 114 (n := 24) (⟨rfl, rfl⟩) (zm_xe 1 of_ 24) rfl (zm_xe_lt 1 of_ (by decide)) (by decide) dX8_countTo_9 ?_
  refine z_cv (st1 := [.long (of_ (zm_xe 1 of_ 24))]) rfl (by rw [z_mU_qof_]) rfl ?_
  refine z_lstore_n 10 C dX8_countTo_10 [(3, .long (of_ (zm_xe 1 of_ 24))), (0, .ref (z_ad G 105)), (1, .long u_)] (by decide) rfl ?_
  refine z_iconst 11 C dX8_countTo_11 (nI 0) rfl ?_
  refine z_istore 12 C dX8_countTo_12 [(5, .int (nI 0)), (3, .long (of_ (zm_xe 1 of_ 24))), (0, .ref (z_ad G 105)), (1, .long u_)] (by decide) rfl ?_
  refine z_iconst 14 C dX8_countTo_14 (nI 0) rfl ?_
  refine z_istore 15 C dX8_countTo_15 [(6, .int (nI 0)), (5, .int (nI 0)), (3, .long (of_ (zm_xe 1 of_ 24))), (0, .ref (z_ad G 105)), (1, .long u_)] (by decide) rfl ?_
  refine z_sub [3, 4, 2, 1, 0] (lv1 := [(0, .ref (z_ad G 105)), (1, .long u_), (3, .long (of_ (zm_xe 1 of_ 24))), (5, .int (nI 0)), (6, .int (nI 0))]) rfl ?_
  refine z_cv (lv1 := [(0, .ref (z_ad G 105)), (1, .long u_), (3, .long (of_ (zm_xe 1 of_ 24))), (5, .int (nI (z_cn (of_ (zm_xe 1 of_ 24)) of_ u_ 0))), (6, .int (nI 0))]) (st1 := []) (σ1 := z_mU σ cx cy mo le as_ of_) rfl rfl rfl ?_
  refine z_lp1 (fun (k : Nat) => k ≤ 24) (fun (k : Nat) => 24 - k) (fun (k : Nat) => [(0, .ref (z_ad G 105)), (1, .long u_), (3, .long (of_ (zm_xe 1 of_ 24))), (5, .int (nI (z_cn (of_ (zm_xe 1 of_ 24)) of_ u_ k))), (6, .int (nI k))]) (fun (k : Nat) => z_mU σ cx cy mo le as_ of_) (fun k hi_17 ih_17 => ?_) 0 (by omega)
  try dsimp only
  refine z_iload 17 C dX8_countTo_17 4 rfl ?_
  refine z_bipush 19 C dX8_countTo_19 (nI 24) rfl ?_
  refine z_icmp_geN 21 C k 24 rfl rfl (by omega) (by omega) 54 dX8_countTo_21 (by decide) (fun c21 => ?_) (fun c21 => ?_)
  · skip
    have ek : k = 24 := by omega
    subst ek
    refine z_iload 54 C dX8_countTo_54 3 rfl ?_
    refine z_iret 56 C dX8_countTo_56 ?_
    exact ⟨rfl, rfl⟩
  · skip
    refine z_iload 24 C dX8_countTo_24 3 rfl ?_
    refine z_lload_n 26 C dX8_countTo_26 2 rfl ?_
    refine z_aload_n 27 C dX8_countTo_27 0 rfl ?_
    refine z_getf 28 C 105 z_dX8 (⟨rfl, rfl⟩) 16 (by decide) q982 (.ref (z_ad G 114)) rfl dX8_countTo_28 ?_
    refine z_iload 31 C dX8_countTo_31 4 rfl ?_
    refine z_laldN 33 C 114 (n := 24) (⟨rfl, rfl⟩) k rfl (by omega) (by decide) dX8_countTo_33 ?_
    refine z_cv (st1 := [.long (of_ k), .long (of_ (zm_xe 1 of_ 24)), .int (nI (z_cn (of_ (zm_xe 1 of_ 24)) of_ u_ k))]) rfl (by rw [z_mU_qof_]) rfl ?_
    refine z_lsub 34 C dX8_countTo_34 ?_
    refine z_lload_n 35 C dX8_countTo_35 1 rfl ?_
    refine z_lcmp_gt 36 C 44 dX8_countTo_36 dX8_countTo_37 (by decide) (fun c36 => ?_) (fun c36 => ?_)
    · skip
      refine z_iconst 44 C dX8_countTo_44 (nI 0) rfl ?_
      refine z_iaddN 45 C (z_cn (of_ (zm_xe 1 of_ 24)) of_ u_ k) 0 rfl rfl dX8_countTo_45 ?_
      refine z_istore 46 C dX8_countTo_46 [(5, .int (nI ((z_cn (of_ (zm_xe 1 of_ 24)) of_ u_ k) + 0))), (0, .ref (z_ad G 105)), (1, .long u_), (3, .long (of_ (zm_xe 1 of_ 24))), (6, .int (nI k))] (by decide) rfl ?_
      refine z_iincN 48 C 4 k [(6, .int (nI (k + 1))), (5, .int (nI ((z_cn (of_ (zm_xe 1 of_ 24)) of_ u_ k) + 0))), (0, .ref (z_ad G 105)), (1, .long u_), (3, .long (of_ (zm_xe 1 of_ 24)))] rfl rfl (by decide) rfl dX8_countTo_48 ?_
      refine z_goto 51 C 17 dX8_countTo_51 (by decide) ?_
      refine z_sub [2, 3, 4, 1, 0] (lv1 := [(0, .ref (z_ad G 105)), (1, .long u_), (3, .long (of_ (zm_xe 1 of_ 24))), (5, .int (nI ((z_cn (of_ (zm_xe 1 of_ 24)) of_ u_ k) + 0))), (6, .int (nI (k + 1)))]) rfl ?_
      refine z_cv (lv1 := [(0, .ref (z_ad G 105)), (1, .long u_), (3, .long (of_ (zm_xe 1 of_ 24))), (5, .int (nI (z_cn (of_ (zm_xe 1 of_ 24)) of_ u_ (k + 1)))), (6, .int (nI (k + 1)))]) (st1 := []) (σ1 := z_mU σ cx cy mo le as_ of_) (by first | rw [z_cn_1 (Int64.not_lt.mp c36)] | (rw [z_cn_0 (Int64.not_le.mpr c36)]; rfl)) rfl rfl ?_
      exact ih_17 (k + 1) (by omega) (by omega)
    · skip
      refine z_iconst 40 C dX8_countTo_40 (nI 1) rfl ?_
      refine z_goto 41 C 45 dX8_countTo_41 (by decide) ?_
      refine z_iaddN 45 C (z_cn (of_ (zm_xe 1 of_ 24)) of_ u_ k) 1 rfl rfl dX8_countTo_45 ?_
      refine z_istore 46 C dX8_countTo_46 [(5, .int (nI ((z_cn (of_ (zm_xe 1 of_ 24)) of_ u_ k) + 1))), (0, .ref (z_ad G 105)), (1, .long u_), (3, .long (of_ (zm_xe 1 of_ 24))), (6, .int (nI k))] (by decide) rfl ?_
      refine z_iincN 48 C 4 k [(6, .int (nI (k + 1))), (5, .int (nI ((z_cn (of_ (zm_xe 1 of_ 24)) of_ u_ k) + 1))), (0, .ref (z_ad G 105)), (1, .long u_), (3, .long (of_ (zm_xe 1 of_ 24)))] rfl rfl (by decide) rfl dX8_countTo_48 ?_
      refine z_goto 51 C 17 dX8_countTo_51 (by decide) ?_
      refine z_sub [2, 3, 4, 1, 0] (lv1 := [(0, .ref (z_ad G 105)), (1, .long u_), (3, .long (of_ (zm_xe 1 of_ 24))), (5, .int (nI ((z_cn (of_ (zm_xe 1 of_ 24)) of_ u_ k) + 1))), (6, .int (nI (k + 1)))]) rfl ?_
      refine z_cv (lv1 := [(0, .ref (z_ad G 105)), (1, .long u_), (3, .long (of_ (zm_xe 1 of_ 24))), (5, .int (nI (z_cn (of_ (zm_xe 1 of_ 24)) of_ u_ (k + 1)))), (6, .int (nI (k + 1)))]) (st1 := []) (σ1 := z_mU σ cx cy mo le as_ of_) (by first | rw [z_cn_1 (Int64.not_lt.mp c36)] | (rw [z_cn_0 (Int64.not_le.mpr c36)]; rfl)) rfl rfl ?_
      exact ih_17 (k + 1) (by omega) (by omega)
theorem dX8_materialAt_0 : decode cX8_materialAt 0 = .ok (.iload_n 1, 1) := by decide +kernel
theorem dX8_materialAt_1 : decode cX8_materialAt 1 = .ok (.invokestatic 232, 3) := by decide +kernel
theorem dX8_materialAt_4 : decode cX8_materialAt 4 = .ok (.ifCond .ne 9, 3) := by decide +kernel
theorem dX8_materialAt_7 : decode cX8_materialAt 7 = .ok (.lload_n 2, 1) := by decide +kernel
theorem dX8_materialAt_8 : decode cX8_materialAt 8 = .ok (.lconst 0, 1) := by decide +kernel
theorem dX8_materialAt_9 : decode cX8_materialAt 9 = .ok (.lcmp, 1) := by decide +kernel
theorem dX8_materialAt_10 : decode cX8_materialAt 10 = .ok (.ifCond .ge 6, 3) := by decide +kernel
theorem dX8_materialAt_13 : decode cX8_materialAt 13 = .ok (.ldc 87, 2) := by decide +kernel
theorem dX8_materialAt_15 : decode cX8_materialAt 15 = .ok (.ireturn, 1) := by decide +kernel
theorem dX8_materialAt_16 : decode cX8_materialAt 16 = .ok (.aload_n 0, 1) := by decide +kernel
theorem dX8_materialAt_17 : decode cX8_materialAt 17 = .ok (.iload_n 1, 1) := by decide +kernel
theorem dX8_materialAt_18 : decode cX8_materialAt 18 = .ok (.invokevirtual 235, 3) := by decide +kernel
theorem dX8_materialAt_21 : decode cX8_materialAt 21 = .ok (.aload_n 0, 1) := by decide +kernel
theorem dX8_materialAt_22 : decode cX8_materialAt 22 = .ok (.lload_n 2, 1) := by decide +kernel
theorem dX8_materialAt_23 : decode cX8_materialAt 23 = .ok (.invokevirtual 253, 3) := by decide +kernel
theorem dX8_materialAt_26 : decode cX8_materialAt 26 = .ok (.ireturn, 1) := by decide +kernel
set_option maxRecDepth 100000 in
set_option maxHeartbeats 4000000 in
theorem m_X8_materialAt {l : Launch} {G : z_Gl} {σ : z_St} (P n u v w rc tl : Nat) (hM : z_mi σ P n u v w rc tl) (cx cy mo le : Int64) (as_ of_ : Nat → Int64) (x : Int32) (dp : Int64) (hp : zs_hb (σ.2 108)) : z_M l G yX8_materialAt cX8_materialAt 4 (some .int) (z_rm 8 200) [.ref (z_ad G 105), .int x, .long dp] (z_mU σ cx cy mo le as_ of_) (fun w_ σ1 => w_ = some (.int (if x < nI 0 ∨ nI 3 < x then (-1000001) else if dp < 0 then (-1000001) else nI (z_cn ((z_fil (z_cd (σ.2 108) (z_n x)) of_ 24) (zm_xe 1 (z_fil (z_cd (σ.2 108) (z_n x)) of_ 24) 24)) (z_fil (z_cd (σ.2 108) (z_n x)) of_ 24) dp 24))) ∧ ∃ q1 q2 q3 q4 oo, σ1 = z_mU σ q1 q2 q3 q4 as_ oo) := by
  refine z_M.of (by decide) (Nat.le_of_ble_eq_true rfl) (fun p e s m below meth c C => ?_)
  refine z_sub [0, 1, 2] (lv1 := [(0, .ref (z_ad G 105)), (1, .int x), (2, .long dp)]) rfl ?_
  have hM0 := hM
  obtain ⟨⟨hP, hn, hu, hv, hw, hrc, htl⟩, hPs, hnP, huv, hw6, hrc8, htl2, hqt, hah⟩ := hM0
  have h0 : 0 < P := by omega
  have h12 : P ≤ 12 := by omega
  have h288 : n ≤ 288 := by omega
  refine z_iload_n 0 C dX8_materialAt_0 1 rfl ?_
  refine z_callS 1 C (As := [.int x]) (rest := []) (m_X8_noMethod (σ := z_mU σ cx cy mo le as_ of_) x) k_X8_noMethod q1262 ⟨rfl, rfl⟩ ⟨Nat.le_of_ble_eq_true rfl, Nat.le_of_ble_eq_true rfl⟩ rfl (Nat.le_of_ble_eq_true rfl) ⟨Nat.le_of_ble_eq_true rfl, Nat.le_of_ble_eq_true rfl⟩ rfl dX8_materialAt_1 (z_k1 ?_)
  refine z_if_neb 4 C 13 dX8_materialAt_4 (by decide) (fun c4 => ?_) (fun c4 => ?_)
  · skip
    refine z_ldc 13 C dX8_materialAt_13 q1064 ?_
    refine z_iret 15 C dX8_materialAt_15 ?_
    first | exact ⟨z_ci (by rw [if_pos c4]), _, _, _, _, _, rfl⟩ | exact ⟨z_ci (by rw [if_neg c4, if_pos (Int64.not_le.mp c9)]), _, _, _, _, _, rfl⟩
  · skip
    obtain ⟨a, ha, rfl⟩ := z_in0 (by decide) c4
    refine z_lload_n 7 C dX8_materialAt_7 2 rfl ?_
    refine z_lconst 8 C dX8_materialAt_8 0 rfl ?_
    refine z_lcmp_ge 9 C 16 dX8_materialAt_9 dX8_materialAt_10 (by decide) (fun c9 => ?_) (fun c9 => ?_)
    · skip
      refine z_aload_n 16 C dX8_materialAt_16 0 rfl ?_
      refine z_iload_n 17 C dX8_materialAt_17 1 rfl ?_
      refine z_callV 18 C 105 (⟨rfl, rfl⟩) rfl (As := [.int (nI a)]) (rest := []) (@m_X8_layOff _ _ σ P n u v w rc tl hM cx cy mo le as_ of_ a (by omega) hp) k_X8_layOff q1290 ⟨rfl, rfl⟩ ⟨Nat.le_of_ble_eq_true rfl, Nat.le_of_ble_eq_true rfl⟩ rfl (Nat.le_of_ble_eq_true rfl) ⟨Nat.le_of_ble_eq_true rfl, Nat.le_of_ble_eq_true rfl⟩ rfl dX8_materialAt_18 (fun v18 σ18 hv18 => ?_)
      rcases hv18 with ⟨rfl, q1_18, q2_18, q3_18, q4_18, rfl⟩
      · skip
        refine z_cv (st1 := []) rfl rfl rfl ?_
        refine z_aload_n 21 C dX8_materialAt_21 0 rfl ?_
        refine z_lload_n 22 C dX8_materialAt_22 2 rfl ?_
        refine z_callV 23 C 105 (⟨rfl, rfl⟩) rfl (As := [.long dp]) (rest := []) (@m_X8_countTo _ _ σ P n u v w rc tl hM q1_18 q2_18 q3_18 q4_18 as_ (z_fil (z_cd (σ.2 108) a) of_ 24) dp) k_X8_countTo q1321 ⟨rfl, rfl⟩ ⟨Nat.le_of_ble_eq_true rfl, Nat.le_of_ble_eq_true rfl⟩ rfl (Nat.le_of_ble_eq_true rfl) ⟨Nat.le_of_ble_eq_true rfl, Nat.le_of_ble_eq_true rfl⟩ rfl dX8_materialAt_23 (z_k1 ?_)
        refine z_iret 26 C dX8_materialAt_26 ?_
        exact ⟨z_ci (by rw [if_neg c4, if_neg (Int64.not_lt.mpr c9), z_nk (k := a) (by omega)]), _, _, _, _, _, rfl⟩
    · skip
      refine z_ldc 13 C dX8_materialAt_13 q1064 ?_
      refine z_iret 15 C dX8_materialAt_15 ?_
      first | exact ⟨z_ci (by rw [if_pos c4]), _, _, _, _, _, rfl⟩ | exact ⟨z_ci (by rw [if_neg c4, if_pos (Int64.not_le.mp c9)]), _, _, _, _, _, rfl⟩
theorem dX8_depthFor_0 : decode cX8_depthFor 0 = .ok (.iload_n 1, 1) := by decide +kernel
theorem dX8_depthFor_1 : decode cX8_depthFor 1 = .ok (.invokestatic 232, 3) := by decide +kernel
theorem dX8_depthFor_4 : decode cX8_depthFor 4 = .ok (.ifCond .ne 15, 3) := by decide +kernel
theorem dX8_depthFor_7 : decode cX8_depthFor 7 = .ok (.iload_n 2, 1) := by decide +kernel
theorem dX8_depthFor_8 : decode cX8_depthFor 8 = .ok (.i2l, 1) := by decide +kernel
theorem dX8_depthFor_9 : decode cX8_depthFor 9 = .ok (.lconst 1, 1) := by decide +kernel
theorem dX8_depthFor_10 : decode cX8_depthFor 10 = .ok (.ldc2_w 257, 3) := by decide +kernel
theorem dX8_depthFor_13 : decode cX8_depthFor 13 = .ok (.invokestatic 68, 3) := by decide +kernel
theorem dX8_depthFor_16 : decode cX8_depthFor 16 = .ok (.ifCond .ne 7, 3) := by decide +kernel
theorem dX8_depthFor_19 : decode cX8_depthFor 19 = .ok (.invokestatic 127, 3) := by decide +kernel
theorem dX8_depthFor_22 : decode cX8_depthFor 22 = .ok (.lreturn, 1) := by decide +kernel
theorem dX8_depthFor_23 : decode cX8_depthFor 23 = .ok (.aload_n 0, 1) := by decide +kernel
theorem dX8_depthFor_24 : decode cX8_depthFor 24 = .ok (.iload_n 1, 1) := by decide +kernel
theorem dX8_depthFor_25 : decode cX8_depthFor 25 = .ok (.invokevirtual 235, 3) := by decide +kernel
theorem dX8_depthFor_28 : decode cX8_depthFor 28 = .ok (.aload_n 0, 1) := by decide +kernel
theorem dX8_depthFor_29 : decode cX8_depthFor 29 = .ok (.getfield 41, 3) := by decide +kernel
theorem dX8_depthFor_32 : decode cX8_depthFor 32 = .ok (.aload_n 0, 1) := by decide +kernel
theorem dX8_depthFor_33 : decode cX8_depthFor 33 = .ok (.iconst 1, 1) := by decide +kernel
theorem dX8_depthFor_34 : decode cX8_depthFor 34 = .ok (.invokevirtual 247, 3) := by decide +kernel
theorem dX8_depthFor_37 : decode cX8_depthFor 37 = .ok (.laload, 1) := by decide +kernel
theorem dX8_depthFor_38 : decode cX8_depthFor 38 = .ok (.lstore_n 3, 1) := by decide +kernel
theorem dX8_depthFor_39 : decode cX8_depthFor 39 = .ok (.ldc2_w 259, 3) := by decide +kernel
theorem dX8_depthFor_42 : decode cX8_depthFor 42 = .ok (.lstore 5, 2) := by decide +kernel
theorem dX8_depthFor_44 : decode cX8_depthFor 44 = .ok (.iconst 0, 1) := by decide +kernel
theorem dX8_depthFor_45 : decode cX8_depthFor 45 = .ok (.istore 7, 2) := by decide +kernel
theorem dX8_depthFor_47 : decode cX8_depthFor 47 = .ok (.iload 7, 2) := by decide +kernel
theorem dX8_depthFor_49 : decode cX8_depthFor 49 = .ok (.bipush 24, 2) := by decide +kernel
theorem dX8_depthFor_51 : decode cX8_depthFor 51 = .ok (.if_icmp .ge 54, 3) := by decide +kernel
theorem dX8_depthFor_54 : decode cX8_depthFor 54 = .ok (.lload_n 3, 1) := by decide +kernel
theorem dX8_depthFor_55 : decode cX8_depthFor 55 = .ok (.aload_n 0, 1) := by decide +kernel
theorem dX8_depthFor_56 : decode cX8_depthFor 56 = .ok (.getfield 41, 3) := by decide +kernel
theorem dX8_depthFor_59 : decode cX8_depthFor 59 = .ok (.iload 7, 2) := by decide +kernel
theorem dX8_depthFor_61 : decode cX8_depthFor 61 = .ok (.laload, 1) := by decide +kernel
theorem dX8_depthFor_62 : decode cX8_depthFor 62 = .ok (.lsub, 1) := by decide +kernel
theorem dX8_depthFor_63 : decode cX8_depthFor 63 = .ok (.lstore 8, 2) := by decide +kernel
theorem dX8_depthFor_65 : decode cX8_depthFor 65 = .ok (.aload_n 0, 1) := by decide +kernel
theorem dX8_depthFor_66 : decode cX8_depthFor 66 = .ok (.lload 8, 2) := by decide +kernel
theorem dX8_depthFor_68 : decode cX8_depthFor 68 = .ok (.invokevirtual 253, 3) := by decide +kernel
theorem dX8_depthFor_71 : decode cX8_depthFor 71 = .ok (.iload_n 2, 1) := by decide +kernel
theorem dX8_depthFor_72 : decode cX8_depthFor 72 = .ok (.if_icmp .lt 23, 3) := by decide +kernel
theorem dX8_depthFor_75 : decode cX8_depthFor 75 = .ok (.lload 5, 2) := by decide +kernel
theorem dX8_depthFor_77 : decode cX8_depthFor 77 = .ok (.lconst 0, 1) := by decide +kernel
theorem dX8_depthFor_78 : decode cX8_depthFor 78 = .ok (.lcmp, 1) := by decide +kernel
theorem dX8_depthFor_79 : decode cX8_depthFor 79 = .ok (.ifCond .lt 11, 3) := by decide +kernel
theorem dX8_depthFor_82 : decode cX8_depthFor 82 = .ok (.lload 8, 2) := by decide +kernel
theorem dX8_depthFor_84 : decode cX8_depthFor 84 = .ok (.lload 5, 2) := by decide +kernel
theorem dX8_depthFor_86 : decode cX8_depthFor 86 = .ok (.lcmp, 1) := by decide +kernel
theorem dX8_depthFor_87 : decode cX8_depthFor 87 = .ok (.ifCond .ge 8, 3) := by decide +kernel
theorem dX8_depthFor_90 : decode cX8_depthFor 90 = .ok (.lload 8, 2) := by decide +kernel
theorem dX8_depthFor_92 : decode cX8_depthFor 92 = .ok (.goto 5, 3) := by decide +kernel
theorem dX8_depthFor_95 : decode cX8_depthFor 95 = .ok (.lload 5, 2) := by decide +kernel
theorem dX8_depthFor_97 : decode cX8_depthFor 97 = .ok (.lstore 5, 2) := by decide +kernel
theorem dX8_depthFor_99 : decode cX8_depthFor 99 = .ok (.iinc 7 1, 3) := by decide +kernel
theorem dX8_depthFor_102 : decode cX8_depthFor 102 = .ok (.goto (-55), 3) := by decide +kernel
theorem dX8_depthFor_105 : decode cX8_depthFor 105 = .ok (.lload 5, 2) := by decide +kernel
theorem dX8_depthFor_107 : decode cX8_depthFor 107 = .ok (.lreturn, 1) := by decide +kernel
set_option maxRecDepth 100000 in
set_option maxHeartbeats 4000000 in
theorem m_X8_depthFor {l : Launch} {G : z_Gl} {σ : z_St} (P n u v w rc tl : Nat) (hM : z_mi σ P n u v w rc tl) (cx cy mo le : Int64) (as_ of_ : Nat → Int64) (x y : Int32) (hp : zs_hb (σ.2 108)) : z_M l G yX8_depthFor cX8_depthFor 10 (some .long) (z_rm 8 200) [.ref (z_ad G 105), .int x, .int y] (z_mU σ cx cy mo le as_ of_) (fun w_ σ1 => w_ = some (.long (if x < nI 0 ∨ nI 3 < x then (-9223372036854775808) else if y < nI 1 ∨ nI 24 < y then (-9223372036854775808) else zm_dp ((z_fil (z_cd (σ.2 108) (z_n x)) of_ 24) (zm_xe 1 (z_fil (z_cd (σ.2 108) (z_n x)) of_ 24) 24)) (z_fil (z_cd (σ.2 108) (z_n x)) of_ 24) (z_n y) 24)) ∧ ∃ q1 q2 q3 q4 oo, σ1 = z_mU σ q1 q2 q3 q4 as_ oo) := by
  refine z_M.of (by decide) (Nat.le_of_ble_eq_true rfl) (fun p e s m below meth c C => ?_)
  refine z_sub [0, 1, 2] (lv1 := [(0, .ref (z_ad G 105)), (1, .int x), (2, .int y)]) rfl ?_
  have hM0 := hM
  obtain ⟨⟨hP, hn, hu, hv, hw, hrc, htl⟩, hPs, hnP, huv, hw6, hrc8, htl2, hqt, hah⟩ := hM0
  have h0 : 0 < P := by omega
  have h12 : P ≤ 12 := by omega
  have h288 : n ≤ 288 := by omega
  refine z_iload_n 0 C dX8_depthFor_0 1 rfl ?_
  refine z_callS 1 C (As := [.int x]) (rest := []) (m_X8_noMethod (σ := z_mU σ cx cy mo le as_ of_) x) k_X8_noMethod q1262 ⟨rfl, rfl⟩ ⟨Nat.le_of_ble_eq_true rfl, Nat.le_of_ble_eq_true rfl⟩ rfl (Nat.le_of_ble_eq_true rfl) ⟨Nat.le_of_ble_eq_true rfl, Nat.le_of_ble_eq_true rfl⟩ rfl dX8_depthFor_1 (z_k1 ?_)
  refine z_if_neb 4 C 19 dX8_depthFor_4 (by decide) (fun c4 => ?_) (fun c4 => ?_)
  · skip
    refine z_callS 19 C (As := []) (rest := []) (m_X8_lost (σ := z_mU σ cx cy mo le as_ of_)) k_X8_lost q1123 ⟨rfl, rfl⟩ ⟨Nat.le_of_ble_eq_true rfl, Nat.le_of_ble_eq_true rfl⟩ rfl (Nat.le_of_ble_eq_true rfl) ⟨Nat.le_of_ble_eq_true rfl, Nat.le_of_ble_eq_true rfl⟩ rfl dX8_depthFor_19 (z_k1 ?_)
    refine z_lret 22 C dX8_depthFor_22 ?_
    first | exact ⟨z_cl (by rw [if_pos c4]), _, _, _, _, _, rfl⟩ | exact ⟨z_cl (by rw [if_neg c4, if_pos c16]), _, _, _, _, _, rfl⟩
  · skip
    obtain ⟨a, ha, rfl⟩ := z_in0 (by decide) c4
    refine z_iload_n 7 C dX8_depthFor_7 2 rfl ?_
    refine z_i2l 8 C dX8_depthFor_8 ?_
    refine z_lconst 9 C dX8_depthFor_9 1 rfl ?_
    refine z_ldc2 10 C dX8_depthFor_10 q1329 ?_
    refine z_callS 13 C (As := [.long (Int32.toInt64 y), .long 1, .long 24]) (rest := []) (m_X8_in_i (σ := z_mU σ cx cy mo le as_ of_) y (nI 1) (nI 24) (by decide) (by decide)) k_X8_in q1071 ⟨rfl, rfl⟩ ⟨Nat.le_of_ble_eq_true rfl, Nat.le_of_ble_eq_true rfl⟩ rfl (Nat.le_of_ble_eq_true rfl) ⟨Nat.le_of_ble_eq_true rfl, Nat.le_of_ble_eq_true rfl⟩ rfl dX8_depthFor_13 (z_k1 ?_)
    refine z_if_neb 16 C 23 dX8_depthFor_16 (by decide) (fun c16 => ?_) (fun c16 => ?_)
    · skip
      obtain ⟨d, hld, hd, rfl⟩ := z_in1 (by decide) (by decide) c16
      refine z_aload_n 23 C dX8_depthFor_23 0 rfl ?_
      refine z_iload_n 24 C dX8_depthFor_24 1 rfl ?_
      refine z_callV 25 C 105 (⟨rfl, rfl⟩) rfl (As := [.int (nI a)]) (rest := []) (@m_X8_layOff _ _ σ P n u v w rc tl hM cx cy mo le as_ of_ a (by omega) hp) k_X8_layOff q1290 ⟨rfl, rfl⟩ ⟨Nat.le_of_ble_eq_true rfl, Nat.le_of_ble_eq_true rfl⟩ rfl (Nat.le_of_ble_eq_true rfl) ⟨Nat.le_of_ble_eq_true rfl, Nat.le_of_ble_eq_true rfl⟩ rfl dX8_depthFor_25 (fun v25 σ25 hv25 => ?_)
      rcases hv25 with ⟨rfl, q1_25, q2_25, q3_25, q4_25, rfl⟩
      · skip
        refine z_cv (st1 := []) rfl rfl rfl ?_
        refine z_aload_n 28 C dX8_depthFor_28 0 rfl ?_
        refine z_getf 29 C 105 z_dX8 (⟨rfl, rfl⟩) 16 (by decide) q982 (.ref (z_ad G 114)) rfl dX8_depthFor_29 ?_
        refine z_aload_n 32 C dX8_depthFor_32 0 rfl ?_
        refine z_iconst 33 C dX8_depthFor_33 (nI 1) rfl ?_
        refine z_callV 34 C 105 (⟨rfl, rfl⟩) rfl (As := [.int (nI 1)]) (rest := [.ref (z_ad G 114)]) (@m_X8_extremeAt _ _ σ P n u v w rc tl hM q1_25 q2_25 q3_25 q4_25 as_ (z_fil (z_cd (σ.2 108) a) of_ 24) 1 (by omega)) k_X8_extremeAt q1308 ⟨rfl, rfl⟩ ⟨Nat.le_of_ble_eq_true rfl, Nat.le_of_ble_eq_true rfl⟩ rfl (Nat.le_of_ble_eq_true rfl) ⟨Nat.le_of_ble_eq_true rfl, Nat.le_of_ble_eq_true rfl⟩ rfl dX8_depthFor_34 (z_k1 ?_)
        refine z_laldN 37 C 114 (n := 24) (⟨rfl, rfl⟩) (zm_xe 1 (z_fil (z_cd (σ.2 108) a) of_ 24) 24) rfl (zm_xe_lt 1 _ (by decide)) (by decide) dX8_depthFor_37 ?_
        refine z_cv (st1 := [.long ((z_fil (z_cd (σ.2 108) a) of_ 24) (zm_xe 1 (z_fil (z_cd (σ.2 108) a) of_ 24) 24))]) rfl (by rw [z_mU_qof_]) rfl ?_
        refine z_lstore_n 38 C dX8_depthFor_38 [(3, .long ((z_fil (z_cd (σ.2 108) a) of_ 24) (zm_xe 1 (z_fil (z_cd (σ.2 108) a) of_ 24) 24))), (0, .ref (z_ad G 105)), (1, .int (nI a)), (2, .int (nI d))] (by decide) rfl ?_
        refine z_ldc2 39 C dX8_depthFor_39 q1330 ?_
        refine z_lstore 42 C dX8_depthFor_42 [(5, .long (-1)), (3, .long ((z_fil (z_cd (σ.2 108) a) of_ 24) (zm_xe 1 (z_fil (z_cd (σ.2 108) a) of_ 24) 24))), (0, .ref (z_ad G 105)), (1, .int (nI a)), (2, .int (nI d))] (by decide) rfl ?_
        refine z_iconst 44 C dX8_depthFor_44 (nI 0) rfl ?_
        refine z_istore 45 C dX8_depthFor_45 [(7, .int (nI 0)), (5, .long (-1)), (3, .long ((z_fil (z_cd (σ.2 108) a) of_ 24) (zm_xe 1 (z_fil (z_cd (σ.2 108) a) of_ 24) 24))), (0, .ref (z_ad G 105)), (1, .int (nI a)), (2, .int (nI d))] (by decide) rfl ?_
        refine z_sub [3, 4, 5, 2, 1, 0] (lv1 := [(0, .ref (z_ad G 105)), (1, .int (nI a)), (2, .int (nI d)), (3, .long ((z_fil (z_cd (σ.2 108) a) of_ 24) (zm_xe 1 (z_fil (z_cd (σ.2 108) a) of_ 24) 24))), (5, .long (-1)), (7, .int (nI 0))]) rfl ?_
        refine z_cv (lv1 := [(0, .ref (z_ad G 105)), (1, .int (nI a)), (2, .int (nI d)), (3, .long ((z_fil (z_cd (σ.2 108) a) of_ 24) (zm_xe 1 (z_fil (z_cd (σ.2 108) a) of_ 24) 24))), (5, .long (zm_dp ((z_fil (z_cd (σ.2 108) a) of_ 24) (zm_xe 1 (z_fil (z_cd (σ.2 108) a) of_ 24) 24)) (z_fil (z_cd (σ.2 108) a) of_ 24) d 0)), (7, .int (nI 0))]) (st1 := []) (σ1 := z_mU σ q1_25 q2_25 q3_25 q4_25 as_ (z_fil (z_cd (σ.2 108) a) of_ 24)) rfl rfl rfl ?_
        refine z_lp1 (fun (k : Nat) => k ≤ 24) (fun (k : Nat) => 24 - k) (fun (k : Nat) => [(0, .ref (z_ad G 105)), (1, .int (nI a)), (2, .int (nI d)), (3, .long ((z_fil (z_cd (σ.2 108) a) of_ 24) (zm_xe 1 (z_fil (z_cd (σ.2 108) a) of_ 24) 24))), (5, .long (zm_dp ((z_fil (z_cd (σ.2 108) a) of_ 24) (zm_xe 1 (z_fil (z_cd (σ.2 108) a) of_ 24) 24)) (z_fil (z_cd (σ.2 108) a) of_ 24) d k)), (7, .int (nI k))]) (fun (k : Nat) => z_mU σ q1_25 q2_25 q3_25 q4_25 as_ (z_fil (z_cd (σ.2 108) a) of_ 24)) (fun k hi_47 ih_47 => ?_) 0 (by omega)
        try dsimp only
        refine z_iload 47 C dX8_depthFor_47 5 rfl ?_
        refine z_bipush 49 C dX8_depthFor_49 (nI 24) rfl ?_
        refine z_icmp_geN 51 C k 24 rfl rfl (by omega) (by omega) 105 dX8_depthFor_51 (by decide) (fun c51 => ?_) (fun c51 => ?_)
        · skip
          have ek : k = 24 := by omega
          subst ek
          refine z_lload 105 C dX8_depthFor_105 4 rfl ?_
          refine z_lret 107 C dX8_depthFor_107 ?_
          exact ⟨z_cl (by rw [if_neg c4, if_neg c16, z_nk (k := a) (by omega), z_nk (k := d) (by omega)]), _, _, _, _, _, rfl⟩
        · skip
          refine z_lload_n 54 C dX8_depthFor_54 3 rfl ?_
          refine z_aload_n 55 C dX8_depthFor_55 0 rfl ?_
          refine z_getf 56 C 105 z_dX8 (⟨rfl, rfl⟩) 16 (by decide) q982 (.ref (z_ad G 114)) rfl dX8_depthFor_56 ?_
          refine z_iload 59 C dX8_depthFor_59 5 rfl ?_
          refine z_laldN 61 C 114 (n := 24) (⟨rfl, rfl⟩) k rfl (by omega) (by decide) dX8_depthFor_61 ?_
          refine z_cv (st1 := [.long ((z_fil (z_cd (σ.2 108) a) of_ 24) k), .long ((z_fil (z_cd (σ.2 108) a) of_ 24) (zm_xe 1 (z_fil (z_cd (σ.2 108) a) of_ 24) 24))]) rfl (by rw [z_mU_qof_]) rfl ?_
          refine z_lsub 62 C dX8_depthFor_62 ?_
          refine z_lstore 63 C dX8_depthFor_63 [(8, .long (((z_fil (z_cd (σ.2 108) a) of_ 24) (zm_xe 1 (z_fil (z_cd (σ.2 108) a) of_ 24) 24)) - ((z_fil (z_cd (σ.2 108) a) of_ 24) k))), (0, .ref (z_ad G 105)), (1, .int (nI a)), (2, .int (nI d)), (3, .long ((z_fil (z_cd (σ.2 108) a) of_ 24) (zm_xe 1 (z_fil (z_cd (σ.2 108) a) of_ 24) 24))), (5, .long (zm_dp ((z_fil (z_cd (σ.2 108) a) of_ 24) (zm_xe 1 (z_fil (z_cd (σ.2 108) a) of_ 24) 24)) (z_fil (z_cd (σ.2 108) a) of_ 24) d k)), (7, .int (nI k))] (by decide) rfl ?_
          refine z_aload_n 65 C dX8_depthFor_65 1 rfl ?_
          refine z_lload 66 C dX8_depthFor_66 0 rfl ?_
          refine z_callV 68 C 105 (⟨rfl, rfl⟩) rfl (As := [.long (((z_fil (z_cd (σ.2 108) a) of_ 24) (zm_xe 1 (z_fil (z_cd (σ.2 108) a) of_ 24) 24)) - ((z_fil (z_cd (σ.2 108) a) of_ 24) k))]) (rest := []) (@m_X8_countTo _ _ σ P n u v w rc tl hM q1_25 q2_25 q3_25 q4_25 as_ (z_fil (z_cd (σ.2 108) a) of_ 24) (((z_fil (z_cd (σ.2 108) a) of_ 24) (zm_xe 1 (z_fil (z_cd (σ.2 108) a) of_ 24) 24)) - ((z_fil (z_cd (σ.2 108) a) of_ 24) k))) k_X8_countTo q1321 ⟨rfl, rfl⟩ ⟨Nat.le_of_ble_eq_true rfl, Nat.le_of_ble_eq_true rfl⟩ rfl (Nat.le_of_ble_eq_true rfl) ⟨Nat.le_of_ble_eq_true rfl, Nat.le_of_ble_eq_true rfl⟩ rfl dX8_depthFor_68 (z_k1 ?_)
          refine z_iload_n 71 C dX8_depthFor_71 3 rfl ?_
          have hcn := z_cn_le ((z_fil (z_cd (σ.2 108) a) of_ 24) (zm_xe 1 (z_fil (z_cd (σ.2 108) a) of_ 24) 24)) ((z_fil (z_cd (σ.2 108) a) of_ 24) (zm_xe 1 (z_fil (z_cd (σ.2 108) a) of_ 24) 24) - (z_fil (z_cd (σ.2 108) a) of_ 24) k) (z_fil (z_cd (σ.2 108) a) of_ 24) 24
          refine z_icmp_ltN 72 C (z_cn ((z_fil (z_cd (σ.2 108) a) of_ 24) (zm_xe 1 (z_fil (z_cd (σ.2 108) a) of_ 24) 24)) (z_fil (z_cd (σ.2 108) a) of_ 24) (((z_fil (z_cd (σ.2 108) a) of_ 24) (zm_xe 1 (z_fil (z_cd (σ.2 108) a) of_ 24) 24)) - ((z_fil (z_cd (σ.2 108) a) of_ 24) k)) 24) d rfl rfl (by omega) (by omega) 95 dX8_depthFor_72 (by decide) (fun c72 => ?_) (fun c72 => ?_)
          · skip
            refine z_lload 95 C dX8_depthFor_95 5 rfl ?_
            refine z_lstore 97 C dX8_depthFor_97 [(5, .long (zm_dp ((z_fil (z_cd (σ.2 108) a) of_ 24) (zm_xe 1 (z_fil (z_cd (σ.2 108) a) of_ 24) 24)) (z_fil (z_cd (σ.2 108) a) of_ 24) d k)), (8, .long (((z_fil (z_cd (σ.2 108) a) of_ 24) (zm_xe 1 (z_fil (z_cd (σ.2 108) a) of_ 24) 24)) - ((z_fil (z_cd (σ.2 108) a) of_ 24) k))), (0, .ref (z_ad G 105)), (1, .int (nI a)), (2, .int (nI d)), (3, .long ((z_fil (z_cd (σ.2 108) a) of_ 24) (zm_xe 1 (z_fil (z_cd (σ.2 108) a) of_ 24) 24))), (7, .int (nI k))] (by decide) rfl ?_
            refine z_iincN 99 C 6 k [(7, .int (nI (k + 1))), (5, .long (zm_dp ((z_fil (z_cd (σ.2 108) a) of_ 24) (zm_xe 1 (z_fil (z_cd (σ.2 108) a) of_ 24) 24)) (z_fil (z_cd (σ.2 108) a) of_ 24) d k)), (8, .long (((z_fil (z_cd (σ.2 108) a) of_ 24) (zm_xe 1 (z_fil (z_cd (σ.2 108) a) of_ 24) 24)) - ((z_fil (z_cd (σ.2 108) a) of_ 24) k))), (0, .ref (z_ad G 105)), (1, .int (nI a)), (2, .int (nI d)), (3, .long ((z_fil (z_cd (σ.2 108) a) of_ 24) (zm_xe 1 (z_fil (z_cd (σ.2 108) a) of_ 24) 24)))] rfl rfl (by decide) rfl dX8_depthFor_99 ?_
            refine z_goto 102 C 47 dX8_depthFor_102 (by decide) ?_
            refine z_sub [3, 4, 5, 6, 1, 0] (lv1 := [(0, .ref (z_ad G 105)), (1, .int (nI a)), (2, .int (nI d)), (3, .long ((z_fil (z_cd (σ.2 108) a) of_ 24) (zm_xe 1 (z_fil (z_cd (σ.2 108) a) of_ 24) 24))), (5, .long (zm_dp ((z_fil (z_cd (σ.2 108) a) of_ 24) (zm_xe 1 (z_fil (z_cd (σ.2 108) a) of_ 24) 24)) (z_fil (z_cd (σ.2 108) a) of_ 24) d k)), (7, .int (nI (k + 1)))]) rfl ?_
            refine z_cv (lv1 := [(0, .ref (z_ad G 105)), (1, .int (nI a)), (2, .int (nI d)), (3, .long ((z_fil (z_cd (σ.2 108) a) of_ 24) (zm_xe 1 (z_fil (z_cd (σ.2 108) a) of_ 24) 24))), (5, .long (zm_dp ((z_fil (z_cd (σ.2 108) a) of_ 24) (zm_xe 1 (z_fil (z_cd (σ.2 108) a) of_ 24) 24)) (z_fil (z_cd (σ.2 108) a) of_ 24) d (k + 1))), (7, .int (nI (k + 1)))]) (st1 := []) (σ1 := z_mU σ q1_25 q2_25 q3_25 q4_25 as_ (z_fil (z_cd (σ.2 108) a) of_ 24)) (by first | rw [zm_dp1 c72 (Or.inl c78)] | rw [zm_dp1 c72 (Or.inr (Int64.not_le.mp c86))] | rw [zm_dp0 (fun z => Nat.not_le.mpr c72 z.1)] | rw [zm_dp0 (fun z => z.2.elim c78 (Int64.not_lt.mpr c86))]) rfl rfl ?_
            exact ih_47 (k + 1) (by omega) (by omega)
          · skip
            refine z_lload 75 C dX8_depthFor_75 5 rfl ?_
            refine z_lconst 77 C dX8_depthFor_77 0 rfl ?_
            refine z_lcmp_lt 78 C 90 dX8_depthFor_78 dX8_depthFor_79 (by decide) (fun c78 => ?_) (fun c78 => ?_)
            · skip
              refine z_lload 90 C dX8_depthFor_90 0 rfl ?_
              refine z_goto 92 C 97 dX8_depthFor_92 (by decide) ?_
              refine z_lstore 97 C dX8_depthFor_97 [(5, .long (((z_fil (z_cd (σ.2 108) a) of_ 24) (zm_xe 1 (z_fil (z_cd (σ.2 108) a) of_ 24) 24)) - ((z_fil (z_cd (σ.2 108) a) of_ 24) k))), (8, .long (((z_fil (z_cd (σ.2 108) a) of_ 24) (zm_xe 1 (z_fil (z_cd (σ.2 108) a) of_ 24) 24)) - ((z_fil (z_cd (σ.2 108) a) of_ 24) k))), (0, .ref (z_ad G 105)), (1, .int (nI a)), (2, .int (nI d)), (3, .long ((z_fil (z_cd (σ.2 108) a) of_ 24) (zm_xe 1 (z_fil (z_cd (σ.2 108) a) of_ 24) 24))), (7, .int (nI k))] (by decide) rfl ?_
              refine z_iincN 99 C 6 k [(7, .int (nI (k + 1))), (5, .long (((z_fil (z_cd (σ.2 108) a) of_ 24) (zm_xe 1 (z_fil (z_cd (σ.2 108) a) of_ 24) 24)) - ((z_fil (z_cd (σ.2 108) a) of_ 24) k))), (8, .long (((z_fil (z_cd (σ.2 108) a) of_ 24) (zm_xe 1 (z_fil (z_cd (σ.2 108) a) of_ 24) 24)) - ((z_fil (z_cd (σ.2 108) a) of_ 24) k))), (0, .ref (z_ad G 105)), (1, .int (nI a)), (2, .int (nI d)), (3, .long ((z_fil (z_cd (σ.2 108) a) of_ 24) (zm_xe 1 (z_fil (z_cd (σ.2 108) a) of_ 24) 24)))] rfl rfl (by decide) rfl dX8_depthFor_99 ?_
              refine z_goto 102 C 47 dX8_depthFor_102 (by decide) ?_
              refine z_sub [3, 4, 5, 6, 1, 0] (lv1 := [(0, .ref (z_ad G 105)), (1, .int (nI a)), (2, .int (nI d)), (3, .long ((z_fil (z_cd (σ.2 108) a) of_ 24) (zm_xe 1 (z_fil (z_cd (σ.2 108) a) of_ 24) 24))), (5, .long (((z_fil (z_cd (σ.2 108) a) of_ 24) (zm_xe 1 (z_fil (z_cd (σ.2 108) a) of_ 24) 24)) - ((z_fil (z_cd (σ.2 108) a) of_ 24) k))), (7, .int (nI (k + 1)))]) rfl ?_
              refine z_cv (lv1 := [(0, .ref (z_ad G 105)), (1, .int (nI a)), (2, .int (nI d)), (3, .long ((z_fil (z_cd (σ.2 108) a) of_ 24) (zm_xe 1 (z_fil (z_cd (σ.2 108) a) of_ 24) 24))), (5, .long (zm_dp ((z_fil (z_cd (σ.2 108) a) of_ 24) (zm_xe 1 (z_fil (z_cd (σ.2 108) a) of_ 24) 24)) (z_fil (z_cd (σ.2 108) a) of_ 24) d (k + 1))), (7, .int (nI (k + 1)))]) (st1 := []) (σ1 := z_mU σ q1_25 q2_25 q3_25 q4_25 as_ (z_fil (z_cd (σ.2 108) a) of_ 24)) (by first | rw [zm_dp1 c72 (Or.inl c78)] | rw [zm_dp1 c72 (Or.inr (Int64.not_le.mp c86))] | rw [zm_dp0 (fun z => Nat.not_le.mpr c72 z.1)] | rw [zm_dp0 (fun z => z.2.elim c78 (Int64.not_lt.mpr c86))]) rfl rfl ?_
              exact ih_47 (k + 1) (by omega) (by omega)
            · skip
              refine z_lload 82 C dX8_depthFor_82 0 rfl ?_
              refine z_lload 84 C dX8_depthFor_84 5 rfl ?_
              refine z_lcmp_ge 86 C 95 dX8_depthFor_86 dX8_depthFor_87 (by decide) (fun c86 => ?_) (fun c86 => ?_)
              · skip
                refine z_lload 95 C dX8_depthFor_95 5 rfl ?_
                refine z_lstore 97 C dX8_depthFor_97 [(5, .long (zm_dp ((z_fil (z_cd (σ.2 108) a) of_ 24) (zm_xe 1 (z_fil (z_cd (σ.2 108) a) of_ 24) 24)) (z_fil (z_cd (σ.2 108) a) of_ 24) d k)), (8, .long (((z_fil (z_cd (σ.2 108) a) of_ 24) (zm_xe 1 (z_fil (z_cd (σ.2 108) a) of_ 24) 24)) - ((z_fil (z_cd (σ.2 108) a) of_ 24) k))), (0, .ref (z_ad G 105)), (1, .int (nI a)), (2, .int (nI d)), (3, .long ((z_fil (z_cd (σ.2 108) a) of_ 24) (zm_xe 1 (z_fil (z_cd (σ.2 108) a) of_ 24) 24))), (7, .int (nI k))] (by decide) rfl ?_
                refine z_iincN 99 C 6 k [(7, .int (nI (k + 1))), (5, .long (zm_dp ((z_fil (z_cd (σ.2 108) a) of_ 24) (zm_xe 1 (z_fil (z_cd (σ.2 108) a) of_ 24) 24)) (z_fil (z_cd (σ.2 108) a) of_ 24) d k)), (8, .long (((z_fil (z_cd (σ.2 108) a) of_ 24) (zm_xe 1 (z_fil (z_cd (σ.2 108) a) of_ 24) 24)) - ((z_fil (z_cd (σ.2 108) a) of_ 24) k))), (0, .ref (z_ad G 105)), (1, .int (nI a)), (2, .int (nI d)), (3, .long ((z_fil (z_cd (σ.2 108) a) of_ 24) (zm_xe 1 (z_fil (z_cd (σ.2 108) a) of_ 24) 24)))] rfl rfl (by decide) rfl dX8_depthFor_99 ?_
                refine z_goto 102 C 47 dX8_depthFor_102 (by decide) ?_
                refine z_sub [3, 4, 5, 6, 1, 0] (lv1 := [(0, .ref (z_ad G 105)), (1, .int (nI a)), (2, .int (nI d)), (3, .long ((z_fil (z_cd (σ.2 108) a) of_ 24) (zm_xe 1 (z_fil (z_cd (σ.2 108) a) of_ 24) 24))), (5, .long (zm_dp ((z_fil (z_cd (σ.2 108) a) of_ 24) (zm_xe 1 (z_fil (z_cd (σ.2 108) a) of_ 24) 24)) (z_fil (z_cd (σ.2 108) a) of_ 24) d k)), (7, .int (nI (k + 1)))]) rfl ?_
                refine z_cv (lv1 := [(0, .ref (z_ad G 105)), (1, .int (nI a)), (2, .int (nI d)), (3, .long ((z_fil (z_cd (σ.2 108) a) of_ 24) (zm_xe 1 (z_fil (z_cd (σ.2 108) a) of_ 24) 24))), (5, .long (zm_dp ((z_fil (z_cd (σ.2 108) a) of_ 24) (zm_xe 1 (z_fil (z_cd (σ.2 108) a) of_ 24) 24)) (z_fil (z_cd (σ.2 108) a) of_ 24) d (k + 1))), (7, .int (nI (k + 1)))]) (st1 := []) (σ1 := z_mU σ q1_25 q2_25 q3_25 q4_25 as_ (z_fil (z_cd (σ.2 108) a) of_ 24)) (by first | rw [zm_dp1 c72 (Or.inl c78)] | rw [zm_dp1 c72 (Or.inr (Int64.not_le.mp c86))] | rw [zm_dp0 (fun z => Nat.not_le.mpr c72 z.1)] | rw [zm_dp0 (fun z => z.2.elim c78 (Int64.not_lt.mpr c86))]) rfl rfl ?_
                exact ih_47 (k + 1) (by omega) (by omega)
              · skip
                refine z_lload 90 C dX8_depthFor_90 0 rfl ?_
                refine z_goto 92 C 97 dX8_depthFor_92 (by decide) ?_
                refine z_lstore 97 C dX8_depthFor_97 [(5, .long (((z_fil (z_cd (σ.2 108) a) of_ 24) (zm_xe 1 (z_fil (z_cd (σ.2 108) a) of_ 24) 24)) - ((z_fil (z_cd (σ.2 108) a) of_ 24) k))), (8, .long (((z_fil (z_cd (σ.2 108) a) of_ 24) (zm_xe 1 (z_fil (z_cd (σ.2 108) a) of_ 24) 24)) - ((z_fil (z_cd (σ.2 108) a) of_ 24) k))), (0, .ref (z_ad G 105)), (1, .int (nI a)), (2, .int (nI d)), (3, .long ((z_fil (z_cd (σ.2 108) a) of_ 24) (zm_xe 1 (z_fil (z_cd (σ.2 108) a) of_ 24) 24))), (7, .int (nI k))] (by decide) rfl ?_
                refine z_iincN 99 C 6 k [(7, .int (nI (k + 1))), (5, .long (((z_fil (z_cd (σ.2 108) a) of_ 24) (zm_xe 1 (z_fil (z_cd (σ.2 108) a) of_ 24) 24)) - ((z_fil (z_cd (σ.2 108) a) of_ 24) k))), (8, .long (((z_fil (z_cd (σ.2 108) a) of_ 24) (zm_xe 1 (z_fil (z_cd (σ.2 108) a) of_ 24) 24)) - ((z_fil (z_cd (σ.2 108) a) of_ 24) k))), (0, .ref (z_ad G 105)), (1, .int (nI a)), (2, .int (nI d)), (3, .long ((z_fil (z_cd (σ.2 108) a) of_ 24) (zm_xe 1 (z_fil (z_cd (σ.2 108) a) of_ 24) 24)))] rfl rfl (by decide) rfl dX8_depthFor_99 ?_
                refine z_goto 102 C 47 dX8_depthFor_102 (by decide) ?_
                refine z_sub [3, 4, 5, 6, 1, 0] (lv1 := [(0, .ref (z_ad G 105)), (1, .int (nI a)), (2, .int (nI d)), (3, .long ((z_fil (z_cd (σ.2 108) a) of_ 24) (zm_xe 1 (z_fil (z_cd (σ.2 108) a) of_ 24) 24))), (5, .long (((z_fil (z_cd (σ.2 108) a) of_ 24) (zm_xe 1 (z_fil (z_cd (σ.2 108) a) of_ 24) 24)) - ((z_fil (z_cd (σ.2 108) a) of_ 24) k))), (7, .int (nI (k + 1)))]) rfl ?_
                refine z_cv (lv1 := [(0, .ref (z_ad G 105)), (1, .int (nI a)), (2, .int (nI d)), (3, .long ((z_fil (z_cd (σ.2 108) a) of_ 24) (zm_xe 1 (z_fil (z_cd (σ.2 108) a) of_ 24) 24))), (5, .long (zm_dp ((z_fil (z_cd (σ.2 108) a) of_ 24) (zm_xe 1 (z_fil (z_cd (σ.2 108) a) of_ 24) 24)) (z_fil (z_cd (σ.2 108) a) of_ 24) d (k + 1))), (7, .int (nI (k + 1)))]) (st1 := []) (σ1 := z_mU σ q1_25 q2_25 q3_25 q4_25 as_ (z_fil (z_cd (σ.2 108) a) of_ 24)) (by first | rw [zm_dp1 c72 (Or.inl c78)] | rw [zm_dp1 c72 (Or.inr (Int64.not_le.mp c86))] | rw [zm_dp0 (fun z => Nat.not_le.mpr c72 z.1)] | rw [zm_dp0 (fun z => z.2.elim c78 (Int64.not_lt.mpr c86))]) rfl rfl ?_
                exact ih_47 (k + 1) (by omega) (by omega)
    · skip
      replace c16 := Classical.not_not.mp c16
      refine z_callS 19 C (As := []) (rest := []) (m_X8_lost (σ := z_mU σ cx cy mo le as_ of_)) k_X8_lost q1123 ⟨rfl, rfl⟩ ⟨Nat.le_of_ble_eq_true rfl, Nat.le_of_ble_eq_true rfl⟩ rfl (Nat.le_of_ble_eq_true rfl) ⟨Nat.le_of_ble_eq_true rfl, Nat.le_of_ble_eq_true rfl⟩ rfl dX8_depthFor_19 (z_k1 ?_)
      refine z_lret 22 C dX8_depthFor_22 ?_
      first | exact ⟨z_cl (by rw [if_pos c4]), _, _, _, _, _, rfl⟩ | exact ⟨z_cl (by rw [if_neg c4, if_pos c16]), _, _, _, _, _, rfl⟩
