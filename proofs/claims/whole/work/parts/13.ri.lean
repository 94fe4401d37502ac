/-! The instrument: what always holds of its numbers -/
def z_inv (σ : z_St) (P n o u v w rc tl : Nat) : Prop := (σ.1 1 3 = nI P ∧ σ.1 1 4 = nI n ∧ σ.1 8 1 = nI o ∧ σ.1 8 2 = nI u ∧ σ.1 8 3 = nI v ∧ σ.1 32 5 = nI w ∧ σ.1 44 5 = nI rc ∧ σ.1 82 5 = nI tl) ∧ (P = 2 ∨ P = 3 ∨ P = 4 ∨ P = 6 ∨ P = 8 ∨ P = 12) ∧ n ≤ P * 24 ∧ o < 21 ∧ u + v ≤ 20 ∧ w ≤ 6 ∧ rc ≤ 8 ∧ tl ≤ 200
def z_n (x : Int32) : Nat := x.toNatClampNeg
theorem z_nk {k : Nat} (h : k < 2 ^ 31) : z_n (nI k) = k := nI_clamp h
theorem z_in0 {x : Int32} {b : Nat} (hb : b < 2 ^ 31) (h : ¬ (x < nI 0 ∨ nI b < x)) : ∃ k, k ≤ b ∧ x = nI k := by
  have h1 : ¬ x < 0 := fun z => h (Or.inl z)
  obtain ⟨j, hj, rfl⟩ := nI_of h1
  refine ⟨j, ?_, rfl⟩
  have h2 : ¬ nI b < nI j := fun z => h (Or.inr z)
  exact Nat.not_lt.mp (fun z => h2 ((nI_ltI hb hj).mpr z))
theorem z_in1 {x : Int32} {a b : Nat} (ha : a < 2 ^ 31) (hb : b < 2 ^ 31) (h : ¬ (x < nI a ∨ nI b < x)) : ∃ k, a ≤ k ∧ k ≤ b ∧ x = nI k := by
  have h1 : ¬ x < nI a := fun z => h (Or.inl z)
  have h3 : ¬ x < 0 := fun z => h1 (by
    rw [fa_lt] at z ⊢
    rw [nI_toInt ha]
    have : (0 : Int32).toInt = 0 := rfl
    omega)
  obtain ⟨j, hj, rfl⟩ := nI_of h3
  refine ⟨j, Nat.not_lt.mp (fun z => h1 ((nI_ltI hj ha).mpr z)), Nat.not_lt.mp (fun z => h (Or.inr ((nI_ltI hb hj).mpr z))), rfl⟩
theorem z_inw {x : Int32} {w : Nat} (hw : w < 2 ^ 30) (h : ¬ (x < nI 0 ∨ nI w - nI 1 < x)) : ∃ k, k < w ∧ x = nI k := by
  have h1 : ¬ x < 0 := fun z => h (Or.inl z)
  obtain ⟨j, hj, rfl⟩ := nI_of h1
  refine ⟨j, ?_, rfl⟩
  have h2 : ¬ nI w - nI 1 < nI j := fun z => h (Or.inr z)
  rw [fa_lt, pk_sub_toInt (a := w) (b := 1) hw (by decide), nI_toInt hj] at h2
  omega
/-- where a profile comes from -/
def z_se (P n : Nat) (x y : Int32) : Int32 := if x < nI 0 ∨ nI 4 < x then (-1000001) else if x = 0 then (if y < nI 0 ∨ nI P - nI 1 < y then (-1000001) else if y < nI (n / 24) then nI 0 else (-1000002)) else if x = nI 1 ∨ x = nI 2 then (if P * 24 ≤ n then nI 0 else (-1000002)) else nI 0
def z_src (m : Nat → Int32) (pt sp : Nat → Int32) (P s j k : Nat) : Int64 := if s = 0 then (m (j * 24 + k % 24)).toInt64 * 1000000 else if s = 1 then z_pt m P k else if s = 2 then z_sp m P k else if s = 3 then (pt k).toInt64 * 1000000 else (sp k).toInt64 * 1000000
theorem z_se_ok {P n : Nat} {x y : Int32} (hP : P ≤ 12) (hn : n ≤ 288) (h : z_se P n x y = 0) : ∃ s, s ≤ 4 ∧ x = nI s ∧ (s = 0 → ∃ j, j < n / 24 ∧ j < P ∧ y = nI j) ∧ (s = 1 ∨ s = 2 → P * 24 ≤ n) := by
  unfold z_se at h
  by_cases h1 : x < nI 0 ∨ nI 4 < x
  · rw [if_pos h1] at h; exact absurd h (by decide)
  · rw [if_neg h1] at h
    obtain ⟨s, hs, rfl⟩ := z_in0 (by decide) h1
    refine ⟨s, hs, rfl, fun h0 => ?_, fun h12 => ?_⟩
    · subst h0
      rw [if_pos (show nI 0 = 0 from rfl)] at h
      by_cases h2 : y < nI 0 ∨ nI P - nI 1 < y
      · rw [if_pos h2] at h; exact absurd h (by decide)
      · rw [if_neg h2] at h
        obtain ⟨j, hj, rfl⟩ := z_inw (by omega) h2
        by_cases h3 : nI j < nI (n / 24)
        · exact ⟨j, (nI_ltI (by omega) (by omega)).mp h3, hj, rfl⟩
        · rw [if_neg h3] at h; exact absurd h (by decide)
    · have e0 : ¬ nI s = 0 := fun z => by have := (z_nI0 (by omega)).mp z; omega
      have e1 : nI s = nI 1 ∨ nI s = nI 2 := by rcases h12 with e | e <;> rw [e] <;> simp
      rw [if_neg e0, if_pos e1] at h
      by_cases h3 : P * 24 ≤ n
      · exact h3
      · rw [if_neg h3] at h; exact absurd h (by decide)
/-- the next profile becomes the present one -/
def z_c (o u : Nat) : Nat := 10 + (o + u) % 21
def z_nx (σ : z_St) (o u : Nat) (F : Nat → Int64) : z_St := z_uL (z_ui (z_ui (z_ui (z_uL σ 88 F) 8 1 (nI (z_ha o u))) 8 2 (nI (z_hb u))) 8 3 (nI 0)) (10 + (z_ha o u + z_hb u) % 21) (va_cpy F (σ.2 (10 + (z_ha o u + z_hb u) % 21)) 0 0 24)
theorem z_uL2s {σ : z_St} {i : Nat} {f : Nat → Int64} : (z_uL σ i f).2 i = f := if_pos rfl
theorem z_simS (σ : z_St) (n k : Nat) (g : Nat → Int32) : z_ui (z_ui (z_ui (z_uI σ 2 (fb_put (σ.1 2) g n k)) 1 4 (nI (n + k))) 2 (n + k) (g k)) 1 4 (nI (n + k + 1)) = z_ui (z_uI σ 2 (fb_put (σ.1 2) g n (k + 1))) 1 4 (nI (n + (k + 1))) := by
  rw [← z_uIu σ 2 n k (σ.1 2) g rfl]
  unfold z_ui z_uI
  refine Prod.ext ?_ rfl
  funext a
  by_cases h1 : a = 1
  · subst h1
    simp only [if_true]
    funext b
    unfold upd
    by_cases h2 : b = 4
    · subst h2; simp [Nat.add_assoc]
    · simp [h2]
  · by_cases h2 : a = 2
    · subst h2; simp
    · simp [h1, h2]
def z_tg (F : Nat → Int64) : Nat → Bool
  | 0 => false
  | k + 1 => z_tg F k || decide (40000000000 < z_ab (F k))
theorem z_tg_m {F : Nat → Int64} {k : Nat} (h : z_tg F k = true) : ∀ d, z_tg F (k + d) = true
  | 0 => h
  | d + 1 => by rw [← Nat.add_assoc, z_tg, z_tg_m h d, Bool.true_or]
theorem z_tg_t {F : Nat → Int64} {k : Nat} (hk : k < 24) (h : 40000000000 < z_ab (F k)) : z_tg F 24 = true := by
  have h1 : z_tg F (k + 1) = true := by rw [z_tg, decide_eq_true h, Bool.or_true]
  have := z_tg_m h1 (23 - k)
  rwa [show k + 1 + (23 - k) = 24 by omega] at this
theorem z_srcy {m pt sp : Nat → Int32} {P sr j : Nat} {y : Int32} (hj : j < 12) (hy : sr = 0 → y = nI j) : z_src m pt sp P sr (z_n y) = z_src m pt sp P sr j := by
  funext k
  unfold z_src
  by_cases h : sr = 0
  · rw [hy h, z_nk (by omega)]
  · simp [h]
def z_rot (z : Nat → Int64) (x : Int32) (k : Nat) : Int64 := z (z_pm (nI k - x))
def z_rme (z : Nat → Int64) (k : Nat) : Int64 := z k - z_cf z 0 0 - z_wv (z_cf z 0 1) (z_cf z 1 1) (k % 24)
theorem z_lob {x y : Int32} (h : ¬ (x < 0 ∨ y < x ∨ nI 12 < y)) : ∃ a b : Nat, a ≤ b ∧ b ≤ 12 ∧ x = nI a ∧ y = nI b := by
  have h1 : ¬ x < 0 := fun z => h (Or.inl z)
  have h2 : ¬ y < x := fun z => h (Or.inr (Or.inl z))
  have h3 : ¬ nI 12 < y := fun z => h (Or.inr (Or.inr z))
  obtain ⟨a, ha, rfl⟩ := nI_of h1
  have h4 : ¬ y < 0 := fun z => h2 (by
    rw [fa_lt] at z ⊢
    rw [nI_toInt ha]
    have : (0 : Int32).toInt = 0 := rfl
    omega)
  obtain ⟨b, hb, rfl⟩ := nI_of h4
  exact ⟨a, b, Nat.not_lt.mp (fun z => h2 ((nI_ltI hb ha).mpr z)), Nat.not_lt.mp (fun z => h3 ((nI_ltI (by decide) hb).mpr z)), rfl, rfl⟩
theorem z_tb4x {x : Int32} (h0 : ¬ x = 0) (h1 : ¬ x = 1) (h2 : ¬ x = 2) (h3 : ¬ x = 3) : x.toInt < 0 ∨ 3 < x.toInt := by
  rw [fa_eq] at h0 h1 h2 h3
  have q0 : (0 : Int32).toInt = 0 := rfl
  have q1 : (1 : Int32).toInt = 1 := rfl
  have q2 : (2 : Int32).toInt = 2 := rfl
  have q3 : (3 : Int32).toInt = 3 := rfl
  omega
theorem z_tb4 {sr : Nat} (hs : sr ≤ 4) (h0 : ¬ nI sr = 0) (h1 : ¬ nI sr = 1) (h2 : ¬ nI sr = 2) (h3 : ¬ nI sr = 3) : (nI sr).toInt < 0 ∨ 3 < (nI sr).toInt := by
  have q0 : ¬ sr = 0 := fun z => h0 (by rw [z]; rfl)
  have q1 : ¬ sr = 1 := fun z => h1 (by rw [z]; rfl)
  have q2 : ¬ sr = 2 := fun z => h2 (by rw [z]; rfl)
  have q3 : ¬ sr = 3 := fun z => h3 (by rw [z]; rfl)
  rw [nI_toInt (by omega)]
  omega
theorem z_c88 (a : Nat) : ¬ 10 + a % 21 = 88 := by omega
theorem dX7_makeNextPresent_0 : decode cX7_makeNextPresent 0 = .ok (.aload_n 0, 1) := by decide +kernel
theorem dX7_makeNextPresent_1 : decode cX7_makeNextPresent 1 = .ok (.getfield 28, 3) := by decide +kernel
theorem dX7_makeNextPresent_4 : decode cX7_makeNextPresent 4 = .ok (.aload_n 0, 1) := by decide +kernel
theorem dX7_makeNextPresent_5 : decode cX7_makeNextPresent 5 = .ok (.getfield 59, 3) := by decide +kernel
theorem dX7_makeNextPresent_8 : decode cX7_makeNextPresent 8 = .ok (.invokevirtual 342, 3) := by decide +kernel
theorem dX7_makeNextPresent_11 : decode cX7_makeNextPresent 11 = .ok (.ifCond .eq 7, 3) := by decide +kernel
theorem dX7_makeNextPresent_14 : decode cX7_makeNextPresent 14 = .ok (.iconst 1, 1) := by decide +kernel
theorem dX7_makeNextPresent_15 : decode cX7_makeNextPresent 15 = .ok (.goto 4, 3) := by decide +kernel
theorem dX7_makeNextPresent_18 : decode cX7_makeNextPresent 18 = .ok (.iconst 0, 1) := by decide +kernel
theorem dX7_makeNextPresent_19 : decode cX7_makeNextPresent 19 = .ok (.ireturn, 1) := by decide +kernel
set_option maxRecDepth 100000 in
set_option maxHeartbeats 4000000 in
theorem m_X7_makeNextPresent {l : Launch} {G : z_Gl} {σ : z_St} (P n o u v w rc tl : Nat) (hI : z_inv σ P n o u v w rc tl) : z_M l G yX7_makeNextPresent cX7_makeNextPresent 1 (some .int) (z_rm 2 62) [.ref (z_ad G 0)] σ (z_p1 (.int (z_bo (¬ z_eq24 (σ.2 (10 + (o + u) % 21)) (σ.2 88)))) (z_uL (z_ui (z_ui (z_ui σ 8 1 (nI (z_ha o u))) 8 2 (nI (z_hb u))) 8 3 (nI 0)) (10 + (z_ha o u + z_hb u) % 21) (va_cpy (σ.2 88) (σ.2 (10 + (z_ha o u + z_hb u) % 21)) 0 0 24))) := by
  refine z_M.of (by decide) (Nat.le_of_ble_eq_true rfl) (fun p e s m below meth c C => ?_)
  refine z_sub [0] (lv1 := [(0, .ref (z_ad G 0))]) rfl ?_
  have hI0 := hI
  obtain ⟨⟨hP, hn, ho, hu, hv, hw, hrc, htl⟩, hPs, hnP, ho21, huv, hw6, hrc8, htl2⟩ := hI0
  have h0 : 0 < P := by omega
  have h12 : P ≤ 12 := by omega
  have h288 : n ≤ 288 := by omega
  refine z_aload_n 0 C dX7_makeNextPresent_0 0 rfl ?_
  refine z_getf 1 C 0 z_dX7 (⟨rfl, rfl⟩) 2 (by decide) q341 (.ref (z_ad G 8)) rfl dX7_makeNextPresent_1 ?_
  refine z_aload_n 4 C dX7_makeNextPresent_4 0 rfl ?_
  refine z_getf 5 C 0 z_dX7 (⟨rfl, rfl⟩) 7 (by decide) q346 (.ref (z_ad G 88)) rfl dX7_makeNextPresent_5 ?_
  refine z_callVN 8 C 8 (⟨rfl, rfl⟩) rfl (As := [.ref (z_ad G 88)]) (rest := []) (m_X1_append o u ho hu (by omega) (by omega) 88 (⟨rfl, rfl⟩)) k_X1_append (List.mem_of_getElem? (i := 26) rfl) ⟨rfl, rfl⟩ ⟨Nat.le_of_ble_eq_true rfl, Nat.le_of_ble_eq_true rfl⟩ rfl (Nat.le_of_ble_eq_true rfl) ⟨Nat.le_of_ble_eq_true rfl, Nat.le_of_ble_eq_true rfl⟩ rfl dX7_makeNextPresent_8 (z_k1 ?_)
  refine z_if_eqb 11 C 18 dX7_makeNextPresent_11 (by decide) (fun c11 => ?_) (fun c11 => ?_)
  · skip
    refine z_iconst 18 C dX7_makeNextPresent_18 (nI 0) rfl ?_
    refine z_iret 19 C dX7_makeNextPresent_19 ?_
    first | exact ⟨z_ci (z_bo_f c11), rfl⟩ | exact ⟨z_ci (z_bo_t c11), rfl⟩
  · skip
    refine z_iconst 14 C dX7_makeNextPresent_14 (nI 1) rfl ?_
    refine z_goto 15 C 19 dX7_makeNextPresent_15 (by decide) ?_
    refine z_iret 19 C dX7_makeNextPresent_19 ?_
    first | exact ⟨z_ci (z_bo_f c11), rfl⟩ | exact ⟨z_ci (z_bo_t c11), rfl⟩
theorem m_X7_makeNextPresent_F {l : Launch} {G : z_Gl} {σ : z_St} (P n o u v w rc tl : Nat) (hI : z_inv σ P n o u v w rc tl) (F : Nat → Int64) : z_M l G yX7_makeNextPresent cX7_makeNextPresent 1 (some .int) (z_rm 2 62) [.ref (z_ad G 0)] (z_uL σ 88 F) (z_p1 (.int (z_bo (¬ z_eq24 (σ.2 (10 + (o + u) % 21)) F))) (z_nx σ o u F)) := by
  have h := m_X7_makeNextPresent (l := l) (G := G) (σ := z_uL σ 88 F) P n o u v w rc tl hI
  rw [z_uL2n (z_c88 _), z_uL2n (z_c88 _), z_uL2s] at h
  exact h
theorem dX7_sourceError_0 : decode cX7_sourceError 0 = .ok (.iload_n 1, 1) := by decide +kernel
theorem dX7_sourceError_1 : decode cX7_sourceError 1 = .ok (.iconst 0, 1) := by decide +kernel
theorem dX7_sourceError_2 : decode cX7_sourceError 2 = .ok (.iconst 4, 1) := by decide +kernel
theorem dX7_sourceError_3 : decode cX7_sourceError 3 = .ok (.invokestatic 77, 3) := by decide +kernel
theorem dX7_sourceError_6 : decode cX7_sourceError 6 = .ok (.ifCond .eq 6, 3) := by decide +kernel
theorem dX7_sourceError_9 : decode cX7_sourceError 9 = .ok (.ldc 68, 2) := by decide +kernel
theorem dX7_sourceError_11 : decode cX7_sourceError 11 = .ok (.ireturn, 1) := by decide +kernel
theorem dX7_sourceError_12 : decode cX7_sourceError 12 = .ok (.iload_n 1, 1) := by decide +kernel
theorem dX7_sourceError_13 : decode cX7_sourceError 13 = .ok (.ifCond .ne 41, 3) := by decide +kernel
theorem dX7_sourceError_16 : decode cX7_sourceError 16 = .ok (.iload_n 2, 1) := by decide +kernel
theorem dX7_sourceError_17 : decode cX7_sourceError 17 = .ok (.iconst 0, 1) := by decide +kernel
theorem dX7_sourceError_18 : decode cX7_sourceError 18 = .ok (.aload_n 0, 1) := by decide +kernel
theorem dX7_sourceError_19 : decode cX7_sourceError 19 = .ok (.getfield 12, 3) := by decide +kernel
theorem dX7_sourceError_22 : decode cX7_sourceError 22 = .ok (.getfield 104, 3) := by decide +kernel
theorem dX7_sourceError_25 : decode cX7_sourceError 25 = .ok (.iconst 1, 1) := by decide +kernel
theorem dX7_sourceError_26 : decode cX7_sourceError 26 = .ok (.isub, 1) := by decide +kernel
theorem dX7_sourceError_27 : decode cX7_sourceError 27 = .ok (.invokestatic 77, 3) := by decide +kernel
theorem dX7_sourceError_30 : decode cX7_sourceError 30 = .ok (.ifCond .eq 6, 3) := by decide +kernel
theorem dX7_sourceError_33 : decode cX7_sourceError 33 = .ok (.ldc 68, 2) := by decide +kernel
theorem dX7_sourceError_35 : decode cX7_sourceError 35 = .ok (.ireturn, 1) := by decide +kernel
theorem dX7_sourceError_36 : decode cX7_sourceError 36 = .ok (.iload_n 2, 1) := by decide +kernel
theorem dX7_sourceError_37 : decode cX7_sourceError 37 = .ok (.aload_n 0, 1) := by decide +kernel
theorem dX7_sourceError_38 : decode cX7_sourceError 38 = .ok (.getfield 12, 3) := by decide +kernel
theorem dX7_sourceError_41 : decode cX7_sourceError 41 = .ok (.invokevirtual 93, 3) := by decide +kernel
theorem dX7_sourceError_44 : decode cX7_sourceError 44 = .ok (.if_icmp .ge 7, 3) := by decide +kernel
theorem dX7_sourceError_47 : decode cX7_sourceError 47 = .ok (.iconst 0, 1) := by decide +kernel
theorem dX7_sourceError_48 : decode cX7_sourceError 48 = .ok (.goto 5, 3) := by decide +kernel
theorem dX7_sourceError_51 : decode cX7_sourceError 51 = .ok (.ldc 85, 2) := by decide +kernel
theorem dX7_sourceError_53 : decode cX7_sourceError 53 = .ok (.ireturn, 1) := by decide +kernel
theorem dX7_sourceError_54 : decode cX7_sourceError 54 = .ok (.iload_n 1, 1) := by decide +kernel
theorem dX7_sourceError_55 : decode cX7_sourceError 55 = .ok (.iconst 1, 1) := by decide +kernel
theorem dX7_sourceError_56 : decode cX7_sourceError 56 = .ok (.if_icmp .eq 8, 3) := by decide +kernel
theorem dX7_sourceError_59 : decode cX7_sourceError 59 = .ok (.iload_n 1, 1) := by decide +kernel
theorem dX7_sourceError_60 : decode cX7_sourceError 60 = .ok (.iconst 2, 1) := by decide +kernel
theorem dX7_sourceError_61 : decode cX7_sourceError 61 = .ok (.if_icmp .ne 20, 3) := by decide +kernel
theorem dX7_sourceError_64 : decode cX7_sourceError 64 = .ok (.aload_n 0, 1) := by decide +kernel
theorem dX7_sourceError_65 : decode cX7_sourceError 65 = .ok (.getfield 12, 3) := by decide +kernel
theorem dX7_sourceError_68 : decode cX7_sourceError 68 = .ok (.invokevirtual 81, 3) := by decide +kernel
theorem dX7_sourceError_71 : decode cX7_sourceError 71 = .ok (.ifCond .eq 7, 3) := by decide +kernel
theorem dX7_sourceError_74 : decode cX7_sourceError 74 = .ok (.iconst 0, 1) := by decide +kernel
theorem dX7_sourceError_75 : decode cX7_sourceError 75 = .ok (.goto 5, 3) := by decide +kernel
theorem dX7_sourceError_78 : decode cX7_sourceError 78 = .ok (.ldc 85, 2) := by decide +kernel
theorem dX7_sourceError_80 : decode cX7_sourceError 80 = .ok (.ireturn, 1) := by decide +kernel
theorem dX7_sourceError_81 : decode cX7_sourceError 81 = .ok (.iconst 0, 1) := by decide +kernel
theorem dX7_sourceError_82 : decode cX7_sourceError 82 = .ok (.ireturn, 1) := by decide +kernel
set_option maxRecDepth 100000 in
set_option maxHeartbeats 4000000 in
theorem m_X7_sourceError {l : Launch} {G : z_Gl} {σ : z_St} (P n o u v w rc tl : Nat) (hI : z_inv σ P n o u v w rc tl) (x : Int32) (y : Int32) : z_M l G yX7_sourceError cX7_sourceError 3 (some .int) (z_rm 1 22) [.ref (z_ad G 0), .int x, .int y] σ (z_p1 (.int (z_se P n x y)) σ) := by
  refine z_M.of (by decide) (Nat.le_of_ble_eq_true rfl) (fun p e s m below meth c C => ?_)
  refine z_sub [0, 1, 2] (lv1 := [(0, .ref (z_ad G 0)), (1, .int x), (2, .int y)]) rfl ?_
  have hI0 := hI
  obtain ⟨⟨hP, hn, ho, hu, hv, hw, hrc, htl⟩, hPs, hnP, ho21, huv, hw6, hrc8, htl2⟩ := hI0
  have h0 : 0 < P := by omega
  have h12 : P ≤ 12 := by omega
  have h288 : n ≤ 288 := by omega
  refine z_iload_n 0 C dX7_sourceError_0 1 rfl ?_
  refine z_iconst 1 C dX7_sourceError_1 (nI 0) rfl ?_
  refine z_iconst 2 C dX7_sourceError_2 (nI 4) rfl ?_
  refine z_callS 3 C (As := [.int x, .int (nI 0), .int (nI 4)]) (rest := []) (m_X7_isOutside x (nI 0) (nI 4)) k_X7_isOutside q380 ⟨rfl, rfl⟩ ⟨Nat.le_of_ble_eq_true rfl, Nat.le_of_ble_eq_true rfl⟩ rfl (Nat.le_of_ble_eq_true rfl) ⟨Nat.le_of_ble_eq_true rfl, Nat.le_of_ble_eq_true rfl⟩ rfl dX7_sourceError_3 (z_k1 ?_)
  refine z_if_eqb 6 C 12 dX7_sourceError_6 (by decide) (fun c6 => ?_) (fun c6 => ?_)
  · skip
    refine z_iload_n 12 C dX7_sourceError_12 1 rfl ?_
    refine z_if_ne 13 C 54 dX7_sourceError_13 (by decide) (fun c13 => ?_) (fun c13 => ?_)
    · skip
      refine z_iload_n 54 C dX7_sourceError_54 1 rfl ?_
      refine z_iconst 55 C dX7_sourceError_55 (nI 1) rfl ?_
      refine z_icmp_eq 56 C 64 dX7_sourceError_56 (by decide) (fun c56 => ?_) (fun c56 => ?_)
      · skip
        refine z_aload_n 64 C dX7_sourceError_64 0 rfl ?_
        refine z_getf 65 C 0 z_dX7 (⟨rfl, rfl⟩) 0 (by decide) q339 (.ref (z_ad G 1)) rfl dX7_sourceError_65 ?_
        refine z_callVN 68 C 1 (⟨rfl, rfl⟩) rfl (As := []) (rest := []) (m_X2_isComplete P n hP hn (by omega) (by omega)) k_X2_isComplete (List.mem_of_getElem? (i := 9) rfl) ⟨rfl, rfl⟩ ⟨Nat.le_of_ble_eq_true rfl, Nat.le_of_ble_eq_true rfl⟩ rfl (Nat.le_of_ble_eq_true rfl) ⟨Nat.le_of_ble_eq_true rfl, Nat.le_of_ble_eq_true rfl⟩ rfl dX7_sourceError_68 (z_k1 ?_)
        refine z_if_eqb 71 C 78 dX7_sourceError_71 (by decide) (fun c71 => ?_) (fun c71 => ?_)
        · skip
          refine z_ldc 78 C dX7_sourceError_78 q387 ?_
          refine z_iret 80 C dX7_sourceError_80 ?_
          first | exact ⟨z_ci (by unfold z_se; rw [if_neg c6, if_neg c13, if_pos (Or.inl c56), if_pos c71]), rfl⟩ | exact ⟨z_ci (by unfold z_se; rw [if_neg c6, if_neg c13, if_pos (Or.inl c56), if_neg c71]), rfl⟩ | exact ⟨z_ci (by unfold z_se; rw [if_neg c6, if_neg c13, if_pos (Or.inr c61), if_pos c71]), rfl⟩ | exact ⟨z_ci (by unfold z_se; rw [if_neg c6, if_neg c13, if_pos (Or.inr c61), if_neg c71]), rfl⟩
        · skip
          refine z_iconst 74 C dX7_sourceError_74 (nI 0) rfl ?_
          refine z_goto 75 C 80 dX7_sourceError_75 (by decide) ?_
          refine z_iret 80 C dX7_sourceError_80 ?_
          first | exact ⟨z_ci (by unfold z_se; rw [if_neg c6, if_neg c13, if_pos (Or.inl c56), if_pos c71]), rfl⟩ | exact ⟨z_ci (by unfold z_se; rw [if_neg c6, if_neg c13, if_pos (Or.inl c56), if_neg c71]), rfl⟩ | exact ⟨z_ci (by unfold z_se; rw [if_neg c6, if_neg c13, if_pos (Or.inr c61), if_pos c71]), rfl⟩ | exact ⟨z_ci (by unfold z_se; rw [if_neg c6, if_neg c13, if_pos (Or.inr c61), if_neg c71]), rfl⟩
      · skip
        refine z_iload_n 59 C dX7_sourceError_59 1 rfl ?_
        refine z_iconst 60 C dX7_sourceError_60 (nI 2) rfl ?_
        refine z_icmp_ne 61 C 81 dX7_sourceError_61 (by decide) (fun c61 => ?_) (fun c61 => ?_)
        · skip
          refine z_iconst 81 C dX7_sourceError_81 (nI 0) rfl ?_
          refine z_iret 82 C dX7_sourceError_82 ?_
          exact ⟨z_ci (by unfold z_se; rw [if_neg c6, if_neg c13, if_neg (fun z => z.elim c56 c61)]), rfl⟩
        · skip
          refine z_aload_n 64 C dX7_sourceError_64 0 rfl ?_
          refine z_getf 65 C 0 z_dX7 (⟨rfl, rfl⟩) 0 (by decide) q339 (.ref (z_ad G 1)) rfl dX7_sourceError_65 ?_
          refine z_callVN 68 C 1 (⟨rfl, rfl⟩) rfl (As := []) (rest := []) (m_X2_isComplete P n hP hn (by omega) (by omega)) k_X2_isComplete (List.mem_of_getElem? (i := 9) rfl) ⟨rfl, rfl⟩ ⟨Nat.le_of_ble_eq_true rfl, Nat.le_of_ble_eq_true rfl⟩ rfl (Nat.le_of_ble_eq_true rfl) ⟨Nat.le_of_ble_eq_true rfl, Nat.le_of_ble_eq_true rfl⟩ rfl dX7_sourceError_68 (z_k1 ?_)
          refine z_if_eqb 71 C 78 dX7_sourceError_71 (by decide) (fun c71 => ?_) (fun c71 => ?_)
          · skip
            refine z_ldc 78 C dX7_sourceError_78 q387 ?_
            refine z_iret 80 C dX7_sourceError_80 ?_
            first | exact ⟨z_ci (by unfold z_se; rw [if_neg c6, if_neg c13, if_pos (Or.inl c56), if_pos c71]), rfl⟩ | exact ⟨z_ci (by unfold z_se; rw [if_neg c6, if_neg c13, if_pos (Or.inl c56), if_neg c71]), rfl⟩ | exact ⟨z_ci (by unfold z_se; rw [if_neg c6, if_neg c13, if_pos (Or.inr c61), if_pos c71]), rfl⟩ | exact ⟨z_ci (by unfold z_se; rw [if_neg c6, if_neg c13, if_pos (Or.inr c61), if_neg c71]), rfl⟩
          · skip
            refine z_iconst 74 C dX7_sourceError_74 (nI 0) rfl ?_
            refine z_goto 75 C 80 dX7_sourceError_75 (by decide) ?_
            refine z_iret 80 C dX7_sourceError_80 ?_
            first | exact ⟨z_ci (by unfold z_se; rw [if_neg c6, if_neg c13, if_pos (Or.inl c56), if_pos c71]), rfl⟩ | exact ⟨z_ci (by unfold z_se; rw [if_neg c6, if_neg c13, if_pos (Or.inl c56), if_neg c71]), rfl⟩ | exact ⟨z_ci (by unfold z_se; rw [if_neg c6, if_neg c13, if_pos (Or.inr c61), if_pos c71]), rfl⟩ | exact ⟨z_ci (by unfold z_se; rw [if_neg c6, if_neg c13, if_pos (Or.inr c61), if_neg c71]), rfl⟩
    · skip
      refine z_iload_n 16 C dX7_sourceError_16 2 rfl ?_
      refine z_iconst 17 C dX7_sourceError_17 (nI 0) rfl ?_
      refine z_aload_n 18 C dX7_sourceError_18 0 rfl ?_
      refine z_getf 19 C 0 z_dX7 (⟨rfl, rfl⟩) 0 (by decide) q339 (.ref (z_ad G 1)) rfl dX7_sourceError_19 ?_
      refine z_getfN 22 C 1 z_dX2 (⟨rfl, rfl⟩) 3 (by decide) (List.mem_of_getElem? (i := 0) rfl) (.int (nI P)) (z_ci hP) dX7_sourceError_22 ?_
      refine z_iconst 25 C dX7_sourceError_25 (nI 1) rfl ?_
      refine z_isub 26 C dX7_sourceError_26 ?_
      refine z_callS 27 C (As := [.int y, .int (nI 0), .int ((nI P) - (nI 1))]) (rest := []) (m_X7_isOutside y (nI 0) ((nI P) - (nI 1))) k_X7_isOutside q380 ⟨rfl, rfl⟩ ⟨Nat.le_of_ble_eq_true rfl, Nat.le_of_ble_eq_true rfl⟩ rfl (Nat.le_of_ble_eq_true rfl) ⟨Nat.le_of_ble_eq_true rfl, Nat.le_of_ble_eq_true rfl⟩ rfl dX7_sourceError_27 (z_k1 ?_)
      refine z_if_eqb 30 C 36 dX7_sourceError_30 (by decide) (fun c30 => ?_) (fun c30 => ?_)
      · skip
        refine z_iload_n 36 C dX7_sourceError_36 2 rfl ?_
        refine z_aload_n 37 C dX7_sourceError_37 0 rfl ?_
        refine z_getf 38 C 0 z_dX7 (⟨rfl, rfl⟩) 0 (by decide) q339 (.ref (z_ad G 1)) rfl dX7_sourceError_38 ?_
        refine z_callVN 41 C 1 (⟨rfl, rfl⟩) rfl (As := []) (rest := [.int y]) (m_X2_finishedSteps n hn (by omega)) k_X2_finishedSteps (List.mem_of_getElem? (i := 12) rfl) ⟨rfl, rfl⟩ ⟨Nat.le_of_ble_eq_true rfl, Nat.le_of_ble_eq_true rfl⟩ rfl (Nat.le_of_ble_eq_true rfl) ⟨Nat.le_of_ble_eq_true rfl, Nat.le_of_ble_eq_true rfl⟩ rfl dX7_sourceError_41 (z_k1 ?_)
        refine z_icmp_ge 44 C 51 dX7_sourceError_44 (by decide) (fun c44 => ?_) (fun c44 => ?_)
        · skip
          refine z_ldc 51 C dX7_sourceError_51 q387 ?_
          refine z_iret 53 C dX7_sourceError_53 ?_
          first | exact ⟨z_ci (by unfold z_se; rw [if_neg c6, if_pos c13, if_neg c30, if_pos (Int32.not_le.mp c44)]), rfl⟩ | exact ⟨z_ci (by unfold z_se; rw [if_neg c6, if_pos c13, if_neg c30, if_neg (Int32.not_lt.mpr c44)]), rfl⟩
        · skip
          refine z_iconst 47 C dX7_sourceError_47 (nI 0) rfl ?_
          refine z_goto 48 C 53 dX7_sourceError_48 (by decide) ?_
          refine z_iret 53 C dX7_sourceError_53 ?_
          first | exact ⟨z_ci (by unfold z_se; rw [if_neg c6, if_pos c13, if_neg c30, if_pos (Int32.not_le.mp c44)]), rfl⟩ | exact ⟨z_ci (by unfold z_se; rw [if_neg c6, if_pos c13, if_neg c30, if_neg (Int32.not_lt.mpr c44)]), rfl⟩
      · skip
        refine z_ldc 33 C dX7_sourceError_33 q371 ?_
        refine z_iret 35 C dX7_sourceError_35 ?_
        exact ⟨z_ci (by unfold z_se; rw [if_neg c6, if_pos c13, if_pos c30]), rfl⟩
  · skip
    refine z_ldc 9 C dX7_sourceError_9 q371 ?_
    refine z_iret 11 C dX7_sourceError_11 ?_
    exact ⟨z_ci (by unfold z_se; rw [if_pos c6]), rfl⟩
theorem dX7_sourceAt_0 : decode cX7_sourceAt 0 = .ok (.iload_n 1, 1) := by decide +kernel
theorem dX7_sourceAt_1 : decode cX7_sourceAt 1 = .ok (.tableswitch 80 0 3 #[31, 46, 55, 64], 31) := by decide +kernel
theorem dX7_sourceAt_32 : decode cX7_sourceAt 32 = .ok (.aload_n 0, 1) := by decide +kernel
theorem dX7_sourceAt_33 : decode cX7_sourceAt 33 = .ok (.getfield 12, 3) := by decide +kernel
theorem dX7_sourceAt_36 : decode cX7_sourceAt 36 = .ok (.iload_n 2, 1) := by decide +kernel
theorem dX7_sourceAt_37 : decode cX7_sourceAt 37 = .ok (.iload_n 3, 1) := by decide +kernel
theorem dX7_sourceAt_38 : decode cX7_sourceAt 38 = .ok (.invokevirtual 111, 3) := by decide +kernel
theorem dX7_sourceAt_41 : decode cX7_sourceAt 41 = .ok (.i2l, 1) := by decide +kernel
theorem dX7_sourceAt_42 : decode cX7_sourceAt 42 = .ok (.ldc2_w 297, 3) := by decide +kernel
theorem dX7_sourceAt_45 : decode cX7_sourceAt 45 = .ok (.lmul, 1) := by decide +kernel
theorem dX7_sourceAt_46 : decode cX7_sourceAt 46 = .ok (.lreturn, 1) := by decide +kernel
theorem dX7_sourceAt_47 : decode cX7_sourceAt 47 = .ok (.aload_n 0, 1) := by decide +kernel
theorem dX7_sourceAt_48 : decode cX7_sourceAt 48 = .ok (.getfield 12, 3) := by decide +kernel
theorem dX7_sourceAt_51 : decode cX7_sourceAt 51 = .ok (.iload_n 3, 1) := by decide +kernel
theorem dX7_sourceAt_52 : decode cX7_sourceAt 52 = .ok (.invokevirtual 119, 3) := by decide +kernel
theorem dX7_sourceAt_55 : decode cX7_sourceAt 55 = .ok (.lreturn, 1) := by decide +kernel
theorem dX7_sourceAt_56 : decode cX7_sourceAt 56 = .ok (.aload_n 0, 1) := by decide +kernel
theorem dX7_sourceAt_57 : decode cX7_sourceAt 57 = .ok (.getfield 12, 3) := by decide +kernel
theorem dX7_sourceAt_60 : decode cX7_sourceAt 60 = .ok (.iload_n 3, 1) := by decide +kernel
theorem dX7_sourceAt_61 : decode cX7_sourceAt 61 = .ok (.invokevirtual 123, 3) := by decide +kernel
theorem dX7_sourceAt_64 : decode cX7_sourceAt 64 = .ok (.lreturn, 1) := by decide +kernel
theorem dX7_sourceAt_65 : decode cX7_sourceAt 65 = .ok (.aload_n 0, 1) := by decide +kernel
theorem dX7_sourceAt_66 : decode cX7_sourceAt 66 = .ok (.getfield 21, 3) := by decide +kernel
theorem dX7_sourceAt_69 : decode cX7_sourceAt 69 = .ok (.iconst 0, 1) := by decide +kernel
theorem dX7_sourceAt_70 : decode cX7_sourceAt 70 = .ok (.invokevirtual 320, 3) := by decide +kernel
theorem dX7_sourceAt_73 : decode cX7_sourceAt 73 = .ok (.iload_n 3, 1) := by decide +kernel
theorem dX7_sourceAt_74 : decode cX7_sourceAt 74 = .ok (.iaload, 1) := by decide +kernel
theorem dX7_sourceAt_75 : decode cX7_sourceAt 75 = .ok (.i2l, 1) := by decide +kernel
theorem dX7_sourceAt_76 : decode cX7_sourceAt 76 = .ok (.ldc2_w 297, 3) := by decide +kernel
theorem dX7_sourceAt_79 : decode cX7_sourceAt 79 = .ok (.lmul, 1) := by decide +kernel
theorem dX7_sourceAt_80 : decode cX7_sourceAt 80 = .ok (.lreturn, 1) := by decide +kernel
theorem dX7_sourceAt_81 : decode cX7_sourceAt 81 = .ok (.aload_n 0, 1) := by decide +kernel
theorem dX7_sourceAt_82 : decode cX7_sourceAt 82 = .ok (.getfield 21, 3) := by decide +kernel
theorem dX7_sourceAt_85 : decode cX7_sourceAt 85 = .ok (.iconst 1, 1) := by decide +kernel
theorem dX7_sourceAt_86 : decode cX7_sourceAt 86 = .ok (.invokevirtual 320, 3) := by decide +kernel
theorem dX7_sourceAt_89 : decode cX7_sourceAt 89 = .ok (.iload_n 3, 1) := by decide +kernel
theorem dX7_sourceAt_90 : decode cX7_sourceAt 90 = .ok (.iaload, 1) := by decide +kernel
theorem dX7_sourceAt_91 : decode cX7_sourceAt 91 = .ok (.i2l, 1) := by decide +kernel
theorem dX7_sourceAt_92 : decode cX7_sourceAt 92 = .ok (.ldc2_w 297, 3) := by decide +kernel
theorem dX7_sourceAt_95 : decode cX7_sourceAt 95 = .ok (.lmul, 1) := by decide +kernel
theorem dX7_sourceAt_96 : decode cX7_sourceAt 96 = .ok (.lreturn, 1) := by decide +kernel
set_option maxRecDepth 100000 in
set_option maxHeartbeats 4000000 in
theorem m_X7_sourceAt {l : Launch} {G : z_Gl} {σ : z_St} (P n o u v w rc tl : Nat) (hI : z_inv σ P n o u v w rc tl) (sr j k : Nat) (y : Int32) (hs : sr ≤ 4) (hj : j < 12) (hk : k < 24) (hy : sr = 0 → y = nI j) : z_M l G yX7_sourceAt cX7_sourceAt 4 (some .long) (z_rm 4 93) [.ref (z_ad G 0), .int (nI sr), .int y, .int (nI k)] σ (z_p1 (.long (z_src (σ.1 2) (σ.1 6) (σ.1 7) P sr j k)) σ) := by
  refine z_M.of (by decide) (Nat.le_of_ble_eq_true rfl) (fun p e s m below meth c C => ?_)
  refine z_sub [0, 1, 2, 3] (lv1 := [(0, .ref (z_ad G 0)), (1, .int (nI sr)), (2, .int y), (3, .int (nI k))]) rfl ?_
  have hI0 := hI
  obtain ⟨⟨hP, hn, ho, hu, hv, hw, hrc, htl⟩, hPs, hnP, ho21, huv, hw6, hrc8, htl2⟩ := hI0
  have h0 : 0 < P := by omega
  have h12 : P ≤ 12 := by omega
  have h288 : n ≤ 288 := by omega
  refine z_iload_n 0 C dX7_sourceAt_0 1 rfl ?_
  by_cases e1_0 : (nI sr) = (0 : Int32)
  · skip
    refine z_tabIn 1 C 32 dX7_sourceAt_1 (by rw [e1_0]; decide) (by rw [e1_0]; decide) (by rw [e1_0]; rfl) (by decide) ?_
    have es : sr = 0 := (nI_eq (by omega) (by decide)).mp e1_0
    subst es
    have ey := hy rfl
    subst ey
    refine z_aload_n 32 C dX7_sourceAt_32 0 rfl ?_
    refine z_getf 33 C 0 z_dX7 (⟨rfl, rfl⟩) 0 (by decide) q339 (.ref (z_ad G 1)) rfl dX7_sourceAt_33 ?_
    refine z_iload_n 36 C dX7_sourceAt_36 2 rfl ?_
    refine z_iload_n 37 C dX7_sourceAt_37 3 rfl ?_
    refine z_callVN 38 C 1 (⟨rfl, rfl⟩) rfl (As := [.int (nI j), .int (nI k)]) (rest := []) (m_X2_at j k (by omega) (by omega)) k_X2_at (List.mem_of_getElem? (i := 18) rfl) ⟨rfl, rfl⟩ ⟨Nat.le_of_ble_eq_true rfl, Nat.le_of_ble_eq_true rfl⟩ rfl (Nat.le_of_ble_eq_true rfl) ⟨Nat.le_of_ble_eq_true rfl, Nat.le_of_ble_eq_true rfl⟩ rfl dX7_sourceAt_38 (z_k1 ?_)
    refine z_i2l 41 C dX7_sourceAt_41 ?_
    refine z_ldc2 42 C dX7_sourceAt_42 q425 ?_
    refine z_lmul 45 C dX7_sourceAt_45 ?_
    refine z_lret 46 C dX7_sourceAt_46 ?_
    exact ⟨rfl, rfl⟩
  by_cases e1_1 : (nI sr) = (1 : Int32)
  · skip
    refine z_tabIn 1 C 47 dX7_sourceAt_1 (by rw [e1_1]; decide) (by rw [e1_1]; decide) (by rw [e1_1]; rfl) (by decide) ?_
    have es : sr = 1 := (nI_eq (by omega) (by decide)).mp e1_1
    subst es
    refine z_aload_n 47 C dX7_sourceAt_47 0 rfl ?_
    refine z_getf 48 C 0 z_dX7 (⟨rfl, rfl⟩) 0 (by decide) q339 (.ref (z_ad G 1)) rfl dX7_sourceAt_48 ?_
    refine z_iload_n 51 C dX7_sourceAt_51 3 rfl ?_
    refine z_callVN 52 C 1 (⟨rfl, rfl⟩) rfl (As := [.int (nI k)]) (rest := []) (m_X2_partAt P hP (by omega) (by omega) k (by omega)) k_X2_partAt (List.mem_of_getElem? (i := 21) rfl) ⟨rfl, rfl⟩ ⟨Nat.le_of_ble_eq_true rfl, Nat.le_of_ble_eq_true rfl⟩ rfl (Nat.le_of_ble_eq_true rfl) ⟨Nat.le_of_ble_eq_true rfl, Nat.le_of_ble_eq_true rfl⟩ rfl dX7_sourceAt_52 (z_k1 ?_)
    refine z_lret 55 C dX7_sourceAt_55 ?_
    exact ⟨rfl, rfl⟩
  by_cases e1_2 : (nI sr) = (2 : Int32)
  · skip
    refine z_tabIn 1 C 56 dX7_sourceAt_1 (by rw [e1_2]; decide) (by rw [e1_2]; decide) (by rw [e1_2]; rfl) (by decide) ?_
    have es : sr = 2 := (nI_eq (by omega) (by decide)).mp e1_2
    subst es
    refine z_aload_n 56 C dX7_sourceAt_56 0 rfl ?_
    refine z_getf 57 C 0 z_dX7 (⟨rfl, rfl⟩) 0 (by decide) q339 (.ref (z_ad G 1)) rfl dX7_sourceAt_57 ?_
    refine z_iload_n 60 C dX7_sourceAt_60 3 rfl ?_
    refine z_callVN 61 C 1 (⟨rfl, rfl⟩) rfl (As := [.int (nI k)]) (rest := []) (m_X2_spindleAt P hP (by omega) (by omega) k (by omega)) k_X2_spindleAt (List.mem_of_getElem? (i := 23) rfl) ⟨rfl, rfl⟩ ⟨Nat.le_of_ble_eq_true rfl, Nat.le_of_ble_eq_true rfl⟩ rfl (Nat.le_of_ble_eq_true rfl) ⟨Nat.le_of_ble_eq_true rfl, Nat.le_of_ble_eq_true rfl⟩ rfl dX7_sourceAt_61 (z_k1 ?_)
    refine z_lret 64 C dX7_sourceAt_64 ?_
    exact ⟨rfl, rfl⟩
  by_cases e1_3 : (nI sr) = (3 : Int32)
  · skip
    refine z_tabIn 1 C 65 dX7_sourceAt_1 (by rw [e1_3]; decide) (by rw [e1_3]; decide) (by rw [e1_3]; rfl) (by decide) ?_
    have es : sr = 3 := (nI_eq (by omega) (by decide)).mp e1_3
    subst es
    refine z_aload_n 65 C dX7_sourceAt_65 0 rfl ?_
    refine z_getf 66 C 0 z_dX7 (⟨rfl, rfl⟩) 1 (by decide) q340 (.ref (z_ad G 5)) rfl dX7_sourceAt_66 ?_
    refine z_iconst 69 C dX7_sourceAt_69 (nI 0) rfl ?_
    refine z_callVN 70 C 5 (⟨rfl, rfl⟩) rfl (As := [.int (nI 0)]) (rest := []) (m_X5_profileOf 0 (by omega)) k_X5_profileOf (List.mem_of_getElem? (i := 25) rfl) ⟨rfl, rfl⟩ ⟨Nat.le_of_ble_eq_true rfl, Nat.le_of_ble_eq_true rfl⟩ rfl (Nat.le_of_ble_eq_true rfl) ⟨Nat.le_of_ble_eq_true rfl, Nat.le_of_ble_eq_true rfl⟩ rfl dX7_sourceAt_70 (z_k1 ?_)
    refine z_iload_n 73 C dX7_sourceAt_73 3 rfl ?_
    refine z_ialdN 74 C (6 + 0) (n := 24) (z_tpK _ (by omega)) k rfl (by omega) (by decide) dX7_sourceAt_74 ?_
    refine z_i2l 75 C dX7_sourceAt_75 ?_
    refine z_ldc2 76 C dX7_sourceAt_76 q425 ?_
    refine z_lmul 79 C dX7_sourceAt_79 ?_
    refine z_lret 80 C dX7_sourceAt_80 ?_
    exact ⟨rfl, rfl⟩
  refine z_tabOut 1 C 81 dX7_sourceAt_1 (z_tb4 hs e1_0 e1_1 e1_2 e1_3) (by decide) ?_
  have es : sr = 4 := by
    have q0 : ¬ sr = 0 := fun z => e1_0 (by rw [z]; rfl)
    have q1 : ¬ sr = 1 := fun z => e1_1 (by rw [z]; rfl)
    have q2 : ¬ sr = 2 := fun z => e1_2 (by rw [z]; rfl)
    have q3 : ¬ sr = 3 := fun z => e1_3 (by rw [z]; rfl)
    omega
  subst es
  refine z_aload_n 81 C dX7_sourceAt_81 0 rfl ?_
  refine z_getf 82 C 0 z_dX7 (⟨rfl, rfl⟩) 1 (by decide) q340 (.ref (z_ad G 5)) rfl dX7_sourceAt_82 ?_
  refine z_iconst 85 C dX7_sourceAt_85 (nI 1) rfl ?_
  refine z_callVN 86 C 5 (⟨rfl, rfl⟩) rfl (As := [.int (nI 1)]) (rest := []) (m_X5_profileOf 1 (by omega)) k_X5_profileOf (List.mem_of_getElem? (i := 25) rfl) ⟨rfl, rfl⟩ ⟨Nat.le_of_ble_eq_true rfl, Nat.le_of_ble_eq_true rfl⟩ rfl (Nat.le_of_ble_eq_true rfl) ⟨Nat.le_of_ble_eq_true rfl, Nat.le_of_ble_eq_true rfl⟩ rfl dX7_sourceAt_86 (z_k1 ?_)
  refine z_iload_n 89 C dX7_sourceAt_89 3 rfl ?_
  refine z_ialdN 90 C (6 + 1) (n := 24) (z_tpK _ (by omega)) k rfl (by omega) (by decide) dX7_sourceAt_90 ?_
  refine z_i2l 91 C dX7_sourceAt_91 ?_
  refine z_ldc2 92 C dX7_sourceAt_92 q425 ?_
  refine z_lmul 95 C dX7_sourceAt_95 ?_
  refine z_lret 96 C dX7_sourceAt_96 ?_
  exact ⟨rfl, rfl⟩
theorem dX7_fillNext_0 : decode cX7_fillNext 0 = .ok (.iconst 0, 1) := by decide +kernel
theorem dX7_fillNext_1 : decode cX7_fillNext 1 = .ok (.istore_n 3, 1) := by decide +kernel
theorem dX7_fillNext_2 : decode cX7_fillNext 2 = .ok (.iload_n 3, 1) := by decide +kernel
theorem dX7_fillNext_3 : decode cX7_fillNext 3 = .ok (.bipush 24, 2) := by decide +kernel
theorem dX7_fillNext_5 : decode cX7_fillNext 5 = .ok (.if_icmp .ge 22, 3) := by decide +kernel
theorem dX7_fillNext_8 : decode cX7_fillNext 8 = .ok (.aload_n 0, 1) := by decide +kernel
theorem dX7_fillNext_9 : decode cX7_fillNext 9 = .ok (.getfield 59, 3) := by decide +kernel
theorem dX7_fillNext_12 : decode cX7_fillNext 12 = .ok (.iload_n 3, 1) := by decide +kernel
theorem dX7_fillNext_13 : decode cX7_fillNext 13 = .ok (.aload_n 0, 1) := by decide +kernel
theorem dX7_fillNext_14 : decode cX7_fillNext 14 = .ok (.iload_n 1, 1) := by decide +kernel
theorem dX7_fillNext_15 : decode cX7_fillNext 15 = .ok (.iload_n 2, 1) := by decide +kernel
theorem dX7_fillNext_16 : decode cX7_fillNext 16 = .ok (.iload_n 3, 1) := by decide +kernel
theorem dX7_fillNext_17 : decode cX7_fillNext 17 = .ok (.invokevirtual 331, 3) := by decide +kernel
theorem dX7_fillNext_20 : decode cX7_fillNext 20 = .ok (.lastore, 1) := by decide +kernel
theorem dX7_fillNext_21 : decode cX7_fillNext 21 = .ok (.iinc 3 1, 3) := by decide +kernel
theorem dX7_fillNext_24 : decode cX7_fillNext 24 = .ok (.goto (-22), 3) := by decide +kernel
theorem dX7_fillNext_27 : decode cX7_fillNext 27 = .ok (.return_, 1) := by decide +kernel
set_option maxRecDepth 100000 in
set_option maxHeartbeats 4000000 in
theorem m_X7_fillNext {l : Launch} {G : z_Gl} {σ : z_St} (P n o u v w rc tl : Nat) (hI : z_inv σ P n o u v w rc tl) (sr j : Nat) (y : Int32) (hs : sr ≤ 4) (hj : j < 12) (hy : sr = 0 → y = nI j) : z_M l G yX7_fillNext cX7_fillNext 4 none (z_rm 5 116) [.ref (z_ad G 0), .int (nI sr), .int y] σ (z_p0 (z_uL σ 88 (z_fil (z_src (σ.1 2) (σ.1 6) (σ.1 7) P sr j) (σ.2 88) 24))) := by
  refine z_M.of (by decide) (Nat.le_of_ble_eq_true rfl) (fun p e s m below meth c C => ?_)
  refine z_sub [0, 1, 2] (lv1 := [(0, .ref (z_ad G 0)), (1, .int (nI sr)), (2, .int y)]) rfl ?_
  have hI0 := hI
  obtain ⟨⟨hP, hn, ho, hu, hv, hw, hrc, htl⟩, hPs, hnP, ho21, huv, hw6, hrc8, htl2⟩ := hI0
  have h0 : 0 < P := by omega
  have h12 : P ≤ 12 := by omega
  have h288 : n ≤ 288 := by omega
  refine z_iconst 0 C dX7_fillNext_0 (nI 0) rfl ?_
  refine z_istore_n 1 C dX7_fillNext_1 [(3, .int (nI 0)), (0, .ref (z_ad G 0)), (1, .int (nI sr)), (2, .int y)] (by decide) rfl ?_
  refine z_sub [1, 2, 3, 0] (lv1 := [(0, .ref (z_ad G 0)), (1, .int (nI sr)), (2, .int y), (3, .int (nI 0))]) rfl ?_
  refine z_cv (lv1 := [(0, .ref (z_ad G 0)), (1, .int (nI sr)), (2, .int y), (3, .int (nI 0))]) (st1 := []) (σ1 := z_uL σ 88 (z_fil (z_src (σ.1 2) (σ.1 6) (σ.1 7) P sr j) (σ.2 88) 0)) rfl rfl (z_fil0L σ 88 _) ?_
  refine z_lp1 (fun (k : Nat) => k ≤ 24) (fun (k : Nat) => 24 - k) (fun (k : Nat) => [(0, .ref (z_ad G 0)), (1, .int (nI sr)), (2, .int y), (3, .int (nI k))]) (fun (k : Nat) => z_uL σ 88 (z_fil (z_src (σ.1 2) (σ.1 6) (σ.1 7) P sr j) (σ.2 88) k)) (fun k hi_2 ih_2 => ?_) 0 (by omega)
  try dsimp only
  refine z_iload_n 2 C dX7_fillNext_2 3 rfl ?_
  refine z_bipush 3 C dX7_fillNext_3 (nI 24) rfl ?_
  refine z_icmp_geN 5 C k 24 rfl rfl (by omega) (by omega) 27 dX7_fillNext_5 (by decide) (fun c5 => ?_) (fun c5 => ?_)
  · skip
    have ek : k = 24 := by omega
    subst ek
    refine z_vret 27 C dX7_fillNext_27 ?_
    exact ⟨rfl, rfl⟩
  · skip
    refine z_aload_n 8 C dX7_fillNext_8 0 rfl ?_
    refine z_getf 9 C 0 z_dX7 (⟨rfl, rfl⟩) 7 (by decide) q346 (.ref (z_ad G 88)) rfl dX7_fillNext_9 ?_
    refine z_iload_n 12 C dX7_fillNext_12 3 rfl ?_
    refine z_aload_n 13 C dX7_fillNext_13 0 rfl ?_
    refine z_iload_n 14 C dX7_fillNext_14 1 rfl ?_
    refine z_iload_n 15 C dX7_fillNext_15 2 rfl ?_
    refine z_iload_n 16 C dX7_fillNext_16 3 rfl ?_
    refine z_callV 17 C 0 (⟨rfl, rfl⟩) rfl (As := [.int (nI sr), .int y, .int (nI k)]) (rest := [.int (nI k), .ref (z_ad G 88)]) (m_X7_sourceAt (σ := z_uL σ 88 (z_fil (z_src (σ.1 2) (σ.1 6) (σ.1 7) P sr j) (σ.2 88) k)) P n o u v w rc tl hI sr j k y hs hj (by omega) hy) k_X7_sourceAt q530 ⟨rfl, rfl⟩ ⟨Nat.le_of_ble_eq_true rfl, Nat.le_of_ble_eq_true rfl⟩ rfl (Nat.le_of_ble_eq_true rfl) ⟨Nat.le_of_ble_eq_true rfl, Nat.le_of_ble_eq_true rfl⟩ rfl dX7_fillNext_17 (z_k1 ?_)
    refine z_lastN 20 C 88 (n := 24) (⟨rfl, rfl⟩) k rfl (by omega) (by decide) dX7_fillNext_20 ?_
    refine z_iincN 21 C 3 k [(3, .int (nI (k + 1))), (0, .ref (z_ad G 0)), (1, .int (nI sr)), (2, .int y)] rfl rfl (by decide) rfl dX7_fillNext_21 ?_
    refine z_goto 24 C 2 dX7_fillNext_24 (by decide) ?_
    refine z_sub [1, 2, 3, 0] (lv1 := [(0, .ref (z_ad G 0)), (1, .int (nI sr)), (2, .int y), (3, .int (nI (k + 1)))]) rfl ?_
    refine z_cv (lv1 := [(0, .ref (z_ad G 0)), (1, .int (nI sr)), (2, .int y), (3, .int (nI (k + 1)))]) (st1 := []) (σ1 := z_uL σ 88 (z_fil (z_src (σ.1 2) (σ.1 6) (σ.1 7) P sr j) (σ.2 88) (k + 1))) rfl rfl (z_filSL σ 88 k _ _ rfl) ?_
    exact ih_2 (k + 1) (by omega) (by omega)
theorem dX7_isNextTooGreat_0 : decode cX7_isNextTooGreat 0 = .ok (.iconst 0, 1) := by decide +kernel
theorem dX7_isNextTooGreat_1 : decode cX7_isNextTooGreat 1 = .ok (.istore_n 1, 1) := by decide +kernel
theorem dX7_isNextTooGreat_2 : decode cX7_isNextTooGreat 2 = .ok (.iload_n 1, 1) := by decide +kernel
theorem dX7_isNextTooGreat_3 : decode cX7_isNextTooGreat 3 = .ok (.bipush 24, 2) := by decide +kernel
theorem dX7_isNextTooGreat_5 : decode cX7_isNextTooGreat 5 = .ok (.if_icmp .ge 27, 3) := by decide +kernel
theorem dX7_isNextTooGreat_8 : decode cX7_isNextTooGreat 8 = .ok (.aload_n 0, 1) := by decide +kernel
theorem dX7_isNextTooGreat_9 : decode cX7_isNextTooGreat 9 = .ok (.getfield 59, 3) := by decide +kernel
theorem dX7_isNextTooGreat_12 : decode cX7_isNextTooGreat 12 = .ok (.iload_n 1, 1) := by decide +kernel
theorem dX7_isNextTooGreat_13 : decode cX7_isNextTooGreat 13 = .ok (.laload, 1) := by decide +kernel
theorem dX7_isNextTooGreat_14 : decode cX7_isNextTooGreat 14 = .ok (.invokestatic 334, 3) := by decide +kernel
theorem dX7_isNextTooGreat_17 : decode cX7_isNextTooGreat 17 = .ok (.ldc2_w 340, 3) := by decide +kernel
theorem dX7_isNextTooGreat_20 : decode cX7_isNextTooGreat 20 = .ok (.lcmp, 1) := by decide +kernel
theorem dX7_isNextTooGreat_21 : decode cX7_isNextTooGreat 21 = .ok (.ifCond .le 5, 3) := by decide +kernel
theorem dX7_isNextTooGreat_24 : decode cX7_isNextTooGreat 24 = .ok (.iconst 1, 1) := by decide +kernel
theorem dX7_isNextTooGreat_25 : decode cX7_isNextTooGreat 25 = .ok (.ireturn, 1) := by decide +kernel
theorem dX7_isNextTooGreat_26 : decode cX7_isNextTooGreat 26 = .ok (.iinc 1 1, 3) := by decide +kernel
theorem dX7_isNextTooGreat_29 : decode cX7_isNextTooGreat 29 = .ok (.goto (-27), 3) := by decide +kernel
theorem dX7_isNextTooGreat_32 : decode cX7_isNextTooGreat 32 = .ok (.iconst 0, 1) := by decide +kernel
theorem dX7_isNextTooGreat_33 : decode cX7_isNextTooGreat 33 = .ok (.ireturn, 1) := by decide +kernel
set_option maxRecDepth 100000 in
set_option maxHeartbeats 4000000 in
theorem m_X7_isNextTooGreat {l : Launch} {G : z_Gl} {σ : z_St} (P n o u v w rc tl : Nat) (hI : z_inv σ P n o u v w rc tl) : z_M l G yX7_isNextTooGreat cX7_isNextTooGreat 2 (some .boolean) (z_rm 1 21) [.ref (z_ad G 0)] σ (z_p1 (.int (z_bo (z_tg (σ.2 88) 24 = true))) σ) := by
  refine z_M.of (by decide) (Nat.le_of_ble_eq_true rfl) (fun p e s m below meth c C => ?_)
  refine z_sub [0] (lv1 := [(0, .ref (z_ad G 0))]) rfl ?_
  have hI0 := hI
  obtain ⟨⟨hP, hn, ho, hu, hv, hw, hrc, htl⟩, hPs, hnP, ho21, huv, hw6, hrc8, htl2⟩ := hI0
  have h0 : 0 < P := by omega
  have h12 : P ≤ 12 := by omega
  have h288 : n ≤ 288 := by omega
  refine z_iconst 0 C dX7_isNextTooGreat_0 (nI 0) rfl ?_
  refine z_istore_n 1 C dX7_isNextTooGreat_1 [(1, .int (nI 0)), (0, .ref (z_ad G 0))] (by decide) rfl ?_
  refine z_sub [1, 0] (lv1 := [(0, .ref (z_ad G 0)), (1, .int (nI 0))]) rfl ?_
  refine z_cv (lv1 := [(0, .ref (z_ad G 0)), (1, .int (nI 0))]) (st1 := []) (σ1 := σ) rfl rfl rfl ?_
  refine z_lp1 (fun (k : Nat) => k ≤ 24 ∧ z_tg (σ.2 88) k = false) (fun (k : Nat) => 24 - k) (fun (k : Nat) => [(0, .ref (z_ad G 0)), (1, .int (nI k))]) (fun (k : Nat) => σ) (fun k hi_2 ih_2 => ?_) 0 (⟨by omega, rfl⟩)
  try dsimp only
  obtain ⟨hk, hj⟩ := hi_2
  refine z_iload_n 2 C dX7_isNextTooGreat_2 1 rfl ?_
  refine z_bipush 3 C dX7_isNextTooGreat_3 (nI 24) rfl ?_
  refine z_icmp_geN 5 C k 24 rfl rfl (by omega) (by omega) 32 dX7_isNextTooGreat_5 (by decide) (fun c5 => ?_) (fun c5 => ?_)
  · skip
    have ek : k = 24 := by omega
    subst ek
    refine z_iconst 32 C dX7_isNextTooGreat_32 (nI 0) rfl ?_
    refine z_zret 33 C (rfl) dX7_isNextTooGreat_33 ?_
    exact ⟨z_ci (z_bo_f (by rw [hj]; decide)), rfl⟩
  · skip
    refine z_aload_n 8 C dX7_isNextTooGreat_8 0 rfl ?_
    refine z_getf 9 C 0 z_dX7 (⟨rfl, rfl⟩) 7 (by decide) q346 (.ref (z_ad G 88)) rfl dX7_isNextTooGreat_9 ?_
    refine z_iload_n 12 C dX7_isNextTooGreat_12 1 rfl ?_
    refine z_laldN 13 C 88 (n := 24) (⟨rfl, rfl⟩) k rfl (by omega) (by decide) dX7_isNextTooGreat_13 ?_
    refine z_callS 14 C (As := [.long (σ.2 88 k)]) (rest := []) (m_J9_abs_067f4 (σ.2 88 k)) k_J9_abs_067f4 q592 ⟨rfl, rfl⟩ ⟨Nat.le_of_ble_eq_true rfl, Nat.le_of_ble_eq_true rfl⟩ rfl (Nat.le_of_ble_eq_true rfl) ⟨Nat.le_of_ble_eq_true rfl, Nat.le_of_ble_eq_true rfl⟩ rfl dX7_isNextTooGreat_14 (z_k1 ?_)
    refine z_ldc2 17 C dX7_isNextTooGreat_17 q593 ?_
    refine z_lcmp_le 20 C 26 dX7_isNextTooGreat_20 dX7_isNextTooGreat_21 (by decide) (fun c20 => ?_) (fun c20 => ?_)
    · skip
      refine z_iincN 26 C 1 k [(1, .int (nI (k + 1))), (0, .ref (z_ad G 0))] rfl rfl (by decide) rfl dX7_isNextTooGreat_26 ?_
      refine z_goto 29 C 2 dX7_isNextTooGreat_29 (by decide) ?_
      refine z_sub [1, 0] (lv1 := [(0, .ref (z_ad G 0)), (1, .int (nI (k + 1)))]) rfl ?_
      refine z_cv (lv1 := [(0, .ref (z_ad G 0)), (1, .int (nI (k + 1)))]) (st1 := []) (σ1 := σ) rfl rfl rfl ?_
      exact ih_2 (k + 1) (⟨by omega, by rw [z_tg, hj, Bool.false_or]; exact decide_eq_false (Int64.not_lt.mpr c20)⟩) (by omega)
    · skip
      refine z_iconst 24 C dX7_isNextTooGreat_24 (nI 1) rfl ?_
      refine z_zret 25 C (rfl) dX7_isNextTooGreat_25 ?_
      exact ⟨z_ci (z_bo_t (z_tg_t c5 (Int64.not_le.mp c20))), rfl⟩
theorem dX7_setSteps_0 : decode cX7_setSteps 0 = .ok (.iload_n 1, 1) := by decide +kernel
theorem dX7_setSteps_1 : decode cX7_setSteps 1 = .ok (.invokestatic 64, 3) := by decide +kernel
theorem dX7_setSteps_4 : decode cX7_setSteps 4 = .ok (.ifCond .ne 6, 3) := by decide +kernel
theorem dX7_setSteps_7 : decode cX7_setSteps 7 = .ok (.ldc 68, 2) := by decide +kernel
theorem dX7_setSteps_9 : decode cX7_setSteps 9 = .ok (.ireturn, 1) := by decide +kernel
theorem dX7_setSteps_10 : decode cX7_setSteps 10 = .ok (.aload_n 0, 1) := by decide +kernel
theorem dX7_setSteps_11 : decode cX7_setSteps 11 = .ok (.getfield 12, 3) := by decide +kernel
theorem dX7_setSteps_14 : decode cX7_setSteps 14 = .ok (.getfield 69, 3) := by decide +kernel
theorem dX7_setSteps_17 : decode cX7_setSteps 17 = .ok (.istore_n 2, 1) := by decide +kernel
theorem dX7_setSteps_18 : decode cX7_setSteps 18 = .ok (.aload_n 0, 1) := by decide +kernel
theorem dX7_setSteps_19 : decode cX7_setSteps 19 = .ok (.getfield 12, 3) := by decide +kernel
theorem dX7_setSteps_22 : decode cX7_setSteps 22 = .ok (.iload_n 1, 1) := by decide +kernel
theorem dX7_setSteps_23 : decode cX7_setSteps 23 = .ok (.invokevirtual 73, 3) := by decide +kernel
theorem dX7_setSteps_26 : decode cX7_setSteps 26 = .ok (.iload_n 2, 1) := by decide +kernel
theorem dX7_setSteps_27 : decode cX7_setSteps 27 = .ok (.ireturn, 1) := by decide +kernel
set_option maxRecDepth 100000 in
set_option maxHeartbeats 4000000 in
theorem m_X7_setSteps {l : Launch} {G : z_Gl} {σ : z_St} (P n o u v w rc tl : Nat) (hI : z_inv σ P n o u v w rc tl) (x : Int32) : z_M l G yX7_setSteps cX7_setSteps 3 (some .int) (z_rm 1 21) [.ref (z_ad G 0), .int x] σ (z_p1 (.int (if ¬ (x = nI 2 ∨ x = nI 3 ∨ x = nI 4 ∨ x = nI 6 ∨ x = nI 8 ∨ x = nI 12) then (-1000001) else nI n)) (if ¬ (x = nI 2 ∨ x = nI 3 ∨ x = nI 4 ∨ x = nI 6 ∨ x = nI 8 ∨ x = nI 12) then σ else z_ui (z_ui σ 1 3 x) 1 4 (nI 0))) := by
  refine z_M.of (by decide) (Nat.le_of_ble_eq_true rfl) (fun p e s m below meth c C => ?_)
  refine z_sub [0, 1] (lv1 := [(0, .ref (z_ad G 0)), (1, .int x)]) rfl ?_
  have hI0 := hI
  obtain ⟨⟨hP, hn, ho, hu, hv, hw, hrc, htl⟩, hPs, hnP, ho21, huv, hw6, hrc8, htl2⟩ := hI0
  have h0 : 0 < P := by omega
  have h12 : P ≤ 12 := by omega
  have h288 : n ≤ 288 := by omega
  refine z_iload_n 0 C dX7_setSteps_0 1 rfl ?_
  refine z_callS 1 C (As := [.int x]) (rest := []) (m_X7_isStepCount x) k_X7_isStepCount q368 ⟨rfl, rfl⟩ ⟨Nat.le_of_ble_eq_true rfl, Nat.le_of_ble_eq_true rfl⟩ rfl (Nat.le_of_ble_eq_true rfl) ⟨Nat.le_of_ble_eq_true rfl, Nat.le_of_ble_eq_true rfl⟩ rfl dX7_setSteps_1 (z_k1 ?_)
  refine z_if_neb 4 C 10 dX7_setSteps_4 (by decide) (fun c4 => ?_) (fun c4 => ?_)
  · skip
    refine z_aload_n 10 C dX7_setSteps_10 0 rfl ?_
    refine z_getf 11 C 0 z_dX7 (⟨rfl, rfl⟩) 0 (by decide) q339 (.ref (z_ad G 1)) rfl dX7_setSteps_11 ?_
    refine z_getfN 14 C 1 z_dX2 (⟨rfl, rfl⟩) 4 (by decide) (List.mem_of_getElem? (i := 1) rfl) (.int (nI n)) (z_ci hn) dX7_setSteps_14 ?_
    refine z_istore_n 17 C dX7_setSteps_17 [(2, .int (nI n)), (0, .ref (z_ad G 0)), (1, .int x)] (by decide) rfl ?_
    refine z_aload_n 18 C dX7_setSteps_18 1 rfl ?_
    refine z_getf 19 C 0 z_dX7 (⟨rfl, rfl⟩) 0 (by decide) q339 (.ref (z_ad G 1)) rfl dX7_setSteps_19 ?_
    refine z_iload_n 22 C dX7_setSteps_22 2 rfl ?_
    refine z_callVN 23 C 1 (⟨rfl, rfl⟩) rfl (As := [.int x]) (rest := []) (m_X2_begin x) k_X2_begin (List.mem_of_getElem? (i := 8) rfl) ⟨rfl, rfl⟩ ⟨Nat.le_of_ble_eq_true rfl, Nat.le_of_ble_eq_true rfl⟩ rfl (Nat.le_of_ble_eq_true rfl) ⟨Nat.le_of_ble_eq_true rfl, Nat.le_of_ble_eq_true rfl⟩ rfl dX7_setSteps_23 (z_k0 ?_)
    refine z_iload_n 26 C dX7_setSteps_26 0 rfl ?_
    refine z_iret 27 C dX7_setSteps_27 ?_
    exact ⟨z_ci (by rw [if_neg (fun z => z c4)]), by rw [if_neg (fun z => z c4)]⟩
  · skip
    refine z_ldc 7 C dX7_setSteps_7 q371 ?_
    refine z_iret 9 C dX7_setSteps_9 ?_
    exact ⟨z_ci (by rw [if_pos c4]), by rw [if_pos c4]⟩
theorem dX7_read_0 : decode cX7_read 0 = .ok (.iload_n 1, 1) := by decide +kernel
theorem dX7_read_1 : decode cX7_read 1 = .ok (.sipush (-10000), 3) := by decide +kernel
theorem dX7_read_4 : decode cX7_read 4 = .ok (.sipush 10000, 3) := by decide +kernel
theorem dX7_read_7 : decode cX7_read 7 = .ok (.invokestatic 77, 3) := by decide +kernel
theorem dX7_read_10 : decode cX7_read 10 = .ok (.ifCond .eq 6, 3) := by decide +kernel
theorem dX7_read_13 : decode cX7_read 13 = .ok (.ldc 68, 2) := by decide +kernel
theorem dX7_read_15 : decode cX7_read 15 = .ok (.ireturn, 1) := by decide +kernel
theorem dX7_read_16 : decode cX7_read 16 = .ok (.aload_n 0, 1) := by decide +kernel
theorem dX7_read_17 : decode cX7_read 17 = .ok (.getfield 12, 3) := by decide +kernel
theorem dX7_read_20 : decode cX7_read 20 = .ok (.invokevirtual 81, 3) := by decide +kernel
theorem dX7_read_23 : decode cX7_read 23 = .ok (.ifCond .eq 6, 3) := by decide +kernel
theorem dX7_read_26 : decode cX7_read 26 = .ok (.ldc 85, 2) := by decide +kernel
theorem dX7_read_28 : decode cX7_read 28 = .ok (.ireturn, 1) := by decide +kernel
theorem dX7_read_29 : decode cX7_read 29 = .ok (.aload_n 0, 1) := by decide +kernel
theorem dX7_read_30 : decode cX7_read 30 = .ok (.getfield 12, 3) := by decide +kernel
theorem dX7_read_33 : decode cX7_read 33 = .ok (.iload_n 1, 1) := by decide +kernel
theorem dX7_read_34 : decode cX7_read 34 = .ok (.invokevirtual 86, 3) := by decide +kernel
theorem dX7_read_37 : decode cX7_read 37 = .ok (.aload_n 0, 1) := by decide +kernel
theorem dX7_read_38 : decode cX7_read 38 = .ok (.getfield 12, 3) := by decide +kernel
theorem dX7_read_41 : decode cX7_read 41 = .ok (.getfield 69, 3) := by decide +kernel
theorem dX7_read_44 : decode cX7_read 44 = .ok (.ireturn, 1) := by decide +kernel
set_option maxRecDepth 100000 in
set_option maxHeartbeats 4000000 in
theorem m_X7_read {l : Launch} {G : z_Gl} {σ : z_St} (P n o u v w rc tl : Nat) (hI : z_inv σ P n o u v w rc tl) (x : Int32) : z_M l G yX7_read cX7_read 2 (some .int) (z_rm 1 22) [.ref (z_ad G 0), .int x] σ (z_p1 (.int (if x < (-10000) ∨ nI 10000 < x then (-1000001) else if P * 24 ≤ n then (-1000002) else nI (n + 1))) (if x < (-10000) ∨ nI 10000 < x then σ else if P * 24 ≤ n then σ else z_ui (z_ui σ 2 n x) 1 4 (nI (n + 1)))) := by
  refine z_M.of (by decide) (Nat.le_of_ble_eq_true rfl) (fun p e s m below meth c C => ?_)
  refine z_sub [0, 1] (lv1 := [(0, .ref (z_ad G 0)), (1, .int x)]) rfl ?_
  have hI0 := hI
  obtain ⟨⟨hP, hn, ho, hu, hv, hw, hrc, htl⟩, hPs, hnP, ho21, huv, hw6, hrc8, htl2⟩ := hI0
  have h0 : 0 < P := by omega
  have h12 : P ≤ 12 := by omega
  have h288 : n ≤ 288 := by omega
  refine z_iload_n 0 C dX7_read_0 1 rfl ?_
  refine z_sipush 1 C dX7_read_1 (-10000) rfl ?_
  refine z_sipush 4 C dX7_read_4 (nI 10000) rfl ?_
  refine z_callS 7 C (As := [.int x, .int (-10000), .int (nI 10000)]) (rest := []) (m_X7_isOutside x (-10000) (nI 10000)) k_X7_isOutside q380 ⟨rfl, rfl⟩ ⟨Nat.le_of_ble_eq_true rfl, Nat.le_of_ble_eq_true rfl⟩ rfl (Nat.le_of_ble_eq_true rfl) ⟨Nat.le_of_ble_eq_true rfl, Nat.le_of_ble_eq_true rfl⟩ rfl dX7_read_7 (z_k1 ?_)
  refine z_if_eqb 10 C 16 dX7_read_10 (by decide) (fun c10 => ?_) (fun c10 => ?_)
  · skip
    refine z_aload_n 16 C dX7_read_16 0 rfl ?_
    refine z_getf 17 C 0 z_dX7 (⟨rfl, rfl⟩) 0 (by decide) q339 (.ref (z_ad G 1)) rfl dX7_read_17 ?_
    refine z_callVN 20 C 1 (⟨rfl, rfl⟩) rfl (As := []) (rest := []) (m_X2_isComplete P n hP hn (by omega) (by omega)) k_X2_isComplete (List.mem_of_getElem? (i := 9) rfl) ⟨rfl, rfl⟩ ⟨Nat.le_of_ble_eq_true rfl, Nat.le_of_ble_eq_true rfl⟩ rfl (Nat.le_of_ble_eq_true rfl) ⟨Nat.le_of_ble_eq_true rfl, Nat.le_of_ble_eq_true rfl⟩ rfl dX7_read_20 (z_k1 ?_)
    refine z_if_eqb 23 C 29 dX7_read_23 (by decide) (fun c23 => ?_) (fun c23 => ?_)
    · skip
      refine z_aload_n 29 C dX7_read_29 0 rfl ?_
      refine z_getf 30 C 0 z_dX7 (⟨rfl, rfl⟩) 0 (by decide) q339 (.ref (z_ad G 1)) rfl dX7_read_30 ?_
      refine z_iload_n 33 C dX7_read_33 1 rfl ?_
      refine z_callVN 34 C 1 (⟨rfl, rfl⟩) rfl (As := [.int x]) (rest := []) (m_X2_append n hn (by omega) x) k_X2_append (List.mem_of_getElem? (i := 10) rfl) ⟨rfl, rfl⟩ ⟨Nat.le_of_ble_eq_true rfl, Nat.le_of_ble_eq_true rfl⟩ rfl (Nat.le_of_ble_eq_true rfl) ⟨Nat.le_of_ble_eq_true rfl, Nat.le_of_ble_eq_true rfl⟩ rfl dX7_read_34 (z_k0 ?_)
      refine z_aload_n 37 C dX7_read_37 0 rfl ?_
      refine z_getf 38 C 0 z_dX7 (⟨rfl, rfl⟩) 0 (by decide) q339 (.ref (z_ad G 1)) rfl dX7_read_38 ?_
      refine z_getfN 41 C 1 z_dX2 (⟨rfl, rfl⟩) 4 (by decide) (List.mem_of_getElem? (i := 1) rfl) (.int (nI (n + 1))) rfl dX7_read_41 ?_
      refine z_iret 44 C dX7_read_44 ?_
      refine ⟨?_, ?_⟩
      · (rw [if_neg (c10), if_neg (c23)]) <;> (try rfl)
      · first | rfl | ((rw [if_neg (c10), if_neg (c23)]) <;> (try rfl))
    · skip
      refine z_ldc 26 C dX7_read_26 q387 ?_
      refine z_iret 28 C dX7_read_28 ?_
      refine ⟨?_, ?_⟩
      · (rw [if_neg (c10), if_pos (c23)]) <;> (try rfl)
      · first | rfl | ((rw [if_neg (c10), if_pos (c23)]) <;> (try rfl))
  · skip
    refine z_ldc 13 C dX7_read_13 q371 ?_
    refine z_iret 15 C dX7_read_15 ?_
    refine ⟨?_, ?_⟩
    · (rw [if_pos (c10)]) <;> (try rfl)
    · first | rfl | ((rw [if_pos (c10)]) <;> (try rfl))
theorem dX7_simulateStep_0 : decode cX7_simulateStep 0 = .ok (.aload_n 0, 1) := by decide +kernel
theorem dX7_simulateStep_1 : decode cX7_simulateStep 1 = .ok (.getfield 12, 3) := by decide +kernel
theorem dX7_simulateStep_4 : decode cX7_simulateStep 4 = .ok (.invokevirtual 81, 3) := by decide +kernel
theorem dX7_simulateStep_7 : decode cX7_simulateStep 7 = .ok (.ifCond .ne 13, 3) := by decide +kernel
theorem dX7_simulateStep_10 : decode cX7_simulateStep 10 = .ok (.aload_n 0, 1) := by decide +kernel
theorem dX7_simulateStep_11 : decode cX7_simulateStep 11 = .ok (.getfield 12, 3) := by decide +kernel
theorem dX7_simulateStep_14 : decode cX7_simulateStep 14 = .ok (.invokevirtual 89, 3) := by decide +kernel
theorem dX7_simulateStep_17 : decode cX7_simulateStep 17 = .ok (.ifCond .eq 6, 3) := by decide +kernel
theorem dX7_simulateStep_20 : decode cX7_simulateStep 20 = .ok (.ldc 85, 2) := by decide +kernel
theorem dX7_simulateStep_22 : decode cX7_simulateStep 22 = .ok (.ireturn, 1) := by decide +kernel
theorem dX7_simulateStep_23 : decode cX7_simulateStep 23 = .ok (.aload_n 0, 1) := by decide +kernel
theorem dX7_simulateStep_24 : decode cX7_simulateStep 24 = .ok (.getfield 12, 3) := by decide +kernel
theorem dX7_simulateStep_27 : decode cX7_simulateStep 27 = .ok (.aload_n 0, 1) := by decide +kernel
theorem dX7_simulateStep_28 : decode cX7_simulateStep 28 = .ok (.getfield 12, 3) := by decide +kernel
theorem dX7_simulateStep_31 : decode cX7_simulateStep 31 = .ok (.invokevirtual 93, 3) := by decide +kernel
theorem dX7_simulateStep_34 : decode cX7_simulateStep 34 = .ok (.invokevirtual 96, 3) := by decide +kernel
theorem dX7_simulateStep_37 : decode cX7_simulateStep 37 = .ok (.istore_n 1, 1) := by decide +kernel
theorem dX7_simulateStep_38 : decode cX7_simulateStep 38 = .ok (.iconst 0, 1) := by decide +kernel
theorem dX7_simulateStep_39 : decode cX7_simulateStep 39 = .ok (.istore_n 2, 1) := by decide +kernel
theorem dX7_simulateStep_40 : decode cX7_simulateStep 40 = .ok (.iload_n 2, 1) := by decide +kernel
theorem dX7_simulateStep_41 : decode cX7_simulateStep 41 = .ok (.bipush 24, 2) := by decide +kernel
theorem dX7_simulateStep_43 : decode cX7_simulateStep 43 = .ok (.if_icmp .ge 25, 3) := by decide +kernel
theorem dX7_simulateStep_46 : decode cX7_simulateStep 46 = .ok (.aload_n 0, 1) := by decide +kernel
theorem dX7_simulateStep_47 : decode cX7_simulateStep 47 = .ok (.getfield 12, 3) := by decide +kernel
theorem dX7_simulateStep_50 : decode cX7_simulateStep 50 = .ok (.aload_n 0, 1) := by decide +kernel
theorem dX7_simulateStep_51 : decode cX7_simulateStep 51 = .ok (.getfield 21, 3) := by decide +kernel
theorem dX7_simulateStep_54 : decode cX7_simulateStep 54 = .ok (.iload_n 2, 1) := by decide +kernel
theorem dX7_simulateStep_55 : decode cX7_simulateStep 55 = .ok (.iload_n 1, 1) := by decide +kernel
theorem dX7_simulateStep_56 : decode cX7_simulateStep 56 = .ok (.invokevirtual 100, 3) := by decide +kernel
theorem dX7_simulateStep_59 : decode cX7_simulateStep 59 = .ok (.invokevirtual 86, 3) := by decide +kernel
theorem dX7_simulateStep_62 : decode cX7_simulateStep 62 = .ok (.iinc 2 1, 3) := by decide +kernel
theorem dX7_simulateStep_65 : decode cX7_simulateStep 65 = .ok (.goto (-25), 3) := by decide +kernel
theorem dX7_simulateStep_68 : decode cX7_simulateStep 68 = .ok (.aload_n 0, 1) := by decide +kernel
theorem dX7_simulateStep_69 : decode cX7_simulateStep 69 = .ok (.getfield 12, 3) := by decide +kernel
theorem dX7_simulateStep_72 : decode cX7_simulateStep 72 = .ok (.getfield 69, 3) := by decide +kernel
theorem dX7_simulateStep_75 : decode cX7_simulateStep 75 = .ok (.ireturn, 1) := by decide +kernel
set_option maxRecDepth 100000 in
set_option maxHeartbeats 4000000 in
theorem m_X7_simulateStep {l : Launch} {G : z_Gl} {σ : z_St} (P n o u v w rc tl : Nat) (hI : z_inv σ P n o u v w rc tl) : z_M l G yX7_simulateStep cX7_simulateStep 3 (some .int) (z_rm 3 75) [.ref (z_ad G 0)] σ (z_p1 (.int (if P * 24 ≤ n then (-1000002) else if ¬ n % 24 = 0 then (-1000002) else nI (n + 24))) (if P * 24 ≤ n then σ else if ¬ n % 24 = 0 then σ else z_ui (z_uI σ 2 (fb_put (σ.1 2) (fun kk => z_rg (σ.1 6) (σ.1 7) (σ.1 5 2) (σ.1 5 3) kk (n / 24 * (24 / P))) n 24)) 1 4 (nI (n + 24)))) := by
  refine z_M.of (by decide) (Nat.le_of_ble_eq_true rfl) (fun p e s m below meth c C => ?_)
  refine z_sub [0] (lv1 := [(0, .ref (z_ad G 0))]) rfl ?_
  have hI0 := hI
  obtain ⟨⟨hP, hn, ho, hu, hv, hw, hrc, htl⟩, hPs, hnP, ho21, huv, hw6, hrc8, htl2⟩ := hI0
  have h0 : 0 < P := by omega
  have h12 : P ≤ 12 := by omega
  have h288 : n ≤ 288 := by omega
  refine z_aload_n 0 C dX7_simulateStep_0 0 rfl ?_
  refine z_getf 1 C 0 z_dX7 (⟨rfl, rfl⟩) 0 (by decide) q339 (.ref (z_ad G 1)) rfl dX7_simulateStep_1 ?_
  refine z_callVN 4 C 1 (⟨rfl, rfl⟩) rfl (As := []) (rest := []) (m_X2_isComplete P n hP hn (by omega) (by omega)) k_X2_isComplete (List.mem_of_getElem? (i := 9) rfl) ⟨rfl, rfl⟩ ⟨Nat.le_of_ble_eq_true rfl, Nat.le_of_ble_eq_true rfl⟩ rfl (Nat.le_of_ble_eq_true rfl) ⟨Nat.le_of_ble_eq_true rfl, Nat.le_of_ble_eq_true rfl⟩ rfl dX7_simulateStep_4 (z_k1 ?_)
  refine z_if_neb 7 C 20 dX7_simulateStep_7 (by decide) (fun c7 => ?_) (fun c7 => ?_)
  · skip
    refine z_ldc 20 C dX7_simulateStep_20 q387 ?_
    refine z_iret 22 C dX7_simulateStep_22 ?_
    refine ⟨?_, ?_⟩
    · (rw [if_pos (c7)]) <;> (try rfl)
    · first | rfl | ((rw [if_pos (c7)]) <;> (try rfl))
  · skip
    refine z_aload_n 10 C dX7_simulateStep_10 0 rfl ?_
    refine z_getf 11 C 0 z_dX7 (⟨rfl, rfl⟩) 0 (by decide) q339 (.ref (z_ad G 1)) rfl dX7_simulateStep_11 ?_
    refine z_callVN 14 C 1 (⟨rfl, rfl⟩) rfl (As := []) (rest := []) (m_X2_nextPosition n hn (by omega)) k_X2_nextPosition (List.mem_of_getElem? (i := 11) rfl) ⟨rfl, rfl⟩ ⟨Nat.le_of_ble_eq_true rfl, Nat.le_of_ble_eq_true rfl⟩ rfl (Nat.le_of_ble_eq_true rfl) ⟨Nat.le_of_ble_eq_true rfl, Nat.le_of_ble_eq_true rfl⟩ rfl dX7_simulateStep_14 (z_k1 ?_)
    refine z_if_eq 17 C 23 dX7_simulateStep_17 (by decide) (fun c17 => ?_) (fun c17 => ?_)
    · skip
      have c17 : n % 24 = 0 := (z_nI0 (by omega)).mp c17
      have e24 := c17
      have hdl : n / 24 * (24 / P) ≤ 12 * 24 := Nat.mul_le_mul (by omega) (Nat.div_le_self 24 P)
      refine z_aload_n 23 C dX7_simulateStep_23 0 rfl ?_
      refine z_getf 24 C 0 z_dX7 (⟨rfl, rfl⟩) 0 (by decide) q339 (.ref (z_ad G 1)) rfl dX7_simulateStep_24 ?_
      refine z_aload_n 27 C dX7_simulateStep_27 0 rfl ?_
      refine z_getf 28 C 0 z_dX7 (⟨rfl, rfl⟩) 0 (by decide) q339 (.ref (z_ad G 1)) rfl dX7_simulateStep_28 ?_
      refine z_callVN 31 C 1 (⟨rfl, rfl⟩) rfl (As := []) (rest := [.ref (z_ad G 1)]) (m_X2_finishedSteps n hn (by omega)) k_X2_finishedSteps (List.mem_of_getElem? (i := 12) rfl) ⟨rfl, rfl⟩ ⟨Nat.le_of_ble_eq_true rfl, Nat.le_of_ble_eq_true rfl⟩ rfl (Nat.le_of_ble_eq_true rfl) ⟨Nat.le_of_ble_eq_true rfl, Nat.le_of_ble_eq_true rfl⟩ rfl dX7_simulateStep_31 (z_k1 ?_)
      refine z_callVN 34 C 1 (⟨rfl, rfl⟩) rfl (As := [.int (nI (n / 24))]) (rest := []) (m_X2_turnOf P hP (by omega) (by omega) (n / 24)) k_X2_turnOf (List.mem_of_getElem? (i := 13) rfl) ⟨rfl, rfl⟩ ⟨Nat.le_of_ble_eq_true rfl, Nat.le_of_ble_eq_true rfl⟩ rfl (Nat.le_of_ble_eq_true rfl) ⟨Nat.le_of_ble_eq_true rfl, Nat.le_of_ble_eq_true rfl⟩ rfl dX7_simulateStep_34 (z_k1 ?_)
      refine z_istore_n 37 C dX7_simulateStep_37 [(1, .int (nI ((n / 24) * (24 / P)))), (0, .ref (z_ad G 0))] (by decide) rfl ?_
      refine z_iconst 38 C dX7_simulateStep_38 (nI 0) rfl ?_
      refine z_istore_n 39 C dX7_simulateStep_39 [(2, .int (nI 0)), (1, .int (nI ((n / 24) * (24 / P)))), (0, .ref (z_ad G 0))] (by decide) rfl ?_
      refine z_sub [2, 1, 0] (lv1 := [(0, .ref (z_ad G 0)), (1, .int (nI ((n / 24) * (24 / P)))), (2, .int (nI 0))]) rfl ?_
      refine z_cv (lv1 := [(0, .ref (z_ad G 0)), (1, .int (nI ((n / 24) * (24 / P)))), (2, .int (nI 0))]) (st1 := []) (σ1 := z_ui (z_uI σ 2 (fb_put (σ.1 2) (fun kk => z_rg (σ.1 6) (σ.1 7) (σ.1 5 2) (σ.1 5 3) kk (n / 24 * (24 / P))) n 0)) 1 4 (nI (n + 0))) rfl rfl (by rw [fb_put_0, z_uI_same]; exact (z_ui_id hn).symm) ?_
      refine z_lp1 (fun (k : Nat) => k ≤ 24) (fun (k : Nat) => 24 - k) (fun (k : Nat) => [(0, .ref (z_ad G 0)), (1, .int (nI ((n / 24) * (24 / P)))), (2, .int (nI k))]) (fun (k : Nat) => z_ui (z_uI σ 2 (fb_put (σ.1 2) (fun kk => z_rg (σ.1 6) (σ.1 7) (σ.1 5 2) (σ.1 5 3) kk (n / 24 * (24 / P))) n k)) 1 4 (nI (n + k))) (fun k hi_40 ih_40 => ?_) 0 (by omega)
      try dsimp only
      refine z_iload_n 40 C dX7_simulateStep_40 2 rfl ?_
      refine z_bipush 41 C dX7_simulateStep_41 (nI 24) rfl ?_
      refine z_icmp_geN 43 C k 24 rfl rfl (by omega) (by omega) 68 dX7_simulateStep_43 (by decide) (fun c43 => ?_) (fun c43 => ?_)
      · skip
        have ek : k = 24 := by omega
        subst ek
        refine z_aload_n 68 C dX7_simulateStep_68 0 rfl ?_
        refine z_getf 69 C 0 z_dX7 (⟨rfl, rfl⟩) 0 (by decide) q339 (.ref (z_ad G 1)) rfl dX7_simulateStep_69 ?_
        refine z_getfN 72 C 1 z_dX2 (⟨rfl, rfl⟩) 4 (by decide) (List.mem_of_getElem? (i := 1) rfl) (.int (nI (n + 24))) rfl dX7_simulateStep_72 ?_
        refine z_iret 75 C dX7_simulateStep_75 ?_
        refine ⟨?_, ?_⟩
        · (rw [if_neg (c7), if_neg (fun z => z (c17))]) <;> (try rfl)
        · first | rfl | ((rw [if_neg (c7), if_neg (fun z => z (c17))]) <;> (try rfl))
      · skip
        refine z_aload_n 46 C dX7_simulateStep_46 0 rfl ?_
        refine z_getf 47 C 0 z_dX7 (⟨rfl, rfl⟩) 0 (by decide) q339 (.ref (z_ad G 1)) rfl dX7_simulateStep_47 ?_
        refine z_aload_n 50 C dX7_simulateStep_50 0 rfl ?_
        refine z_getf 51 C 0 z_dX7 (⟨rfl, rfl⟩) 1 (by decide) q340 (.ref (z_ad G 5)) rfl dX7_simulateStep_51 ?_
        refine z_iload_n 54 C dX7_simulateStep_54 2 rfl ?_
        refine z_iload_n 55 C dX7_simulateStep_55 1 rfl ?_
        refine z_callVN 56 C 5 (⟨rfl, rfl⟩) rfl (As := [.int (nI k), .int (nI ((n / 24) * (24 / P)))]) (rest := [.ref (z_ad G 1)]) (m_X5_readingAt (σ := z_ui (z_uI σ 2 (fb_put (σ.1 2) (fun kk => z_rg (σ.1 6) (σ.1 7) (σ.1 5 2) (σ.1 5 3) kk (n / 24 * (24 / P))) n k)) 1 4 (nI (n + k))) k ((n / 24) * (24 / P)) (by omega) (by omega)) k_X5_readingAt (List.mem_of_getElem? (i := 14) rfl) ⟨rfl, rfl⟩ ⟨Nat.le_of_ble_eq_true rfl, Nat.le_of_ble_eq_true rfl⟩ rfl (Nat.le_of_ble_eq_true rfl) ⟨Nat.le_of_ble_eq_true rfl, Nat.le_of_ble_eq_true rfl⟩ rfl dX7_simulateStep_56 (z_k1 ?_)
        refine z_callVN 59 C 1 (⟨rfl, rfl⟩) rfl (As := [.int (z_rg (σ.1 6) (σ.1 7) (σ.1 5 2) (σ.1 5 3) k ((n / 24) * (24 / P)))]) (rest := []) (m_X2_append (σ := z_ui (z_uI σ 2 (fb_put (σ.1 2) (fun kk => z_rg (σ.1 6) (σ.1 7) (σ.1 5 2) (σ.1 5 3) kk (n / 24 * (24 / P))) n k)) 1 4 (nI (n + k))) (n + k) rfl (by omega) (z_rg (σ.1 6) (σ.1 7) (σ.1 5 2) (σ.1 5 3) k ((n / 24) * (24 / P)))) k_X2_append (List.mem_of_getElem? (i := 10) rfl) ⟨rfl, rfl⟩ ⟨Nat.le_of_ble_eq_true rfl, Nat.le_of_ble_eq_true rfl⟩ rfl (Nat.le_of_ble_eq_true rfl) ⟨Nat.le_of_ble_eq_true rfl, Nat.le_of_ble_eq_true rfl⟩ rfl dX7_simulateStep_59 (z_k0 ?_)
        refine z_iincN 62 C 2 k [(2, .int (nI (k + 1))), (0, .ref (z_ad G 0)), (1, .int (nI ((n / 24) * (24 / P))))] rfl rfl (by decide) rfl dX7_simulateStep_62 ?_
        refine z_goto 65 C 40 dX7_simulateStep_65 (by decide) ?_
        refine z_sub [1, 2, 0] (lv1 := [(0, .ref (z_ad G 0)), (1, .int (nI ((n / 24) * (24 / P)))), (2, .int (nI (k + 1)))]) rfl ?_
        refine z_cv (lv1 := [(0, .ref (z_ad G 0)), (1, .int (nI ((n / 24) * (24 / P)))), (2, .int (nI (k + 1)))]) (st1 := []) (σ1 := z_ui (z_uI σ 2 (fb_put (σ.1 2) (fun kk => z_rg (σ.1 6) (σ.1 7) (σ.1 5 2) (σ.1 5 3) kk (n / 24 * (24 / P))) n (k + 1))) 1 4 (nI (n + (k + 1)))) rfl rfl (z_simS σ n k _) ?_
        exact ih_40 (k + 1) (by omega) (by omega)
    · skip
      have c17 : ¬ n % 24 = 0 := fun z => c17 (by rw [z]; rfl)
      refine z_ldc 20 C dX7_simulateStep_20 q387 ?_
      refine z_iret 22 C dX7_simulateStep_22 ?_
      refine ⟨?_, ?_⟩
      · (rw [if_neg (c7), if_pos (c17)]) <;> (try rfl)
      · first | rfl | ((rw [if_neg (c7), if_pos (c17)]) <;> (try rfl))
theorem dX7_removeReadings_0 : decode cX7_removeReadings 0 = .ok (.iload_n 1, 1) := by decide +kernel
theorem dX7_removeReadings_1 : decode cX7_removeReadings 1 = .ok (.iconst 0, 1) := by decide +kernel
theorem dX7_removeReadings_2 : decode cX7_removeReadings 2 = .ok (.aload_n 0, 1) := by decide +kernel
theorem dX7_removeReadings_3 : decode cX7_removeReadings 3 = .ok (.getfield 12, 3) := by decide +kernel
theorem dX7_removeReadings_6 : decode cX7_removeReadings 6 = .ok (.getfield 69, 3) := by decide +kernel
theorem dX7_removeReadings_9 : decode cX7_removeReadings 9 = .ok (.invokestatic 77, 3) := by decide +kernel
theorem dX7_removeReadings_12 : decode cX7_removeReadings 12 = .ok (.ifCond .eq 6, 3) := by decide +kernel
theorem dX7_removeReadings_15 : decode cX7_removeReadings 15 = .ok (.ldc 68, 2) := by decide +kernel
theorem dX7_removeReadings_17 : decode cX7_removeReadings 17 = .ok (.ireturn, 1) := by decide +kernel
theorem dX7_removeReadings_18 : decode cX7_removeReadings 18 = .ok (.aload_n 0, 1) := by decide +kernel
theorem dX7_removeReadings_19 : decode cX7_removeReadings 19 = .ok (.getfield 12, 3) := by decide +kernel
theorem dX7_removeReadings_22 : decode cX7_removeReadings 22 = .ok (.dup, 1) := by decide +kernel
theorem dX7_removeReadings_23 : decode cX7_removeReadings 23 = .ok (.getfield 69, 3) := by decide +kernel
theorem dX7_removeReadings_26 : decode cX7_removeReadings 26 = .ok (.iload_n 1, 1) := by decide +kernel
theorem dX7_removeReadings_27 : decode cX7_removeReadings 27 = .ok (.isub, 1) := by decide +kernel
theorem dX7_removeReadings_28 : decode cX7_removeReadings 28 = .ok (.putfield 69, 3) := by decide +kernel
theorem dX7_removeReadings_31 : decode cX7_removeReadings 31 = .ok (.aload_n 0, 1) := by decide +kernel
theorem dX7_removeReadings_32 : decode cX7_removeReadings 32 = .ok (.getfield 12, 3) := by decide +kernel
theorem dX7_removeReadings_35 : decode cX7_removeReadings 35 = .ok (.getfield 69, 3) := by decide +kernel
theorem dX7_removeReadings_38 : decode cX7_removeReadings 38 = .ok (.ireturn, 1) := by decide +kernel
set_option maxRecDepth 100000 in
set_option maxHeartbeats 4000000 in
theorem m_X7_removeReadings {l : Launch} {G : z_Gl} {σ : z_St} (P n o u v w rc tl : Nat) (hI : z_inv σ P n o u v w rc tl) (x : Int32) : z_M l G yX7_removeReadings cX7_removeReadings 2 (some .int) (z_rm 1 22) [.ref (z_ad G 0), .int x] σ (z_p1 (.int (if x < nI 0 ∨ nI n < x then (-1000001) else nI (n - z_n x))) (if x < nI 0 ∨ nI n < x then σ else z_ui σ 1 4 (nI (n - z_n x)))) := by
  refine z_M.of (by decide) (Nat.le_of_ble_eq_true rfl) (fun p e s m below meth c C => ?_)
  refine z_sub [0, 1] (lv1 := [(0, .ref (z_ad G 0)), (1, .int x)]) rfl ?_
  have hI0 := hI
  obtain ⟨⟨hP, hn, ho, hu, hv, hw, hrc, htl⟩, hPs, hnP, ho21, huv, hw6, hrc8, htl2⟩ := hI0
  have h0 : 0 < P := by omega
  have h12 : P ≤ 12 := by omega
  have h288 : n ≤ 288 := by omega
  refine z_iload_n 0 C dX7_removeReadings_0 1 rfl ?_
  refine z_iconst 1 C dX7_removeReadings_1 (nI 0) rfl ?_
  refine z_aload_n 2 C dX7_removeReadings_2 0 rfl ?_
  refine z_getf 3 C 0 z_dX7 (⟨rfl, rfl⟩) 0 (by decide) q339 (.ref (z_ad G 1)) rfl dX7_removeReadings_3 ?_
  refine z_getfN 6 C 1 z_dX2 (⟨rfl, rfl⟩) 4 (by decide) (List.mem_of_getElem? (i := 1) rfl) (.int (nI n)) (z_ci hn) dX7_removeReadings_6 ?_
  refine z_callS 9 C (As := [.int x, .int (nI 0), .int (nI n)]) (rest := []) (m_X7_isOutside x (nI 0) (nI n)) k_X7_isOutside q380 ⟨rfl, rfl⟩ ⟨Nat.le_of_ble_eq_true rfl, Nat.le_of_ble_eq_true rfl⟩ rfl (Nat.le_of_ble_eq_true rfl) ⟨Nat.le_of_ble_eq_true rfl, Nat.le_of_ble_eq_true rfl⟩ rfl dX7_removeReadings_9 (z_k1 ?_)
  refine z_if_eqb 12 C 18 dX7_removeReadings_12 (by decide) (fun c12 => ?_) (fun c12 => ?_)
  · skip
    obtain ⟨a, ha, rfl⟩ := z_in0 (by omega) c12
    refine z_aload_n 18 C dX7_removeReadings_18 0 rfl ?_
    refine z_getf 19 C 0 z_dX7 (⟨rfl, rfl⟩) 0 (by decide) q339 (.ref (z_ad G 1)) rfl dX7_removeReadings_19 ?_
    refine z_dup 22 C dX7_removeReadings_22 rfl ?_
    refine z_getfN 23 C 1 z_dX2 (⟨rfl, rfl⟩) 4 (by decide) (List.mem_of_getElem? (i := 1) rfl) (.int (nI n)) (z_ci hn) dX7_removeReadings_23 ?_
    refine z_iload_n 26 C dX7_removeReadings_26 1 rfl ?_
    refine z_isubN 27 C n a rfl rfl (ha) dX7_removeReadings_27 ?_
    refine z_putiN 28 C 1 z_dX2 (⟨rfl, rfl⟩) 4 (by decide) (List.mem_of_getElem? (i := 1) rfl) rfl (rfl) rfl ⟨Nat.le_of_ble_eq_true rfl, rfl⟩ dX7_removeReadings_28 ?_
    refine z_aload_n 31 C dX7_removeReadings_31 0 rfl ?_
    refine z_getf 32 C 0 z_dX7 (⟨rfl, rfl⟩) 0 (by decide) q339 (.ref (z_ad G 1)) rfl dX7_removeReadings_32 ?_
    refine z_getfN 35 C 1 z_dX2 (⟨rfl, rfl⟩) 4 (by decide) (List.mem_of_getElem? (i := 1) rfl) (.int (nI (n - a))) rfl dX7_removeReadings_35 ?_
    refine z_iret 38 C dX7_removeReadings_38 ?_
    refine ⟨?_, ?_⟩
    · (rw [if_neg (c12), z_nk (by omega)]) <;> (try rfl)
    · first | rfl | ((rw [if_neg (c12), z_nk (by omega)]) <;> (try rfl))
  · skip
    refine z_ldc 15 C dX7_removeReadings_15 q371 ?_
    refine z_iret 17 C dX7_removeReadings_17 ?_
    refine ⟨?_, ?_⟩
    · (rw [if_pos (c12)]) <;> (try rfl)
    · first | rfl | ((rw [if_pos (c12)]) <;> (try rfl))
theorem dX7_progress_0 : decode cX7_progress 0 = .ok (.iload_n 1, 1) := by decide +kernel
theorem dX7_progress_1 : decode cX7_progress 1 = .ok (.tableswitch 78 0 3 #[31, 39, 47, 55], 31) := by decide +kernel
theorem dX7_progress_32 : decode cX7_progress 32 = .ok (.aload_n 0, 1) := by decide +kernel
theorem dX7_progress_33 : decode cX7_progress 33 = .ok (.getfield 12, 3) := by decide +kernel
theorem dX7_progress_36 : decode cX7_progress 36 = .ok (.getfield 104, 3) := by decide +kernel
theorem dX7_progress_39 : decode cX7_progress 39 = .ok (.ireturn, 1) := by decide +kernel
theorem dX7_progress_40 : decode cX7_progress 40 = .ok (.aload_n 0, 1) := by decide +kernel
theorem dX7_progress_41 : decode cX7_progress 41 = .ok (.getfield 12, 3) := by decide +kernel
theorem dX7_progress_44 : decode cX7_progress 44 = .ok (.getfield 69, 3) := by decide +kernel
theorem dX7_progress_47 : decode cX7_progress 47 = .ok (.ireturn, 1) := by decide +kernel
theorem dX7_progress_48 : decode cX7_progress 48 = .ok (.aload_n 0, 1) := by decide +kernel
theorem dX7_progress_49 : decode cX7_progress 49 = .ok (.getfield 12, 3) := by decide +kernel
theorem dX7_progress_52 : decode cX7_progress 52 = .ok (.invokevirtual 93, 3) := by decide +kernel
theorem dX7_progress_55 : decode cX7_progress 55 = .ok (.ireturn, 1) := by decide +kernel
theorem dX7_progress_56 : decode cX7_progress 56 = .ok (.aload_n 0, 1) := by decide +kernel
theorem dX7_progress_57 : decode cX7_progress 57 = .ok (.getfield 12, 3) := by decide +kernel
theorem dX7_progress_60 : decode cX7_progress 60 = .ok (.invokevirtual 81, 3) := by decide +kernel
theorem dX7_progress_63 : decode cX7_progress 63 = .ok (.ifCond .eq 8, 3) := by decide +kernel
theorem dX7_progress_66 : decode cX7_progress 66 = .ok (.ldc 107, 2) := by decide +kernel
theorem dX7_progress_68 : decode cX7_progress 68 = .ok (.goto 10, 3) := by decide +kernel
theorem dX7_progress_71 : decode cX7_progress 71 = .ok (.aload_n 0, 1) := by decide +kernel
theorem dX7_progress_72 : decode cX7_progress 72 = .ok (.getfield 12, 3) := by decide +kernel
theorem dX7_progress_75 : decode cX7_progress 75 = .ok (.invokevirtual 89, 3) := by decide +kernel
theorem dX7_progress_78 : decode cX7_progress 78 = .ok (.ireturn, 1) := by decide +kernel
theorem dX7_progress_79 : decode cX7_progress 79 = .ok (.ldc 68, 2) := by decide +kernel
theorem dX7_progress_81 : decode cX7_progress 81 = .ok (.ireturn, 1) := by decide +kernel
set_option maxRecDepth 100000 in
set_option maxHeartbeats 4000000 in
theorem m_X7_progress {l : Launch} {G : z_Gl} {σ : z_St} (P n o u v w rc tl : Nat) (hI : z_inv σ P n o u v w rc tl) (x : Int32) : z_M l G yX7_progress cX7_progress 2 (some .int) (z_rm 1 20) [.ref (z_ad G 0), .int x] σ (z_p1 (.int (if x = 0 then nI P else if x = 1 then nI n else if x = 2 then nI (n / 24) else if x = 3 then if P * 24 ≤ n then (-1000003) else nI (n % 24) else (-1000001))) σ) := by
  refine z_M.of (by decide) (Nat.le_of_ble_eq_true rfl) (fun p e s m below meth c C => ?_)
  refine z_sub [0, 1] (lv1 := [(0, .ref (z_ad G 0)), (1, .int x)]) rfl ?_
  have hI0 := hI
  obtain ⟨⟨hP, hn, ho, hu, hv, hw, hrc, htl⟩, hPs, hnP, ho21, huv, hw6, hrc8, htl2⟩ := hI0
  have h0 : 0 < P := by omega
  have h12 : P ≤ 12 := by omega
  have h288 : n ≤ 288 := by omega
  refine z_iload_n 0 C dX7_progress_0 1 rfl ?_
  by_cases e1_0 : x = (0 : Int32)
  · skip
    refine z_tabIn 1 C 32 dX7_progress_1 (by rw [e1_0]; decide) (by rw [e1_0]; decide) (by rw [e1_0]; rfl) (by decide) ?_
    refine z_aload_n 32 C dX7_progress_32 0 rfl ?_
    refine z_getf 33 C 0 z_dX7 (⟨rfl, rfl⟩) 0 (by decide) q339 (.ref (z_ad G 1)) rfl dX7_progress_33 ?_
    refine z_getfN 36 C 1 z_dX2 (⟨rfl, rfl⟩) 3 (by decide) (List.mem_of_getElem? (i := 0) rfl) (.int (nI P)) (z_ci hP) dX7_progress_36 ?_
    refine z_iret 39 C dX7_progress_39 ?_
    exact ⟨z_ci (if_pos e1_0).symm, rfl⟩
  by_cases e1_1 : x = (1 : Int32)
  · skip
    refine z_tabIn 1 C 40 dX7_progress_1 (by rw [e1_1]; decide) (by rw [e1_1]; decide) (by rw [e1_1]; rfl) (by decide) ?_
    refine z_aload_n 40 C dX7_progress_40 0 rfl ?_
    refine z_getf 41 C 0 z_dX7 (⟨rfl, rfl⟩) 0 (by decide) q339 (.ref (z_ad G 1)) rfl dX7_progress_41 ?_
    refine z_getfN 44 C 1 z_dX2 (⟨rfl, rfl⟩) 4 (by decide) (List.mem_of_getElem? (i := 1) rfl) (.int (nI n)) (z_ci hn) dX7_progress_44 ?_
    refine z_iret 47 C dX7_progress_47 ?_
    exact ⟨z_ci (by rw [if_neg e1_0, if_pos e1_1]), rfl⟩
  by_cases e1_2 : x = (2 : Int32)
  · skip
    refine z_tabIn 1 C 48 dX7_progress_1 (by rw [e1_2]; decide) (by rw [e1_2]; decide) (by rw [e1_2]; rfl) (by decide) ?_
    refine z_aload_n 48 C dX7_progress_48 0 rfl ?_
    refine z_getf 49 C 0 z_dX7 (⟨rfl, rfl⟩) 0 (by decide) q339 (.ref (z_ad G 1)) rfl dX7_progress_49 ?_
    refine z_callVN 52 C 1 (⟨rfl, rfl⟩) rfl (As := []) (rest := []) (m_X2_finishedSteps n hn (by omega)) k_X2_finishedSteps (List.mem_of_getElem? (i := 12) rfl) ⟨rfl, rfl⟩ ⟨Nat.le_of_ble_eq_true rfl, Nat.le_of_ble_eq_true rfl⟩ rfl (Nat.le_of_ble_eq_true rfl) ⟨Nat.le_of_ble_eq_true rfl, Nat.le_of_ble_eq_true rfl⟩ rfl dX7_progress_52 (z_k1 ?_)
    refine z_iret 55 C dX7_progress_55 ?_
    exact ⟨z_ci (by rw [if_neg e1_0, if_neg e1_1, if_pos e1_2]), rfl⟩
  by_cases e1_3 : x = (3 : Int32)
  · skip
    refine z_tabIn 1 C 56 dX7_progress_1 (by rw [e1_3]; decide) (by rw [e1_3]; decide) (by rw [e1_3]; rfl) (by decide) ?_
    refine z_aload_n 56 C dX7_progress_56 0 rfl ?_
    refine z_getf 57 C 0 z_dX7 (⟨rfl, rfl⟩) 0 (by decide) q339 (.ref (z_ad G 1)) rfl dX7_progress_57 ?_
    refine z_callVN 60 C 1 (⟨rfl, rfl⟩) rfl (As := []) (rest := []) (m_X2_isComplete P n hP hn (by omega) (by omega)) k_X2_isComplete (List.mem_of_getElem? (i := 9) rfl) ⟨rfl, rfl⟩ ⟨Nat.le_of_ble_eq_true rfl, Nat.le_of_ble_eq_true rfl⟩ rfl (Nat.le_of_ble_eq_true rfl) ⟨Nat.le_of_ble_eq_true rfl, Nat.le_of_ble_eq_true rfl⟩ rfl dX7_progress_60 (z_k1 ?_)
    refine z_if_eqb 63 C 71 dX7_progress_63 (by decide) (fun c63 => ?_) (fun c63 => ?_)
    · skip
      refine z_aload_n 71 C dX7_progress_71 0 rfl ?_
      refine z_getf 72 C 0 z_dX7 (⟨rfl, rfl⟩) 0 (by decide) q339 (.ref (z_ad G 1)) rfl dX7_progress_72 ?_
      refine z_callVN 75 C 1 (⟨rfl, rfl⟩) rfl (As := []) (rest := []) (m_X2_nextPosition n hn (by omega)) k_X2_nextPosition (List.mem_of_getElem? (i := 11) rfl) ⟨rfl, rfl⟩ ⟨Nat.le_of_ble_eq_true rfl, Nat.le_of_ble_eq_true rfl⟩ rfl (Nat.le_of_ble_eq_true rfl) ⟨Nat.le_of_ble_eq_true rfl, Nat.le_of_ble_eq_true rfl⟩ rfl dX7_progress_75 (z_k1 ?_)
      refine z_iret 78 C dX7_progress_78 ?_
      first | exact ⟨z_ci (by rw [if_neg e1_0, if_neg e1_1, if_neg e1_2, if_pos e1_3, if_pos c63]), rfl⟩ | exact ⟨z_ci (by rw [if_neg e1_0, if_neg e1_1, if_neg e1_2, if_pos e1_3, if_neg c63]), rfl⟩
    · skip
      refine z_ldc 66 C dX7_progress_66 q440 ?_
      refine z_goto 68 C 78 dX7_progress_68 (by decide) ?_
      refine z_iret 78 C dX7_progress_78 ?_
      first | exact ⟨z_ci (by rw [if_neg e1_0, if_neg e1_1, if_neg e1_2, if_pos e1_3, if_pos c63]), rfl⟩ | exact ⟨z_ci (by rw [if_neg e1_0, if_neg e1_1, if_neg e1_2, if_pos e1_3, if_neg c63]), rfl⟩
  refine z_tabOut 1 C 79 dX7_progress_1 (z_tb4x e1_0 e1_1 e1_2 e1_3) (by decide) ?_
  refine z_ldc 79 C dX7_progress_79 q371 ?_
  refine z_iret 81 C dX7_progress_81 ?_
  exact ⟨z_ci (by rw [if_neg e1_0, if_neg e1_1, if_neg e1_2, if_neg e1_3]), rfl⟩
theorem dX7_reading_0 : decode cX7_reading 0 = .ok (.iload_n 1, 1) := by decide +kernel
theorem dX7_reading_1 : decode cX7_reading 1 = .ok (.iconst 0, 1) := by decide +kernel
theorem dX7_reading_2 : decode cX7_reading 2 = .ok (.aload_n 0, 1) := by decide +kernel
theorem dX7_reading_3 : decode cX7_reading 3 = .ok (.getfield 12, 3) := by decide +kernel
theorem dX7_reading_6 : decode cX7_reading 6 = .ok (.getfield 104, 3) := by decide +kernel
theorem dX7_reading_9 : decode cX7_reading 9 = .ok (.iconst 1, 1) := by decide +kernel
theorem dX7_reading_10 : decode cX7_reading 10 = .ok (.isub, 1) := by decide +kernel
theorem dX7_reading_11 : decode cX7_reading 11 = .ok (.invokestatic 77, 3) := by decide +kernel
theorem dX7_reading_14 : decode cX7_reading 14 = .ok (.ifCond .ne 10, 3) := by decide +kernel
theorem dX7_reading_17 : decode cX7_reading 17 = .ok (.iload_n 2, 1) := by decide +kernel
theorem dX7_reading_18 : decode cX7_reading 18 = .ok (.invokestatic 108, 3) := by decide +kernel
theorem dX7_reading_21 : decode cX7_reading 21 = .ok (.ifCond .eq 6, 3) := by decide +kernel
theorem dX7_reading_24 : decode cX7_reading 24 = .ok (.ldc 68, 2) := by decide +kernel
theorem dX7_reading_26 : decode cX7_reading 26 = .ok (.ireturn, 1) := by decide +kernel
theorem dX7_reading_27 : decode cX7_reading 27 = .ok (.iload_n 1, 1) := by decide +kernel
theorem dX7_reading_28 : decode cX7_reading 28 = .ok (.bipush 24, 2) := by decide +kernel
theorem dX7_reading_30 : decode cX7_reading 30 = .ok (.imul, 1) := by decide +kernel
theorem dX7_reading_31 : decode cX7_reading 31 = .ok (.iload_n 2, 1) := by decide +kernel
theorem dX7_reading_32 : decode cX7_reading 32 = .ok (.iadd, 1) := by decide +kernel
theorem dX7_reading_33 : decode cX7_reading 33 = .ok (.aload_n 0, 1) := by decide +kernel
theorem dX7_reading_34 : decode cX7_reading 34 = .ok (.getfield 12, 3) := by decide +kernel
theorem dX7_reading_37 : decode cX7_reading 37 = .ok (.getfield 69, 3) := by decide +kernel
theorem dX7_reading_40 : decode cX7_reading 40 = .ok (.if_icmp .lt 6, 3) := by decide +kernel
theorem dX7_reading_43 : decode cX7_reading 43 = .ok (.ldc 107, 2) := by decide +kernel
theorem dX7_reading_45 : decode cX7_reading 45 = .ok (.ireturn, 1) := by decide +kernel
theorem dX7_reading_46 : decode cX7_reading 46 = .ok (.aload_n 0, 1) := by decide +kernel
theorem dX7_reading_47 : decode cX7_reading 47 = .ok (.getfield 12, 3) := by decide +kernel
theorem dX7_reading_50 : decode cX7_reading 50 = .ok (.iload_n 1, 1) := by decide +kernel
theorem dX7_reading_51 : decode cX7_reading 51 = .ok (.iload_n 2, 1) := by decide +kernel
theorem dX7_reading_52 : decode cX7_reading 52 = .ok (.invokevirtual 111, 3) := by decide +kernel
theorem dX7_reading_55 : decode cX7_reading 55 = .ok (.ireturn, 1) := by decide +kernel
set_option maxRecDepth 100000 in
set_option maxHeartbeats 4000000 in
theorem m_X7_reading {l : Launch} {G : z_Gl} {σ : z_St} (P n o u v w rc tl : Nat) (hI : z_inv σ P n o u v w rc tl) (x : Int32) (y : Int32) : z_M l G yX7_reading cX7_reading 3 (some .int) (z_rm 2 44) [.ref (z_ad G 0), .int x, .int y] σ (z_p1 (.int (if x < nI 0 ∨ nI P - nI 1 < x then (-1000001) else if y < nI 0 ∨ nI 23 < y then (-1000001) else if n ≤ z_n x * 24 + z_n y then (-1000003) else σ.1 2 (z_n x * 24 + z_n y % 24))) σ) := by
  refine z_M.of (by decide) (Nat.le_of_ble_eq_true rfl) (fun p e s m below meth c C => ?_)
  refine z_sub [0, 1, 2] (lv1 := [(0, .ref (z_ad G 0)), (1, .int x), (2, .int y)]) rfl ?_
  have hI0 := hI
  obtain ⟨⟨hP, hn, ho, hu, hv, hw, hrc, htl⟩, hPs, hnP, ho21, huv, hw6, hrc8, htl2⟩ := hI0
  have h0 : 0 < P := by omega
  have h12 : P ≤ 12 := by omega
  have h288 : n ≤ 288 := by omega
  refine z_iload_n 0 C dX7_reading_0 1 rfl ?_
  refine z_iconst 1 C dX7_reading_1 (nI 0) rfl ?_
  refine z_aload_n 2 C dX7_reading_2 0 rfl ?_
  refine z_getf 3 C 0 z_dX7 (⟨rfl, rfl⟩) 0 (by decide) q339 (.ref (z_ad G 1)) rfl dX7_reading_3 ?_
  refine z_getfN 6 C 1 z_dX2 (⟨rfl, rfl⟩) 3 (by decide) (List.mem_of_getElem? (i := 0) rfl) (.int (nI P)) (z_ci hP) dX7_reading_6 ?_
  refine z_iconst 9 C dX7_reading_9 (nI 1) rfl ?_
  refine z_isub 10 C dX7_reading_10 ?_
  refine z_callS 11 C (As := [.int x, .int (nI 0), .int ((nI P) - (nI 1))]) (rest := []) (m_X7_isOutside x (nI 0) ((nI P) - (nI 1))) k_X7_isOutside q380 ⟨rfl, rfl⟩ ⟨Nat.le_of_ble_eq_true rfl, Nat.le_of_ble_eq_true rfl⟩ rfl (Nat.le_of_ble_eq_true rfl) ⟨Nat.le_of_ble_eq_true rfl, Nat.le_of_ble_eq_true rfl⟩ rfl dX7_reading_11 (z_k1 ?_)
  refine z_if_neb 14 C 24 dX7_reading_14 (by decide) (fun c14 => ?_) (fun c14 => ?_)
  · skip
    refine z_ldc 24 C dX7_reading_24 q371 ?_
    refine z_iret 26 C dX7_reading_26 ?_
    refine ⟨?_, ?_⟩
    · (rw [if_pos (c14)]) <;> (try rfl)
    · first | rfl | ((rw [if_pos (c14)]) <;> (try rfl))
  · skip
    obtain ⟨a, ha, rfl⟩ := z_inw (by omega) c14
    refine z_iload_n 17 C dX7_reading_17 2 rfl ?_
    refine z_callS 18 C (As := [.int y]) (rest := []) (m_X7_isNoPosition y) k_X7_isNoPosition q445 ⟨rfl, rfl⟩ ⟨Nat.le_of_ble_eq_true rfl, Nat.le_of_ble_eq_true rfl⟩ rfl (Nat.le_of_ble_eq_true rfl) ⟨Nat.le_of_ble_eq_true rfl, Nat.le_of_ble_eq_true rfl⟩ rfl dX7_reading_18 (z_k1 ?_)
    refine z_if_eqb 21 C 27 dX7_reading_21 (by decide) (fun c21 => ?_) (fun c21 => ?_)
    · skip
      obtain ⟨b, hb, rfl⟩ := z_in0 (by decide) c21
      refine z_iload_n 27 C dX7_reading_27 1 rfl ?_
      refine z_bipush 28 C dX7_reading_28 (nI 24) rfl ?_
      refine z_imulN 30 C a 24 rfl rfl dX7_reading_30 ?_
      refine z_iload_n 31 C dX7_reading_31 2 rfl ?_
      refine z_iaddN 32 C (a * 24) b rfl rfl dX7_reading_32 ?_
      refine z_aload_n 33 C dX7_reading_33 0 rfl ?_
      refine z_getf 34 C 0 z_dX7 (⟨rfl, rfl⟩) 0 (by decide) q339 (.ref (z_ad G 1)) rfl dX7_reading_34 ?_
      refine z_getfN 37 C 1 z_dX2 (⟨rfl, rfl⟩) 4 (by decide) (List.mem_of_getElem? (i := 1) rfl) (.int (nI n)) (z_ci hn) dX7_reading_37 ?_
      refine z_icmp_ltN 40 C ((a * 24) + b) n rfl rfl (by omega) (by omega) 46 dX7_reading_40 (by decide) (fun c40 => ?_) (fun c40 => ?_)
      · skip
        refine z_aload_n 46 C dX7_reading_46 0 rfl ?_
        refine z_getf 47 C 0 z_dX7 (⟨rfl, rfl⟩) 0 (by decide) q339 (.ref (z_ad G 1)) rfl dX7_reading_47 ?_
        refine z_iload_n 50 C dX7_reading_50 1 rfl ?_
        refine z_iload_n 51 C dX7_reading_51 2 rfl ?_
        refine z_callVN 52 C 1 (⟨rfl, rfl⟩) rfl (As := [.int (nI a), .int (nI b)]) (rest := []) (m_X2_at a b (by omega) (by omega)) k_X2_at (List.mem_of_getElem? (i := 18) rfl) ⟨rfl, rfl⟩ ⟨Nat.le_of_ble_eq_true rfl, Nat.le_of_ble_eq_true rfl⟩ rfl (Nat.le_of_ble_eq_true rfl) ⟨Nat.le_of_ble_eq_true rfl, Nat.le_of_ble_eq_true rfl⟩ rfl dX7_reading_52 (z_k1 ?_)
        refine z_iret 55 C dX7_reading_55 ?_
        have c40 : ¬ n ≤ z_n (nI a) * 24 + z_n (nI b) := by rw [z_nk (by omega), z_nk (by omega)]; omega
        exact ⟨z_ci (by rw [if_neg c14, if_neg c21, if_neg c40, z_nk (k := a) (by omega), z_nk (k := b) (by omega)]), rfl⟩
      · skip
        refine z_ldc 43 C dX7_reading_43 q440 ?_
        refine z_iret 45 C dX7_reading_45 ?_
        have c40 : n ≤ z_n (nI a) * 24 + z_n (nI b) := by rw [z_nk (by omega), z_nk (by omega)]; omega
        exact ⟨z_ci (by rw [if_neg c14, if_neg c21, if_pos c40]), rfl⟩
    · skip
      refine z_ldc 24 C dX7_reading_24 q371 ?_
      refine z_iret 26 C dX7_reading_26 ?_
      refine ⟨?_, ?_⟩
      · (rw [if_neg (c14), if_pos (c21)]) <;> (try rfl)
      · first | rfl | ((rw [if_neg (c14), if_pos (c21)]) <;> (try rfl))
theorem dX7_despike_0 : decode cX7_despike 0 = .ok (.iload_n 1, 1) := by decide +kernel
theorem dX7_despike_1 : decode cX7_despike 1 = .ok (.iconst 0, 1) := by decide +kernel
theorem dX7_despike_2 : decode cX7_despike 2 = .ok (.aload_n 0, 1) := by decide +kernel
theorem dX7_despike_3 : decode cX7_despike 3 = .ok (.getfield 12, 3) := by decide +kernel
theorem dX7_despike_6 : decode cX7_despike 6 = .ok (.invokevirtual 93, 3) := by decide +kernel
theorem dX7_despike_9 : decode cX7_despike 9 = .ok (.iconst 1, 1) := by decide +kernel
theorem dX7_despike_10 : decode cX7_despike 10 = .ok (.isub, 1) := by decide +kernel
theorem dX7_despike_11 : decode cX7_despike 11 = .ok (.invokestatic 77, 3) := by decide +kernel
theorem dX7_despike_14 : decode cX7_despike 14 = .ok (.ifCond .ne 14, 3) := by decide +kernel
theorem dX7_despike_17 : decode cX7_despike 17 = .ok (.iload_n 2, 1) := by decide +kernel
theorem dX7_despike_18 : decode cX7_despike 18 = .ok (.iconst 0, 1) := by decide +kernel
theorem dX7_despike_19 : decode cX7_despike 19 = .ok (.sipush 20000, 3) := by decide +kernel
theorem dX7_despike_22 : decode cX7_despike 22 = .ok (.invokestatic 77, 3) := by decide +kernel
theorem dX7_despike_25 : decode cX7_despike 25 = .ok (.ifCond .eq 6, 3) := by decide +kernel
theorem dX7_despike_28 : decode cX7_despike 28 = .ok (.ldc 68, 2) := by decide +kernel
theorem dX7_despike_30 : decode cX7_despike 30 = .ok (.ireturn, 1) := by decide +kernel
theorem dX7_despike_31 : decode cX7_despike 31 = .ok (.aload_n 0, 1) := by decide +kernel
theorem dX7_despike_32 : decode cX7_despike 32 = .ok (.getfield 12, 3) := by decide +kernel
theorem dX7_despike_35 : decode cX7_despike 35 = .ok (.iload_n 1, 1) := by decide +kernel
theorem dX7_despike_36 : decode cX7_despike 36 = .ok (.iload_n 2, 1) := by decide +kernel
theorem dX7_despike_37 : decode cX7_despike 37 = .ok (.invokevirtual 114, 3) := by decide +kernel
theorem dX7_despike_40 : decode cX7_despike 40 = .ok (.ireturn, 1) := by decide +kernel
set_option maxRecDepth 100000 in
set_option maxHeartbeats 4000000 in
theorem m_X7_despike {l : Launch} {G : z_Gl} {σ : z_St} (P n o u v w rc tl : Nat) (hI : z_inv σ P n o u v w rc tl) (x : Int32) (y : Int32) : z_M l G yX7_despike cX7_despike 3 (some .int) (z_rm 3 68) [.ref (z_ad G 0), .int x, .int y] σ (z_p1 (.int (if x < nI 0 ∨ nI (n / 24) - nI 1 < x then (-1000001) else if y < nI 0 ∨ nI 20000 < y then (-1000001) else nI (z_sc (z_rw (σ.1 2) (z_n x)) (z_n y) 24))) (if x < nI 0 ∨ nI (n / 24) - nI 1 < x then σ else if y < nI 0 ∨ nI 20000 < y then σ else z_uI (z_uI σ 3 (va_cpy (σ.1 2) (σ.1 3) ((z_n x) * 24) 0 24)) 2 (fb_put (σ.1 2) (z_sv (z_rw (σ.1 2) (z_n x)) (z_n y)) ((z_n x) * 24) 24))) := by
  refine z_M.of (by decide) (Nat.le_of_ble_eq_true rfl) (fun p e s m below meth c C => ?_)
  refine z_sub [0, 1, 2] (lv1 := [(0, .ref (z_ad G 0)), (1, .int x), (2, .int y)]) rfl ?_
  have hI0 := hI
  obtain ⟨⟨hP, hn, ho, hu, hv, hw, hrc, htl⟩, hPs, hnP, ho21, huv, hw6, hrc8, htl2⟩ := hI0
  have h0 : 0 < P := by omega
  have h12 : P ≤ 12 := by omega
  have h288 : n ≤ 288 := by omega
  refine z_iload_n 0 C dX7_despike_0 1 rfl ?_
  refine z_iconst 1 C dX7_despike_1 (nI 0) rfl ?_
  refine z_aload_n 2 C dX7_despike_2 0 rfl ?_
  refine z_getf 3 C 0 z_dX7 (⟨rfl, rfl⟩) 0 (by decide) q339 (.ref (z_ad G 1)) rfl dX7_despike_3 ?_
  refine z_callVN 6 C 1 (⟨rfl, rfl⟩) rfl (As := []) (rest := [.int (nI 0), .int x]) (m_X2_finishedSteps n hn (by omega)) k_X2_finishedSteps (List.mem_of_getElem? (i := 12) rfl) ⟨rfl, rfl⟩ ⟨Nat.le_of_ble_eq_true rfl, Nat.le_of_ble_eq_true rfl⟩ rfl (Nat.le_of_ble_eq_true rfl) ⟨Nat.le_of_ble_eq_true rfl, Nat.le_of_ble_eq_true rfl⟩ rfl dX7_despike_6 (z_k1 ?_)
  refine z_iconst 9 C dX7_despike_9 (nI 1) rfl ?_
  refine z_isub 10 C dX7_despike_10 ?_
  refine z_callS 11 C (As := [.int x, .int (nI 0), .int ((nI (n / 24)) - (nI 1))]) (rest := []) (m_X7_isOutside x (nI 0) ((nI (n / 24)) - (nI 1))) k_X7_isOutside q380 ⟨rfl, rfl⟩ ⟨Nat.le_of_ble_eq_true rfl, Nat.le_of_ble_eq_true rfl⟩ rfl (Nat.le_of_ble_eq_true rfl) ⟨Nat.le_of_ble_eq_true rfl, Nat.le_of_ble_eq_true rfl⟩ rfl dX7_despike_11 (z_k1 ?_)
  refine z_if_neb 14 C 28 dX7_despike_14 (by decide) (fun c14 => ?_) (fun c14 => ?_)
  · skip
    refine z_ldc 28 C dX7_despike_28 q371 ?_
    refine z_iret 30 C dX7_despike_30 ?_
    refine ⟨?_, ?_⟩
    · (rw [if_pos (c14)]) <;> (try rfl)
    · first | rfl | ((rw [if_pos (c14)]) <;> (try rfl))
  · skip
    obtain ⟨a, ha, rfl⟩ := z_inw (by omega) c14
    refine z_iload_n 17 C dX7_despike_17 2 rfl ?_
    refine z_iconst 18 C dX7_despike_18 (nI 0) rfl ?_
    refine z_sipush 19 C dX7_despike_19 (nI 20000) rfl ?_
    refine z_callS 22 C (As := [.int y, .int (nI 0), .int (nI 20000)]) (rest := []) (m_X7_isOutside y (nI 0) (nI 20000)) k_X7_isOutside q380 ⟨rfl, rfl⟩ ⟨Nat.le_of_ble_eq_true rfl, Nat.le_of_ble_eq_true rfl⟩ rfl (Nat.le_of_ble_eq_true rfl) ⟨Nat.le_of_ble_eq_true rfl, Nat.le_of_ble_eq_true rfl⟩ rfl dX7_despike_22 (z_k1 ?_)
    refine z_if_eqb 25 C 31 dX7_despike_25 (by decide) (fun c25 => ?_) (fun c25 => ?_)
    · skip
      obtain ⟨b, hb, rfl⟩ := z_in0 (by decide) c25
      refine z_aload_n 31 C dX7_despike_31 0 rfl ?_
      refine z_getf 32 C 0 z_dX7 (⟨rfl, rfl⟩) 0 (by decide) q339 (.ref (z_ad G 1)) rfl dX7_despike_32 ?_
      refine z_iload_n 35 C dX7_despike_35 1 rfl ?_
      refine z_iload_n 36 C dX7_despike_36 2 rfl ?_
      refine z_callVN 37 C 1 (⟨rfl, rfl⟩) rfl (As := [.int (nI a), .int (nI b)]) (rest := []) (m_X2_replaceSpikes a b (by omega) (by omega)) k_X2_replaceSpikes (List.mem_of_getElem? (i := 19) rfl) ⟨rfl, rfl⟩ ⟨Nat.le_of_ble_eq_true rfl, Nat.le_of_ble_eq_true rfl⟩ rfl (Nat.le_of_ble_eq_true rfl) ⟨Nat.le_of_ble_eq_true rfl, Nat.le_of_ble_eq_true rfl⟩ rfl dX7_despike_37 (z_k1 ?_)
      refine z_iret 40 C dX7_despike_40 ?_
      refine ⟨?_, ?_⟩
      · (rw [if_neg (c14), if_neg (c25), z_nk (k := a) (by omega), z_nk (k := b) (by omega)]) <;> (try rfl)
      · first | rfl | ((rw [if_neg (c14), if_neg (c25), z_nk (k := a) (by omega), z_nk (k := b) (by omega)]) <;> (try rfl))
    · skip
      refine z_ldc 28 C dX7_despike_28 q371 ?_
      refine z_iret 30 C dX7_despike_30 ?_
      refine ⟨?_, ?_⟩
      · (rw [if_neg (c14), if_pos (c25)]) <;> (try rfl)
      · first | rfl | ((rw [if_neg (c14), if_pos (c25)]) <;> (try rfl))
theorem dX7_part_0 : decode cX7_part 0 = .ok (.iload_n 1, 1) := by decide +kernel
theorem dX7_part_1 : decode cX7_part 1 = .ok (.invokestatic 108, 3) := by decide +kernel
theorem dX7_part_4 : decode cX7_part 4 = .ok (.ifCond .ne 13, 3) := by decide +kernel
theorem dX7_part_7 : decode cX7_part 7 = .ok (.aload_n 0, 1) := by decide +kernel
theorem dX7_part_8 : decode cX7_part 8 = .ok (.getfield 12, 3) := by decide +kernel
theorem dX7_part_11 : decode cX7_part 11 = .ok (.invokevirtual 81, 3) := by decide +kernel
theorem dX7_part_14 : decode cX7_part 14 = .ok (.ifCond .ne 7, 3) := by decide +kernel
theorem dX7_part_17 : decode cX7_part 17 = .ok (.ldc2_w 117, 3) := by decide +kernel
theorem dX7_part_20 : decode cX7_part 20 = .ok (.lreturn, 1) := by decide +kernel
theorem dX7_part_21 : decode cX7_part 21 = .ok (.aload_n 0, 1) := by decide +kernel
theorem dX7_part_22 : decode cX7_part 22 = .ok (.getfield 12, 3) := by decide +kernel
theorem dX7_part_25 : decode cX7_part 25 = .ok (.iload_n 1, 1) := by decide +kernel
theorem dX7_part_26 : decode cX7_part 26 = .ok (.invokevirtual 119, 3) := by decide +kernel
theorem dX7_part_29 : decode cX7_part 29 = .ok (.lreturn, 1) := by decide +kernel
set_option maxRecDepth 100000 in
set_option maxHeartbeats 4000000 in
theorem m_X7_part {l : Launch} {G : z_Gl} {σ : z_St} (P n o u v w rc tl : Nat) (hI : z_inv σ P n o u v w rc tl) (x : Int32) : z_M l G yX7_part cX7_part 2 (some .long) (z_rm 4 93) [.ref (z_ad G 0), .int x] σ (z_p1 (.long (if x < nI 0 ∨ nI 23 < x then (-9223372036854775808) else if ¬ P * 24 ≤ n then (-9223372036854775808) else z_pt (σ.1 2) P (z_n x))) σ) := by
  refine z_M.of (by decide) (Nat.le_of_ble_eq_true rfl) (fun p e s m below meth c C => ?_)
  refine z_sub [0, 1] (lv1 := [(0, .ref (z_ad G 0)), (1, .int x)]) rfl ?_
  have hI0 := hI
  obtain ⟨⟨hP, hn, ho, hu, hv, hw, hrc, htl⟩, hPs, hnP, ho21, huv, hw6, hrc8, htl2⟩ := hI0
  have h0 : 0 < P := by omega
  have h12 : P ≤ 12 := by omega
  have h288 : n ≤ 288 := by omega
  refine z_iload_n 0 C dX7_part_0 1 rfl ?_
  refine z_callS 1 C (As := [.int x]) (rest := []) (m_X7_isNoPosition x) k_X7_isNoPosition q445 ⟨rfl, rfl⟩ ⟨Nat.le_of_ble_eq_true rfl, Nat.le_of_ble_eq_true rfl⟩ rfl (Nat.le_of_ble_eq_true rfl) ⟨Nat.le_of_ble_eq_true rfl, Nat.le_of_ble_eq_true rfl⟩ rfl dX7_part_1 (z_k1 ?_)
  refine z_if_neb 4 C 17 dX7_part_4 (by decide) (fun c4 => ?_) (fun c4 => ?_)
  · skip
    refine z_ldc2 17 C dX7_part_17 q475 ?_
    refine z_lret 20 C dX7_part_20 ?_
    first | exact ⟨z_cl (by rw [if_pos c4]), rfl⟩ | exact ⟨z_cl (by rw [if_neg c4, if_pos c14]), rfl⟩
  · skip
    obtain ⟨a, ha, rfl⟩ := z_in0 (by decide) c4
    refine z_aload_n 7 C dX7_part_7 0 rfl ?_
    refine z_getf 8 C 0 z_dX7 (⟨rfl, rfl⟩) 0 (by decide) q339 (.ref (z_ad G 1)) rfl dX7_part_8 ?_
    refine z_callVN 11 C 1 (⟨rfl, rfl⟩) rfl (As := []) (rest := []) (m_X2_isComplete P n hP hn (by omega) (by omega)) k_X2_isComplete (List.mem_of_getElem? (i := 9) rfl) ⟨rfl, rfl⟩ ⟨Nat.le_of_ble_eq_true rfl, Nat.le_of_ble_eq_true rfl⟩ rfl (Nat.le_of_ble_eq_true rfl) ⟨Nat.le_of_ble_eq_true rfl, Nat.le_of_ble_eq_true rfl⟩ rfl dX7_part_11 (z_k1 ?_)
    refine z_if_neb 14 C 21 dX7_part_14 (by decide) (fun c14 => ?_) (fun c14 => ?_)
    · skip
      refine z_aload_n 21 C dX7_part_21 0 rfl ?_
      refine z_getf 22 C 0 z_dX7 (⟨rfl, rfl⟩) 0 (by decide) q339 (.ref (z_ad G 1)) rfl dX7_part_22 ?_
      refine z_iload_n 25 C dX7_part_25 1 rfl ?_
      refine z_callVN 26 C 1 (⟨rfl, rfl⟩) rfl (As := [.int (nI a)]) (rest := []) (m_X2_partAt P hP (by omega) (by omega) a (by omega)) k_X2_partAt (List.mem_of_getElem? (i := 21) rfl) ⟨rfl, rfl⟩ ⟨Nat.le_of_ble_eq_true rfl, Nat.le_of_ble_eq_true rfl⟩ rfl (Nat.le_of_ble_eq_true rfl) ⟨Nat.le_of_ble_eq_true rfl, Nat.le_of_ble_eq_true rfl⟩ rfl dX7_part_26 (z_k1 ?_)
      refine z_lret 29 C dX7_part_29 ?_
      exact ⟨z_cl (by rw [if_neg c4, if_neg (fun z => z c14), z_nk (by omega)]), rfl⟩
    · skip
      refine z_ldc2 17 C dX7_part_17 q475 ?_
      refine z_lret 20 C dX7_part_20 ?_
      first | exact ⟨z_cl (by rw [if_pos c4]), rfl⟩ | exact ⟨z_cl (by rw [if_neg c4, if_pos c14]), rfl⟩
theorem dX7_spindle_0 : decode cX7_spindle 0 = .ok (.iload_n 1, 1) := by decide +kernel
theorem dX7_spindle_1 : decode cX7_spindle 1 = .ok (.invokestatic 108, 3) := by decide +kernel
theorem dX7_spindle_4 : decode cX7_spindle 4 = .ok (.ifCond .ne 13, 3) := by decide +kernel
theorem dX7_spindle_7 : decode cX7_spindle 7 = .ok (.aload_n 0, 1) := by decide +kernel
theorem dX7_spindle_8 : decode cX7_spindle 8 = .ok (.getfield 12, 3) := by decide +kernel
theorem dX7_spindle_11 : decode cX7_spindle 11 = .ok (.invokevirtual 81, 3) := by decide +kernel
theorem dX7_spindle_14 : decode cX7_spindle 14 = .ok (.ifCond .ne 7, 3) := by decide +kernel
theorem dX7_spindle_17 : decode cX7_spindle 17 = .ok (.ldc2_w 117, 3) := by decide +kernel
theorem dX7_spindle_20 : decode cX7_spindle 20 = .ok (.lreturn, 1) := by decide +kernel
theorem dX7_spindle_21 : decode cX7_spindle 21 = .ok (.aload_n 0, 1) := by decide +kernel
theorem dX7_spindle_22 : decode cX7_spindle 22 = .ok (.getfield 12, 3) := by decide +kernel
theorem dX7_spindle_25 : decode cX7_spindle 25 = .ok (.iload_n 1, 1) := by decide +kernel
theorem dX7_spindle_26 : decode cX7_spindle 26 = .ok (.invokevirtual 123, 3) := by decide +kernel
theorem dX7_spindle_29 : decode cX7_spindle 29 = .ok (.lreturn, 1) := by decide +kernel
set_option maxRecDepth 100000 in
set_option maxHeartbeats 4000000 in
theorem m_X7_spindle {l : Launch} {G : z_Gl} {σ : z_St} (P n o u v w rc tl : Nat) (hI : z_inv σ P n o u v w rc tl) (x : Int32) : z_M l G yX7_spindle cX7_spindle 2 (some .long) (z_rm 4 89) [.ref (z_ad G 0), .int x] σ (z_p1 (.long (if x < nI 0 ∨ nI 23 < x then (-9223372036854775808) else if ¬ P * 24 ≤ n then (-9223372036854775808) else z_sp (σ.1 2) P (z_n x))) σ) := by
  refine z_M.of (by decide) (Nat.le_of_ble_eq_true rfl) (fun p e s m below meth c C => ?_)
  refine z_sub [0, 1] (lv1 := [(0, .ref (z_ad G 0)), (1, .int x)]) rfl ?_
  have hI0 := hI
  obtain ⟨⟨hP, hn, ho, hu, hv, hw, hrc, htl⟩, hPs, hnP, ho21, huv, hw6, hrc8, htl2⟩ := hI0
  have h0 : 0 < P := by omega
  have h12 : P ≤ 12 := by omega
  have h288 : n ≤ 288 := by omega
  refine z_iload_n 0 C dX7_spindle_0 1 rfl ?_
  refine z_callS 1 C (As := [.int x]) (rest := []) (m_X7_isNoPosition x) k_X7_isNoPosition q445 ⟨rfl, rfl⟩ ⟨Nat.le_of_ble_eq_true rfl, Nat.le_of_ble_eq_true rfl⟩ rfl (Nat.le_of_ble_eq_true rfl) ⟨Nat.le_of_ble_eq_true rfl, Nat.le_of_ble_eq_true rfl⟩ rfl dX7_spindle_1 (z_k1 ?_)
  refine z_if_neb 4 C 17 dX7_spindle_4 (by decide) (fun c4 => ?_) (fun c4 => ?_)
  · skip
    refine z_ldc2 17 C dX7_spindle_17 q475 ?_
    refine z_lret 20 C dX7_spindle_20 ?_
    first | exact ⟨z_cl (by rw [if_pos c4]), rfl⟩ | exact ⟨z_cl (by rw [if_neg c4, if_pos c14]), rfl⟩
  · skip
    obtain ⟨a, ha, rfl⟩ := z_in0 (by decide) c4
    refine z_aload_n 7 C dX7_spindle_7 0 rfl ?_
    refine z_getf 8 C 0 z_dX7 (⟨rfl, rfl⟩) 0 (by decide) q339 (.ref (z_ad G 1)) rfl dX7_spindle_8 ?_
    refine z_callVN 11 C 1 (⟨rfl, rfl⟩) rfl (As := []) (rest := []) (m_X2_isComplete P n hP hn (by omega) (by omega)) k_X2_isComplete (List.mem_of_getElem? (i := 9) rfl) ⟨rfl, rfl⟩ ⟨Nat.le_of_ble_eq_true rfl, Nat.le_of_ble_eq_true rfl⟩ rfl (Nat.le_of_ble_eq_true rfl) ⟨Nat.le_of_ble_eq_true rfl, Nat.le_of_ble_eq_true rfl⟩ rfl dX7_spindle_11 (z_k1 ?_)
    refine z_if_neb 14 C 21 dX7_spindle_14 (by decide) (fun c14 => ?_) (fun c14 => ?_)
    · skip
      refine z_aload_n 21 C dX7_spindle_21 0 rfl ?_
      refine z_getf 22 C 0 z_dX7 (⟨rfl, rfl⟩) 0 (by decide) q339 (.ref (z_ad G 1)) rfl dX7_spindle_22 ?_
      refine z_iload_n 25 C dX7_spindle_25 1 rfl ?_
      refine z_callVN 26 C 1 (⟨rfl, rfl⟩) rfl (As := [.int (nI a)]) (rest := []) (m_X2_spindleAt P hP (by omega) (by omega) a (by omega)) k_X2_spindleAt (List.mem_of_getElem? (i := 23) rfl) ⟨rfl, rfl⟩ ⟨Nat.le_of_ble_eq_true rfl, Nat.le_of_ble_eq_true rfl⟩ rfl (Nat.le_of_ble_eq_true rfl) ⟨Nat.le_of_ble_eq_true rfl, Nat.le_of_ble_eq_true rfl⟩ rfl dX7_spindle_26 (z_k1 ?_)
      refine z_lret 29 C dX7_spindle_29 ?_
      exact ⟨z_cl (by rw [if_neg c4, if_neg (fun z => z c14), z_nk (by omega)]), rfl⟩
    · skip
      refine z_ldc2 17 C dX7_spindle_17 q475 ?_
      refine z_lret 20 C dX7_spindle_20 ?_
      first | exact ⟨z_cl (by rw [if_pos c4]), rfl⟩ | exact ⟨z_cl (by rw [if_neg c4, if_pos c14]), rfl⟩
theorem dX7_isBlind_0 : decode cX7_isBlind 0 = .ok (.iload_n 1, 1) := by decide +kernel
theorem dX7_isBlind_1 : decode cX7_isBlind 1 = .ok (.iconst 1, 1) := by decide +kernel
theorem dX7_isBlind_2 : decode cX7_isBlind 2 = .ok (.bipush 12, 2) := by decide +kernel
theorem dX7_isBlind_4 : decode cX7_isBlind 4 = .ok (.invokestatic 77, 3) := by decide +kernel
theorem dX7_isBlind_7 : decode cX7_isBlind 7 = .ok (.ifCond .eq 6, 3) := by decide +kernel
theorem dX7_isBlind_10 : decode cX7_isBlind 10 = .ok (.ldc 68, 2) := by decide +kernel
theorem dX7_isBlind_12 : decode cX7_isBlind 12 = .ok (.ireturn, 1) := by decide +kernel
theorem dX7_isBlind_13 : decode cX7_isBlind 13 = .ok (.aload_n 0, 1) := by decide +kernel
theorem dX7_isBlind_14 : decode cX7_isBlind 14 = .ok (.getfield 12, 3) := by decide +kernel
theorem dX7_isBlind_17 : decode cX7_isBlind 17 = .ok (.getfield 104, 3) := by decide +kernel
theorem dX7_isBlind_20 : decode cX7_isBlind 20 = .ok (.istore_n 2, 1) := by decide +kernel
theorem dX7_isBlind_21 : decode cX7_isBlind 21 = .ok (.iload_n 2, 1) := by decide +kernel
theorem dX7_isBlind_22 : decode cX7_isBlind 22 = .ok (.ifCond .eq 13, 3) := by decide +kernel
theorem dX7_isBlind_25 : decode cX7_isBlind 25 = .ok (.iload_n 1, 1) := by decide +kernel
theorem dX7_isBlind_26 : decode cX7_isBlind 26 = .ok (.iload_n 2, 1) := by decide +kernel
theorem dX7_isBlind_27 : decode cX7_isBlind 27 = .ok (.irem, 1) := by decide +kernel
theorem dX7_isBlind_28 : decode cX7_isBlind 28 = .ok (.ifCond .ne 7, 3) := by decide +kernel
theorem dX7_isBlind_31 : decode cX7_isBlind 31 = .ok (.iconst 1, 1) := by decide +kernel
theorem dX7_isBlind_32 : decode cX7_isBlind 32 = .ok (.goto 4, 3) := by decide +kernel
theorem dX7_isBlind_35 : decode cX7_isBlind 35 = .ok (.iconst 0, 1) := by decide +kernel
theorem dX7_isBlind_36 : decode cX7_isBlind 36 = .ok (.ireturn, 1) := by decide +kernel
set_option maxRecDepth 100000 in
set_option maxHeartbeats 4000000 in
theorem m_X7_isBlind {l : Launch} {G : z_Gl} {σ : z_St} (P n o u v w rc tl : Nat) (hI : z_inv σ P n o u v w rc tl) (x : Int32) : z_M l G yX7_isBlind cX7_isBlind 3 (some .int) (z_rm 1 22) [.ref (z_ad G 0), .int x] σ (z_p1 (.int (if x < nI 1 ∨ nI 12 < x then (-1000001) else z_bo (z_n x % P = 0))) σ) := by
  refine z_M.of (by decide) (Nat.le_of_ble_eq_true rfl) (fun p e s m below meth c C => ?_)
  refine z_sub [0, 1] (lv1 := [(0, .ref (z_ad G 0)), (1, .int x)]) rfl ?_
  have hI0 := hI
  obtain ⟨⟨hP, hn, ho, hu, hv, hw, hrc, htl⟩, hPs, hnP, ho21, huv, hw6, hrc8, htl2⟩ := hI0
  have h0 : 0 < P := by omega
  have h12 : P ≤ 12 := by omega
  have h288 : n ≤ 288 := by omega
  refine z_iload_n 0 C dX7_isBlind_0 1 rfl ?_
  refine z_iconst 1 C dX7_isBlind_1 (nI 1) rfl ?_
  refine z_bipush 2 C dX7_isBlind_2 (nI 12) rfl ?_
  refine z_callS 4 C (As := [.int x, .int (nI 1), .int (nI 12)]) (rest := []) (m_X7_isOutside x (nI 1) (nI 12)) k_X7_isOutside q380 ⟨rfl, rfl⟩ ⟨Nat.le_of_ble_eq_true rfl, Nat.le_of_ble_eq_true rfl⟩ rfl (Nat.le_of_ble_eq_true rfl) ⟨Nat.le_of_ble_eq_true rfl, Nat.le_of_ble_eq_true rfl⟩ rfl dX7_isBlind_4 (z_k1 ?_)
  refine z_if_eqb 7 C 13 dX7_isBlind_7 (by decide) (fun c7 => ?_) (fun c7 => ?_)
  · skip
    obtain ⟨a, hla, ha, rfl⟩ := z_in1 (by decide) (by decide) c7
    refine z_aload_n 13 C dX7_isBlind_13 0 rfl ?_
    refine z_getf 14 C 0 z_dX7 (⟨rfl, rfl⟩) 0 (by decide) q339 (.ref (z_ad G 1)) rfl dX7_isBlind_14 ?_
    refine z_getfN 17 C 1 z_dX2 (⟨rfl, rfl⟩) 3 (by decide) (List.mem_of_getElem? (i := 0) rfl) (.int (nI P)) (z_ci hP) dX7_isBlind_17 ?_
    refine z_istore_n 20 C dX7_isBlind_20 [(2, .int (nI P)), (0, .ref (z_ad G 0)), (1, .int (nI a))] (by decide) rfl ?_
    refine z_iload_n 21 C dX7_isBlind_21 0 rfl ?_
    refine z_if_eq 22 C 35 dX7_isBlind_22 (by decide) (fun c22 => ?_) (fun c22 => ?_)
    · skip
      exact absurd ((z_nI0 (by omega)).mp c22) (by omega)
    · skip
      refine z_iload_n 25 C dX7_isBlind_25 2 rfl ?_
      refine z_iload_n 26 C dX7_isBlind_26 0 rfl ?_
      refine z_iremN 27 C a P rfl rfl (by omega) (by omega) (by omega) dX7_isBlind_27 ?_
      refine z_if_ne 28 C 35 dX7_isBlind_28 (by decide) (fun c28 => ?_) (fun c28 => ?_)
      · skip
        refine z_iconst 35 C dX7_isBlind_35 (nI 0) rfl ?_
        refine z_iret 36 C dX7_isBlind_36 ?_
        first | exact ⟨z_ci (by rw [if_neg c7, z_nk (k := a) (by omega)]; exact z_bo_t ((z_nI0 (Nat.lt_trans (Nat.mod_lt _ h0) (by omega))).mp c28)), rfl⟩ | exact ⟨z_ci (by rw [if_neg c7, z_nk (k := a) (by omega)]; exact z_bo_f (fun z => c28 ((z_nI0 (Nat.lt_trans (Nat.mod_lt _ h0) (by omega))).mpr z))), rfl⟩
      · skip
        refine z_iconst 31 C dX7_isBlind_31 (nI 1) rfl ?_
        refine z_goto 32 C 36 dX7_isBlind_32 (by decide) ?_
        refine z_iret 36 C dX7_isBlind_36 ?_
        first | exact ⟨z_ci (by rw [if_neg c7, z_nk (k := a) (by omega)]; exact z_bo_t ((z_nI0 (Nat.lt_trans (Nat.mod_lt _ h0) (by omega))).mp c28)), rfl⟩ | exact ⟨z_ci (by rw [if_neg c7, z_nk (k := a) (by omega)]; exact z_bo_f (fun z => c28 ((z_nI0 (Nat.lt_trans (Nat.mod_lt _ h0) (by omega))).mpr z))), rfl⟩
  · skip
    refine z_ldc 10 C dX7_isBlind_10 q371 ?_
    refine z_iret 12 C dX7_isBlind_12 ?_
    exact ⟨z_ci (by rw [if_pos c7]), rfl⟩
theorem dX7_residual_0 : decode cX7_residual 0 = .ok (.aload_n 0, 1) := by decide +kernel
theorem dX7_residual_1 : decode cX7_residual 1 = .ok (.getfield 12, 3) := by decide +kernel
theorem dX7_residual_4 : decode cX7_residual 4 = .ok (.invokevirtual 81, 3) := by decide +kernel
theorem dX7_residual_7 : decode cX7_residual 7 = .ok (.ifCond .eq 13, 3) := by decide +kernel
theorem dX7_residual_10 : decode cX7_residual 10 = .ok (.aload_n 0, 1) := by decide +kernel
theorem dX7_residual_11 : decode cX7_residual 11 = .ok (.getfield 12, 3) := by decide +kernel
theorem dX7_residual_14 : decode cX7_residual 14 = .ok (.invokevirtual 126, 3) := by decide +kernel
theorem dX7_residual_17 : decode cX7_residual 17 = .ok (.goto 6, 3) := by decide +kernel
theorem dX7_residual_20 : decode cX7_residual 20 = .ok (.ldc2_w 117, 3) := by decide +kernel
theorem dX7_residual_23 : decode cX7_residual 23 = .ok (.lreturn, 1) := by decide +kernel
set_option maxRecDepth 100000 in
set_option maxHeartbeats 4000000 in
theorem m_X7_residual {l : Launch} {G : z_Gl} {σ : z_St} (P n o u v w rc tl : Nat) (hI : z_inv σ P n o u v w rc tl) : z_M l G yX7_residual cX7_residual 1 (some .long) (z_rm 5 121) [.ref (z_ad G 0)] σ (z_p1 (.long (if P * 24 ≤ n then z_go (σ.1 2) P 24 else (-9223372036854775808))) (if P * 24 ≤ n then z_uL σ 4 (z_fil (z_pt (σ.1 2) P) (σ.2 4) 24) else σ)) := by
  refine z_M.of (by decide) (Nat.le_of_ble_eq_true rfl) (fun p e s m below meth c C => ?_)
  refine z_sub [0] (lv1 := [(0, .ref (z_ad G 0))]) rfl ?_
  have hI0 := hI
  obtain ⟨⟨hP, hn, ho, hu, hv, hw, hrc, htl⟩, hPs, hnP, ho21, huv, hw6, hrc8, htl2⟩ := hI0
  have h0 : 0 < P := by omega
  have h12 : P ≤ 12 := by omega
  have h288 : n ≤ 288 := by omega
  refine z_aload_n 0 C dX7_residual_0 0 rfl ?_
  refine z_getf 1 C 0 z_dX7 (⟨rfl, rfl⟩) 0 (by decide) q339 (.ref (z_ad G 1)) rfl dX7_residual_1 ?_
  refine z_callVN 4 C 1 (⟨rfl, rfl⟩) rfl (As := []) (rest := []) (m_X2_isComplete P n hP hn (by omega) (by omega)) k_X2_isComplete (List.mem_of_getElem? (i := 9) rfl) ⟨rfl, rfl⟩ ⟨Nat.le_of_ble_eq_true rfl, Nat.le_of_ble_eq_true rfl⟩ rfl (Nat.le_of_ble_eq_true rfl) ⟨Nat.le_of_ble_eq_true rfl, Nat.le_of_ble_eq_true rfl⟩ rfl dX7_residual_4 (z_k1 ?_)
  refine z_if_eqb 7 C 20 dX7_residual_7 (by decide) (fun c7 => ?_) (fun c7 => ?_)
  · skip
    refine z_ldc2 20 C dX7_residual_20 q475 ?_
    refine z_lret 23 C dX7_residual_23 ?_
    first | exact ⟨z_cl (by rw [if_pos c7]), by rw [if_pos c7]⟩ | exact ⟨z_cl (by rw [if_neg c7]), by rw [if_neg c7]⟩
  · skip
    refine z_aload_n 10 C dX7_residual_10 0 rfl ?_
    refine z_getf 11 C 0 z_dX7 (⟨rfl, rfl⟩) 0 (by decide) q339 (.ref (z_ad G 1)) rfl dX7_residual_11 ?_
    refine z_callVN 14 C 1 (⟨rfl, rfl⟩) rfl (As := []) (rest := []) (m_X2_greatestResidual P hP (by omega) (by omega)) k_X2_greatestResidual (List.mem_of_getElem? (i := 24) rfl) ⟨rfl, rfl⟩ ⟨Nat.le_of_ble_eq_true rfl, Nat.le_of_ble_eq_true rfl⟩ rfl (Nat.le_of_ble_eq_true rfl) ⟨Nat.le_of_ble_eq_true rfl, Nat.le_of_ble_eq_true rfl⟩ rfl dX7_residual_14 (z_k1 ?_)
    refine z_goto 17 C 23 dX7_residual_17 (by decide) ?_
    refine z_lret 23 C dX7_residual_23 ?_
    first | exact ⟨z_cl (by rw [if_pos c7]), by rw [if_pos c7]⟩ | exact ⟨z_cl (by rw [if_neg c7]), by rw [if_neg c7]⟩
theorem dX7_load_0 : decode cX7_load 0 = .ok (.aload_n 0, 1) := by decide +kernel
theorem dX7_load_1 : decode cX7_load 1 = .ok (.iload_n 1, 1) := by decide +kernel
theorem dX7_load_2 : decode cX7_load 2 = .ok (.iload_n 2, 1) := by decide +kernel
theorem dX7_load_3 : decode cX7_load 3 = .ok (.invokevirtual 130, 3) := by decide +kernel
theorem dX7_load_6 : decode cX7_load 6 = .ok (.istore_n 3, 1) := by decide +kernel
theorem dX7_load_7 : decode cX7_load 7 = .ok (.iload_n 3, 1) := by decide +kernel
theorem dX7_load_8 : decode cX7_load 8 = .ok (.ifCond .eq 5, 3) := by decide +kernel
theorem dX7_load_11 : decode cX7_load 11 = .ok (.iload_n 3, 1) := by decide +kernel
theorem dX7_load_12 : decode cX7_load 12 = .ok (.ireturn, 1) := by decide +kernel
theorem dX7_load_13 : decode cX7_load 13 = .ok (.aload_n 0, 1) := by decide +kernel
theorem dX7_load_14 : decode cX7_load 14 = .ok (.iload_n 1, 1) := by decide +kernel
theorem dX7_load_15 : decode cX7_load 15 = .ok (.iload_n 2, 1) := by decide +kernel
theorem dX7_load_16 : decode cX7_load 16 = .ok (.invokevirtual 133, 3) := by decide +kernel
theorem dX7_load_19 : decode cX7_load 19 = .ok (.aload_n 0, 1) := by decide +kernel
theorem dX7_load_20 : decode cX7_load 20 = .ok (.invokevirtual 137, 3) := by decide +kernel
theorem dX7_load_23 : decode cX7_load 23 = .ok (.pop, 1) := by decide +kernel
theorem dX7_load_24 : decode cX7_load 24 = .ok (.iconst 1, 1) := by decide +kernel
theorem dX7_load_25 : decode cX7_load 25 = .ok (.ireturn, 1) := by decide +kernel
set_option maxRecDepth 100000 in
set_option maxHeartbeats 4000000 in
theorem m_X7_load {l : Launch} {G : z_Gl} {σ : z_St} (P n o u v w rc tl : Nat) (hI : z_inv σ P n o u v w rc tl) (x : Int32) (y : Int32) : z_M l G yX7_load cX7_load 4 (some .int) (z_rm 6 139) [.ref (z_ad G 0), .int x, .int y] σ (z_p1 (.int (if ¬ z_se P n x y = 0 then z_se P n x y else nI 1)) (if ¬ z_se P n x y = 0 then σ else z_nx σ o u (z_fil (z_src (σ.1 2) (σ.1 6) (σ.1 7) P (z_n x) (z_n y)) (σ.2 88) 24))) := by
  refine z_M.of (by decide) (Nat.le_of_ble_eq_true rfl) (fun p e s m below meth c C => ?_)
  refine z_sub [0, 1, 2] (lv1 := [(0, .ref (z_ad G 0)), (1, .int x), (2, .int y)]) rfl ?_
  have hI0 := hI
  obtain ⟨⟨hP, hn, ho, hu, hv, hw, hrc, htl⟩, hPs, hnP, ho21, huv, hw6, hrc8, htl2⟩ := hI0
  have h0 : 0 < P := by omega
  have h12 : P ≤ 12 := by omega
  have h288 : n ≤ 288 := by omega
  refine z_aload_n 0 C dX7_load_0 0 rfl ?_
  refine z_iload_n 1 C dX7_load_1 1 rfl ?_
  refine z_iload_n 2 C dX7_load_2 2 rfl ?_
  refine z_callV 3 C 0 (⟨rfl, rfl⟩) rfl (As := [.int x, .int y]) (rest := []) (m_X7_sourceError P n o u v w rc tl hI x y ) k_X7_sourceError q522 ⟨rfl, rfl⟩ ⟨Nat.le_of_ble_eq_true rfl, Nat.le_of_ble_eq_true rfl⟩ rfl (Nat.le_of_ble_eq_true rfl) ⟨Nat.le_of_ble_eq_true rfl, Nat.le_of_ble_eq_true rfl⟩ rfl dX7_load_3 (z_k1 ?_)
  refine z_istore_n 6 C dX7_load_6 [(3, .int (z_se P n x y)), (0, .ref (z_ad G 0)), (1, .int x), (2, .int y)] (by decide) rfl ?_
  refine z_iload_n 7 C dX7_load_7 0 rfl ?_
  refine z_if_eq 8 C 13 dX7_load_8 (by decide) (fun c8 => ?_) (fun c8 => ?_)
  · skip
    obtain ⟨sr, hs, rfl, hse, hsc⟩ := z_se_ok h12 h288 c8
    obtain ⟨j, hj, hy⟩ : ∃ j, j < 12 ∧ (sr = 0 → y = nI j) := by
      by_cases q : sr = 0
      · obtain ⟨j, q1, q2, q3⟩ := hse q; exact ⟨j, by omega, fun _ => q3⟩
      · exact ⟨0, by omega, fun z => absurd z q⟩
    refine z_aload_n 13 C dX7_load_13 1 rfl ?_
    refine z_iload_n 14 C dX7_load_14 2 rfl ?_
    refine z_iload_n 15 C dX7_load_15 3 rfl ?_
    refine z_callV 16 C 0 (⟨rfl, rfl⟩) rfl (As := [.int (nI sr), .int y]) (rest := []) (m_X7_fillNext P n o u v w rc tl hI sr j y hs hj hy) k_X7_fillNext q526 ⟨rfl, rfl⟩ ⟨Nat.le_of_ble_eq_true rfl, Nat.le_of_ble_eq_true rfl⟩ rfl (Nat.le_of_ble_eq_true rfl) ⟨Nat.le_of_ble_eq_true rfl, Nat.le_of_ble_eq_true rfl⟩ rfl dX7_load_16 (z_k0 ?_)
    refine z_aload_n 19 C dX7_load_19 1 rfl ?_
    refine z_callV 20 C 0 (⟨rfl, rfl⟩) rfl (As := []) (rest := []) (@m_X7_makeNextPresent_F _ _ σ P n o u v w rc tl hI (z_fil (z_src (σ.1 2) (σ.1 6) (σ.1 7) P sr j) (σ.2 88) 24)) k_X7_makeNextPresent q538 ⟨rfl, rfl⟩ ⟨Nat.le_of_ble_eq_true rfl, Nat.le_of_ble_eq_true rfl⟩ rfl (Nat.le_of_ble_eq_true rfl) ⟨Nat.le_of_ble_eq_true rfl, Nat.le_of_ble_eq_true rfl⟩ rfl dX7_load_20 (z_k1 ?_)
    refine z_pop 23 C dX7_load_23 rfl ?_
    refine z_iconst 24 C dX7_load_24 (nI 1) rfl ?_
    refine z_iret 25 C dX7_load_25 ?_
    refine ⟨z_ci (by rw [if_neg (fun z => z c8)]), ?_⟩
    rw [if_neg (fun z => z c8), z_nk (k := sr) (by omega), z_srcy hj hy]
  · skip
    refine z_iload_n 11 C dX7_load_11 0 rfl ?_
    refine z_iret 12 C dX7_load_12 ?_
    exact ⟨z_ci (by rw [if_pos c8]), by rw [if_pos c8]⟩
theorem dX7_profile_0 : decode cX7_profile 0 = .ok (.iload_n 1, 1) := by decide +kernel
theorem dX7_profile_1 : decode cX7_profile 1 = .ok (.invokestatic 108, 3) := by decide +kernel
theorem dX7_profile_4 : decode cX7_profile 4 = .ok (.ifCond .eq 9, 3) := by decide +kernel
theorem dX7_profile_7 : decode cX7_profile 7 = .ok (.ldc2_w 117, 3) := by decide +kernel
theorem dX7_profile_10 : decode cX7_profile 10 = .ok (.goto 12, 3) := by decide +kernel
theorem dX7_profile_13 : decode cX7_profile 13 = .ok (.aload_n 0, 1) := by decide +kernel
theorem dX7_profile_14 : decode cX7_profile 14 = .ok (.getfield 28, 3) := by decide +kernel
theorem dX7_profile_17 : decode cX7_profile 17 = .ok (.invokevirtual 140, 3) := by decide +kernel
theorem dX7_profile_20 : decode cX7_profile 20 = .ok (.iload_n 1, 1) := by decide +kernel
theorem dX7_profile_21 : decode cX7_profile 21 = .ok (.laload, 1) := by decide +kernel
theorem dX7_profile_22 : decode cX7_profile 22 = .ok (.lreturn, 1) := by decide +kernel
set_option maxRecDepth 100000 in
set_option maxHeartbeats 4000000 in
theorem m_X7_profile {l : Launch} {G : z_Gl} {σ : z_St} (P n o u v w rc tl : Nat) (hI : z_inv σ P n o u v w rc tl) (x : Int32) : z_M l G yX7_profile cX7_profile 2 (some .long) (z_rm 2 42) [.ref (z_ad G 0), .int x] σ (z_p1 (.long (if x < nI 0 ∨ nI 23 < x then (-9223372036854775808) else σ.2 (10 + (o + u) % 21) (z_n x))) σ) := by
  refine z_M.of (by decide) (Nat.le_of_ble_eq_true rfl) (fun p e s m below meth c C => ?_)
  refine z_sub [0, 1] (lv1 := [(0, .ref (z_ad G 0)), (1, .int x)]) rfl ?_
  have hI0 := hI
  obtain ⟨⟨hP, hn, ho, hu, hv, hw, hrc, htl⟩, hPs, hnP, ho21, huv, hw6, hrc8, htl2⟩ := hI0
  have h0 : 0 < P := by omega
  have h12 : P ≤ 12 := by omega
  have h288 : n ≤ 288 := by omega
  refine z_iload_n 0 C dX7_profile_0 1 rfl ?_
  refine z_callS 1 C (As := [.int x]) (rest := []) (m_X7_isNoPosition x) k_X7_isNoPosition q445 ⟨rfl, rfl⟩ ⟨Nat.le_of_ble_eq_true rfl, Nat.le_of_ble_eq_true rfl⟩ rfl (Nat.le_of_ble_eq_true rfl) ⟨Nat.le_of_ble_eq_true rfl, Nat.le_of_ble_eq_true rfl⟩ rfl dX7_profile_1 (z_k1 ?_)
  refine z_if_eqb 4 C 13 dX7_profile_4 (by decide) (fun c4 => ?_) (fun c4 => ?_)
  · skip
    obtain ⟨a, ha, rfl⟩ := z_in0 (by decide) c4
    refine z_aload_n 13 C dX7_profile_13 0 rfl ?_
    refine z_getf 14 C 0 z_dX7 (⟨rfl, rfl⟩) 2 (by decide) q341 (.ref (z_ad G 8)) rfl dX7_profile_14 ?_
    refine z_callVN 17 C 8 (⟨rfl, rfl⟩) rfl (As := []) (rest := []) (m_X1_present o u ho hu (by omega) (by omega)) k_X1_present (List.mem_of_getElem? (i := 28) rfl) ⟨rfl, rfl⟩ ⟨Nat.le_of_ble_eq_true rfl, Nat.le_of_ble_eq_true rfl⟩ rfl (Nat.le_of_ble_eq_true rfl) ⟨Nat.le_of_ble_eq_true rfl, Nat.le_of_ble_eq_true rfl⟩ rfl dX7_profile_17 (z_k1 ?_)
    refine z_iload_n 20 C dX7_profile_20 1 rfl ?_
    refine z_laldN 21 C (10 + (o + u) % 21) (n := 24) (z_rgK _ (by omega)) a rfl (by omega) (by decide) dX7_profile_21 ?_
    refine z_lret 22 C dX7_profile_22 ?_
    refine ⟨?_, ?_⟩
    · (rw [if_neg (c4), z_nk (k := a) (by omega)]) <;> (try rfl)
    · first | rfl | ((rw [if_neg (c4), z_nk (k := a) (by omega)]) <;> (try rfl))
  · skip
    refine z_ldc2 7 C dX7_profile_7 q475 ?_
    refine z_goto 10 C 22 dX7_profile_10 (by decide) ?_
    refine z_lret 22 C dX7_profile_22 ?_
    refine ⟨?_, ?_⟩
    · (rw [if_pos (c4)]) <;> (try rfl)
    · first | rfl | ((rw [if_pos (c4)]) <;> (try rfl))
theorem dX7_rotate_0 : decode cX7_rotate 0 = .ok (.iload_n 1, 1) := by decide +kernel
theorem dX7_rotate_1 : decode cX7_rotate 1 = .ok (.bipush (-23), 2) := by decide +kernel
theorem dX7_rotate_3 : decode cX7_rotate 3 = .ok (.bipush 23, 2) := by decide +kernel
theorem dX7_rotate_5 : decode cX7_rotate 5 = .ok (.invokestatic 77, 3) := by decide +kernel
theorem dX7_rotate_8 : decode cX7_rotate 8 = .ok (.ifCond .eq 6, 3) := by decide +kernel
theorem dX7_rotate_11 : decode cX7_rotate 11 = .ok (.ldc 68, 2) := by decide +kernel
theorem dX7_rotate_13 : decode cX7_rotate 13 = .ok (.ireturn, 1) := by decide +kernel
theorem dX7_rotate_14 : decode cX7_rotate 14 = .ok (.aload_n 0, 1) := by decide +kernel
theorem dX7_rotate_15 : decode cX7_rotate 15 = .ok (.getfield 28, 3) := by decide +kernel
theorem dX7_rotate_18 : decode cX7_rotate 18 = .ok (.invokevirtual 140, 3) := by decide +kernel
theorem dX7_rotate_21 : decode cX7_rotate 21 = .ok (.astore_n 2, 1) := by decide +kernel
theorem dX7_rotate_22 : decode cX7_rotate 22 = .ok (.iconst 0, 1) := by decide +kernel
theorem dX7_rotate_23 : decode cX7_rotate 23 = .ok (.istore_n 3, 1) := by decide +kernel
theorem dX7_rotate_24 : decode cX7_rotate 24 = .ok (.iload_n 3, 1) := by decide +kernel
theorem dX7_rotate_25 : decode cX7_rotate 25 = .ok (.bipush 24, 2) := by decide +kernel
theorem dX7_rotate_27 : decode cX7_rotate 27 = .ok (.if_icmp .ge 23, 3) := by decide +kernel
theorem dX7_rotate_30 : decode cX7_rotate 30 = .ok (.aload_n 0, 1) := by decide +kernel
theorem dX7_rotate_31 : decode cX7_rotate 31 = .ok (.getfield 59, 3) := by decide +kernel
theorem dX7_rotate_34 : decode cX7_rotate 34 = .ok (.iload_n 3, 1) := by decide +kernel
theorem dX7_rotate_35 : decode cX7_rotate 35 = .ok (.aload_n 2, 1) := by decide +kernel
theorem dX7_rotate_36 : decode cX7_rotate 36 = .ok (.iload_n 3, 1) := by decide +kernel
theorem dX7_rotate_37 : decode cX7_rotate 37 = .ok (.iload_n 1, 1) := by decide +kernel
theorem dX7_rotate_38 : decode cX7_rotate 38 = .ok (.isub, 1) := by decide +kernel
theorem dX7_rotate_39 : decode cX7_rotate 39 = .ok (.invokestatic 144, 3) := by decide +kernel
theorem dX7_rotate_42 : decode cX7_rotate 42 = .ok (.laload, 1) := by decide +kernel
theorem dX7_rotate_43 : decode cX7_rotate 43 = .ok (.lastore, 1) := by decide +kernel
theorem dX7_rotate_44 : decode cX7_rotate 44 = .ok (.iinc 3 1, 3) := by decide +kernel
theorem dX7_rotate_47 : decode cX7_rotate 47 = .ok (.goto (-23), 3) := by decide +kernel
theorem dX7_rotate_50 : decode cX7_rotate 50 = .ok (.aload_n 0, 1) := by decide +kernel
theorem dX7_rotate_51 : decode cX7_rotate 51 = .ok (.invokevirtual 137, 3) := by decide +kernel
theorem dX7_rotate_54 : decode cX7_rotate 54 = .ok (.ireturn, 1) := by decide +kernel
set_option maxRecDepth 100000 in
set_option maxHeartbeats 4000000 in
theorem m_X7_rotate {l : Launch} {G : z_Gl} {σ : z_St} (P n o u v w rc tl : Nat) (hI : z_inv σ P n o u v w rc tl) (x : Int32) : z_M l G yX7_rotate cX7_rotate 4 (some .int) (z_rm 3 82) [.ref (z_ad G 0), .int x] σ (z_p1 (.int (if x < (-23) ∨ nI 23 < x then (-1000001) else z_bo (¬ z_eq24 (σ.2 (10 + (o + u) % 21)) (z_fil (z_rot (σ.2 (10 + (o + u) % 21)) x) (σ.2 88) 24)))) (if x < (-23) ∨ nI 23 < x then σ else z_nx σ o u (z_fil (z_rot (σ.2 (10 + (o + u) % 21)) x) (σ.2 88) 24))) := by
  refine z_M.of (by decide) (Nat.le_of_ble_eq_true rfl) (fun p e s m below meth c C => ?_)
  refine z_sub [0, 1] (lv1 := [(0, .ref (z_ad G 0)), (1, .int x)]) rfl ?_
  have hI0 := hI
  obtain ⟨⟨hP, hn, ho, hu, hv, hw, hrc, htl⟩, hPs, hnP, ho21, huv, hw6, hrc8, htl2⟩ := hI0
  have h0 : 0 < P := by omega
  have h12 : P ≤ 12 := by omega
  have h288 : n ≤ 288 := by omega
  refine z_iload_n 0 C dX7_rotate_0 1 rfl ?_
  refine z_bipush 1 C dX7_rotate_1 (-23) rfl ?_
  refine z_bipush 3 C dX7_rotate_3 (nI 23) rfl ?_
  refine z_callS 5 C (As := [.int x, .int (-23), .int (nI 23)]) (rest := []) (m_X7_isOutside x (-23) (nI 23)) k_X7_isOutside q380 ⟨rfl, rfl⟩ ⟨Nat.le_of_ble_eq_true rfl, Nat.le_of_ble_eq_true rfl⟩ rfl (Nat.le_of_ble_eq_true rfl) ⟨Nat.le_of_ble_eq_true rfl, Nat.le_of_ble_eq_true rfl⟩ rfl dX7_rotate_5 (z_k1 ?_)
  refine z_if_eqb 8 C 14 dX7_rotate_8 (by decide) (fun c8 => ?_) (fun c8 => ?_)
  · skip
    refine z_aload_n 14 C dX7_rotate_14 0 rfl ?_
    refine z_getf 15 C 0 z_dX7 (⟨rfl, rfl⟩) 2 (by decide) q341 (.ref (z_ad G 8)) rfl dX7_rotate_15 ?_
    refine z_callVN 18 C 8 (⟨rfl, rfl⟩) rfl (As := []) (rest := []) (m_X1_present o u ho hu (by omega) (by omega)) k_X1_present (List.mem_of_getElem? (i := 28) rfl) ⟨rfl, rfl⟩ ⟨Nat.le_of_ble_eq_true rfl, Nat.le_of_ble_eq_true rfl⟩ rfl (Nat.le_of_ble_eq_true rfl) ⟨Nat.le_of_ble_eq_true rfl, Nat.le_of_ble_eq_true rfl⟩ rfl dX7_rotate_18 (z_k1 ?_)
    refine z_astore_n 21 C dX7_rotate_21 [(2, .ref (z_ad G (10 + (o + u) % 21))), (0, .ref (z_ad G 0)), (1, .int x)] (by decide) rfl ?_
    refine z_iconst 22 C dX7_rotate_22 (nI 0) rfl ?_
    refine z_istore_n 23 C dX7_rotate_23 [(3, .int (nI 0)), (2, .ref (z_ad G (10 + (o + u) % 21))), (0, .ref (z_ad G 0)), (1, .int x)] (by decide) rfl ?_
    refine z_sub [2, 3, 1, 0] (lv1 := [(0, .ref (z_ad G 0)), (1, .int x), (2, .ref (z_ad G (10 + (o + u) % 21))), (3, .int (nI 0))]) rfl ?_
    refine z_cv (lv1 := [(0, .ref (z_ad G 0)), (1, .int x), (2, .ref (z_ad G (10 + (o + u) % 21))), (3, .int (nI 0))]) (st1 := []) (σ1 := z_uL σ 88 (z_fil (z_rot (σ.2 (10 + (o + u) % 21)) x) (σ.2 88) 0)) rfl rfl (z_fil0L σ 88 _) ?_
    refine z_lp1 (fun (k : Nat) => k ≤ 24) (fun (k : Nat) => 24 - k) (fun (k : Nat) => [(0, .ref (z_ad G 0)), (1, .int x), (2, .ref (z_ad G (10 + (o + u) % 21))), (3, .int (nI k))]) (fun (k : Nat) => z_uL σ 88 (z_fil (z_rot (σ.2 (10 + (o + u) % 21)) x) (σ.2 88) k)) (fun k hi_24 ih_24 => ?_) 0 (by omega)
    try dsimp only
    refine z_iload_n 24 C dX7_rotate_24 3 rfl ?_
    refine z_bipush 25 C dX7_rotate_25 (nI 24) rfl ?_
    refine z_icmp_geN 27 C k 24 rfl rfl (by omega) (by omega) 50 dX7_rotate_27 (by decide) (fun c27 => ?_) (fun c27 => ?_)
    · skip
      have ek : k = 24 := by omega
      subst ek
      refine z_aload_n 50 C dX7_rotate_50 0 rfl ?_
      refine z_callV 51 C 0 (⟨rfl, rfl⟩) rfl (As := []) (rest := []) (@m_X7_makeNextPresent_F _ _ σ P n o u v w rc tl hI (z_fil (z_rot (σ.2 (10 + (o + u) % 21)) x) (σ.2 88) 24)) k_X7_makeNextPresent q538 ⟨rfl, rfl⟩ ⟨Nat.le_of_ble_eq_true rfl, Nat.le_of_ble_eq_true rfl⟩ rfl (Nat.le_of_ble_eq_true rfl) ⟨Nat.le_of_ble_eq_true rfl, Nat.le_of_ble_eq_true rfl⟩ rfl dX7_rotate_51 (z_k1 ?_)
      refine z_iret 54 C dX7_rotate_54 ?_
      refine ⟨?_, ?_⟩
      · (rw [if_neg (c8)]) <;> (try rfl)
      · first | rfl | ((rw [if_neg (c8)]) <;> (try rfl))
    · skip
      refine z_aload_n 30 C dX7_rotate_30 0 rfl ?_
      refine z_getf 31 C 0 z_dX7 (⟨rfl, rfl⟩) 7 (by decide) q346 (.ref (z_ad G 88)) rfl dX7_rotate_31 ?_
      refine z_iload_n 34 C dX7_rotate_34 3 rfl ?_
      refine z_aload_n 35 C dX7_rotate_35 2 rfl ?_
      refine z_iload_n 36 C dX7_rotate_36 3 rfl ?_
      refine z_iload_n 37 C dX7_rotate_37 1 rfl ?_
      refine z_isub 38 C dX7_rotate_38 ?_
      refine z_callS 39 C (As := [.int ((nI k) - x)]) (rest := [.ref (z_ad G (10 + (o + u) % 21)), .int (nI k), .ref (z_ad G 88)]) (m_X7_place (σ := z_uL σ 88 (z_fil (z_rot (σ.2 (10 + (o + u) % 21)) x) (σ.2 88) k)) ((nI k) - x)) k_X7_place q563 ⟨rfl, rfl⟩ ⟨Nat.le_of_ble_eq_true rfl, Nat.le_of_ble_eq_true rfl⟩ rfl (Nat.le_of_ble_eq_true rfl) ⟨Nat.le_of_ble_eq_true rfl, Nat.le_of_ble_eq_true rfl⟩ rfl dX7_rotate_39 (z_k1 ?_)
      refine z_laldN 42 C (10 + (o + u) % 21) (n := 24) (z_rgK _ (by omega)) (z_pm ((nI k) - x)) rfl (z_pm_lt _) (by decide) dX7_rotate_42 ?_
      refine z_cv (st1 := [.long (σ.2 (10 + (o + u) % 21) (z_pm ((nI k) - x))), .int (nI k), .ref (z_ad G 88)]) rfl (by rw [z_uL2n (z_c88 _)]) rfl ?_
      refine z_lastN 43 C 88 (n := 24) (⟨rfl, rfl⟩) k rfl (by omega) (by decide) dX7_rotate_43 ?_
      refine z_iincN 44 C 3 k [(3, .int (nI (k + 1))), (0, .ref (z_ad G 0)), (1, .int x), (2, .ref (z_ad G (10 + (o + u) % 21)))] rfl rfl (by decide) rfl dX7_rotate_44 ?_
      refine z_goto 47 C 24 dX7_rotate_47 (by decide) ?_
      refine z_sub [1, 2, 3, 0] (lv1 := [(0, .ref (z_ad G 0)), (1, .int x), (2, .ref (z_ad G (10 + (o + u) % 21))), (3, .int (nI (k + 1)))]) rfl ?_
      refine z_cv (lv1 := [(0, .ref (z_ad G 0)), (1, .int x), (2, .ref (z_ad G (10 + (o + u) % 21))), (3, .int (nI (k + 1)))]) (st1 := []) (σ1 := z_uL σ 88 (z_fil (z_rot (σ.2 (10 + (o + u) % 21)) x) (σ.2 88) (k + 1))) rfl rfl (z_filSL σ 88 k _ _ rfl) ?_
      exact ih_24 (k + 1) (by omega) (by omega)
  · skip
    refine z_ldc 11 C dX7_rotate_11 q371 ?_
    refine z_iret 13 C dX7_rotate_13 ?_
    refine ⟨?_, ?_⟩
    · (rw [if_pos (c8)]) <;> (try rfl)
    · first | rfl | ((rw [if_pos (c8)]) <;> (try rfl))
theorem dX7_removeEccentricity_0 : decode cX7_removeEccentricity 0 = .ok (.aload_n 0, 1) := by decide +kernel
theorem dX7_removeEccentricity_1 : decode cX7_removeEccentricity 1 = .ok (.getfield 28, 3) := by decide +kernel
theorem dX7_removeEccentricity_4 : decode cX7_removeEccentricity 4 = .ok (.invokevirtual 140, 3) := by decide +kernel
theorem dX7_removeEccentricity_7 : decode cX7_removeEccentricity 7 = .ok (.astore_n 1, 1) := by decide +kernel
theorem dX7_removeEccentricity_8 : decode cX7_removeEccentricity 8 = .ok (.aload_n 1, 1) := by decide +kernel
theorem dX7_removeEccentricity_9 : decode cX7_removeEccentricity 9 = .ok (.iconst 0, 1) := by decide +kernel
theorem dX7_removeEccentricity_10 : decode cX7_removeEccentricity 10 = .ok (.iconst 0, 1) := by decide +kernel
theorem dX7_removeEccentricity_11 : decode cX7_removeEccentricity 11 = .ok (.invokestatic 147, 3) := by decide +kernel
theorem dX7_removeEccentricity_14 : decode cX7_removeEccentricity 14 = .ok (.lstore_n 2, 1) := by decide +kernel
theorem dX7_removeEccentricity_15 : decode cX7_removeEccentricity 15 = .ok (.aload_n 1, 1) := by decide +kernel
theorem dX7_removeEccentricity_16 : decode cX7_removeEccentricity 16 = .ok (.iconst 1, 1) := by decide +kernel
theorem dX7_removeEccentricity_17 : decode cX7_removeEccentricity 17 = .ok (.iconst 0, 1) := by decide +kernel
theorem dX7_removeEccentricity_18 : decode cX7_removeEccentricity 18 = .ok (.invokestatic 147, 3) := by decide +kernel
theorem dX7_removeEccentricity_21 : decode cX7_removeEccentricity 21 = .ok (.lstore 4, 2) := by decide +kernel
theorem dX7_removeEccentricity_23 : decode cX7_removeEccentricity 23 = .ok (.aload_n 1, 1) := by decide +kernel
theorem dX7_removeEccentricity_24 : decode cX7_removeEccentricity 24 = .ok (.iconst 1, 1) := by decide +kernel
theorem dX7_removeEccentricity_25 : decode cX7_removeEccentricity 25 = .ok (.iconst 1, 1) := by decide +kernel
theorem dX7_removeEccentricity_26 : decode cX7_removeEccentricity 26 = .ok (.invokestatic 147, 3) := by decide +kernel
theorem dX7_removeEccentricity_29 : decode cX7_removeEccentricity 29 = .ok (.lstore 6, 2) := by decide +kernel
theorem dX7_removeEccentricity_31 : decode cX7_removeEccentricity 31 = .ok (.iconst 0, 1) := by decide +kernel
theorem dX7_removeEccentricity_32 : decode cX7_removeEccentricity 32 = .ok (.istore 8, 2) := by decide +kernel
theorem dX7_removeEccentricity_34 : decode cX7_removeEccentricity 34 = .ok (.iload 8, 2) := by decide +kernel
theorem dX7_removeEccentricity_36 : decode cX7_removeEccentricity 36 = .ok (.bipush 24, 2) := by decide +kernel
theorem dX7_removeEccentricity_38 : decode cX7_removeEccentricity 38 = .ok (.if_icmp .ge 32, 3) := by decide +kernel
theorem dX7_removeEccentricity_41 : decode cX7_removeEccentricity 41 = .ok (.aload_n 0, 1) := by decide +kernel
theorem dX7_removeEccentricity_42 : decode cX7_removeEccentricity 42 = .ok (.getfield 59, 3) := by decide +kernel
theorem dX7_removeEccentricity_45 : decode cX7_removeEccentricity 45 = .ok (.iload 8, 2) := by decide +kernel
theorem dX7_removeEccentricity_47 : decode cX7_removeEccentricity 47 = .ok (.aload_n 1, 1) := by decide +kernel
theorem dX7_removeEccentricity_48 : decode cX7_removeEccentricity 48 = .ok (.iload 8, 2) := by decide +kernel
theorem dX7_removeEccentricity_50 : decode cX7_removeEccentricity 50 = .ok (.laload, 1) := by decide +kernel
theorem dX7_removeEccentricity_51 : decode cX7_removeEccentricity 51 = .ok (.lload_n 2, 1) := by decide +kernel
theorem dX7_removeEccentricity_52 : decode cX7_removeEccentricity 52 = .ok (.lsub, 1) := by decide +kernel
theorem dX7_removeEccentricity_53 : decode cX7_removeEccentricity 53 = .ok (.lload 4, 2) := by decide +kernel
theorem dX7_removeEccentricity_55 : decode cX7_removeEccentricity 55 = .ok (.lload 6, 2) := by decide +kernel
theorem dX7_removeEccentricity_57 : decode cX7_removeEccentricity 57 = .ok (.iload 8, 2) := by decide +kernel
theorem dX7_removeEccentricity_59 : decode cX7_removeEccentricity 59 = .ok (.invokestatic 151, 3) := by decide +kernel
theorem dX7_removeEccentricity_62 : decode cX7_removeEccentricity 62 = .ok (.lsub, 1) := by decide +kernel
theorem dX7_removeEccentricity_63 : decode cX7_removeEccentricity 63 = .ok (.lastore, 1) := by decide +kernel
theorem dX7_removeEccentricity_64 : decode cX7_removeEccentricity 64 = .ok (.iinc 8 1, 3) := by decide +kernel
theorem dX7_removeEccentricity_67 : decode cX7_removeEccentricity 67 = .ok (.goto (-33), 3) := by decide +kernel
theorem dX7_removeEccentricity_70 : decode cX7_removeEccentricity 70 = .ok (.aload_n 0, 1) := by decide +kernel
theorem dX7_removeEccentricity_71 : decode cX7_removeEccentricity 71 = .ok (.invokevirtual 137, 3) := by decide +kernel
theorem dX7_removeEccentricity_74 : decode cX7_removeEccentricity 74 = .ok (.ireturn, 1) := by decide +kernel
set_option maxRecDepth 100000 in
set_option maxHeartbeats 4000000 in
theorem m_X7_removeEccentricity {l : Launch} {G : z_Gl} {σ : z_St} (P n o u v w rc tl : Nat) (hI : z_inv σ P n o u v w rc tl) : z_M l G yX7_removeEccentricity cX7_removeEccentricity 9 (some .int) (z_rm 3 82) [.ref (z_ad G 0)] σ (z_p1 (.int (z_bo (¬ z_eq24 (σ.2 (10 + (o + u) % 21)) (z_fil (z_rme (σ.2 (10 + (o + u) % 21))) (σ.2 88) 24)))) (z_nx σ o u (z_fil (z_rme (σ.2 (10 + (o + u) % 21))) (σ.2 88) 24))) := by
  refine z_M.of (by decide) (Nat.le_of_ble_eq_true rfl) (fun p e s m below meth c C => ?_)
  refine z_sub [0] (lv1 := [(0, .ref (z_ad G 0))]) rfl ?_
  have hI0 := hI
  obtain ⟨⟨hP, hn, ho, hu, hv, hw, hrc, htl⟩, hPs, hnP, ho21, huv, hw6, hrc8, htl2⟩ := hI0
  have h0 : 0 < P := by omega
  have h12 : P ≤ 12 := by omega
  have h288 : n ≤ 288 := by omega
  refine z_aload_n 0 C dX7_removeEccentricity_0 0 rfl ?_
  refine z_getf 1 C 0 z_dX7 (⟨rfl, rfl⟩) 2 (by decide) q341 (.ref (z_ad G 8)) rfl dX7_removeEccentricity_1 ?_
  refine z_callVN 4 C 8 (⟨rfl, rfl⟩) rfl (As := []) (rest := []) (m_X1_present o u ho hu (by omega) (by omega)) k_X1_present (List.mem_of_getElem? (i := 28) rfl) ⟨rfl, rfl⟩ ⟨Nat.le_of_ble_eq_true rfl, Nat.le_of_ble_eq_true rfl⟩ rfl (Nat.le_of_ble_eq_true rfl) ⟨Nat.le_of_ble_eq_true rfl, Nat.le_of_ble_eq_true rfl⟩ rfl dX7_removeEccentricity_4 (z_k1 ?_)
  refine z_astore_n 7 C dX7_removeEccentricity_7 [(1, .ref (z_ad G (10 + (o + u) % 21))), (0, .ref (z_ad G 0))] (by decide) rfl ?_
  refine z_aload_n 8 C dX7_removeEccentricity_8 0 rfl ?_
  refine z_iconst 9 C dX7_removeEccentricity_9 (nI 0) rfl ?_
  refine z_iconst 10 C dX7_removeEccentricity_10 (nI 0) rfl ?_
  refine z_callS 11 C (As := [.ref (z_ad G (10 + (o + u) % 21)), .int (nI 0), .int (nI 0)]) (rest := []) (m_X7_coefficient (10 + (o + u) % 21) 0 0 (z_rgK _ (by omega)) (by omega) (by omega)) k_X7_coefficient q568 ⟨rfl, rfl⟩ ⟨Nat.le_of_ble_eq_true rfl, Nat.le_of_ble_eq_true rfl⟩ rfl (Nat.le_of_ble_eq_true rfl) ⟨Nat.le_of_ble_eq_true rfl, Nat.le_of_ble_eq_true rfl⟩ rfl dX7_removeEccentricity_11 (z_k1 ?_)
  refine z_lstore_n 14 C dX7_removeEccentricity_14 [(2, .long (z_cf (σ.2 (10 + (o + u) % 21)) 0 0)), (1, .ref (z_ad G (10 + (o + u) % 21))), (0, .ref (z_ad G 0))] (by decide) rfl ?_
  refine z_aload_n 15 C dX7_removeEccentricity_15 1 rfl ?_
  refine z_iconst 16 C dX7_removeEccentricity_16 (nI 1) rfl ?_
  refine z_iconst 17 C dX7_removeEccentricity_17 (nI 0) rfl ?_
  refine z_callS 18 C (As := [.ref (z_ad G (10 + (o + u) % 21)), .int (nI 1), .int (nI 0)]) (rest := []) (m_X7_coefficient (10 + (o + u) % 21) 1 0 (z_rgK _ (by omega)) (by omega) (by omega)) k_X7_coefficient q568 ⟨rfl, rfl⟩ ⟨Nat.le_of_ble_eq_true rfl, Nat.le_of_ble_eq_true rfl⟩ rfl (Nat.le_of_ble_eq_true rfl) ⟨Nat.le_of_ble_eq_true rfl, Nat.le_of_ble_eq_true rfl⟩ rfl dX7_removeEccentricity_18 (z_k1 ?_)
  refine z_lstore 21 C dX7_removeEccentricity_21 [(4, .long (z_cf (σ.2 (10 + (o + u) % 21)) 0 1)), (2, .long (z_cf (σ.2 (10 + (o + u) % 21)) 0 0)), (1, .ref (z_ad G (10 + (o + u) % 21))), (0, .ref (z_ad G 0))] (by decide) rfl ?_
  refine z_aload_n 23 C dX7_removeEccentricity_23 2 rfl ?_
  refine z_iconst 24 C dX7_removeEccentricity_24 (nI 1) rfl ?_
  refine z_iconst 25 C dX7_removeEccentricity_25 (nI 1) rfl ?_
  refine z_callS 26 C (As := [.ref (z_ad G (10 + (o + u) % 21)), .int (nI 1), .int (nI 1)]) (rest := []) (m_X7_coefficient (10 + (o + u) % 21) 1 1 (z_rgK _ (by omega)) (by omega) (by omega)) k_X7_coefficient q568 ⟨rfl, rfl⟩ ⟨Nat.le_of_ble_eq_true rfl, Nat.le_of_ble_eq_true rfl⟩ rfl (Nat.le_of_ble_eq_true rfl) ⟨Nat.le_of_ble_eq_true rfl, Nat.le_of_ble_eq_true rfl⟩ rfl dX7_removeEccentricity_26 (z_k1 ?_)
  refine z_lstore 29 C dX7_removeEccentricity_29 [(6, .long (z_cf (σ.2 (10 + (o + u) % 21)) 1 1)), (4, .long (z_cf (σ.2 (10 + (o + u) % 21)) 0 1)), (2, .long (z_cf (σ.2 (10 + (o + u) % 21)) 0 0)), (1, .ref (z_ad G (10 + (o + u) % 21))), (0, .ref (z_ad G 0))] (by decide) rfl ?_
  refine z_iconst 31 C dX7_removeEccentricity_31 (nI 0) rfl ?_
  refine z_istore 32 C dX7_removeEccentricity_32 [(8, .int (nI 0)), (6, .long (z_cf (σ.2 (10 + (o + u) % 21)) 1 1)), (4, .long (z_cf (σ.2 (10 + (o + u) % 21)) 0 1)), (2, .long (z_cf (σ.2 (10 + (o + u) % 21)) 0 0)), (1, .ref (z_ad G (10 + (o + u) % 21))), (0, .ref (z_ad G 0))] (by decide) rfl ?_
  refine z_sub [5, 4, 3, 2, 1, 0] (lv1 := [(0, .ref (z_ad G 0)), (1, .ref (z_ad G (10 + (o + u) % 21))), (2, .long (z_cf (σ.2 (10 + (o + u) % 21)) 0 0)), (4, .long (z_cf (σ.2 (10 + (o + u) % 21)) 0 1)), (6, .long (z_cf (σ.2 (10 + (o + u) % 21)) 1 1)), (8, .int (nI 0))]) rfl ?_
  refine z_cv (lv1 := [(0, .ref (z_ad G 0)), (1, .ref (z_ad G (10 + (o + u) % 21))), (2, .long (z_cf (σ.2 (10 + (o + u) % 21)) 0 0)), (4, .long (z_cf (σ.2 (10 + (o + u) % 21)) 0 1)), (6, .long (z_cf (σ.2 (10 + (o + u) % 21)) 1 1)), (8, .int (nI 0))]) (st1 := []) (σ1 := z_uL σ 88 (z_fil (z_rme (σ.2 (10 + (o + u) % 21))) (σ.2 88) 0)) rfl rfl (z_fil0L σ 88 _) ?_
  refine z_lp1 (fun (k : Nat) => k ≤ 24) (fun (k : Nat) => 24 - k) (fun (k : Nat) => [(0, .ref (z_ad G 0)), (1, .ref (z_ad G (10 + (o + u) % 21))), (2, .long (z_cf (σ.2 (10 + (o + u) % 21)) 0 0)), (4, .long (z_cf (σ.2 (10 + (o + u) % 21)) 0 1)), (6, .long (z_cf (σ.2 (10 + (o + u) % 21)) 1 1)), (8, .int (nI k))]) (fun (k : Nat) => z_uL σ 88 (z_fil (z_rme (σ.2 (10 + (o + u) % 21))) (σ.2 88) k)) (fun k hi_34 ih_34 => ?_) 0 (by omega)
  try dsimp only
  refine z_iload 34 C dX7_removeEccentricity_34 5 rfl ?_
  refine z_bipush 36 C dX7_removeEccentricity_36 (nI 24) rfl ?_
  refine z_icmp_geN 38 C k 24 rfl rfl (by omega) (by omega) 70 dX7_removeEccentricity_38 (by decide) (fun c38 => ?_) (fun c38 => ?_)
  · skip
    have ek : k = 24 := by omega
    subst ek
    refine z_aload_n 70 C dX7_removeEccentricity_70 0 rfl ?_
    refine z_callV 71 C 0 (⟨rfl, rfl⟩) rfl (As := []) (rest := []) (@m_X7_makeNextPresent_F _ _ σ P n o u v w rc tl hI (z_fil (z_rme (σ.2 (10 + (o + u) % 21))) (σ.2 88) 24)) k_X7_makeNextPresent q538 ⟨rfl, rfl⟩ ⟨Nat.le_of_ble_eq_true rfl, Nat.le_of_ble_eq_true rfl⟩ rfl (Nat.le_of_ble_eq_true rfl) ⟨Nat.le_of_ble_eq_true rfl, Nat.le_of_ble_eq_true rfl⟩ rfl dX7_removeEccentricity_71 (z_k1 ?_)
    refine z_iret 74 C dX7_removeEccentricity_74 ?_
    refine ⟨?_, ?_⟩
    · (skip) <;> (try rfl)
    · first | rfl | ((skip) <;> (try rfl))
  · skip
    refine z_aload_n 41 C dX7_removeEccentricity_41 0 rfl ?_
    refine z_getf 42 C 0 z_dX7 (⟨rfl, rfl⟩) 7 (by decide) q346 (.ref (z_ad G 88)) rfl dX7_removeEccentricity_42 ?_
    refine z_iload 45 C dX7_removeEccentricity_45 5 rfl ?_
    refine z_aload_n 47 C dX7_removeEccentricity_47 1 rfl ?_
    refine z_iload 48 C dX7_removeEccentricity_48 5 rfl ?_
    refine z_laldN 50 C (10 + (o + u) % 21) (n := 24) (z_rgK _ (by omega)) k rfl (by omega) (by decide) dX7_removeEccentricity_50 ?_
    refine z_cv (st1 := [.long (σ.2 (10 + (o + u) % 21) k), .int (nI k), .ref (z_ad G 88)]) rfl (by rw [z_uL2n (z_c88 _)]) rfl ?_
    refine z_lload_n 51 C dX7_removeEccentricity_51 2 rfl ?_
    refine z_lsub 52 C dX7_removeEccentricity_52 ?_
    refine z_lload 53 C dX7_removeEccentricity_53 3 rfl ?_
    refine z_lload 55 C dX7_removeEccentricity_55 4 rfl ?_
    refine z_iload 57 C dX7_removeEccentricity_57 5 rfl ?_
    refine z_callS 59 C (As := [.long (z_cf (σ.2 (10 + (o + u) % 21)) 0 1), .long (z_cf (σ.2 (10 + (o + u) % 21)) 1 1), .int (nI k)]) (rest := [.long ((σ.2 (10 + (o + u) % 21) k) - (z_cf (σ.2 (10 + (o + u) % 21)) 0 0)), .int (nI k), .ref (z_ad G 88)]) (m_X7_wave_n (σ := z_uL σ 88 (z_fil (z_rme (σ.2 (10 + (o + u) % 21))) (σ.2 88) k)) (z_cf (σ.2 (10 + (o + u) % 21)) 0 1) (z_cf (σ.2 (10 + (o + u) % 21)) 1 1) k (by omega)) k_X7_wave q573 ⟨rfl, rfl⟩ ⟨Nat.le_of_ble_eq_true rfl, Nat.le_of_ble_eq_true rfl⟩ rfl (Nat.le_of_ble_eq_true rfl) ⟨Nat.le_of_ble_eq_true rfl, Nat.le_of_ble_eq_true rfl⟩ rfl dX7_removeEccentricity_59 (z_k1 ?_)
    refine z_lsub 62 C dX7_removeEccentricity_62 ?_
    refine z_lastN 63 C 88 (n := 24) (⟨rfl, rfl⟩) k rfl (by omega) (by decide) dX7_removeEccentricity_63 ?_
    refine z_iincN 64 C 5 k [(8, .int (nI (k + 1))), (0, .ref (z_ad G 0)), (1, .ref (z_ad G (10 + (o + u) % 21))), (2, .long (z_cf (σ.2 (10 + (o + u) % 21)) 0 0)), (4, .long (z_cf (σ.2 (10 + (o + u) % 21)) 0 1)), (6, .long (z_cf (σ.2 (10 + (o + u) % 21)) 1 1))] rfl rfl (by decide) rfl dX7_removeEccentricity_64 ?_
    refine z_goto 67 C 34 dX7_removeEccentricity_67 (by decide) ?_
    refine z_sub [1, 2, 3, 4, 5, 0] (lv1 := [(0, .ref (z_ad G 0)), (1, .ref (z_ad G (10 + (o + u) % 21))), (2, .long (z_cf (σ.2 (10 + (o + u) % 21)) 0 0)), (4, .long (z_cf (σ.2 (10 + (o + u) % 21)) 0 1)), (6, .long (z_cf (σ.2 (10 + (o + u) % 21)) 1 1)), (8, .int (nI (k + 1)))]) rfl ?_
    refine z_cv (lv1 := [(0, .ref (z_ad G 0)), (1, .ref (z_ad G (10 + (o + u) % 21))), (2, .long (z_cf (σ.2 (10 + (o + u) % 21)) 0 0)), (4, .long (z_cf (σ.2 (10 + (o + u) % 21)) 0 1)), (6, .long (z_cf (σ.2 (10 + (o + u) % 21)) 1 1)), (8, .int (nI (k + 1)))]) (st1 := []) (σ1 := z_uL σ 88 (z_fil (z_rme (σ.2 (10 + (o + u) % 21))) (σ.2 88) (k + 1))) rfl rfl (z_filSL σ 88 k _ _ rfl) ?_
    exact ih_34 (k + 1) (by omega) (by omega)
theorem dX7_keepLobes_0 : decode cX7_keepLobes 0 = .ok (.iload_n 1, 1) := by decide +kernel
theorem dX7_keepLobes_1 : decode cX7_keepLobes 1 = .ok (.iload_n 2, 1) := by decide +kernel
theorem dX7_keepLobes_2 : decode cX7_keepLobes 2 = .ok (.invokestatic 155, 3) := by decide +kernel
theorem dX7_keepLobes_5 : decode cX7_keepLobes 5 = .ok (.ifCond .eq 6, 3) := by decide +kernel
theorem dX7_keepLobes_8 : decode cX7_keepLobes 8 = .ok (.ldc 68, 2) := by decide +kernel
theorem dX7_keepLobes_10 : decode cX7_keepLobes 10 = .ok (.ireturn, 1) := by decide +kernel
theorem dX7_keepLobes_11 : decode cX7_keepLobes 11 = .ok (.aload_n 0, 1) := by decide +kernel
theorem dX7_keepLobes_12 : decode cX7_keepLobes 12 = .ok (.getfield 28, 3) := by decide +kernel
theorem dX7_keepLobes_15 : decode cX7_keepLobes 15 = .ok (.invokevirtual 140, 3) := by decide +kernel
theorem dX7_keepLobes_18 : decode cX7_keepLobes 18 = .ok (.iload_n 1, 1) := by decide +kernel
theorem dX7_keepLobes_19 : decode cX7_keepLobes 19 = .ok (.iload_n 2, 1) := by decide +kernel
theorem dX7_keepLobes_20 : decode cX7_keepLobes 20 = .ok (.aload_n 0, 1) := by decide +kernel
theorem dX7_keepLobes_21 : decode cX7_keepLobes 21 = .ok (.getfield 59, 3) := by decide +kernel
theorem dX7_keepLobes_24 : decode cX7_keepLobes 24 = .ok (.invokestatic 159, 3) := by decide +kernel
theorem dX7_keepLobes_27 : decode cX7_keepLobes 27 = .ok (.aload_n 0, 1) := by decide +kernel
theorem dX7_keepLobes_28 : decode cX7_keepLobes 28 = .ok (.invokevirtual 137, 3) := by decide +kernel
theorem dX7_keepLobes_31 : decode cX7_keepLobes 31 = .ok (.ireturn, 1) := by decide +kernel
set_option maxRecDepth 100000 in
set_option maxHeartbeats 4000000 in
theorem m_X7_keepLobes {l : Launch} {G : z_Gl} {σ : z_St} (P n o u v w rc tl : Nat) (hI : z_inv σ P n o u v w rc tl) (x : Int32) (y : Int32) : z_M l G yX7_keepLobes cX7_keepLobes 3 (some .int) (z_rm 4 97) [.ref (z_ad G 0), .int x, .int y] σ (z_p1 (.int (if x < 0 ∨ y < x ∨ nI 12 < y then (-1000001) else z_bo (¬ z_eq24 (σ.2 (10 + (o + u) % 21)) (z_fil (z_kl (σ.2 (10 + (o + u) % 21)) (z_n x) (z_n y + 1 - z_n x)) (σ.2 88) 24)))) (if x < 0 ∨ y < x ∨ nI 12 < y then σ else z_nx σ o u (z_fil (z_kl (σ.2 (10 + (o + u) % 21)) (z_n x) (z_n y + 1 - z_n x)) (σ.2 88) 24))) := by
  refine z_M.of (by decide) (Nat.le_of_ble_eq_true rfl) (fun p e s m below meth c C => ?_)
  refine z_sub [0, 1, 2] (lv1 := [(0, .ref (z_ad G 0)), (1, .int x), (2, .int y)]) rfl ?_
  have hI0 := hI
  obtain ⟨⟨hP, hn, ho, hu, hv, hw, hrc, htl⟩, hPs, hnP, ho21, huv, hw6, hrc8, htl2⟩ := hI0
  have h0 : 0 < P := by omega
  have h12 : P ≤ 12 := by omega
  have h288 : n ≤ 288 := by omega
  refine z_iload_n 0 C dX7_keepLobes_0 1 rfl ?_
  refine z_iload_n 1 C dX7_keepLobes_1 2 rfl ?_
  refine z_callS 2 C (As := [.int x, .int y]) (rest := []) (m_X7_isNoRange x y) k_X7_isNoRange q578 ⟨rfl, rfl⟩ ⟨Nat.le_of_ble_eq_true rfl, Nat.le_of_ble_eq_true rfl⟩ rfl (Nat.le_of_ble_eq_true rfl) ⟨Nat.le_of_ble_eq_true rfl, Nat.le_of_ble_eq_true rfl⟩ rfl dX7_keepLobes_2 (z_k1 ?_)
  refine z_if_eqb 5 C 11 dX7_keepLobes_5 (by decide) (fun c5 => ?_) (fun c5 => ?_)
  · skip
    obtain ⟨a, b, hab, hb, rfl, rfl⟩ := z_lob c5
    refine z_aload_n 11 C dX7_keepLobes_11 0 rfl ?_
    refine z_getf 12 C 0 z_dX7 (⟨rfl, rfl⟩) 2 (by decide) q341 (.ref (z_ad G 8)) rfl dX7_keepLobes_12 ?_
    refine z_callVN 15 C 8 (⟨rfl, rfl⟩) rfl (As := []) (rest := []) (m_X1_present o u ho hu (by omega) (by omega)) k_X1_present (List.mem_of_getElem? (i := 28) rfl) ⟨rfl, rfl⟩ ⟨Nat.le_of_ble_eq_true rfl, Nat.le_of_ble_eq_true rfl⟩ rfl (Nat.le_of_ble_eq_true rfl) ⟨Nat.le_of_ble_eq_true rfl, Nat.le_of_ble_eq_true rfl⟩ rfl dX7_keepLobes_15 (z_k1 ?_)
    refine z_iload_n 18 C dX7_keepLobes_18 1 rfl ?_
    refine z_iload_n 19 C dX7_keepLobes_19 2 rfl ?_
    refine z_aload_n 20 C dX7_keepLobes_20 0 rfl ?_
    refine z_getf 21 C 0 z_dX7 (⟨rfl, rfl⟩) 7 (by decide) q346 (.ref (z_ad G 88)) rfl dX7_keepLobes_21 ?_
    refine z_callS 24 C (As := [.ref (z_ad G (10 + (o + u) % 21)), .int (nI a), .int (nI b), .ref (z_ad G 88)]) (rest := []) (m_X7_copyLobes (10 + (o + u) % 21) a b 88 (z_rgK _ (by omega)) (⟨rfl, rfl⟩) (z_c88 _) (by omega) (by omega)) k_X7_copyLobes q581 ⟨rfl, rfl⟩ ⟨Nat.le_of_ble_eq_true rfl, Nat.le_of_ble_eq_true rfl⟩ rfl (Nat.le_of_ble_eq_true rfl) ⟨Nat.le_of_ble_eq_true rfl, Nat.le_of_ble_eq_true rfl⟩ rfl dX7_keepLobes_24 (z_k0 ?_)
    refine z_aload_n 27 C dX7_keepLobes_27 0 rfl ?_
    refine z_callV 28 C 0 (⟨rfl, rfl⟩) rfl (As := []) (rest := []) (@m_X7_makeNextPresent_F _ _ σ P n o u v w rc tl hI (z_fil (z_kl (σ.2 (10 + (o + u) % 21)) a (b + 1 - a)) (σ.2 88) 24)) k_X7_makeNextPresent q538 ⟨rfl, rfl⟩ ⟨Nat.le_of_ble_eq_true rfl, Nat.le_of_ble_eq_true rfl⟩ rfl (Nat.le_of_ble_eq_true rfl) ⟨Nat.le_of_ble_eq_true rfl, Nat.le_of_ble_eq_true rfl⟩ rfl dX7_keepLobes_28 (z_k1 ?_)
    refine z_iret 31 C dX7_keepLobes_31 ?_
    refine ⟨?_, ?_⟩
    · (rw [if_neg (c5), z_nk (k := a) (by omega), z_nk (k := b) (by omega)]) <;> (try rfl)
    · first | rfl | ((rw [if_neg (c5), z_nk (k := a) (by omega), z_nk (k := b) (by omega)]) <;> (try rfl))
  · skip
    refine z_ldc 8 C dX7_keepLobes_8 q371 ?_
    refine z_iret 10 C dX7_keepLobes_10 ?_
    refine ⟨?_, ?_⟩
    · (rw [if_pos (c5)]) <;> (try rfl)
    · first | rfl | ((rw [if_pos (c5)]) <;> (try rfl))
