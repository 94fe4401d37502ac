/-! TEXTS: what they do -/
theorem m_X4_parse_s {l : Launch} {G : z_Gl} {σ : z_St} (tl : Nat) (hL : σ.1 82 5 = nI tl) (h200 : tl ≤ 200) : z_M l G yX4_parse cX4_parse 2 (some .boolean) (z_rm 5 113) [.ref (z_ad G 82)] σ (fun w σ1 => (∃ (f : Nat) (a i b : Int32) (k1 k2 k3 k4 : Nat → Int32), zt_all (σ.1 83) tl (tl + 1) 0 = .inl f ∧ w = some (.int (nI 0)) ∧ σ1 = z_xU σ a i b (nI f) k1 k2 k3 k4) ∨ (∃ (its : List zt_It) (a b f : Int32) (k1 k2 k3 k4 : Nat → Int32), zt_all (σ.1 83) tl (tl + 1) 0 = .inr its ∧ zt_has k1 k2 k3 k4 its ∧ its.length ≤ 67 ∧ w = some (.int (nI 1)) ∧ σ1 = z_xU σ a (nI its.length) b f k1 k2 k3 k4)) := by
  have h := m_X4_parse (l := l) (G := G) (σ := σ) tl hL h200 (σ.1 82 6) (σ.1 82 7) (σ.1 82 8) (σ.1 82 9) (σ.1 84) (σ.1 85) (σ.1 86) (σ.1 87)
  rw [z_xU_self] at h
  exact h
def zt_t (k : Int32) : Nat := if k = nI 115 then 1 else 0
/-- what an item that was read is -/
def zt_val (x : zt_It) : Prop := (x.1 = nI 110 ∧ zt_ok x.2.1) ∨ (x.1 = nI 101 ∧ ¬ (x.2.1 < -5000 ∨ nI 5000 < x.2.1) ∧ ¬ (x.2.2.1 < -5000 ∨ nI 5000 < x.2.2.1)) ∨ ((x.1 = nI 112 ∨ x.1 = nI 115) ∧ ¬ (x.2.2.1 < -1000 ∨ nI 1000 < x.2.2.1) ∧ ∃ h f : Nat, h ≤ 12 ∧ f < 24 ∧ x.2.1 = nI h ∧ x.2.2.2 = nI f)
theorem zt_lobes_val {ch : Nat → Int32} {L c c1 : Nat} {k : Int32} {i : zt_It} (h : zt_lobes ch L k c = .inr (c1, i)) (hk : k = nI 112 ∨ k = nI 115) : zt_val i := by
  unfold zt_lobes at h
  split at h
  · exact absurd h (by simp)
  · rename_i a1 v1 h1
    obtain ⟨-, -, r1⟩ := zt_num_rng h1
    obtain ⟨n1, q1, rfl⟩ := z_in0 (by decide) r1
    split at h
    · split at h
      · exact absurd h (by simp)
      · rename_i a2 v2 h2
        obtain ⟨-, -, r2⟩ := zt_num_rng h2
        split at h
        · split at h
          · exact absurd h (by simp)
          · rename_i a3 v3 h3
            obtain ⟨-, -, r3⟩ := zt_num_rng h3
            obtain ⟨n3, q3, rfl⟩ := z_in0 (by decide) r3
            have e : i = (k, nI n1, v2, nI n3) := (congrArg Prod.snd (Sum.inr.inj h)).symm
            subst e
            exact Or.inr (Or.inr ⟨hk, r2, n1, n3, q1, by omega, rfl, rfl⟩)
        · have e : i = (k, nI n1, v2, nI 0) := (congrArg Prod.snd (Sum.inr.inj h)).symm
          subst e
          exact Or.inr (Or.inr ⟨hk, r2, n1, 0, q1, by omega, rfl, rfl⟩)
    · exact absurd h (by simp)
theorem zt_ecc_val {ch : Nat → Int32} {L c c1 : Nat} {i : zt_It} (h : zt_ecc ch L c = .inr (c1, i)) : zt_val i := by
  unfold zt_ecc at h
  split at h
  · exact absurd h (by simp)
  · rename_i a1 v1 h1
    obtain ⟨-, -, r1⟩ := zt_num_rng h1
    split at h
    · split at h
      · exact absurd h (by simp)
      · rename_i a2 v2 h2
        obtain ⟨-, -, r2⟩ := zt_num_rng h2
        have e : i = (nI 101, v1, v2, nI 0) := (congrArg Prod.snd (Sum.inr.inj h)).symm
        subst e
        exact Or.inr (Or.inl ⟨rfl, r1, r2⟩)
    · exact absurd h (by simp)
theorem zt_stp_val {ch : Nat → Int32} {L c c1 : Nat} {i : zt_It} (h : zt_stp ch L c = .inr (c1, i)) : zt_val i := by
  unfold zt_stp at h
  split at h
  · exact absurd h (by simp)
  · rename_i a1 v1 h1
    split at h
    · rename_i hk
      have e : i = (nI 110, v1, nI 0, nI 0) := (congrArg Prod.snd (Sum.inr.inj h)).symm
      subst e
      exact Or.inl ⟨rfl, hk⟩
    · exact absurd h (by simp)
theorem zt_item_val {ch : Nat → Int32} {L c c1 : Nat} {i : zt_It} (h : zt_item ch L c = .inr (c1, i)) : zt_val i := by
  unfold zt_item at h
  split at h
  · rename_i hk; exact zt_lobes_val h hk
  · split at h
    · exact zt_ecc_val h
    · split at h
      · exact zt_stp_val h
      · exact absurd h (by simp)
theorem zt_all_val {ch : Nat → Int32} {L : Nat} : ∀ {n c : Nat} {its : List zt_It}, zt_all ch L n c = .inr its → ∀ x ∈ its, zt_val x
  | 0, c, its, h => by rw [zt_all] at h; exact absurd h (by simp)
  | n + 1, c, its, h => by
    rw [zt_all] at h
    split at h
    · exact absurd h (by simp)
    · rename_i c1 i hi
      have hv := zt_item_val hi
      split at h
      · have e : its = [i] := (Sum.inr.inj h).symm
        subst e
        intro x hx
        rw [List.mem_singleton.mp hx]
        exact hv
      · split at h
        · split at h
          · exact absurd h (by simp)
          · rename_i r hr
            have e : its = i :: r := (Sum.inr.inj h).symm
            subst e
            intro x hx
            rcases List.mem_cons.mp hx with q | q
            · rw [q]; exact hv
            · exact zt_all_val hr x q
        · exact absurd h (by simp)
/-- an item obeyed -/
def z_ob (σ : z_St) (x : zt_It) : z_St :=
  if x.1 = nI 110 then z_ui (z_ui σ 1 3 x.2.1) 1 4 (nI 0)
  else if x.1 = nI 101 then z_ui (z_ui σ 5 2 x.2.1) 5 3 x.2.2.1
  else z_uI σ (6 + zt_t x.1) (z_fil (z_so (σ.1 (6 + zt_t x.1)) x.2.2.1 (z_n x.2.1) (z_n x.2.2.2)) (σ.1 (6 + zt_t x.1)) 24)
def zt_rst (σ : z_St) : z_St := z_ui (z_ui (z_uI (z_uI σ 6 (z_fil (fun _ => nI 0) (σ.1 6) 24)) 7 (z_fil (fun _ => nI 0) (σ.1 7) 24)) 5 2 (nI 0)) 5 3 (nI 0)
def z_obs (σ : z_St) (l : List zt_It) : z_St := l.foldl z_ob σ
theorem z_ob_n {σ : z_St} {k a b d : Int32} (h : k = nI 110) : z_ob σ (k, a, b, d) = z_ui (z_ui σ 1 3 a) 1 4 (nI 0) := if_pos h
theorem z_ob_e {σ : z_St} {k a b d : Int32} (h : k = nI 101) : z_ob σ (k, a, b, d) = z_ui (z_ui σ 5 2 a) 5 3 b := by
  have h1 : ¬ k = nI 110 := by rw [h]; decide
  exact (if_neg h1).trans (if_pos h)
theorem z_ob_l {σ : z_St} {k b : Int32} {h f t : Nat} (h1 : ¬ k = nI 110) (h2 : ¬ k = nI 101) (ht : zt_t k = t) (hh : h ≤ 12) (hf : f < 24) : z_ob σ (k, nI h, b, nI f) = z_uI σ (6 + t) (z_fil (z_so (σ.1 (6 + t)) b h f) (σ.1 (6 + t)) 24) := by
  have e : z_ob σ (k, nI h, b, nI f) = z_uI σ (6 + zt_t k) (z_fil (z_so (σ.1 (6 + zt_t k)) b (z_n (nI h)) (z_n (nI f))) (σ.1 (6 + zt_t k)) 24) := (if_neg h1).trans (if_neg h2)
  rw [e, ht, z_nk (by omega), z_nk (by omega)]
/-- cells that no item touches -/
theorem zt_t01 (k : Int32) : zt_t k = 0 ∨ zt_t k = 1 := by unfold zt_t; split <;> simp
theorem z_ob_fr (σ : z_St) (x : zt_It) : (∀ a, ¬ a = 1 → ¬ a = 5 → ¬ a = 6 → ¬ a = 7 → (z_ob σ x).1 a = σ.1 a) ∧ (z_ob σ x).2 = σ.2 := by
  unfold z_ob
  split
  · exact ⟨fun a h1 h5 h6 h7 => by simp [z_ui, h1], rfl⟩
  · split
    · exact ⟨fun a h1 h5 h6 h7 => by simp [z_ui, h5], rfl⟩
    · refine ⟨fun a h1 h5 h6 h7 => ?_, rfl⟩
      rcases zt_t01 x.1 with q | q <;> rw [q] <;> simp [z_uI, h6, h7]
theorem z_obs_fr (l : List zt_It) : ∀ σ : z_St, (∀ a, ¬ a = 1 → ¬ a = 5 → ¬ a = 6 → ¬ a = 7 → (z_obs σ l).1 a = σ.1 a) ∧ (z_obs σ l).2 = σ.2 := by
  induction l with
  | nil => exact fun σ => ⟨fun _ _ _ _ _ => rfl, rfl⟩
  | cons x l ih =>
    intro σ
    obtain ⟨h1, h2⟩ := ih (z_ob σ x)
    obtain ⟨g1, g2⟩ := z_ob_fr σ x
    exact ⟨fun a a1 a5 a6 a7 => (h1 a a1 a5 a6 a7).trans (g1 a a1 a5 a6 a7), h2.trans g2⟩
theorem z_obs_s {σ : z_St} {l : List zt_It} {i : Nat} {x : zt_It} (h : l[i]? = some x) : z_obs σ (l.take (i + 1)) = z_ob (z_obs σ (l.take i)) x := by
  unfold z_obs
  rw [List.take_add_one, h]
  simp [List.foldl_append]
theorem zt_rst_fr (σ : z_St) : (∀ a, ¬ a = 5 → ¬ a = 6 → ¬ a = 7 → (zt_rst σ).1 a = σ.1 a) ∧ (zt_rst σ).2 = σ.2 := ⟨fun a h5 h6 h7 => by simp [zt_rst, z_ui, z_uI, h5, h6, h7], rfl⟩
/-- all but the script's own cells -/
def z_sx (σ σ1 : z_St) : Prop := (∀ a, ¬ a = 82 → ¬ (84 ≤ a ∧ a ≤ 87) → σ1.1 a = σ.1 a) ∧ σ1.1 82 5 = σ.1 82 5 ∧ σ1.2 = σ.2
theorem z_sx_xU (σ : z_St) (cu it nu fa : Int32) (ak af as_ at_ : Nat → Int32) : z_sx σ (z_xU σ cu it nu fa ak af as_ at_) := by
  refine ⟨fun a h1 h2 => ?_, rfl, rfl⟩
  have a4 : ¬ a = 84 := by omega
  have a5 : ¬ a = 85 := by omega
  have a6 : ¬ a = 86 := by omega
  have a7 : ¬ a = 87 := by omega
  simp [z_xU, h1, a4, a5, a6, a7]
theorem z_sx.ob {σ τ : z_St} (h : z_sx σ τ) (x : zt_It) : z_sx (z_ob σ x) (z_ob τ x) := by
  obtain ⟨h1, h2, h3⟩ := h
  obtain ⟨g1, g2⟩ := z_ob_fr σ x
  obtain ⟨k1, k2⟩ := z_ob_fr τ x
  have e1 := h1 1 (by decide) (by decide)
  have e5 := h1 5 (by decide) (by decide)
  have e6 := h1 6 (by decide) (by decide)
  have e7 := h1 7 (by decide) (by decide)
  refine ⟨fun a a1 a2 => ?_, by rw [g1 82 (by decide) (by decide) (by decide) (by decide), k1 82 (by decide) (by decide) (by decide) (by decide)]; exact h2, by rw [g2, k2, h3]⟩
  unfold z_ob
  split
  · by_cases q : a = 1
    · subst q; simp [z_ui, e1]
    · simp [z_ui, q, h1 a a1 a2]
  · split
    · by_cases q : a = 5
      · subst q; simp [z_ui, e5]
      · simp [z_ui, q, h1 a a1 a2]
    · rcases zt_t01 x.1 with t | t
      · rw [t]
        by_cases q : a = 6
        · subst q; simp [z_uI, e6]
        · simp [z_uI, q, h1 a a1 a2]
      · rw [t]
        by_cases q : a = 7
        · subst q; simp [z_uI, e7]
        · simp [z_uI, q, h1 a a1 a2]
theorem z_sx.obs (l : List zt_It) : ∀ {σ τ : z_St}, z_sx σ τ → z_sx (z_obs σ l) (z_obs τ l) := by
  induction l with
  | nil => exact fun h => h
  | cons x l ih => exact fun h => ih (h.ob x)
theorem z_sx.rst {σ τ : z_St} (h : z_sx σ τ) : z_sx (zt_rst σ) (zt_rst τ) := by
  obtain ⟨h1, h2, h3⟩ := h
  have e5 := h1 5 (by decide) (by decide)
  have e6 := h1 6 (by decide) (by decide)
  have e7 := h1 7 (by decide) (by decide)
  refine ⟨fun a a1 a2 => ?_, h2, h3⟩
  by_cases q5 : a = 5
  · subst q5; simp [zt_rst, z_ui, z_uI, e5]
  · by_cases q6 : a = 6
    · subst q6; simp [zt_rst, z_ui, z_uI, e6]
    · by_cases q7 : a = 7
      · subst q7; simp [zt_rst, z_ui, z_uI, e7]
      · simp [zt_rst, z_ui, z_uI, q5, q6, q7, h1 a a1 a2]
theorem dX7_obey_0 : decode cX7_obey 0 = .ok (.aload_n 0, 1) := by decide +kernel
theorem dX7_obey_1 : decode cX7_obey 1 = .ok (.getfield 55, 3) := by decide +kernel
theorem dX7_obey_4 : decode cX7_obey 4 = .ok (.getfield 358, 3) := by decide +kernel
theorem dX7_obey_7 : decode cX7_obey 7 = .ok (.iload_n 1, 1) := by decide +kernel
theorem dX7_obey_8 : decode cX7_obey 8 = .ok (.iaload, 1) := by decide +kernel
theorem dX7_obey_9 : decode cX7_obey 9 = .ok (.istore_n 2, 1) := by decide +kernel
theorem dX7_obey_10 : decode cX7_obey 10 = .ok (.aload_n 0, 1) := by decide +kernel
theorem dX7_obey_11 : decode cX7_obey 11 = .ok (.getfield 55, 3) := by decide +kernel
theorem dX7_obey_14 : decode cX7_obey 14 = .ok (.getfield 359, 3) := by decide +kernel
theorem dX7_obey_17 : decode cX7_obey 17 = .ok (.iload_n 1, 1) := by decide +kernel
theorem dX7_obey_18 : decode cX7_obey 18 = .ok (.iaload, 1) := by decide +kernel
theorem dX7_obey_19 : decode cX7_obey 19 = .ok (.istore_n 3, 1) := by decide +kernel
theorem dX7_obey_20 : decode cX7_obey 20 = .ok (.aload_n 0, 1) := by decide +kernel
theorem dX7_obey_21 : decode cX7_obey 21 = .ok (.getfield 55, 3) := by decide +kernel
theorem dX7_obey_24 : decode cX7_obey 24 = .ok (.getfield 362, 3) := by decide +kernel
theorem dX7_obey_27 : decode cX7_obey 27 = .ok (.iload_n 1, 1) := by decide +kernel
theorem dX7_obey_28 : decode cX7_obey 28 = .ok (.iaload, 1) := by decide +kernel
theorem dX7_obey_29 : decode cX7_obey 29 = .ok (.lookupswitch 51 #[(101, 38), (110, 27)], 27) := by decide +kernel
theorem dX7_obey_56 : decode cX7_obey 56 = .ok (.aload_n 0, 1) := by decide +kernel
theorem dX7_obey_57 : decode cX7_obey 57 = .ok (.getfield 12, 3) := by decide +kernel
theorem dX7_obey_60 : decode cX7_obey 60 = .ok (.iload_n 2, 1) := by decide +kernel
theorem dX7_obey_61 : decode cX7_obey 61 = .ok (.invokevirtual 73, 3) := by decide +kernel
theorem dX7_obey_64 : decode cX7_obey 64 = .ok (.goto 54, 3) := by decide +kernel
theorem dX7_obey_67 : decode cX7_obey 67 = .ok (.aload_n 0, 1) := by decide +kernel
theorem dX7_obey_68 : decode cX7_obey 68 = .ok (.getfield 21, 3) := by decide +kernel
theorem dX7_obey_71 : decode cX7_obey 71 = .ok (.iload_n 2, 1) := by decide +kernel
theorem dX7_obey_72 : decode cX7_obey 72 = .ok (.iload_n 3, 1) := by decide +kernel
theorem dX7_obey_73 : decode cX7_obey 73 = .ok (.invokevirtual 328, 3) := by decide +kernel
theorem dX7_obey_76 : decode cX7_obey 76 = .ok (.pop, 1) := by decide +kernel
theorem dX7_obey_77 : decode cX7_obey 77 = .ok (.goto 41, 3) := by decide +kernel
theorem dX7_obey_80 : decode cX7_obey 80 = .ok (.aload_n 0, 1) := by decide +kernel
theorem dX7_obey_81 : decode cX7_obey 81 = .ok (.getfield 21, 3) := by decide +kernel
theorem dX7_obey_84 : decode cX7_obey 84 = .ok (.aload_n 0, 1) := by decide +kernel
theorem dX7_obey_85 : decode cX7_obey 85 = .ok (.getfield 55, 3) := by decide +kernel
theorem dX7_obey_88 : decode cX7_obey 88 = .ok (.getfield 362, 3) := by decide +kernel
theorem dX7_obey_91 : decode cX7_obey 91 = .ok (.iload_n 1, 1) := by decide +kernel
theorem dX7_obey_92 : decode cX7_obey 92 = .ok (.iaload, 1) := by decide +kernel
theorem dX7_obey_93 : decode cX7_obey 93 = .ok (.bipush 115, 2) := by decide +kernel
theorem dX7_obey_95 : decode cX7_obey 95 = .ok (.if_icmp .ne 7, 3) := by decide +kernel
theorem dX7_obey_98 : decode cX7_obey 98 = .ok (.iconst 1, 1) := by decide +kernel
theorem dX7_obey_99 : decode cX7_obey 99 = .ok (.goto 4, 3) := by decide +kernel
theorem dX7_obey_102 : decode cX7_obey 102 = .ok (.iconst 0, 1) := by decide +kernel
theorem dX7_obey_103 : decode cX7_obey 103 = .ok (.iload_n 2, 1) := by decide +kernel
theorem dX7_obey_104 : decode cX7_obey 104 = .ok (.iload_n 3, 1) := by decide +kernel
theorem dX7_obey_105 : decode cX7_obey 105 = .ok (.aload_n 0, 1) := by decide +kernel
theorem dX7_obey_106 : decode cX7_obey 106 = .ok (.getfield 55, 3) := by decide +kernel
theorem dX7_obey_109 : decode cX7_obey 109 = .ok (.getfield 365, 3) := by decide +kernel
theorem dX7_obey_112 : decode cX7_obey 112 = .ok (.iload_n 1, 1) := by decide +kernel
theorem dX7_obey_113 : decode cX7_obey 113 = .ok (.iaload, 1) := by decide +kernel
theorem dX7_obey_114 : decode cX7_obey 114 = .ok (.invokevirtual 324, 3) := by decide +kernel
theorem dX7_obey_117 : decode cX7_obey 117 = .ok (.pop, 1) := by decide +kernel
theorem dX7_obey_118 : decode cX7_obey 118 = .ok (.return_, 1) := by decide +kernel
set_option maxRecDepth 100000 in
set_option maxHeartbeats 4000000 in
theorem m_X7_obey {l : Launch} {G : z_Gl} {σ : z_St} (i : Nat) (hi : i < 67) (k1 fi se th : Int32) (h84 : σ.1 84 i = k1) (h85 : σ.1 85 i = fi) (h86 : σ.1 86 i = se) (h87 : σ.1 87 i = th) (hval : zt_val (k1, fi, se, th)) : z_M l G yX7_obey cX7_obey 4 none (z_rm 4 92) [.ref (z_ad G 0), .int (nI i)] σ (z_p0 (z_ob σ (k1, fi, se, th))) := by
  refine z_M.of (by decide) (Nat.le_of_ble_eq_true rfl) (fun p e s m below meth c C => ?_)
  refine z_sub [0, 1] (lv1 := [(0, .ref (z_ad G 0)), (1, .int (nI i))]) rfl ?_
  refine z_aload_n 0 C dX7_obey_0 0 rfl ?_
  refine z_getf 1 C 0 z_dX7 (⟨rfl, rfl⟩) 6 (by decide) q345 (.ref (z_ad G 82)) rfl dX7_obey_1 ?_
  refine z_getfN 4 C 82 z_dX4 (⟨rfl, rfl⟩) 2 (by decide) (List.mem_of_getElem? (i := 22) rfl) (.ref (z_ad G 85)) rfl dX7_obey_4 ?_
  refine z_iload_n 7 C dX7_obey_7 1 rfl ?_
  refine z_ialdN 8 C 85 (n := 67) (⟨rfl, rfl⟩) i rfl (by omega) (by decide) dX7_obey_8 ?_
  refine z_cv (lv1 := [(0, .ref (z_ad G 0)), (1, .int (nI i))]) (st1 := [.int fi]) (σ1 := σ) rfl (by rw [h85]) rfl ?_
  refine z_istore_n 9 C dX7_obey_9 [(2, .int fi), (0, .ref (z_ad G 0)), (1, .int (nI i))] (by decide) rfl ?_
  refine z_aload_n 10 C dX7_obey_10 1 rfl ?_
  refine z_getf 11 C 0 z_dX7 (⟨rfl, rfl⟩) 6 (by decide) q345 (.ref (z_ad G 82)) rfl dX7_obey_11 ?_
  refine z_getfN 14 C 82 z_dX4 (⟨rfl, rfl⟩) 3 (by decide) (List.mem_of_getElem? (i := 23) rfl) (.ref (z_ad G 86)) rfl dX7_obey_14 ?_
  refine z_iload_n 17 C dX7_obey_17 2 rfl ?_
  refine z_ialdN 18 C 86 (n := 67) (⟨rfl, rfl⟩) i rfl (by omega) (by decide) dX7_obey_18 ?_
  refine z_cv (lv1 := [(2, .int fi), (0, .ref (z_ad G 0)), (1, .int (nI i))]) (st1 := [.int se]) (σ1 := σ) rfl (by rw [h86]) rfl ?_
  refine z_istore_n 19 C dX7_obey_19 [(3, .int se), (2, .int fi), (0, .ref (z_ad G 0)), (1, .int (nI i))] (by decide) rfl ?_
  refine z_aload_n 20 C dX7_obey_20 2 rfl ?_
  refine z_getf 21 C 0 z_dX7 (⟨rfl, rfl⟩) 6 (by decide) q345 (.ref (z_ad G 82)) rfl dX7_obey_21 ?_
  refine z_getfN 24 C 82 z_dX4 (⟨rfl, rfl⟩) 1 (by decide) (List.mem_of_getElem? (i := 21) rfl) (.ref (z_ad G 84)) rfl dX7_obey_24 ?_
  refine z_iload_n 27 C dX7_obey_27 3 rfl ?_
  refine z_ialdN 28 C 84 (n := 67) (⟨rfl, rfl⟩) i rfl (by omega) (by decide) dX7_obey_28 ?_
  refine z_cv (lv1 := [(3, .int se), (2, .int fi), (0, .ref (z_ad G 0)), (1, .int (nI i))]) (st1 := [.int k1]) (σ1 := σ) rfl (by rw [h84]) rfl ?_
  by_cases e29_101 : k1 = (101 : Int32)
  · skip
    refine z_look 29 C 67 dX7_obey_29 (by decide) (off := 38) (by rw [e29_101]; rfl) (by decide) ?_
    refine z_aload_n 67 C dX7_obey_67 2 rfl ?_
    refine z_getf 68 C 0 z_dX7 (⟨rfl, rfl⟩) 1 (by decide) q340 (.ref (z_ad G 5)) rfl dX7_obey_68 ?_
    refine z_iload_n 71 C dX7_obey_71 1 rfl ?_
    refine z_iload_n 72 C dX7_obey_72 0 rfl ?_
    refine z_callVN 73 C 5 (⟨rfl, rfl⟩) rfl (As := [.int fi, .int se]) (rest := []) (m_X5_shiftTo fi se) k_X5_shiftTo (List.mem_of_getElem? (i := 59) rfl) ⟨rfl, rfl⟩ ⟨Nat.le_of_ble_eq_true rfl, Nat.le_of_ble_eq_true rfl⟩ rfl (Nat.le_of_ble_eq_true rfl) ⟨Nat.le_of_ble_eq_true rfl, Nat.le_of_ble_eq_true rfl⟩ rfl dX7_obey_73 (z_k1 ?_)
    refine z_pop 76 C dX7_obey_76 rfl ?_
    refine z_goto 77 C 118 dX7_obey_77 (by decide) ?_
    refine z_vret 118 C dX7_obey_118 ?_
    exact ⟨rfl, (z_ob_e e29_101).symm⟩
  by_cases e29_110 : k1 = (110 : Int32)
  · skip
    refine z_look 29 C 56 dX7_obey_29 (by decide) (off := 27) (by rw [e29_110]; rfl) (by decide) ?_
    refine z_aload_n 56 C dX7_obey_56 2 rfl ?_
    refine z_getf 57 C 0 z_dX7 (⟨rfl, rfl⟩) 0 (by decide) q339 (.ref (z_ad G 1)) rfl dX7_obey_57 ?_
    refine z_iload_n 60 C dX7_obey_60 1 rfl ?_
    refine z_callVN 61 C 1 (⟨rfl, rfl⟩) rfl (As := [.int fi]) (rest := []) (m_X2_begin fi) k_X2_begin (List.mem_of_getElem? (i := 8) rfl) ⟨rfl, rfl⟩ ⟨Nat.le_of_ble_eq_true rfl, Nat.le_of_ble_eq_true rfl⟩ rfl (Nat.le_of_ble_eq_true rfl) ⟨Nat.le_of_ble_eq_true rfl, Nat.le_of_ble_eq_true rfl⟩ rfl dX7_obey_61 (z_k0 ?_)
    refine z_goto 64 C 118 dX7_obey_64 (by decide) ?_
    refine z_vret 118 C dX7_obey_118 ?_
    exact ⟨rfl, (z_ob_n e29_110).symm⟩
  refine z_look 29 C 80 dX7_obey_29 (by decide) (off := 51) (by have a1 : ¬ k1.toInt = 101 := fun z => e29_101 ((fa_eq _ _).mpr (by rw [z]; rfl)); have a2 : ¬ k1.toInt = 110 := fun z => e29_110 ((fa_eq _ _).mpr (by rw [z]; rfl)); have b1 : ¬ 101 = k1.toInt := fun z => a1 z.symm; have b2 : ¬ 110 = k1.toInt := fun z => a2 z.symm; simp [lookupswitch.offset, a1, a2, b1, b2]) (by decide) ?_
  have h110 : ¬ k1 = nI 110 := e29_110
  have h101 : ¬ k1 = nI 101 := e29_101
  obtain ⟨hx, fx, hh12, hf24, rfl, rfl⟩ : ∃ h f : Nat, h ≤ 12 ∧ f < 24 ∧ fi = nI h ∧ th = nI f := by
    rcases hval with q | q | q
    · exact absurd q.1 h110
    · exact absurd q.1 h101
    · exact q.2.2
  refine z_aload_n 80 C dX7_obey_80 2 rfl ?_
  refine z_getf 81 C 0 z_dX7 (⟨rfl, rfl⟩) 1 (by decide) q340 (.ref (z_ad G 5)) rfl dX7_obey_81 ?_
  refine z_aload_n 84 C dX7_obey_84 2 rfl ?_
  refine z_getf 85 C 0 z_dX7 (⟨rfl, rfl⟩) 6 (by decide) q345 (.ref (z_ad G 82)) rfl dX7_obey_85 ?_
  refine z_getfN 88 C 82 z_dX4 (⟨rfl, rfl⟩) 1 (by decide) (List.mem_of_getElem? (i := 21) rfl) (.ref (z_ad G 84)) rfl dX7_obey_88 ?_
  refine z_iload_n 91 C dX7_obey_91 3 rfl ?_
  refine z_ialdN 92 C 84 (n := 67) (⟨rfl, rfl⟩) i rfl (by omega) (by decide) dX7_obey_92 ?_
  refine z_cv (lv1 := [(3, .int se), (2, .int (nI hx)), (0, .ref (z_ad G 0)), (1, .int (nI i))]) (st1 := [.int k1, .ref (z_ad G 5)]) (σ1 := σ) rfl (by rw [h84]) rfl ?_
  refine z_bipush 93 C dX7_obey_93 (nI 115) rfl ?_
  refine z_icmp_ne 95 C 102 dX7_obey_95 (by decide) (fun c95 => ?_) (fun c95 => ?_)
  · skip
    refine z_iconst 102 C dX7_obey_102 (nI 0) rfl ?_
    refine z_iload_n 103 C dX7_obey_103 1 rfl ?_
    refine z_iload_n 104 C dX7_obey_104 0 rfl ?_
    refine z_aload_n 105 C dX7_obey_105 2 rfl ?_
    refine z_getf 106 C 0 z_dX7 (⟨rfl, rfl⟩) 6 (by decide) q345 (.ref (z_ad G 82)) rfl dX7_obey_106 ?_
    refine z_getfN 109 C 82 z_dX4 (⟨rfl, rfl⟩) 4 (by decide) (List.mem_of_getElem? (i := 24) rfl) (.ref (z_ad G 87)) rfl dX7_obey_109 ?_
    refine z_iload_n 112 C dX7_obey_112 3 rfl ?_
    refine z_ialdN 113 C 87 (n := 67) (⟨rfl, rfl⟩) i rfl (by omega) (by decide) dX7_obey_113 ?_
    refine z_cv (lv1 := [(3, .int se), (2, .int (nI hx)), (0, .ref (z_ad G 0)), (1, .int (nI i))]) (st1 := [.int (nI fx), .int se, .int (nI hx), .int (nI 0), .ref (z_ad G 5)]) (σ1 := σ) rfl (by rw [h87]) rfl ?_
    refine z_callVN 114 C 5 (⟨rfl, rfl⟩) rfl (As := [.int (nI 0), .int (nI hx), .int se, .int (nI fx)]) (rest := []) (m_X5_superpose 0 hx fx se (by omega) (by omega) (by omega)) k_X5_superpose (List.mem_of_getElem? (i := 60) rfl) ⟨rfl, rfl⟩ ⟨Nat.le_of_ble_eq_true rfl, Nat.le_of_ble_eq_true rfl⟩ rfl (Nat.le_of_ble_eq_true rfl) ⟨Nat.le_of_ble_eq_true rfl, Nat.le_of_ble_eq_true rfl⟩ rfl dX7_obey_114 (z_k1 ?_)
    refine z_pop 117 C dX7_obey_117 rfl ?_
    refine z_vret 118 C dX7_obey_118 ?_
    exact ⟨rfl, (z_ob_l h110 h101 (if_neg c95) hh12 hf24).symm⟩
  · skip
    refine z_iconst 98 C dX7_obey_98 (nI 1) rfl ?_
    refine z_goto 99 C 103 dX7_obey_99 (by decide) ?_
    refine z_iload_n 103 C dX7_obey_103 1 rfl ?_
    refine z_iload_n 104 C dX7_obey_104 0 rfl ?_
    refine z_aload_n 105 C dX7_obey_105 2 rfl ?_
    refine z_getf 106 C 0 z_dX7 (⟨rfl, rfl⟩) 6 (by decide) q345 (.ref (z_ad G 82)) rfl dX7_obey_106 ?_
    refine z_getfN 109 C 82 z_dX4 (⟨rfl, rfl⟩) 4 (by decide) (List.mem_of_getElem? (i := 24) rfl) (.ref (z_ad G 87)) rfl dX7_obey_109 ?_
    refine z_iload_n 112 C dX7_obey_112 3 rfl ?_
    refine z_ialdN 113 C 87 (n := 67) (⟨rfl, rfl⟩) i rfl (by omega) (by decide) dX7_obey_113 ?_
    refine z_cv (lv1 := [(3, .int se), (2, .int (nI hx)), (0, .ref (z_ad G 0)), (1, .int (nI i))]) (st1 := [.int (nI fx), .int se, .int (nI hx), .int (nI 1), .ref (z_ad G 5)]) (σ1 := σ) rfl (by rw [h87]) rfl ?_
    refine z_callVN 114 C 5 (⟨rfl, rfl⟩) rfl (As := [.int (nI 1), .int (nI hx), .int se, .int (nI fx)]) (rest := []) (m_X5_superpose 1 hx fx se (by omega) (by omega) (by omega)) k_X5_superpose (List.mem_of_getElem? (i := 60) rfl) ⟨rfl, rfl⟩ ⟨Nat.le_of_ble_eq_true rfl, Nat.le_of_ble_eq_true rfl⟩ rfl (Nat.le_of_ble_eq_true rfl) ⟨Nat.le_of_ble_eq_true rfl, Nat.le_of_ble_eq_true rfl⟩ rfl dX7_obey_114 (z_k1 ?_)
    refine z_pop 117 C dX7_obey_117 rfl ?_
    refine z_vret 118 C dX7_obey_118 ?_
    exact ⟨rfl, (z_ob_l h110 h101 (if_pos c95) hh12 hf24).symm⟩
theorem dX7_readText_0 : decode cX7_readText 0 = .ok (.aload_n 0, 1) := by decide +kernel
theorem dX7_readText_1 : decode cX7_readText 1 = .ok (.getfield 55, 3) := by decide +kernel
theorem dX7_readText_4 : decode cX7_readText 4 = .ok (.invokevirtual 305, 3) := by decide +kernel
theorem dX7_readText_7 : decode cX7_readText 7 = .ok (.ifCond .ne 14, 3) := by decide +kernel
theorem dX7_readText_10 : decode cX7_readText 10 = .ok (.bipush (-100), 2) := by decide +kernel
theorem dX7_readText_12 : decode cX7_readText 12 = .ok (.aload_n 0, 1) := by decide +kernel
theorem dX7_readText_13 : decode cX7_readText 13 = .ok (.getfield 55, 3) := by decide +kernel
theorem dX7_readText_16 : decode cX7_readText 16 = .ok (.getfield 308, 3) := by decide +kernel
theorem dX7_readText_19 : decode cX7_readText 19 = .ok (.isub, 1) := by decide +kernel
theorem dX7_readText_20 : decode cX7_readText 20 = .ok (.ireturn, 1) := by decide +kernel
theorem dX7_readText_21 : decode cX7_readText 21 = .ok (.aload_n 0, 1) := by decide +kernel
theorem dX7_readText_22 : decode cX7_readText 22 = .ok (.getfield 21, 3) := by decide +kernel
theorem dX7_readText_25 : decode cX7_readText 25 = .ok (.invokevirtual 311, 3) := by decide +kernel
theorem dX7_readText_28 : decode cX7_readText 28 = .ok (.iconst 0, 1) := by decide +kernel
theorem dX7_readText_29 : decode cX7_readText 29 = .ok (.istore_n 1, 1) := by decide +kernel
theorem dX7_readText_30 : decode cX7_readText 30 = .ok (.iload_n 1, 1) := by decide +kernel
theorem dX7_readText_31 : decode cX7_readText 31 = .ok (.aload_n 0, 1) := by decide +kernel
theorem dX7_readText_32 : decode cX7_readText 32 = .ok (.getfield 55, 3) := by decide +kernel
theorem dX7_readText_35 : decode cX7_readText 35 = .ok (.getfield 314, 3) := by decide +kernel
theorem dX7_readText_38 : decode cX7_readText 38 = .ok (.if_icmp .ge 14, 3) := by decide +kernel
theorem dX7_readText_41 : decode cX7_readText 41 = .ok (.aload_n 0, 1) := by decide +kernel
theorem dX7_readText_42 : decode cX7_readText 42 = .ok (.iload_n 1, 1) := by decide +kernel
theorem dX7_readText_43 : decode cX7_readText 43 = .ok (.invokevirtual 317, 3) := by decide +kernel
theorem dX7_readText_46 : decode cX7_readText 46 = .ok (.iinc 1 1, 3) := by decide +kernel
theorem dX7_readText_49 : decode cX7_readText 49 = .ok (.goto (-19), 3) := by decide +kernel
theorem dX7_readText_52 : decode cX7_readText 52 = .ok (.aload_n 0, 1) := by decide +kernel
theorem dX7_readText_53 : decode cX7_readText 53 = .ok (.getfield 55, 3) := by decide +kernel
theorem dX7_readText_56 : decode cX7_readText 56 = .ok (.getfield 314, 3) := by decide +kernel
theorem dX7_readText_59 : decode cX7_readText 59 = .ok (.ireturn, 1) := by decide +kernel
set_option maxRecDepth 100000 in
set_option maxHeartbeats 4000000 in
theorem m_X7_readText {l : Launch} {G : z_Gl} {σ : z_St} (P n o u v w rc tl : Nat) (hI : z_inv σ P n o u v w rc tl) : z_M l G yX7_readText cX7_readText 2 (some .int) (z_rm 6 134) [.ref (z_ad G 0)] σ (fun w σ1 => (∃ f : Nat, zt_all (σ.1 83) tl (tl + 1) 0 = .inl f ∧ w = some (.int (-100 - nI f)) ∧ z_sx σ σ1) ∨ (∃ its : List zt_It, zt_all (σ.1 83) tl (tl + 1) 0 = .inr its ∧ w = some (.int (nI its.length)) ∧ z_sx (z_obs (zt_rst σ) its) σ1)) := by
  refine z_M.of (by decide) (Nat.le_of_ble_eq_true rfl) (fun p e s m below meth c C => ?_)
  refine z_sub [0] (lv1 := [(0, .ref (z_ad G 0))]) rfl ?_
  have hI0 := hI
  obtain ⟨⟨hP, hn, ho, hu, hv, hw, hrc, htl⟩, hPs, hnP, ho21, huv, hw6, hrc8, htl2⟩ := hI0
  have h0 : 0 < P := by omega
  have h12 : P ≤ 12 := by omega
  have h288 : n ≤ 288 := by omega
  refine z_aload_n 0 C dX7_readText_0 0 rfl ?_
  refine z_getf 1 C 0 z_dX7 (⟨rfl, rfl⟩) 6 (by decide) q345 (.ref (z_ad G 82)) rfl dX7_readText_1 ?_
  refine z_callVN 4 C 82 (⟨rfl, rfl⟩) rfl (As := []) (rest := []) (m_X4_parse_s tl htl htl2) k_X4_parse (List.mem_of_getElem? (i := 55) rfl) ⟨rfl, rfl⟩ ⟨Nat.le_of_ble_eq_true rfl, Nat.le_of_ble_eq_true rfl⟩ rfl (Nat.le_of_ble_eq_true rfl) ⟨Nat.le_of_ble_eq_true rfl, Nat.le_of_ble_eq_true rfl⟩ rfl dX7_readText_4 (fun v4 σ4 hv4 => ?_)
  rcases hv4 with ⟨f, xa, xi, xb, k1, k2, k3, k4, hall, rfl, rfl⟩ | ⟨its, xa, xb, xf, k1, k2, k3, k4, hall, hhas, hlen, rfl, rfl⟩
  · skip
    refine z_cv (st1 := [.int (nI 0)]) rfl rfl rfl ?_
    refine z_if_ne 7 C 21 dX7_readText_7 (by decide) (fun c7 => ?_) (fun c7 => ?_)
    · skip
      exact absurd rfl c7
    · skip
      refine z_bipush 10 C dX7_readText_10 (-100) rfl ?_
      refine z_aload_n 12 C dX7_readText_12 0 rfl ?_
      refine z_getf 13 C 0 z_dX7 (⟨rfl, rfl⟩) 6 (by decide) q345 (.ref (z_ad G 82)) rfl dX7_readText_13 ?_
      refine z_getfN 16 C 82 z_dX4 (⟨rfl, rfl⟩) 9 (by decide) (List.mem_of_getElem? (i := 27) rfl) (.int (nI f)) rfl dX7_readText_16 ?_
      refine z_isub 19 C dX7_readText_19 ?_
      refine z_iret 20 C dX7_readText_20 ?_
      exact Or.inl ⟨f, hall, rfl, z_sx_xU σ _ _ _ _ _ _ _ _⟩
  · skip
    refine z_cv (st1 := [.int (nI 1)]) rfl rfl rfl ?_
    refine z_if_ne 7 C 21 dX7_readText_7 (by decide) (fun c7 => ?_) (fun c7 => ?_)
    · skip
      refine z_aload_n 21 C dX7_readText_21 0 rfl ?_
      refine z_getf 22 C 0 z_dX7 (⟨rfl, rfl⟩) 1 (by decide) q340 (.ref (z_ad G 5)) rfl dX7_readText_22 ?_
      refine z_callVN 25 C 5 (⟨rfl, rfl⟩) rfl (As := []) (rest := []) (m_X5_reset (σ := z_xU σ xa (nI its.length) xb xf k1 k2 k3 k4)) k_X5_reset (List.mem_of_getElem? (i := 58) rfl) ⟨rfl, rfl⟩ ⟨Nat.le_of_ble_eq_true rfl, Nat.le_of_ble_eq_true rfl⟩ rfl (Nat.le_of_ble_eq_true rfl) ⟨Nat.le_of_ble_eq_true rfl, Nat.le_of_ble_eq_true rfl⟩ rfl dX7_readText_25 (z_k0 ?_)
      refine z_cv (lv1 := [(0, .ref (z_ad G 0))]) (st1 := []) (σ1 := zt_rst (z_xU σ xa (nI its.length) xb xf k1 k2 k3 k4)) rfl rfl rfl ?_
      refine z_iconst 28 C dX7_readText_28 (nI 0) rfl ?_
      refine z_istore_n 29 C dX7_readText_29 [(1, .int (nI 0)), (0, .ref (z_ad G 0))] (by decide) rfl ?_
      refine z_sub [1, 0] (lv1 := [(0, .ref (z_ad G 0)), (1, .int (nI 0))]) rfl ?_
      refine z_cv (lv1 := [(0, .ref (z_ad G 0)), (1, .int (nI 0))]) (st1 := []) (σ1 := z_obs (zt_rst (z_xU σ xa (nI its.length) xb xf k1 k2 k3 k4)) (its.take 0)) rfl rfl rfl ?_
      refine z_lp1 (fun (i : Nat) => i ≤ its.length) (fun (i : Nat) => its.length - i) (fun (i : Nat) => [(0, .ref (z_ad G 0)), (1, .int (nI i))]) (fun (i : Nat) => z_obs (zt_rst (z_xU σ xa (nI its.length) xb xf k1 k2 k3 k4)) (its.take i)) (fun i hi_30 ih_30 => ?_) 0 (by omega)
      try dsimp only
      have hits : (z_obs (zt_rst (z_xU σ xa (nI its.length) xb xf k1 k2 k3 k4)) (its.take i)).1 82 7 = nI its.length := by rw [(z_obs_fr (its.take i) (zt_rst (z_xU σ xa (nI its.length) xb xf k1 k2 k3 k4))).1 82 (by decide) (by decide) (by decide) (by decide)]; rfl
      refine z_iload_n 30 C dX7_readText_30 1 rfl ?_
      refine z_aload_n 31 C dX7_readText_31 0 rfl ?_
      refine z_getf 32 C 0 z_dX7 (⟨rfl, rfl⟩) 6 (by decide) q345 (.ref (z_ad G 82)) rfl dX7_readText_32 ?_
      refine z_getfN 35 C 82 z_dX4 (⟨rfl, rfl⟩) 7 (by decide) (List.mem_of_getElem? (i := 26) rfl) (.int (nI its.length)) (z_ci hits) dX7_readText_35 ?_
      refine z_icmp_geN 38 C i its.length rfl rfl (by omega) (by omega) 52 dX7_readText_38 (by decide) (fun c38 => ?_) (fun c38 => ?_)
      · skip
        have ei : i = its.length := by omega
        subst ei
        refine z_aload_n 52 C dX7_readText_52 0 rfl ?_
        refine z_getf 53 C 0 z_dX7 (⟨rfl, rfl⟩) 6 (by decide) q345 (.ref (z_ad G 82)) rfl dX7_readText_53 ?_
        refine z_getfN 56 C 82 z_dX4 (⟨rfl, rfl⟩) 7 (by decide) (List.mem_of_getElem? (i := 26) rfl) (.int (nI its.length)) (z_ci hits) dX7_readText_56 ?_
        refine z_iret 59 C dX7_readText_59 ?_
        rw [List.take_length]
        exact Or.inr ⟨its, hall, rfl, ((z_sx_xU σ _ _ _ _ _ _ _ _).rst).obs its⟩
      · skip
        obtain ⟨⟨k1_, fi_, se_, th_⟩, hx⟩ : ∃ x, its[i]? = some x := ⟨_, List.getElem?_eq_getElem c38⟩
        have hh := hhas i _ hx
        have hfr := fun a a1 a5 a6 a7 => ((z_obs_fr (its.take i) (zt_rst (z_xU σ xa (nI its.length) xb xf k1 k2 k3 k4))).1 a a1 a5 a6 a7).trans ((zt_rst_fr (z_xU σ xa (nI its.length) xb xf k1 k2 k3 k4)).1 a a5 a6 a7)
        have h84 : (z_obs (zt_rst (z_xU σ xa (nI its.length) xb xf k1 k2 k3 k4)) (its.take i)).1 84 i = k1_ := by rw [hfr 84 (by decide) (by decide) (by decide) (by decide)]; exact hh.1
        have h85 : (z_obs (zt_rst (z_xU σ xa (nI its.length) xb xf k1 k2 k3 k4)) (its.take i)).1 85 i = fi_ := by rw [hfr 85 (by decide) (by decide) (by decide) (by decide)]; exact hh.2.1
        have h86 : (z_obs (zt_rst (z_xU σ xa (nI its.length) xb xf k1 k2 k3 k4)) (its.take i)).1 86 i = se_ := by rw [hfr 86 (by decide) (by decide) (by decide) (by decide)]; exact hh.2.2.1
        have h87 : (z_obs (zt_rst (z_xU σ xa (nI its.length) xb xf k1 k2 k3 k4)) (its.take i)).1 87 i = th_ := by rw [hfr 87 (by decide) (by decide) (by decide) (by decide)]; exact hh.2.2.2
        have hval := zt_all_val hall _ (List.mem_of_getElem? hx)
        refine z_aload_n 41 C dX7_readText_41 0 rfl ?_
        refine z_iload_n 42 C dX7_readText_42 1 rfl ?_
        refine z_callV 43 C 0 (⟨rfl, rfl⟩) rfl (As := [.int (nI i)]) (rest := []) (m_X7_obey (σ := z_obs (zt_rst (z_xU σ xa (nI its.length) xb xf k1 k2 k3 k4)) (its.take i)) i (by omega) k1_ fi_ se_ th_ h84 h85 h86 h87 hval) k_X7_obey q929 ⟨rfl, rfl⟩ ⟨Nat.le_of_ble_eq_true rfl, Nat.le_of_ble_eq_true rfl⟩ rfl (Nat.le_of_ble_eq_true rfl) ⟨Nat.le_of_ble_eq_true rfl, Nat.le_of_ble_eq_true rfl⟩ rfl dX7_readText_43 (z_k0 ?_)
        refine z_iincN 46 C 1 i [(1, .int (nI (i + 1))), (0, .ref (z_ad G 0))] rfl rfl (by decide) rfl dX7_readText_46 ?_
        refine z_goto 49 C 30 dX7_readText_49 (by decide) ?_
        refine z_sub [1, 0] (lv1 := [(0, .ref (z_ad G 0)), (1, .int (nI (i + 1)))]) rfl ?_
        refine z_cv (lv1 := [(0, .ref (z_ad G 0)), (1, .int (nI (i + 1)))]) (st1 := []) (σ1 := z_obs (zt_rst (z_xU σ xa (nI its.length) xb xf k1 k2 k3 k4)) (its.take (i + 1))) rfl rfl (z_obs_s hx).symm ?_
        exact ih_30 (i + 1) (by omega) (by omega)
    · skip
      exact absurd c7 (by decide)
