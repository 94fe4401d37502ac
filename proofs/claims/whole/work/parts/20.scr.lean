/-! TEXTS: what a text says -/
/-- the character at c, -1 behind the end -/
def zt_at (ch : Nat → Int32) (L c : Nat) : Int32 := if c < L then ch c else -1
abbrev zt_dg (x : Int32) : Prop := ¬ (x < nI 48 ∨ nI 57 < x)
/-- how many digits stand from c on, n at most -/
def zt_nd (ch : Nat → Int32) (L : Nat) : Nat → Nat → Nat
  | 0, _ => 0
  | n + 1, c => if zt_dg (zt_at ch L c) then zt_nd ch L n (c + 1) + 1 else 0
/-- the number that n digits from c on are -/
def zt_nv (ch : Nat → Int32) (c : Nat) : Nat → Int32
  | 0 => nI 0
  | n + 1 => zt_nv ch c n * nI 10 + (ch (c + n) - nI 48)
def zt_c1 (ch : Nat → Int32) (L c : Nat) : Nat := if zt_at ch L c = nI 45 then c + 1 else c
def zt_vl (ch : Nat → Int32) (L c n : Nat) : Int32 := if zt_at ch L c = nI 45 then -zt_nv ch (zt_c1 ch L c) n else zt_nv ch (zt_c1 ch L c) n
/-- a number at c: the place of its fault, or the place behind it and its value -/
def zt_num (ch : Nat → Int32) (L : Nat) (lo hi : Int32) (c : Nat) : Nat ⊕ (Nat × Int32) :=
  if zt_nd ch L 5 (zt_c1 ch L c) = 0 then .inl (zt_c1 ch L c)
  else if zt_vl ch L c (zt_nd ch L 5 (zt_c1 ch L c)) < lo ∨ hi < zt_vl ch L c (zt_nd ch L 5 (zt_c1 ch L c)) then .inl c
  else .inr (zt_c1 ch L c + zt_nd ch L 5 (zt_c1 ch L c), zt_vl ch L c (zt_nd ch L 5 (zt_c1 ch L c)))
theorem zt_at_lt {ch : Nat → Int32} {L c : Nat} (h : c < L) : zt_at ch L c = ch c := if_pos h
theorem zt_lt {ch : Nat → Int32} {L c : Nat} {x : Int32} (h : zt_at ch L c = x) (hx : ¬ x = -1) : c < L := by
  rcases Nat.lt_or_ge c L with q | q
  · exact q
  · unfold zt_at at h
    rw [if_neg (Nat.not_lt.mpr q)] at h
    exact absurd h.symm hx
theorem zt_dg_lt {ch : Nat → Int32} {L c : Nat} (h : zt_dg (zt_at ch L c)) : c < L := by
  rcases Nat.lt_or_ge c L with q | q
  · exact q
  · unfold zt_at at h
    rw [if_neg (Nat.not_lt.mpr q)] at h
    exact absurd (Or.inl (by decide)) h
theorem zt_nd_eq {ch : Nat → Int32} {L : Nat} : ∀ {n j c : Nat}, (∀ i, i < j → zt_dg (zt_at ch L (c + i))) → j ≤ n → (j = n ∨ ¬ zt_dg (zt_at ch L (c + j))) → zt_nd ch L n c = j
  | 0, j, c, _, h2, _ => by
    have : j = 0 := by omega
    subst this; rfl
  | n + 1, 0, c, _, _, h3 => by
    have : ¬ zt_dg (zt_at ch L c) := by
      rcases h3 with q | q
      · omega
      · exact q
    rw [zt_nd, if_neg this]
  | n + 1, j + 1, c, h1, h2, h3 => by
    rw [zt_nd, if_pos (show zt_dg (zt_at ch L c) from h1 0 (Nat.succ_pos j))]
    rw [zt_nd_eq (n := n) (j := j) (c := c + 1) (fun i hi => by have := h1 (i + 1) (by omega); rw [show c + 1 + i = c + (i + 1) by omega]; exact this) (by omega) (by
      rcases h3 with q | q
      · exact Or.inl (by omega)
      · exact Or.inr (by rw [show c + 1 + j = c + (j + 1) by omega]; exact q))]
theorem zt_nd_rng {ch : Nat → Int32} {L : Nat} : ∀ (n c : Nat), zt_nd ch L n c = 0 ∨ c + zt_nd ch L n c ≤ L
  | 0, c => Or.inl rfl
  | n + 1, c => by
    rw [zt_nd]
    by_cases h : zt_dg (zt_at ch L c)
    · rw [if_pos h]
      have := zt_dg_lt h
      rcases zt_nd_rng n (c + 1) with q | q
      · rw [q]; right; omega
      · right; omega
    · rw [if_neg h]; exact Or.inl rfl
theorem zt_num_rng {ch : Nat → Int32} {L c c1 : Nat} {lo hi v : Int32} (h : zt_num ch L lo hi c = .inr (c1, v)) : c < c1 ∧ c1 ≤ L ∧ ¬ (v < lo ∨ hi < v) := by
  unfold zt_num at h
  by_cases h0 : zt_nd ch L 5 (zt_c1 ch L c) = 0
  · rw [if_pos h0] at h; exact absurd h (by simp)
  · rw [if_neg h0] at h
    by_cases h1 : zt_vl ch L c (zt_nd ch L 5 (zt_c1 ch L c)) < lo ∨ hi < zt_vl ch L c (zt_nd ch L 5 (zt_c1 ch L c))
    · rw [if_pos h1] at h; exact absurd h (by simp)
    · rw [if_neg h1] at h
      have e := Sum.inr.inj h
      have e1 : zt_c1 ch L c + zt_nd ch L 5 (zt_c1 ch L c) = c1 := congrArg Prod.fst e
      have e2 : zt_vl ch L c (zt_nd ch L 5 (zt_c1 ch L c)) = v := congrArg Prod.snd e
      have hc : c ≤ zt_c1 ch L c := by unfold zt_c1; split <;> omega
      rcases zt_nd_rng (ch := ch) (L := L) 5 (zt_c1 ch L c) with q | q
      · exact absurd q h0
      · exact ⟨by omega, by omega, by rw [← e2]; exact h1⟩
theorem zt_num_0 {ch : Nat → Int32} {L c c1 : Nat} {lo hi : Int32} (h1 : zt_c1 ch L c = c1) (h : ¬ zt_dg (zt_at ch L c1)) : zt_num ch L lo hi c = .inl c1 := by
  have e : zt_nd ch L 5 c1 = 0 := zt_nd_eq (j := 0) (fun i hi => absurd hi (Nat.not_lt_zero i)) (by omega) (Or.inr h)
  unfold zt_num
  rw [h1, e, if_pos rfl]
theorem zt_num_1 {ch : Nat → Int32} {L c c1 j : Nat} {lo hi v : Int32} (h1 : zt_c1 ch L c = c1) (hj : 0 < j) (h : zt_nd ch L 5 c1 = j) (hv : zt_vl ch L c j = v) (ho : v < lo ∨ hi < v) : zt_num ch L lo hi c = .inl c := by
  unfold zt_num
  rw [h1, h, hv, if_neg (by omega), if_pos ho]
theorem zt_num_2 {ch : Nat → Int32} {L c c1 j : Nat} {lo hi v : Int32} (h1 : zt_c1 ch L c = c1) (hj : 0 < j) (h : zt_nd ch L 5 c1 = j) (hv : zt_vl ch L c j = v) (ho : ¬ (v < lo ∨ hi < v)) : zt_num ch L lo hi c = .inr (c1 + j, v) := by
  unfold zt_num
  rw [h1, h, hv, if_neg (by omega), if_neg ho]
theorem zt_c1_p {ch : Nat → Int32} {L c : Nat} (h : zt_at ch L c = nI 45) : zt_c1 ch L c = c + 1 := if_pos h
theorem zt_c1_n {ch : Nat → Int32} {L c : Nat} (h : ¬ zt_at ch L c = nI 45) : zt_c1 ch L c = c := if_neg h
theorem zt_vl_p {ch : Nat → Int32} {L c j : Nat} (h : zt_at ch L c = nI 45) : zt_vl ch L c j = -zt_nv ch (c + 1) j := by unfold zt_vl; rw [if_pos h, zt_c1_p h]
theorem zt_vl_n {ch : Nat → Int32} {L c j : Nat} (h : ¬ zt_at ch L c = nI 45) : zt_vl ch L c j = zt_nv ch c j := by unfold zt_vl; rw [if_neg h, zt_c1_n h]
/-- an item: kind and three numbers -/
abbrev zt_It : Type := Int32 × Int32 × Int32 × Int32
def zt_lobes (ch : Nat → Int32) (L : Nat) (k : Int32) (c : Nat) : Nat ⊕ (Nat × zt_It) :=
  match zt_num ch L (nI 0) (nI 12) c with
  | .inl f => .inl f
  | .inr (c1, v1) => if zt_at ch L c1 = nI 97 then
      match zt_num ch L (-1000) (nI 1000) (c1 + 1) with
      | .inl f => .inl f
      | .inr (c2, v2) => if zt_at ch L c2 = nI 102 then
          match zt_num ch L (nI 0) (nI 23) (c2 + 1) with
          | .inl f => .inl f
          | .inr (c3, v3) => .inr (c3, k, v1, v2, v3)
        else .inr (c2, k, v1, v2, nI 0)
    else .inl c1
def zt_ecc (ch : Nat → Int32) (L : Nat) (c : Nat) : Nat ⊕ (Nat × zt_It) :=
  match zt_num ch L (-5000) (nI 5000) c with
  | .inl f => .inl f
  | .inr (c1, v1) => if zt_at ch L c1 = nI 44 then
      match zt_num ch L (-5000) (nI 5000) (c1 + 1) with
      | .inl f => .inl f
      | .inr (c2, v2) => .inr (c2, nI 101, v1, v2, nI 0)
    else .inl c1
abbrev zt_ok (x : Int32) : Prop := x = 2 ∨ x = 3 ∨ x = 4 ∨ x = 6 ∨ x = 8 ∨ x = 12
def zt_stp (ch : Nat → Int32) (L : Nat) (c : Nat) : Nat ⊕ (Nat × zt_It) :=
  match zt_num ch L (nI 0) (nI 12) c with
  | .inl f => .inl f
  | .inr (c1, v1) => if zt_ok v1 then .inr (c1, nI 110, v1, nI 0, nI 0) else .inl c
def zt_item (ch : Nat → Int32) (L : Nat) (c : Nat) : Nat ⊕ (Nat × zt_It) :=
  if zt_at ch L c = nI 112 ∨ zt_at ch L c = nI 115 then zt_lobes ch L (zt_at ch L c) (c + 1)
  else if zt_at ch L c = nI 101 then zt_ecc ch L (c + 1)
  else if zt_at ch L c = nI 110 then zt_stp ch L (c + 1)
  else .inl c
/-- all items from c on, n at most -/
def zt_all (ch : Nat → Int32) (L : Nat) : Nat → Nat → Nat ⊕ List zt_It
  | 0, _ => .inl L
  | n + 1, c => match zt_item ch L c with
    | .inl f => .inl f
    | .inr (c1, i) => if c1 = L then .inr [i] else if zt_at ch L c1 = nI 59 then
        match zt_all ch L n (c1 + 1) with
        | .inl f => .inl f
        | .inr r => .inr (i :: r)
      else .inl c1
def zt_app (pre : List zt_It) (r : Nat ⊕ List zt_It) : Nat ⊕ List zt_It := match r with
  | .inl f => .inl f
  | .inr x => .inr (pre ++ x)
/-! The script's cells, at once -/
def z_xU (σ : z_St) (cu it nu fa : Int32) (ak af as_ at_ : Nat → Int32) : z_St :=
  (fun a => if a = 82 then (fun k => if k = 6 then cu else if k = 7 then it else if k = 8 then nu else if k = 9 then fa else σ.1 82 k) else if a = 84 then ak else if a = 85 then af else if a = 86 then as_ else if a = 87 then at_ else σ.1 a, σ.2)
theorem z_xU_pcu {σ : z_St} {cu it nu fa : Int32} {ak af as_ at_ : Nat → Int32} {v : Int32} : z_ui (z_xU σ cu it nu fa ak af as_ at_) 82 6 v = z_xU σ v it nu fa ak af as_ at_ := by
  unfold z_ui z_xU
  refine Prod.ext ?_ rfl
  funext a
  by_cases h : a = 82
  · subst h
    funext k
    simp only [if_true, upd]
    by_cases h2 : k = 6
    · subst h2; simp
    · simp [h2]
  · simp [h]
theorem z_xU_pit {σ : z_St} {cu it nu fa : Int32} {ak af as_ at_ : Nat → Int32} {v : Int32} : z_ui (z_xU σ cu it nu fa ak af as_ at_) 82 7 v = z_xU σ cu v nu fa ak af as_ at_ := by
  unfold z_ui z_xU
  refine Prod.ext ?_ rfl
  funext a
  by_cases h : a = 82
  · subst h
    funext k
    simp only [if_true, upd]
    by_cases h2 : k = 7
    · subst h2; simp
    · simp [h2]
  · simp [h]
theorem z_xU_pnu {σ : z_St} {cu it nu fa : Int32} {ak af as_ at_ : Nat → Int32} {v : Int32} : z_ui (z_xU σ cu it nu fa ak af as_ at_) 82 8 v = z_xU σ cu it v fa ak af as_ at_ := by
  unfold z_ui z_xU
  refine Prod.ext ?_ rfl
  funext a
  by_cases h : a = 82
  · subst h
    funext k
    simp only [if_true, upd]
    by_cases h2 : k = 8
    · subst h2; simp
    · simp [h2]
  · simp [h]
theorem z_xU_pfa {σ : z_St} {cu it nu fa : Int32} {ak af as_ at_ : Nat → Int32} {v : Int32} : z_ui (z_xU σ cu it nu fa ak af as_ at_) 82 9 v = z_xU σ cu it nu v ak af as_ at_ := by
  unfold z_ui z_xU
  refine Prod.ext ?_ rfl
  funext a
  by_cases h : a = 82
  · subst h
    funext k
    simp only [if_true, upd]
    by_cases h2 : k = 9
    · subst h2; simp
    · simp [h2]
  · simp [h]
theorem z_xU_wak {σ : z_St} {cu it nu fa : Int32} {ak af as_ at_ : Nat → Int32} {j : Nat} {v : Int32} : z_ui (z_xU σ cu it nu fa ak af as_ at_) 84 j v = z_xU σ cu it nu fa (upd ak j v) af as_ at_ := by
  unfold z_ui z_xU
  refine Prod.ext ?_ rfl
  funext a
  by_cases h : a = 84
  · subst h; simp
  · simp [h]
theorem z_xU_waf {σ : z_St} {cu it nu fa : Int32} {ak af as_ at_ : Nat → Int32} {j : Nat} {v : Int32} : z_ui (z_xU σ cu it nu fa ak af as_ at_) 85 j v = z_xU σ cu it nu fa ak (upd af j v) as_ at_ := by
  unfold z_ui z_xU
  refine Prod.ext ?_ rfl
  funext a
  by_cases h : a = 85
  · subst h; simp
  · simp [h]
theorem z_xU_was_ {σ : z_St} {cu it nu fa : Int32} {ak af as_ at_ : Nat → Int32} {j : Nat} {v : Int32} : z_ui (z_xU σ cu it nu fa ak af as_ at_) 86 j v = z_xU σ cu it nu fa ak af (upd as_ j v) at_ := by
  unfold z_ui z_xU
  refine Prod.ext ?_ rfl
  funext a
  by_cases h : a = 86
  · subst h; simp
  · simp [h]
theorem z_xU_wat_ {σ : z_St} {cu it nu fa : Int32} {ak af as_ at_ : Nat → Int32} {j : Nat} {v : Int32} : z_ui (z_xU σ cu it nu fa ak af as_ at_) 87 j v = z_xU σ cu it nu fa ak af as_ (upd at_ j v) := by
  unfold z_ui z_xU
  refine Prod.ext ?_ rfl
  funext a
  by_cases h : a = 87
  · subst h; simp
  · simp [h]
theorem z_xU_self (σ : z_St) : z_xU σ (σ.1 82 6) (σ.1 82 7) (σ.1 82 8) (σ.1 82 9) (σ.1 84) (σ.1 85) (σ.1 86) (σ.1 87) = σ := by
  unfold z_xU
  refine Prod.ext ?_ rfl
  funext a
  by_cases h : a = 82
  · subst h
    funext k
    by_cases h6 : k = 6
    · subst h6; simp
    · by_cases h7 : k = 7
      · subst h7; simp
      · by_cases h8 : k = 8
        · subst h8; simp
        · by_cases h9 : k = 9
          · subst h9; simp
          · simp [h6, h7, h8, h9]
  · by_cases h4 : a = 84
    · subst h4; simp
    · by_cases h5 : a = 85
      · subst h5; simp
      · by_cases h6 : a = 86
        · subst h6; simp
        · by_cases h7 : a = 87
          · subst h7; simp
          · simp [h, h4, h5, h6, h7]
theorem dX4_current_0 : decode cX4_current 0 = .ok (.aload_n 0, 1) := by decide +kernel
theorem dX4_current_1 : decode cX4_current 1 = .ok (.getfield 32, 3) := by decide +kernel
theorem dX4_current_4 : decode cX4_current 4 = .ok (.aload_n 0, 1) := by decide +kernel
theorem dX4_current_5 : decode cX4_current 5 = .ok (.getfield 28, 3) := by decide +kernel
theorem dX4_current_8 : decode cX4_current 8 = .ok (.if_icmp .ge 15, 3) := by decide +kernel
theorem dX4_current_11 : decode cX4_current 11 = .ok (.aload_n 0, 1) := by decide +kernel
theorem dX4_current_12 : decode cX4_current 12 = .ok (.getfield 11, 3) := by decide +kernel
theorem dX4_current_15 : decode cX4_current 15 = .ok (.aload_n 0, 1) := by decide +kernel
theorem dX4_current_16 : decode cX4_current 16 = .ok (.getfield 32, 3) := by decide +kernel
theorem dX4_current_19 : decode cX4_current 19 = .ok (.caload, 1) := by decide +kernel
theorem dX4_current_20 : decode cX4_current 20 = .ok (.goto 4, 3) := by decide +kernel
theorem dX4_current_23 : decode cX4_current 23 = .ok (.iconst (-1), 1) := by decide +kernel
theorem dX4_current_24 : decode cX4_current 24 = .ok (.ireturn, 1) := by decide +kernel
set_option maxRecDepth 100000 in
set_option maxHeartbeats 4000000 in
theorem m_X4_current {l : Launch} {G : z_Gl} {σ : z_St} (tl : Nat) (hL : σ.1 82 5 = nI tl) (h200 : tl ≤ 200) (ps : Nat) (hps : ps ≤ tl) (it : Int32) (nu fa : Int32) (ak af as_ at_ : Nat → Int32) : z_M l G yX4_current cX4_current 1 (some .int) (z_rm 0 0) [.ref (z_ad G 82)] (z_xU σ (nI ps) it nu fa ak af as_ at_) (z_p1 (.int (zt_at (σ.1 83) tl ps)) (z_xU σ (nI ps) it nu fa ak af as_ at_)) := by
  refine z_M.of (by decide) (Nat.le_of_ble_eq_true rfl) (fun p e s m below meth c C => ?_)
  refine z_sub [0] (lv1 := [(0, .ref (z_ad G 82))]) rfl ?_
  refine z_aload_n 0 C dX4_current_0 0 rfl ?_
  refine z_getf 1 C 82 z_dX4 (⟨rfl, rfl⟩) 6 (by decide) q310 (.int (nI ps)) rfl dX4_current_1 ?_
  refine z_aload_n 4 C dX4_current_4 0 rfl ?_
  refine z_getf 5 C 82 z_dX4 (⟨rfl, rfl⟩) 5 (by decide) q308 (.int (nI tl)) (z_ci hL) dX4_current_5 ?_
  refine z_icmp_geN 8 C ps tl rfl rfl (by omega) (by omega) 23 dX4_current_8 (by decide) (fun c8 => ?_) (fun c8 => ?_)
  · skip
    refine z_iconst 23 C dX4_current_23 (-1) rfl ?_
    refine z_iret 24 C dX4_current_24 ?_
    exact ⟨z_ci (by unfold zt_at; first | rw [if_pos c8] | rw [if_neg (Nat.not_lt.mpr c8)]), rfl⟩
  · skip
    refine z_aload_n 11 C dX4_current_11 0 rfl ?_
    refine z_getf 12 C 82 z_dX4 (⟨rfl, rfl⟩) 0 (by decide) q299 (.ref (z_ad G 83)) rfl dX4_current_12 ?_
    refine z_aload_n 15 C dX4_current_15 0 rfl ?_
    refine z_getf 16 C 82 z_dX4 (⟨rfl, rfl⟩) 6 (by decide) q310 (.int (nI ps)) rfl dX4_current_16 ?_
    refine z_caldN 19 C 83 (n := 200) (⟨rfl, rfl⟩) ps rfl (by omega) (by decide) dX4_current_19 ?_
    refine z_cv (st1 := [.int (σ.1 83 ps)]) rfl rfl rfl ?_
    refine z_goto 20 C 24 dX4_current_20 (by decide) ?_
    refine z_iret 24 C dX4_current_24 ?_
    exact ⟨z_ci (by unfold zt_at; first | rw [if_pos c8] | rw [if_neg (Nat.not_lt.mpr c8)]), rfl⟩
theorem dX4_fail_0 : decode cX4_fail 0 = .ok (.aload_n 0, 1) := by decide +kernel
theorem dX4_fail_1 : decode cX4_fail 1 = .ok (.iload_n 1, 1) := by decide +kernel
theorem dX4_fail_2 : decode cX4_fail 2 = .ok (.putfield 41, 3) := by decide +kernel
theorem dX4_fail_5 : decode cX4_fail 5 = .ok (.iconst 0, 1) := by decide +kernel
theorem dX4_fail_6 : decode cX4_fail 6 = .ok (.ireturn, 1) := by decide +kernel
set_option maxRecDepth 100000 in
set_option maxHeartbeats 4000000 in
theorem m_X4_fail {l : Launch} {G : z_Gl} {σ : z_St} (tl : Nat) (hL : σ.1 82 5 = nI tl) (h200 : tl ≤ 200) (cu : Int32) (it : Int32) (nu fa : Int32) (ak af as_ at_ : Nat → Int32) (f : Int32) : z_M l G yX4_fail cX4_fail 2 (some .boolean) (z_rm 0 0) [.ref (z_ad G 82), .int f] (z_xU σ cu it nu fa ak af as_ at_) (z_p1 (.int (nI 0)) (z_xU σ cu it nu f ak af as_ at_)) := by
  refine z_M.of (by decide) (Nat.le_of_ble_eq_true rfl) (fun p e s m below meth c C => ?_)
  refine z_sub [0, 1] (lv1 := [(0, .ref (z_ad G 82)), (1, .int f)]) rfl ?_
  refine z_aload_n 0 C dX4_fail_0 0 rfl ?_
  refine z_iload_n 1 C dX4_fail_1 1 rfl ?_
  refine z_puti 2 C 82 z_dX4 (⟨rfl, rfl⟩) 9 (by decide) q314 rfl (rfl) rfl ⟨Nat.le_of_ble_eq_true rfl, rfl⟩ dX4_fail_2 ?_
  refine z_cv (σ1 := z_xU σ cu it nu f ak af as_ at_) rfl rfl z_xU_pfa ?_
  refine z_iconst 5 C dX4_fail_5 (nI 0) rfl ?_
  refine z_zret 6 C (rfl) dX4_fail_6 ?_
  exact ⟨rfl, rfl⟩
theorem dX4_isAtDigit_0 : decode cX4_isAtDigit 0 = .ok (.aload_n 0, 1) := by decide +kernel
theorem dX4_isAtDigit_1 : decode cX4_isAtDigit 1 = .ok (.invokevirtual 56, 3) := by decide +kernel
theorem dX4_isAtDigit_4 : decode cX4_isAtDigit 4 = .ok (.bipush 48, 2) := by decide +kernel
theorem dX4_isAtDigit_6 : decode cX4_isAtDigit 6 = .ok (.bipush 57, 2) := by decide +kernel
theorem dX4_isAtDigit_8 : decode cX4_isAtDigit 8 = .ok (.invokestatic 83, 3) := by decide +kernel
theorem dX4_isAtDigit_11 : decode cX4_isAtDigit 11 = .ok (.ifCond .ne 7, 3) := by decide +kernel
theorem dX4_isAtDigit_14 : decode cX4_isAtDigit 14 = .ok (.iconst 1, 1) := by decide +kernel
theorem dX4_isAtDigit_15 : decode cX4_isAtDigit 15 = .ok (.goto 4, 3) := by decide +kernel
theorem dX4_isAtDigit_18 : decode cX4_isAtDigit 18 = .ok (.iconst 0, 1) := by decide +kernel
theorem dX4_isAtDigit_19 : decode cX4_isAtDigit 19 = .ok (.ireturn, 1) := by decide +kernel
set_option maxRecDepth 100000 in
set_option maxHeartbeats 4000000 in
theorem m_X4_isAtDigit {l : Launch} {G : z_Gl} {σ : z_St} (tl : Nat) (hL : σ.1 82 5 = nI tl) (h200 : tl ≤ 200) (ps : Nat) (hps : ps ≤ tl) (it : Int32) (nu fa : Int32) (ak af as_ at_ : Nat → Int32) : z_M l G yX4_isAtDigit cX4_isAtDigit 1 (some .boolean) (z_rm 1 22) [.ref (z_ad G 82)] (z_xU σ (nI ps) it nu fa ak af as_ at_) (z_p1 (.int (z_bo (zt_dg (zt_at (σ.1 83) tl ps)))) (z_xU σ (nI ps) it nu fa ak af as_ at_)) := by
  refine z_M.of (by decide) (Nat.le_of_ble_eq_true rfl) (fun p e s m below meth c C => ?_)
  refine z_sub [0] (lv1 := [(0, .ref (z_ad G 82))]) rfl ?_
  refine z_aload_n 0 C dX4_isAtDigit_0 0 rfl ?_
  refine z_callV 1 C 82 (⟨rfl, rfl⟩) rfl (As := []) (rest := []) (@m_X4_current _ _ σ tl hL h200 ps (by omega) it nu fa ak af as_ at_ ) k_X4_current q883 ⟨rfl, rfl⟩ ⟨Nat.le_of_ble_eq_true rfl, Nat.le_of_ble_eq_true rfl⟩ rfl (Nat.le_of_ble_eq_true rfl) ⟨Nat.le_of_ble_eq_true rfl, Nat.le_of_ble_eq_true rfl⟩ rfl dX4_isAtDigit_1 (z_k1 ?_)
  refine z_bipush 4 C dX4_isAtDigit_4 (nI 48) rfl ?_
  refine z_bipush 6 C dX4_isAtDigit_6 (nI 57) rfl ?_
  refine z_callSN 8 C (As := [.int (zt_at (σ.1 83) tl ps), .int (nI 48), .int (nI 57)]) (rest := []) (m_X7_isOutside (σ := z_xU σ (nI ps) it nu fa ak af as_ at_) (zt_at (σ.1 83) tl ps) (nI 48) (nI 57)) k_X7_isOutside (List.mem_of_getElem? (i := 56) rfl) ⟨rfl, rfl⟩ ⟨Nat.le_of_ble_eq_true rfl, Nat.le_of_ble_eq_true rfl⟩ rfl (Nat.le_of_ble_eq_true rfl) ⟨Nat.le_of_ble_eq_true rfl, Nat.le_of_ble_eq_true rfl⟩ rfl dX4_isAtDigit_8 (z_k1 ?_)
  refine z_if_neb 11 C 18 dX4_isAtDigit_11 (by decide) (fun c11 => ?_) (fun c11 => ?_)
  · skip
    refine z_iconst 18 C dX4_isAtDigit_18 (nI 0) rfl ?_
    refine z_zret 19 C (rfl) dX4_isAtDigit_19 ?_
    first | exact ⟨z_ci (z_bo_f (fun z => z c11)), rfl⟩ | exact ⟨z_ci (z_bo_t c11), rfl⟩
  · skip
    refine z_iconst 14 C dX4_isAtDigit_14 (nI 1) rfl ?_
    refine z_goto 15 C 19 dX4_isAtDigit_15 (by decide) ?_
    refine z_zret 19 C (rfl) dX4_isAtDigit_19 ?_
    first | exact ⟨z_ci (z_bo_f (fun z => z c11)), rfl⟩ | exact ⟨z_ci (z_bo_t c11), rfl⟩
theorem dX4_note_0 : decode cX4_note 0 = .ok (.aload_n 0, 1) := by decide +kernel
theorem dX4_note_1 : decode cX4_note 1 = .ok (.getfield 35, 3) := by decide +kernel
theorem dX4_note_4 : decode cX4_note 4 = .ok (.bipush 67, 2) := by decide +kernel
theorem dX4_note_6 : decode cX4_note 6 = .ok (.if_icmp .ge 54, 3) := by decide +kernel
theorem dX4_note_9 : decode cX4_note 9 = .ok (.aload_n 0, 1) := by decide +kernel
theorem dX4_note_10 : decode cX4_note 10 = .ok (.getfield 15, 3) := by decide +kernel
theorem dX4_note_13 : decode cX4_note 13 = .ok (.aload_n 0, 1) := by decide +kernel
theorem dX4_note_14 : decode cX4_note 14 = .ok (.getfield 35, 3) := by decide +kernel
theorem dX4_note_17 : decode cX4_note 17 = .ok (.iload_n 1, 1) := by decide +kernel
theorem dX4_note_18 : decode cX4_note 18 = .ok (.iastore, 1) := by decide +kernel
theorem dX4_note_19 : decode cX4_note 19 = .ok (.aload_n 0, 1) := by decide +kernel
theorem dX4_note_20 : decode cX4_note 20 = .ok (.getfield 19, 3) := by decide +kernel
theorem dX4_note_23 : decode cX4_note 23 = .ok (.aload_n 0, 1) := by decide +kernel
theorem dX4_note_24 : decode cX4_note 24 = .ok (.getfield 35, 3) := by decide +kernel
theorem dX4_note_27 : decode cX4_note 27 = .ok (.iload_n 2, 1) := by decide +kernel
theorem dX4_note_28 : decode cX4_note 28 = .ok (.iastore, 1) := by decide +kernel
theorem dX4_note_29 : decode cX4_note 29 = .ok (.aload_n 0, 1) := by decide +kernel
theorem dX4_note_30 : decode cX4_note 30 = .ok (.getfield 22, 3) := by decide +kernel
theorem dX4_note_33 : decode cX4_note 33 = .ok (.aload_n 0, 1) := by decide +kernel
theorem dX4_note_34 : decode cX4_note 34 = .ok (.getfield 35, 3) := by decide +kernel
theorem dX4_note_37 : decode cX4_note 37 = .ok (.iload_n 3, 1) := by decide +kernel
theorem dX4_note_38 : decode cX4_note 38 = .ok (.iastore, 1) := by decide +kernel
theorem dX4_note_39 : decode cX4_note 39 = .ok (.aload_n 0, 1) := by decide +kernel
theorem dX4_note_40 : decode cX4_note 40 = .ok (.getfield 25, 3) := by decide +kernel
theorem dX4_note_43 : decode cX4_note 43 = .ok (.aload_n 0, 1) := by decide +kernel
theorem dX4_note_44 : decode cX4_note 44 = .ok (.getfield 35, 3) := by decide +kernel
theorem dX4_note_47 : decode cX4_note 47 = .ok (.iload 4, 2) := by decide +kernel
theorem dX4_note_49 : decode cX4_note 49 = .ok (.iastore, 1) := by decide +kernel
theorem dX4_note_50 : decode cX4_note 50 = .ok (.aload_n 0, 1) := by decide +kernel
theorem dX4_note_51 : decode cX4_note 51 = .ok (.dup, 1) := by decide +kernel
theorem dX4_note_52 : decode cX4_note 52 = .ok (.getfield 35, 3) := by decide +kernel
theorem dX4_note_55 : decode cX4_note 55 = .ok (.iconst 1, 1) := by decide +kernel
theorem dX4_note_56 : decode cX4_note 56 = .ok (.iadd, 1) := by decide +kernel
theorem dX4_note_57 : decode cX4_note 57 = .ok (.putfield 35, 3) := by decide +kernel
theorem dX4_note_60 : decode cX4_note 60 = .ok (.return_, 1) := by decide +kernel
set_option maxRecDepth 100000 in
set_option maxHeartbeats 4000000 in
theorem m_X4_note {l : Launch} {G : z_Gl} {σ : z_St} (tl : Nat) (hL : σ.1 82 5 = nI tl) (h200 : tl ≤ 200) (cu : Int32) (n : Nat) (hn : n < 67) (nu fa : Int32) (ak af as_ at_ : Nat → Int32) (kd : Int32) (fi : Int32) (se : Int32) (th : Int32) : z_M l G yX4_note cX4_note 5 none (z_rm 0 0) [.ref (z_ad G 82), .int kd, .int fi, .int se, .int th] (z_xU σ cu (nI n) nu fa ak af as_ at_) (z_p0 (z_xU σ cu (nI (n + 1)) nu fa (upd ak n kd) (upd af n fi) (upd as_ n se) (upd at_ n th))) := by
  refine z_M.of (by decide) (Nat.le_of_ble_eq_true rfl) (fun p e s m below meth c C => ?_)
  refine z_sub [0, 1, 2, 3, 4] (lv1 := [(0, .ref (z_ad G 82)), (1, .int kd), (2, .int fi), (3, .int se), (4, .int th)]) rfl ?_
  refine z_aload_n 0 C dX4_note_0 0 rfl ?_
  refine z_getf 1 C 82 z_dX4 (⟨rfl, rfl⟩) 7 (by decide) q311 (.int (nI n)) rfl dX4_note_1 ?_
  refine z_bipush 4 C dX4_note_4 (nI 67) rfl ?_
  refine z_icmp_geN 6 C n 67 rfl rfl (by omega) (by omega) 60 dX4_note_6 (by decide) (fun c6 => ?_) (fun c6 => ?_)
  · skip
    exact absurd c6 (by omega)
  · skip
    refine z_aload_n 9 C dX4_note_9 0 rfl ?_
    refine z_getf 10 C 82 z_dX4 (⟨rfl, rfl⟩) 1 (by decide) q300 (.ref (z_ad G 84)) rfl dX4_note_10 ?_
    refine z_aload_n 13 C dX4_note_13 0 rfl ?_
    refine z_getf 14 C 82 z_dX4 (⟨rfl, rfl⟩) 7 (by decide) q311 (.int (nI n)) rfl dX4_note_14 ?_
    refine z_iload_n 17 C dX4_note_17 1 rfl ?_
    refine z_iastN 18 C 84 (n := 67) (⟨rfl, rfl⟩) n rfl (by omega) (by decide) dX4_note_18 ?_
    refine z_cv (σ1 := z_xU σ cu (nI n) nu fa (upd ak n kd) af as_ at_) rfl rfl z_xU_wak ?_
    refine z_aload_n 19 C dX4_note_19 0 rfl ?_
    refine z_getf 20 C 82 z_dX4 (⟨rfl, rfl⟩) 2 (by decide) q302 (.ref (z_ad G 85)) rfl dX4_note_20 ?_
    refine z_aload_n 23 C dX4_note_23 0 rfl ?_
    refine z_getf 24 C 82 z_dX4 (⟨rfl, rfl⟩) 7 (by decide) q311 (.int (nI n)) rfl dX4_note_24 ?_
    refine z_iload_n 27 C dX4_note_27 2 rfl ?_
    refine z_iastN 28 C 85 (n := 67) (⟨rfl, rfl⟩) n rfl (by omega) (by decide) dX4_note_28 ?_
    refine z_cv (σ1 := z_xU σ cu (nI n) nu fa (upd ak n kd) (upd af n fi) as_ at_) rfl rfl z_xU_waf ?_
    refine z_aload_n 29 C dX4_note_29 0 rfl ?_
    refine z_getf 30 C 82 z_dX4 (⟨rfl, rfl⟩) 3 (by decide) q304 (.ref (z_ad G 86)) rfl dX4_note_30 ?_
    refine z_aload_n 33 C dX4_note_33 0 rfl ?_
    refine z_getf 34 C 82 z_dX4 (⟨rfl, rfl⟩) 7 (by decide) q311 (.int (nI n)) rfl dX4_note_34 ?_
    refine z_iload_n 37 C dX4_note_37 3 rfl ?_
    refine z_iastN 38 C 86 (n := 67) (⟨rfl, rfl⟩) n rfl (by omega) (by decide) dX4_note_38 ?_
    refine z_cv (σ1 := z_xU σ cu (nI n) nu fa (upd ak n kd) (upd af n fi) (upd as_ n se) at_) rfl rfl z_xU_was_ ?_
    refine z_aload_n 39 C dX4_note_39 0 rfl ?_
    refine z_getf 40 C 82 z_dX4 (⟨rfl, rfl⟩) 4 (by decide) q306 (.ref (z_ad G 87)) rfl dX4_note_40 ?_
    refine z_aload_n 43 C dX4_note_43 0 rfl ?_
    refine z_getf 44 C 82 z_dX4 (⟨rfl, rfl⟩) 7 (by decide) q311 (.int (nI n)) rfl dX4_note_44 ?_
    refine z_iload 47 C dX4_note_47 4 rfl ?_
    refine z_iastN 49 C 87 (n := 67) (⟨rfl, rfl⟩) n rfl (by omega) (by decide) dX4_note_49 ?_
    refine z_cv (σ1 := z_xU σ cu (nI n) nu fa (upd ak n kd) (upd af n fi) (upd as_ n se) (upd at_ n th)) rfl rfl z_xU_wat_ ?_
    refine z_aload_n 50 C dX4_note_50 0 rfl ?_
    refine z_dup 51 C dX4_note_51 rfl ?_
    refine z_getf 52 C 82 z_dX4 (⟨rfl, rfl⟩) 7 (by decide) q311 (.int (nI n)) rfl dX4_note_52 ?_
    refine z_iconst 55 C dX4_note_55 (nI 1) rfl ?_
    refine z_iaddN 56 C n 1 rfl rfl dX4_note_56 ?_
    refine z_puti 57 C 82 z_dX4 (⟨rfl, rfl⟩) 7 (by decide) q311 rfl (rfl) rfl ⟨Nat.le_of_ble_eq_true rfl, rfl⟩ dX4_note_57 ?_
    refine z_cv (σ1 := z_xU σ cu (nI (n + 1)) nu fa (upd ak n kd) (upd af n fi) (upd as_ n se) (upd at_ n th)) rfl rfl z_xU_pit ?_
    refine z_vret 60 C dX4_note_60 ?_
    exact ⟨rfl, rfl⟩
theorem dX4_take_0 : decode cX4_take 0 = .ok (.aload_n 0, 1) := by decide +kernel
theorem dX4_take_1 : decode cX4_take 1 = .ok (.invokevirtual 56, 3) := by decide +kernel
theorem dX4_take_4 : decode cX4_take 4 = .ok (.iload_n 1, 1) := by decide +kernel
theorem dX4_take_5 : decode cX4_take 5 = .ok (.if_icmp .eq 12, 3) := by decide +kernel
theorem dX4_take_8 : decode cX4_take 8 = .ok (.aload_n 0, 1) := by decide +kernel
theorem dX4_take_9 : decode cX4_take 9 = .ok (.aload_n 0, 1) := by decide +kernel
theorem dX4_take_10 : decode cX4_take 10 = .ok (.getfield 32, 3) := by decide +kernel
theorem dX4_take_13 : decode cX4_take 13 = .ok (.invokevirtual 52, 3) := by decide +kernel
theorem dX4_take_16 : decode cX4_take 16 = .ok (.ireturn, 1) := by decide +kernel
theorem dX4_take_17 : decode cX4_take 17 = .ok (.aload_n 0, 1) := by decide +kernel
theorem dX4_take_18 : decode cX4_take 18 = .ok (.dup, 1) := by decide +kernel
theorem dX4_take_19 : decode cX4_take 19 = .ok (.getfield 32, 3) := by decide +kernel
theorem dX4_take_22 : decode cX4_take 22 = .ok (.iconst 1, 1) := by decide +kernel
theorem dX4_take_23 : decode cX4_take 23 = .ok (.iadd, 1) := by decide +kernel
theorem dX4_take_24 : decode cX4_take 24 = .ok (.putfield 32, 3) := by decide +kernel
theorem dX4_take_27 : decode cX4_take 27 = .ok (.iconst 1, 1) := by decide +kernel
theorem dX4_take_28 : decode cX4_take 28 = .ok (.ireturn, 1) := by decide +kernel
set_option maxRecDepth 100000 in
set_option maxHeartbeats 4000000 in
theorem m_X4_take {l : Launch} {G : z_Gl} {σ : z_St} (tl : Nat) (hL : σ.1 82 5 = nI tl) (h200 : tl ≤ 200) (ps : Nat) (hps : ps ≤ tl) (it : Int32) (nu fa : Int32) (ak af as_ at_ : Nat → Int32) (wd : Int32) : z_M l G yX4_take cX4_take 2 (some .boolean) (z_rm 1 21) [.ref (z_ad G 82), .int wd] (z_xU σ (nI ps) it nu fa ak af as_ at_) (fun w σ1 => (¬ zt_at (σ.1 83) tl ps = wd ∧ w = some (.int (nI 0)) ∧ σ1 = z_xU σ (nI ps) it nu (nI ps) ak af as_ at_) ∨ (zt_at (σ.1 83) tl ps = wd ∧ w = some (.int (nI 1)) ∧ σ1 = z_xU σ (nI (ps + 1)) it nu fa ak af as_ at_)) := by
  refine z_M.of (by decide) (Nat.le_of_ble_eq_true rfl) (fun p e s m below meth c C => ?_)
  refine z_sub [0, 1] (lv1 := [(0, .ref (z_ad G 82)), (1, .int wd)]) rfl ?_
  refine z_aload_n 0 C dX4_take_0 0 rfl ?_
  refine z_callV 1 C 82 (⟨rfl, rfl⟩) rfl (As := []) (rest := []) (@m_X4_current _ _ σ tl hL h200 ps (by omega) it nu fa ak af as_ at_ ) k_X4_current q883 ⟨rfl, rfl⟩ ⟨Nat.le_of_ble_eq_true rfl, Nat.le_of_ble_eq_true rfl⟩ rfl (Nat.le_of_ble_eq_true rfl) ⟨Nat.le_of_ble_eq_true rfl, Nat.le_of_ble_eq_true rfl⟩ rfl dX4_take_1 (z_k1 ?_)
  refine z_iload_n 4 C dX4_take_4 1 rfl ?_
  refine z_icmp_eq 5 C 17 dX4_take_5 (by decide) (fun c5 => ?_) (fun c5 => ?_)
  · skip
    refine z_aload_n 17 C dX4_take_17 0 rfl ?_
    refine z_dup 18 C dX4_take_18 rfl ?_
    refine z_getf 19 C 82 z_dX4 (⟨rfl, rfl⟩) 6 (by decide) q310 (.int (nI ps)) rfl dX4_take_19 ?_
    refine z_iconst 22 C dX4_take_22 (nI 1) rfl ?_
    refine z_iaddN 23 C ps 1 rfl rfl dX4_take_23 ?_
    refine z_puti 24 C 82 z_dX4 (⟨rfl, rfl⟩) 6 (by decide) q310 rfl (rfl) rfl ⟨Nat.le_of_ble_eq_true rfl, rfl⟩ dX4_take_24 ?_
    refine z_cv (σ1 := z_xU σ (nI (ps + 1)) it nu fa ak af as_ at_) rfl rfl z_xU_pcu ?_
    refine z_iconst 27 C dX4_take_27 (nI 1) rfl ?_
    refine z_zret 28 C (rfl) dX4_take_28 ?_
    exact Or.inr ⟨c5, rfl, rfl⟩
  · skip
    refine z_aload_n 8 C dX4_take_8 0 rfl ?_
    refine z_aload_n 9 C dX4_take_9 0 rfl ?_
    refine z_getf 10 C 82 z_dX4 (⟨rfl, rfl⟩) 6 (by decide) q310 (.int (nI ps)) rfl dX4_take_10 ?_
    refine z_callV 13 C 82 (⟨rfl, rfl⟩) rfl (As := [.int (nI ps)]) (rest := []) (@m_X4_fail _ _ σ tl hL h200 (nI ps) it nu fa ak af as_ at_ (nI ps)) k_X4_fail q900 ⟨rfl, rfl⟩ ⟨Nat.le_of_ble_eq_true rfl, Nat.le_of_ble_eq_true rfl⟩ rfl (Nat.le_of_ble_eq_true rfl) ⟨Nat.le_of_ble_eq_true rfl, Nat.le_of_ble_eq_true rfl⟩ rfl dX4_take_13 (z_k1 ?_)
    refine z_zret 16 C (rfl) dX4_take_16 ?_
    exact Or.inl ⟨c5, rfl, rfl⟩
theorem dX4_takeNumber_0 : decode cX4_takeNumber 0 = .ok (.aload_n 0, 1) := by decide +kernel
theorem dX4_takeNumber_1 : decode cX4_takeNumber 1 = .ok (.getfield 32, 3) := by decide +kernel
theorem dX4_takeNumber_4 : decode cX4_takeNumber 4 = .ok (.istore_n 3, 1) := by decide +kernel
theorem dX4_takeNumber_5 : decode cX4_takeNumber 5 = .ok (.aload_n 0, 1) := by decide +kernel
theorem dX4_takeNumber_6 : decode cX4_takeNumber 6 = .ok (.invokevirtual 56, 3) := by decide +kernel
theorem dX4_takeNumber_9 : decode cX4_takeNumber 9 = .ok (.bipush 45, 2) := by decide +kernel
theorem dX4_takeNumber_11 : decode cX4_takeNumber 11 = .ok (.if_icmp .ne 7, 3) := by decide +kernel
theorem dX4_takeNumber_14 : decode cX4_takeNumber 14 = .ok (.iconst 1, 1) := by decide +kernel
theorem dX4_takeNumber_15 : decode cX4_takeNumber 15 = .ok (.goto 4, 3) := by decide +kernel
theorem dX4_takeNumber_18 : decode cX4_takeNumber 18 = .ok (.iconst 0, 1) := by decide +kernel
theorem dX4_takeNumber_19 : decode cX4_takeNumber 19 = .ok (.istore 4, 2) := by decide +kernel
theorem dX4_takeNumber_21 : decode cX4_takeNumber 21 = .ok (.iload 4, 2) := by decide +kernel
theorem dX4_takeNumber_23 : decode cX4_takeNumber 23 = .ok (.ifCond .eq 13, 3) := by decide +kernel
theorem dX4_takeNumber_26 : decode cX4_takeNumber 26 = .ok (.aload_n 0, 1) := by decide +kernel
theorem dX4_takeNumber_27 : decode cX4_takeNumber 27 = .ok (.dup, 1) := by decide +kernel
theorem dX4_takeNumber_28 : decode cX4_takeNumber 28 = .ok (.getfield 32, 3) := by decide +kernel
theorem dX4_takeNumber_31 : decode cX4_takeNumber 31 = .ok (.iconst 1, 1) := by decide +kernel
theorem dX4_takeNumber_32 : decode cX4_takeNumber 32 = .ok (.iadd, 1) := by decide +kernel
theorem dX4_takeNumber_33 : decode cX4_takeNumber 33 = .ok (.putfield 32, 3) := by decide +kernel
theorem dX4_takeNumber_36 : decode cX4_takeNumber 36 = .ok (.aload_n 0, 1) := by decide +kernel
theorem dX4_takeNumber_37 : decode cX4_takeNumber 37 = .ok (.invokevirtual 80, 3) := by decide +kernel
theorem dX4_takeNumber_40 : decode cX4_takeNumber 40 = .ok (.ifCond .ne 12, 3) := by decide +kernel
theorem dX4_takeNumber_43 : decode cX4_takeNumber 43 = .ok (.aload_n 0, 1) := by decide +kernel
theorem dX4_takeNumber_44 : decode cX4_takeNumber 44 = .ok (.aload_n 0, 1) := by decide +kernel
theorem dX4_takeNumber_45 : decode cX4_takeNumber 45 = .ok (.getfield 32, 3) := by decide +kernel
theorem dX4_takeNumber_48 : decode cX4_takeNumber 48 = .ok (.invokevirtual 52, 3) := by decide +kernel
theorem dX4_takeNumber_51 : decode cX4_takeNumber 51 = .ok (.ireturn, 1) := by decide +kernel
theorem dX4_takeNumber_52 : decode cX4_takeNumber 52 = .ok (.iconst 0, 1) := by decide +kernel
theorem dX4_takeNumber_53 : decode cX4_takeNumber 53 = .ok (.istore 5, 2) := by decide +kernel
theorem dX4_takeNumber_55 : decode cX4_takeNumber 55 = .ok (.iconst 0, 1) := by decide +kernel
theorem dX4_takeNumber_56 : decode cX4_takeNumber 56 = .ok (.istore 6, 2) := by decide +kernel
theorem dX4_takeNumber_58 : decode cX4_takeNumber 58 = .ok (.iload 6, 2) := by decide +kernel
theorem dX4_takeNumber_60 : decode cX4_takeNumber 60 = .ok (.iconst 5, 1) := by decide +kernel
theorem dX4_takeNumber_61 : decode cX4_takeNumber 61 = .ok (.if_icmp .ge 41, 3) := by decide +kernel
theorem dX4_takeNumber_64 : decode cX4_takeNumber 64 = .ok (.aload_n 0, 1) := by decide +kernel
theorem dX4_takeNumber_65 : decode cX4_takeNumber 65 = .ok (.invokevirtual 80, 3) := by decide +kernel
theorem dX4_takeNumber_68 : decode cX4_takeNumber 68 = .ok (.ifCond .eq 34, 3) := by decide +kernel
theorem dX4_takeNumber_71 : decode cX4_takeNumber 71 = .ok (.iload 5, 2) := by decide +kernel
theorem dX4_takeNumber_73 : decode cX4_takeNumber 73 = .ok (.bipush 10, 2) := by decide +kernel
theorem dX4_takeNumber_75 : decode cX4_takeNumber 75 = .ok (.imul, 1) := by decide +kernel
theorem dX4_takeNumber_76 : decode cX4_takeNumber 76 = .ok (.aload_n 0, 1) := by decide +kernel
theorem dX4_takeNumber_77 : decode cX4_takeNumber 77 = .ok (.invokevirtual 56, 3) := by decide +kernel
theorem dX4_takeNumber_80 : decode cX4_takeNumber 80 = .ok (.bipush 48, 2) := by decide +kernel
theorem dX4_takeNumber_82 : decode cX4_takeNumber 82 = .ok (.isub, 1) := by decide +kernel
theorem dX4_takeNumber_83 : decode cX4_takeNumber 83 = .ok (.iadd, 1) := by decide +kernel
theorem dX4_takeNumber_84 : decode cX4_takeNumber 84 = .ok (.istore 5, 2) := by decide +kernel
theorem dX4_takeNumber_86 : decode cX4_takeNumber 86 = .ok (.aload_n 0, 1) := by decide +kernel
theorem dX4_takeNumber_87 : decode cX4_takeNumber 87 = .ok (.dup, 1) := by decide +kernel
theorem dX4_takeNumber_88 : decode cX4_takeNumber 88 = .ok (.getfield 32, 3) := by decide +kernel
theorem dX4_takeNumber_91 : decode cX4_takeNumber 91 = .ok (.iconst 1, 1) := by decide +kernel
theorem dX4_takeNumber_92 : decode cX4_takeNumber 92 = .ok (.iadd, 1) := by decide +kernel
theorem dX4_takeNumber_93 : decode cX4_takeNumber 93 = .ok (.putfield 32, 3) := by decide +kernel
theorem dX4_takeNumber_96 : decode cX4_takeNumber 96 = .ok (.iinc 6 1, 3) := by decide +kernel
theorem dX4_takeNumber_99 : decode cX4_takeNumber 99 = .ok (.goto (-41), 3) := by decide +kernel
theorem dX4_takeNumber_102 : decode cX4_takeNumber 102 = .ok (.aload_n 0, 1) := by decide +kernel
theorem dX4_takeNumber_103 : decode cX4_takeNumber 103 = .ok (.iload 4, 2) := by decide +kernel
theorem dX4_takeNumber_105 : decode cX4_takeNumber 105 = .ok (.ifCond .eq 9, 3) := by decide +kernel
theorem dX4_takeNumber_108 : decode cX4_takeNumber 108 = .ok (.iload 5, 2) := by decide +kernel
theorem dX4_takeNumber_110 : decode cX4_takeNumber 110 = .ok (.ineg, 1) := by decide +kernel
theorem dX4_takeNumber_111 : decode cX4_takeNumber 111 = .ok (.goto 5, 3) := by decide +kernel
theorem dX4_takeNumber_114 : decode cX4_takeNumber 114 = .ok (.iload 5, 2) := by decide +kernel
theorem dX4_takeNumber_116 : decode cX4_takeNumber 116 = .ok (.putfield 38, 3) := by decide +kernel
theorem dX4_takeNumber_119 : decode cX4_takeNumber 119 = .ok (.aload_n 0, 1) := by decide +kernel
theorem dX4_takeNumber_120 : decode cX4_takeNumber 120 = .ok (.getfield 38, 3) := by decide +kernel
theorem dX4_takeNumber_123 : decode cX4_takeNumber 123 = .ok (.iload_n 1, 1) := by decide +kernel
theorem dX4_takeNumber_124 : decode cX4_takeNumber 124 = .ok (.iload_n 2, 1) := by decide +kernel
theorem dX4_takeNumber_125 : decode cX4_takeNumber 125 = .ok (.invokestatic 83, 3) := by decide +kernel
theorem dX4_takeNumber_128 : decode cX4_takeNumber 128 = .ok (.ifCond .eq 11, 3) := by decide +kernel
theorem dX4_takeNumber_131 : decode cX4_takeNumber 131 = .ok (.aload_n 0, 1) := by decide +kernel
theorem dX4_takeNumber_132 : decode cX4_takeNumber 132 = .ok (.iload_n 3, 1) := by decide +kernel
theorem dX4_takeNumber_133 : decode cX4_takeNumber 133 = .ok (.invokevirtual 52, 3) := by decide +kernel
theorem dX4_takeNumber_136 : decode cX4_takeNumber 136 = .ok (.ifCond .eq 7, 3) := by decide +kernel
theorem dX4_takeNumber_139 : decode cX4_takeNumber 139 = .ok (.iconst 1, 1) := by decide +kernel
theorem dX4_takeNumber_140 : decode cX4_takeNumber 140 = .ok (.goto 4, 3) := by decide +kernel
theorem dX4_takeNumber_143 : decode cX4_takeNumber 143 = .ok (.iconst 0, 1) := by decide +kernel
theorem dX4_takeNumber_144 : decode cX4_takeNumber 144 = .ok (.ireturn, 1) := by decide +kernel
set_option maxRecDepth 100000 in
set_option maxHeartbeats 4000000 in
theorem m_X4_takeNumber {l : Launch} {G : z_Gl} {σ : z_St} (tl : Nat) (hL : σ.1 82 5 = nI tl) (h200 : tl ≤ 200) (ps : Nat) (hps : ps ≤ tl) (it : Int32) (nu fa : Int32) (ak af as_ at_ : Nat → Int32) (lo : Int32) (hi : Int32) : z_M l G yX4_takeNumber cX4_takeNumber 7 (some .boolean) (z_rm 2 42) [.ref (z_ad G 82), .int lo, .int hi] (z_xU σ (nI ps) it nu fa ak af as_ at_) (fun w σ1 => (∃ (f : Nat) (a b : Int32), zt_num (σ.1 83) tl lo hi ps = .inl f ∧ w = some (.int (nI 0)) ∧ σ1 = z_xU σ a it b (nI f) ak af as_ at_) ∨ (∃ (c1 : Nat) (v : Int32), zt_num (σ.1 83) tl lo hi ps = .inr (c1, v) ∧ w = some (.int (nI 1)) ∧ σ1 = z_xU σ (nI c1) it v fa ak af as_ at_)) := by
  refine z_M.of (by decide) (Nat.le_of_ble_eq_true rfl) (fun p e s m below meth c C => ?_)
  refine z_sub [0, 1, 2] (lv1 := [(0, .ref (z_ad G 82)), (1, .int lo), (2, .int hi)]) rfl ?_
  refine z_aload_n 0 C dX4_takeNumber_0 0 rfl ?_
  refine z_getf 1 C 82 z_dX4 (⟨rfl, rfl⟩) 6 (by decide) q310 (.int (nI ps)) rfl dX4_takeNumber_1 ?_
  refine z_istore_n 4 C dX4_takeNumber_4 [(3, .int (nI ps)), (0, .ref (z_ad G 82)), (1, .int lo), (2, .int hi)] (by decide) rfl ?_
  refine z_aload_n 5 C dX4_takeNumber_5 1 rfl ?_
  refine z_callV 6 C 82 (⟨rfl, rfl⟩) rfl (As := []) (rest := []) (@m_X4_current _ _ σ tl hL h200 ps (by omega) it nu fa ak af as_ at_ ) k_X4_current q883 ⟨rfl, rfl⟩ ⟨Nat.le_of_ble_eq_true rfl, Nat.le_of_ble_eq_true rfl⟩ rfl (Nat.le_of_ble_eq_true rfl) ⟨Nat.le_of_ble_eq_true rfl, Nat.le_of_ble_eq_true rfl⟩ rfl dX4_takeNumber_6 (z_k1 ?_)
  refine z_bipush 9 C dX4_takeNumber_9 (nI 45) rfl ?_
  refine z_icmp_ne 11 C 18 dX4_takeNumber_11 (by decide) (fun c11 => ?_) (fun c11 => ?_)
  · skip
    refine z_iconst 18 C dX4_takeNumber_18 (nI 0) rfl ?_
    refine z_istore 19 C dX4_takeNumber_19 [(4, .int (nI 0)), (3, .int (nI ps)), (0, .ref (z_ad G 82)), (1, .int lo), (2, .int hi)] (by decide) rfl ?_
    refine z_iload 21 C dX4_takeNumber_21 0 rfl ?_
    refine z_if_eq 23 C 36 dX4_takeNumber_23 (by decide) (fun c23 => ?_) (fun c23 => ?_)
    · skip
      refine z_aload_n 36 C dX4_takeNumber_36 2 rfl ?_
      refine z_callV 37 C 82 (⟨rfl, rfl⟩) rfl (As := []) (rest := []) (@m_X4_isAtDigit _ _ σ tl hL h200 ps (by omega) it nu fa ak af as_ at_ ) k_X4_isAtDigit q895 ⟨rfl, rfl⟩ ⟨Nat.le_of_ble_eq_true rfl, Nat.le_of_ble_eq_true rfl⟩ rfl (Nat.le_of_ble_eq_true rfl) ⟨Nat.le_of_ble_eq_true rfl, Nat.le_of_ble_eq_true rfl⟩ rfl dX4_takeNumber_37 (z_k1 ?_)
      refine z_if_neb 40 C 52 dX4_takeNumber_40 (by decide) (fun c40 => ?_) (fun c40 => ?_)
      · skip
        have hlt0 := zt_dg_lt c40
        refine z_iconst 52 C dX4_takeNumber_52 (nI 0) rfl ?_
        refine z_istore 53 C dX4_takeNumber_53 [(5, .int (nI 0)), (4, .int (nI 0)), (3, .int (nI ps)), (0, .ref (z_ad G 82)), (1, .int lo), (2, .int hi)] (by decide) rfl ?_
        refine z_iconst 55 C dX4_takeNumber_55 (nI 0) rfl ?_
        refine z_istore 56 C dX4_takeNumber_56 [(6, .int (nI 0)), (5, .int (nI 0)), (4, .int (nI 0)), (3, .int (nI ps)), (0, .ref (z_ad G 82)), (1, .int lo), (2, .int hi)] (by decide) rfl ?_
        refine z_sub [4, 5, 6, 3, 2, 1, 0] (lv1 := [(0, .ref (z_ad G 82)), (1, .int lo), (2, .int hi), (3, .int (nI ps)), (4, .int (nI 0)), (5, .int (nI 0)), (6, .int (nI 0))]) rfl ?_
        refine z_cv (lv1 := [(0, .ref (z_ad G 82)), (1, .int lo), (2, .int hi), (3, .int (nI ps)), (4, .int (nI 0)), (5, .int (zt_nv (σ.1 83) (ps) 0)), (6, .int (nI 0))]) (st1 := []) (σ1 := z_xU σ (nI (ps + 0)) it nu fa ak af as_ at_) rfl rfl rfl ?_
        refine z_lp1 (fun (j : Nat) => j ≤ 5 ∧ ps + j ≤ tl ∧ ∀ i, i < j → zt_dg (zt_at (σ.1 83) tl (ps + i))) (fun (j : Nat) => 5 - j) (fun (j : Nat) => [(0, .ref (z_ad G 82)), (1, .int lo), (2, .int hi), (3, .int (nI ps)), (4, .int (nI 0)), (5, .int (zt_nv (σ.1 83) (ps) j)), (6, .int (nI j))]) (fun (j : Nat) => z_xU σ (nI (ps + j)) it nu fa ak af as_ at_) (fun j hi_58 ih_58 => ?_) 0 (⟨by omega, by omega, fun i h => absurd h (Nat.not_lt_zero i)⟩)
        try dsimp only
        obtain ⟨hj5, hjt, hdg⟩ := hi_58
        refine z_iload 58 C dX4_takeNumber_58 6 rfl ?_
        refine z_iconst 60 C dX4_takeNumber_60 (nI 5) rfl ?_
        refine z_icmp_geN 61 C j 5 rfl rfl (by omega) (by omega) 102 dX4_takeNumber_61 (by decide) (fun c61 => ?_) (fun c61 => ?_)
        · skip
          have ej : j = 5 := by omega
          subst ej
          refine z_aload_n 102 C dX4_takeNumber_102 0 rfl ?_
          refine z_iload 103 C dX4_takeNumber_103 4 rfl ?_
          refine z_if_eq 105 C 114 dX4_takeNumber_105 (by decide) (fun c105 => ?_) (fun c105 => ?_)
          · skip
            refine z_iload 114 C dX4_takeNumber_114 5 rfl ?_
            refine z_puti 116 C 82 z_dX4 (⟨rfl, rfl⟩) 8 (by decide) q313 rfl (rfl) rfl ⟨Nat.le_of_ble_eq_true rfl, rfl⟩ dX4_takeNumber_116 ?_
            refine z_cv (σ1 := z_xU σ (nI (ps + 5)) it (zt_nv (σ.1 83) (ps) 5) fa ak af as_ at_) rfl rfl z_xU_pnu ?_
            refine z_aload_n 119 C dX4_takeNumber_119 0 rfl ?_
            refine z_getf 120 C 82 z_dX4 (⟨rfl, rfl⟩) 8 (by decide) q313 (.int (zt_nv (σ.1 83) (ps) 5)) rfl dX4_takeNumber_120 ?_
            refine z_iload_n 123 C dX4_takeNumber_123 1 rfl ?_
            refine z_iload_n 124 C dX4_takeNumber_124 2 rfl ?_
            refine z_callSN 125 C (As := [.int (zt_nv (σ.1 83) (ps) 5), .int lo, .int hi]) (rest := []) (m_X7_isOutside (σ := z_xU σ (nI (ps + 5)) it (zt_nv (σ.1 83) (ps) 5) fa ak af as_ at_) (zt_nv (σ.1 83) (ps) 5) lo hi) k_X7_isOutside (List.mem_of_getElem? (i := 56) rfl) ⟨rfl, rfl⟩ ⟨Nat.le_of_ble_eq_true rfl, Nat.le_of_ble_eq_true rfl⟩ rfl (Nat.le_of_ble_eq_true rfl) ⟨Nat.le_of_ble_eq_true rfl, Nat.le_of_ble_eq_true rfl⟩ rfl dX4_takeNumber_125 (z_k1 ?_)
            refine z_if_eqb 128 C 139 dX4_takeNumber_128 (by decide) (fun c128 => ?_) (fun c128 => ?_)
            · skip
              refine z_iconst 139 C dX4_takeNumber_139 (nI 1) rfl ?_
              refine z_goto 140 C 144 dX4_takeNumber_140 (by decide) ?_
              refine z_zret 144 C (rfl) dX4_takeNumber_144 ?_
              exact Or.inr ⟨_, _, zt_num_2 (zt_c1_n c11) (by omega) (zt_nd_eq hdg (by omega) (Or.inl rfl)) (zt_vl_n c11) c128, rfl, rfl⟩
            · skip
              refine z_aload_n 131 C dX4_takeNumber_131 0 rfl ?_
              refine z_iload_n 132 C dX4_takeNumber_132 3 rfl ?_
              refine z_callV 133 C 82 (⟨rfl, rfl⟩) rfl (As := [.int (nI ps)]) (rest := []) (@m_X4_fail _ _ σ tl hL h200 (nI (ps + 5)) it (zt_nv (σ.1 83) (ps) 5) fa ak af as_ at_ (nI ps)) k_X4_fail q900 ⟨rfl, rfl⟩ ⟨Nat.le_of_ble_eq_true rfl, Nat.le_of_ble_eq_true rfl⟩ rfl (Nat.le_of_ble_eq_true rfl) ⟨Nat.le_of_ble_eq_true rfl, Nat.le_of_ble_eq_true rfl⟩ rfl dX4_takeNumber_133 (z_k1 ?_)
              refine z_if_eq 136 C 143 dX4_takeNumber_136 (by decide) (fun c136 => ?_) (fun c136 => ?_)
              · skip
                refine z_iconst 143 C dX4_takeNumber_143 (nI 0) rfl ?_
                refine z_zret 144 C (rfl) dX4_takeNumber_144 ?_
                exact Or.inl ⟨_, _, _, zt_num_1 (zt_c1_n c11) (by omega) (zt_nd_eq hdg (by omega) (Or.inl rfl)) (zt_vl_n c11) c128, rfl, rfl⟩
              · skip
                exact absurd rfl c136
          · skip
            exact absurd rfl c105
        · skip
          refine z_aload_n 64 C dX4_takeNumber_64 0 rfl ?_
          refine z_callV 65 C 82 (⟨rfl, rfl⟩) rfl (As := []) (rest := []) (@m_X4_isAtDigit _ _ σ tl hL h200 (ps + j) (by omega) it nu fa ak af as_ at_ ) k_X4_isAtDigit q895 ⟨rfl, rfl⟩ ⟨Nat.le_of_ble_eq_true rfl, Nat.le_of_ble_eq_true rfl⟩ rfl (Nat.le_of_ble_eq_true rfl) ⟨Nat.le_of_ble_eq_true rfl, Nat.le_of_ble_eq_true rfl⟩ rfl dX4_takeNumber_65 (z_k1 ?_)
          refine z_if_eqb 68 C 102 dX4_takeNumber_68 (by decide) (fun c68 => ?_) (fun c68 => ?_)
          · skip
            refine z_aload_n 102 C dX4_takeNumber_102 0 rfl ?_
            refine z_iload 103 C dX4_takeNumber_103 4 rfl ?_
            refine z_if_eq 105 C 114 dX4_takeNumber_105 (by decide) (fun c105 => ?_) (fun c105 => ?_)
            · skip
              refine z_iload 114 C dX4_takeNumber_114 5 rfl ?_
              refine z_puti 116 C 82 z_dX4 (⟨rfl, rfl⟩) 8 (by decide) q313 rfl (rfl) rfl ⟨Nat.le_of_ble_eq_true rfl, rfl⟩ dX4_takeNumber_116 ?_
              refine z_cv (σ1 := z_xU σ (nI (ps + j)) it (zt_nv (σ.1 83) (ps) j) fa ak af as_ at_) rfl rfl z_xU_pnu ?_
              refine z_aload_n 119 C dX4_takeNumber_119 0 rfl ?_
              refine z_getf 120 C 82 z_dX4 (⟨rfl, rfl⟩) 8 (by decide) q313 (.int (zt_nv (σ.1 83) (ps) j)) rfl dX4_takeNumber_120 ?_
              refine z_iload_n 123 C dX4_takeNumber_123 1 rfl ?_
              refine z_iload_n 124 C dX4_takeNumber_124 2 rfl ?_
              refine z_callSN 125 C (As := [.int (zt_nv (σ.1 83) (ps) j), .int lo, .int hi]) (rest := []) (m_X7_isOutside (σ := z_xU σ (nI (ps + j)) it (zt_nv (σ.1 83) (ps) j) fa ak af as_ at_) (zt_nv (σ.1 83) (ps) j) lo hi) k_X7_isOutside (List.mem_of_getElem? (i := 56) rfl) ⟨rfl, rfl⟩ ⟨Nat.le_of_ble_eq_true rfl, Nat.le_of_ble_eq_true rfl⟩ rfl (Nat.le_of_ble_eq_true rfl) ⟨Nat.le_of_ble_eq_true rfl, Nat.le_of_ble_eq_true rfl⟩ rfl dX4_takeNumber_125 (z_k1 ?_)
              refine z_if_eqb 128 C 139 dX4_takeNumber_128 (by decide) (fun c128 => ?_) (fun c128 => ?_)
              · skip
                refine z_iconst 139 C dX4_takeNumber_139 (nI 1) rfl ?_
                refine z_goto 140 C 144 dX4_takeNumber_140 (by decide) ?_
                refine z_zret 144 C (rfl) dX4_takeNumber_144 ?_
                exact Or.inr ⟨_, _, zt_num_2 (zt_c1_n c11) (Nat.pos_of_ne_zero (fun z => by subst z; exact c68 c40)) (zt_nd_eq hdg (by omega) (Or.inr c68)) (zt_vl_n c11) c128, rfl, rfl⟩
              · skip
                refine z_aload_n 131 C dX4_takeNumber_131 0 rfl ?_
                refine z_iload_n 132 C dX4_takeNumber_132 3 rfl ?_
                refine z_callV 133 C 82 (⟨rfl, rfl⟩) rfl (As := [.int (nI ps)]) (rest := []) (@m_X4_fail _ _ σ tl hL h200 (nI (ps + j)) it (zt_nv (σ.1 83) (ps) j) fa ak af as_ at_ (nI ps)) k_X4_fail q900 ⟨rfl, rfl⟩ ⟨Nat.le_of_ble_eq_true rfl, Nat.le_of_ble_eq_true rfl⟩ rfl (Nat.le_of_ble_eq_true rfl) ⟨Nat.le_of_ble_eq_true rfl, Nat.le_of_ble_eq_true rfl⟩ rfl dX4_takeNumber_133 (z_k1 ?_)
                refine z_if_eq 136 C 143 dX4_takeNumber_136 (by decide) (fun c136 => ?_) (fun c136 => ?_)
                · skip
                  refine z_iconst 143 C dX4_takeNumber_143 (nI 0) rfl ?_
                  refine z_zret 144 C (rfl) dX4_takeNumber_144 ?_
                  exact Or.inl ⟨_, _, _, zt_num_1 (zt_c1_n c11) (Nat.pos_of_ne_zero (fun z => by subst z; exact c68 c40)) (zt_nd_eq hdg (by omega) (Or.inr c68)) (zt_vl_n c11) c128, rfl, rfl⟩
                · skip
                  exact absurd rfl c136
            · skip
              exact absurd rfl c105
          · skip
            have hlt := zt_dg_lt c68
            refine z_iload 71 C dX4_takeNumber_71 5 rfl ?_
            refine z_bipush 73 C dX4_takeNumber_73 (nI 10) rfl ?_
            refine z_imul 75 C dX4_takeNumber_75 ?_
            refine z_aload_n 76 C dX4_takeNumber_76 0 rfl ?_
            refine z_callV 77 C 82 (⟨rfl, rfl⟩) rfl (As := []) (rest := [.int ((zt_nv (σ.1 83) (ps) j) * (nI 10))]) (@m_X4_current _ _ σ tl hL h200 (ps + j) (by omega) it nu fa ak af as_ at_ ) k_X4_current q883 ⟨rfl, rfl⟩ ⟨Nat.le_of_ble_eq_true rfl, Nat.le_of_ble_eq_true rfl⟩ rfl (Nat.le_of_ble_eq_true rfl) ⟨Nat.le_of_ble_eq_true rfl, Nat.le_of_ble_eq_true rfl⟩ rfl dX4_takeNumber_77 (z_k1 ?_)
            refine z_cv (lv1 := [(0, .ref (z_ad G 82)), (1, .int lo), (2, .int hi), (3, .int (nI ps)), (4, .int (nI 0)), (5, .int (zt_nv (σ.1 83) (ps) j)), (6, .int (nI j))]) (st1 := [.int ((σ.1 83) (ps + j)), .int ((zt_nv (σ.1 83) (ps) j) * (nI 10))]) (σ1 := z_xU σ (nI (ps + j)) it nu fa ak af as_ at_) rfl (by rw [zt_at_lt hlt]) rfl ?_
            refine z_bipush 80 C dX4_takeNumber_80 (nI 48) rfl ?_
            refine z_isub 82 C dX4_takeNumber_82 ?_
            refine z_iadd 83 C dX4_takeNumber_83 ?_
            refine z_istore 84 C dX4_takeNumber_84 [(5, .int (((zt_nv (σ.1 83) (ps) j) * (nI 10)) + (((σ.1 83) (ps + j)) - (nI 48)))), (0, .ref (z_ad G 82)), (1, .int lo), (2, .int hi), (3, .int (nI ps)), (4, .int (nI 0)), (6, .int (nI j))] (by decide) rfl ?_
            refine z_aload_n 86 C dX4_takeNumber_86 1 rfl ?_
            refine z_dup 87 C dX4_takeNumber_87 rfl ?_
            refine z_getf 88 C 82 z_dX4 (⟨rfl, rfl⟩) 6 (by decide) q310 (.int (nI (ps + j))) rfl dX4_takeNumber_88 ?_
            refine z_iconst 91 C dX4_takeNumber_91 (nI 1) rfl ?_
            refine z_iaddN 92 C (ps + j) 1 rfl rfl dX4_takeNumber_92 ?_
            refine z_puti 93 C 82 z_dX4 (⟨rfl, rfl⟩) 6 (by decide) q310 rfl (rfl) rfl ⟨Nat.le_of_ble_eq_true rfl, rfl⟩ dX4_takeNumber_93 ?_
            refine z_cv (σ1 := z_xU σ (nI ((ps + j) + 1)) it nu fa ak af as_ at_) rfl rfl z_xU_pcu ?_
            refine z_iincN 96 C 6 j [(6, .int (nI (j + 1))), (5, .int (((zt_nv (σ.1 83) (ps) j) * (nI 10)) + (((σ.1 83) (ps + j)) - (nI 48)))), (0, .ref (z_ad G 82)), (1, .int lo), (2, .int hi), (3, .int (nI ps)), (4, .int (nI 0))] rfl rfl (by decide) rfl dX4_takeNumber_96 ?_
            refine z_goto 99 C 58 dX4_takeNumber_99 (by decide) ?_
            refine z_sub [2, 3, 4, 5, 6, 1, 0] (lv1 := [(0, .ref (z_ad G 82)), (1, .int lo), (2, .int hi), (3, .int (nI ps)), (4, .int (nI 0)), (5, .int (((zt_nv (σ.1 83) (ps) j) * (nI 10)) + (((σ.1 83) (ps + j)) - (nI 48)))), (6, .int (nI (j + 1)))]) rfl ?_
            refine z_cv (lv1 := [(0, .ref (z_ad G 82)), (1, .int lo), (2, .int hi), (3, .int (nI ps)), (4, .int (nI 0)), (5, .int (zt_nv (σ.1 83) (ps) (j + 1))), (6, .int (nI (j + 1)))]) (st1 := []) (σ1 := z_xU σ (nI (ps + (j + 1))) it nu fa ak af as_ at_) rfl rfl rfl ?_
            exact ih_58 (j + 1) (⟨by omega, by omega, lt_s hdg c68⟩) (by omega)
      · skip
        refine z_aload_n 43 C dX4_takeNumber_43 2 rfl ?_
        refine z_aload_n 44 C dX4_takeNumber_44 2 rfl ?_
        refine z_getf 45 C 82 z_dX4 (⟨rfl, rfl⟩) 6 (by decide) q310 (.int (nI ps)) rfl dX4_takeNumber_45 ?_
        refine z_callV 48 C 82 (⟨rfl, rfl⟩) rfl (As := [.int (nI ps)]) (rest := []) (@m_X4_fail _ _ σ tl hL h200 (nI ps) it nu fa ak af as_ at_ (nI ps)) k_X4_fail q900 ⟨rfl, rfl⟩ ⟨Nat.le_of_ble_eq_true rfl, Nat.le_of_ble_eq_true rfl⟩ rfl (Nat.le_of_ble_eq_true rfl) ⟨Nat.le_of_ble_eq_true rfl, Nat.le_of_ble_eq_true rfl⟩ rfl dX4_takeNumber_48 (z_k1 ?_)
        refine z_zret 51 C (rfl) dX4_takeNumber_51 ?_
        exact Or.inl ⟨_, _, _, zt_num_0 (zt_c1_n c11) c40, rfl, rfl⟩
    · skip
      exact absurd rfl c23
  · skip
    have hlt9 := zt_lt c11 (by decide)
    refine z_iconst 14 C dX4_takeNumber_14 (nI 1) rfl ?_
    refine z_goto 15 C 19 dX4_takeNumber_15 (by decide) ?_
    refine z_istore 19 C dX4_takeNumber_19 [(4, .int (nI 1)), (3, .int (nI ps)), (0, .ref (z_ad G 82)), (1, .int lo), (2, .int hi)] (by decide) rfl ?_
    refine z_iload 21 C dX4_takeNumber_21 0 rfl ?_
    refine z_if_eq 23 C 36 dX4_takeNumber_23 (by decide) (fun c23 => ?_) (fun c23 => ?_)
    · skip
      exact absurd c23 (by decide)
    · skip
      refine z_aload_n 26 C dX4_takeNumber_26 2 rfl ?_
      refine z_dup 27 C dX4_takeNumber_27 rfl ?_
      refine z_getf 28 C 82 z_dX4 (⟨rfl, rfl⟩) 6 (by decide) q310 (.int (nI ps)) rfl dX4_takeNumber_28 ?_
      refine z_iconst 31 C dX4_takeNumber_31 (nI 1) rfl ?_
      refine z_iaddN 32 C ps 1 rfl rfl dX4_takeNumber_32 ?_
      refine z_puti 33 C 82 z_dX4 (⟨rfl, rfl⟩) 6 (by decide) q310 rfl (rfl) rfl ⟨Nat.le_of_ble_eq_true rfl, rfl⟩ dX4_takeNumber_33 ?_
      refine z_cv (σ1 := z_xU σ (nI (ps + 1)) it nu fa ak af as_ at_) rfl rfl z_xU_pcu ?_
      refine z_aload_n 36 C dX4_takeNumber_36 2 rfl ?_
      refine z_callV 37 C 82 (⟨rfl, rfl⟩) rfl (As := []) (rest := []) (@m_X4_isAtDigit _ _ σ tl hL h200 (ps + 1) (by omega) it nu fa ak af as_ at_ ) k_X4_isAtDigit q895 ⟨rfl, rfl⟩ ⟨Nat.le_of_ble_eq_true rfl, Nat.le_of_ble_eq_true rfl⟩ rfl (Nat.le_of_ble_eq_true rfl) ⟨Nat.le_of_ble_eq_true rfl, Nat.le_of_ble_eq_true rfl⟩ rfl dX4_takeNumber_37 (z_k1 ?_)
      refine z_if_neb 40 C 52 dX4_takeNumber_40 (by decide) (fun c40 => ?_) (fun c40 => ?_)
      · skip
        have hlt0 := zt_dg_lt c40
        refine z_iconst 52 C dX4_takeNumber_52 (nI 0) rfl ?_
        refine z_istore 53 C dX4_takeNumber_53 [(5, .int (nI 0)), (4, .int (nI 1)), (3, .int (nI ps)), (0, .ref (z_ad G 82)), (1, .int lo), (2, .int hi)] (by decide) rfl ?_
        refine z_iconst 55 C dX4_takeNumber_55 (nI 0) rfl ?_
        refine z_istore 56 C dX4_takeNumber_56 [(6, .int (nI 0)), (5, .int (nI 0)), (4, .int (nI 1)), (3, .int (nI ps)), (0, .ref (z_ad G 82)), (1, .int lo), (2, .int hi)] (by decide) rfl ?_
        refine z_sub [4, 5, 6, 3, 2, 1, 0] (lv1 := [(0, .ref (z_ad G 82)), (1, .int lo), (2, .int hi), (3, .int (nI ps)), (4, .int (nI 1)), (5, .int (nI 0)), (6, .int (nI 0))]) rfl ?_
        refine z_cv (lv1 := [(0, .ref (z_ad G 82)), (1, .int lo), (2, .int hi), (3, .int (nI ps)), (4, .int (nI 1)), (5, .int (zt_nv (σ.1 83) (ps + 1) 0)), (6, .int (nI 0))]) (st1 := []) (σ1 := z_xU σ (nI (ps + 1 + 0)) it nu fa ak af as_ at_) rfl rfl rfl ?_
        refine z_lp1 (fun (j : Nat) => j ≤ 5 ∧ ps + 1 + j ≤ tl ∧ ∀ i, i < j → zt_dg (zt_at (σ.1 83) tl (ps + 1 + i))) (fun (j : Nat) => 5 - j) (fun (j : Nat) => [(0, .ref (z_ad G 82)), (1, .int lo), (2, .int hi), (3, .int (nI ps)), (4, .int (nI 1)), (5, .int (zt_nv (σ.1 83) (ps + 1) j)), (6, .int (nI j))]) (fun (j : Nat) => z_xU σ (nI (ps + 1 + j)) it nu fa ak af as_ at_) (fun j hi_58 ih_58 => ?_) 0 (⟨by omega, by omega, fun i h => absurd h (Nat.not_lt_zero i)⟩)
        try dsimp only
        obtain ⟨hj5, hjt, hdg⟩ := hi_58
        refine z_iload 58 C dX4_takeNumber_58 6 rfl ?_
        refine z_iconst 60 C dX4_takeNumber_60 (nI 5) rfl ?_
        refine z_icmp_geN 61 C j 5 rfl rfl (by omega) (by omega) 102 dX4_takeNumber_61 (by decide) (fun c61 => ?_) (fun c61 => ?_)
        · skip
          have ej : j = 5 := by omega
          subst ej
          refine z_aload_n 102 C dX4_takeNumber_102 0 rfl ?_
          refine z_iload 103 C dX4_takeNumber_103 4 rfl ?_
          refine z_if_eq 105 C 114 dX4_takeNumber_105 (by decide) (fun c105 => ?_) (fun c105 => ?_)
          · skip
            exact absurd c105 (by decide)
          · skip
            refine z_iload 108 C dX4_takeNumber_108 5 rfl ?_
            refine z_ineg 110 C dX4_takeNumber_110 ?_
            refine z_goto 111 C 116 dX4_takeNumber_111 (by decide) ?_
            refine z_puti 116 C 82 z_dX4 (⟨rfl, rfl⟩) 8 (by decide) q313 rfl (rfl) rfl ⟨Nat.le_of_ble_eq_true rfl, rfl⟩ dX4_takeNumber_116 ?_
            refine z_cv (σ1 := z_xU σ (nI (ps + 1 + 5)) it (-(zt_nv (σ.1 83) (ps + 1) 5)) fa ak af as_ at_) rfl rfl z_xU_pnu ?_
            refine z_aload_n 119 C dX4_takeNumber_119 0 rfl ?_
            refine z_getf 120 C 82 z_dX4 (⟨rfl, rfl⟩) 8 (by decide) q313 (.int (-(zt_nv (σ.1 83) (ps + 1) 5))) rfl dX4_takeNumber_120 ?_
            refine z_iload_n 123 C dX4_takeNumber_123 1 rfl ?_
            refine z_iload_n 124 C dX4_takeNumber_124 2 rfl ?_
            refine z_callSN 125 C (As := [.int (-(zt_nv (σ.1 83) (ps + 1) 5)), .int lo, .int hi]) (rest := []) (m_X7_isOutside (σ := z_xU σ (nI (ps + 1 + 5)) it (-(zt_nv (σ.1 83) (ps + 1) 5)) fa ak af as_ at_) (-(zt_nv (σ.1 83) (ps + 1) 5)) lo hi) k_X7_isOutside (List.mem_of_getElem? (i := 56) rfl) ⟨rfl, rfl⟩ ⟨Nat.le_of_ble_eq_true rfl, Nat.le_of_ble_eq_true rfl⟩ rfl (Nat.le_of_ble_eq_true rfl) ⟨Nat.le_of_ble_eq_true rfl, Nat.le_of_ble_eq_true rfl⟩ rfl dX4_takeNumber_125 (z_k1 ?_)
            refine z_if_eqb 128 C 139 dX4_takeNumber_128 (by decide) (fun c128 => ?_) (fun c128 => ?_)
            · skip
              refine z_iconst 139 C dX4_takeNumber_139 (nI 1) rfl ?_
              refine z_goto 140 C 144 dX4_takeNumber_140 (by decide) ?_
              refine z_zret 144 C (rfl) dX4_takeNumber_144 ?_
              exact Or.inr ⟨_, _, zt_num_2 (zt_c1_p c11) (by omega) (zt_nd_eq hdg (by omega) (Or.inl rfl)) (zt_vl_p c11) c128, rfl, rfl⟩
            · skip
              refine z_aload_n 131 C dX4_takeNumber_131 0 rfl ?_
              refine z_iload_n 132 C dX4_takeNumber_132 3 rfl ?_
              refine z_callV 133 C 82 (⟨rfl, rfl⟩) rfl (As := [.int (nI ps)]) (rest := []) (@m_X4_fail _ _ σ tl hL h200 (nI (ps + 1 + 5)) it (-(zt_nv (σ.1 83) (ps + 1) 5)) fa ak af as_ at_ (nI ps)) k_X4_fail q900 ⟨rfl, rfl⟩ ⟨Nat.le_of_ble_eq_true rfl, Nat.le_of_ble_eq_true rfl⟩ rfl (Nat.le_of_ble_eq_true rfl) ⟨Nat.le_of_ble_eq_true rfl, Nat.le_of_ble_eq_true rfl⟩ rfl dX4_takeNumber_133 (z_k1 ?_)
              refine z_if_eq 136 C 143 dX4_takeNumber_136 (by decide) (fun c136 => ?_) (fun c136 => ?_)
              · skip
                refine z_iconst 143 C dX4_takeNumber_143 (nI 0) rfl ?_
                refine z_zret 144 C (rfl) dX4_takeNumber_144 ?_
                exact Or.inl ⟨_, _, _, zt_num_1 (zt_c1_p c11) (by omega) (zt_nd_eq hdg (by omega) (Or.inl rfl)) (zt_vl_p c11) c128, rfl, rfl⟩
              · skip
                exact absurd rfl c136
        · skip
          refine z_aload_n 64 C dX4_takeNumber_64 0 rfl ?_
          refine z_callV 65 C 82 (⟨rfl, rfl⟩) rfl (As := []) (rest := []) (@m_X4_isAtDigit _ _ σ tl hL h200 (ps + 1 + j) (by omega) it nu fa ak af as_ at_ ) k_X4_isAtDigit q895 ⟨rfl, rfl⟩ ⟨Nat.le_of_ble_eq_true rfl, Nat.le_of_ble_eq_true rfl⟩ rfl (Nat.le_of_ble_eq_true rfl) ⟨Nat.le_of_ble_eq_true rfl, Nat.le_of_ble_eq_true rfl⟩ rfl dX4_takeNumber_65 (z_k1 ?_)
          refine z_if_eqb 68 C 102 dX4_takeNumber_68 (by decide) (fun c68 => ?_) (fun c68 => ?_)
          · skip
            refine z_aload_n 102 C dX4_takeNumber_102 0 rfl ?_
            refine z_iload 103 C dX4_takeNumber_103 4 rfl ?_
            refine z_if_eq 105 C 114 dX4_takeNumber_105 (by decide) (fun c105 => ?_) (fun c105 => ?_)
            · skip
              exact absurd c105 (by decide)
            · skip
              refine z_iload 108 C dX4_takeNumber_108 5 rfl ?_
              refine z_ineg 110 C dX4_takeNumber_110 ?_
              refine z_goto 111 C 116 dX4_takeNumber_111 (by decide) ?_
              refine z_puti 116 C 82 z_dX4 (⟨rfl, rfl⟩) 8 (by decide) q313 rfl (rfl) rfl ⟨Nat.le_of_ble_eq_true rfl, rfl⟩ dX4_takeNumber_116 ?_
              refine z_cv (σ1 := z_xU σ (nI (ps + 1 + j)) it (-(zt_nv (σ.1 83) (ps + 1) j)) fa ak af as_ at_) rfl rfl z_xU_pnu ?_
              refine z_aload_n 119 C dX4_takeNumber_119 0 rfl ?_
              refine z_getf 120 C 82 z_dX4 (⟨rfl, rfl⟩) 8 (by decide) q313 (.int (-(zt_nv (σ.1 83) (ps + 1) j))) rfl dX4_takeNumber_120 ?_
              refine z_iload_n 123 C dX4_takeNumber_123 1 rfl ?_
              refine z_iload_n 124 C dX4_takeNumber_124 2 rfl ?_
              refine z_callSN 125 C (As := [.int (-(zt_nv (σ.1 83) (ps + 1) j)), .int lo, .int hi]) (rest := []) (m_X7_isOutside (σ := z_xU σ (nI (ps + 1 + j)) it (-(zt_nv (σ.1 83) (ps + 1) j)) fa ak af as_ at_) (-(zt_nv (σ.1 83) (ps + 1) j)) lo hi) k_X7_isOutside (List.mem_of_getElem? (i := 56) rfl) ⟨rfl, rfl⟩ ⟨Nat.le_of_ble_eq_true rfl, Nat.le_of_ble_eq_true rfl⟩ rfl (Nat.le_of_ble_eq_true rfl) ⟨Nat.le_of_ble_eq_true rfl, Nat.le_of_ble_eq_true rfl⟩ rfl dX4_takeNumber_125 (z_k1 ?_)
              refine z_if_eqb 128 C 139 dX4_takeNumber_128 (by decide) (fun c128 => ?_) (fun c128 => ?_)
              · skip
                refine z_iconst 139 C dX4_takeNumber_139 (nI 1) rfl ?_
                refine z_goto 140 C 144 dX4_takeNumber_140 (by decide) ?_
                refine z_zret 144 C (rfl) dX4_takeNumber_144 ?_
                exact Or.inr ⟨_, _, zt_num_2 (zt_c1_p c11) (Nat.pos_of_ne_zero (fun z => by subst z; exact c68 c40)) (zt_nd_eq hdg (by omega) (Or.inr c68)) (zt_vl_p c11) c128, rfl, rfl⟩
              · skip
                refine z_aload_n 131 C dX4_takeNumber_131 0 rfl ?_
                refine z_iload_n 132 C dX4_takeNumber_132 3 rfl ?_
                refine z_callV 133 C 82 (⟨rfl, rfl⟩) rfl (As := [.int (nI ps)]) (rest := []) (@m_X4_fail _ _ σ tl hL h200 (nI (ps + 1 + j)) it (-(zt_nv (σ.1 83) (ps + 1) j)) fa ak af as_ at_ (nI ps)) k_X4_fail q900 ⟨rfl, rfl⟩ ⟨Nat.le_of_ble_eq_true rfl, Nat.le_of_ble_eq_true rfl⟩ rfl (Nat.le_of_ble_eq_true rfl) ⟨Nat.le_of_ble_eq_true rfl, Nat.le_of_ble_eq_true rfl⟩ rfl dX4_takeNumber_133 (z_k1 ?_)
                refine z_if_eq 136 C 143 dX4_takeNumber_136 (by decide) (fun c136 => ?_) (fun c136 => ?_)
                · skip
                  refine z_iconst 143 C dX4_takeNumber_143 (nI 0) rfl ?_
                  refine z_zret 144 C (rfl) dX4_takeNumber_144 ?_
                  exact Or.inl ⟨_, _, _, zt_num_1 (zt_c1_p c11) (Nat.pos_of_ne_zero (fun z => by subst z; exact c68 c40)) (zt_nd_eq hdg (by omega) (Or.inr c68)) (zt_vl_p c11) c128, rfl, rfl⟩
                · skip
                  exact absurd rfl c136
          · skip
            have hlt := zt_dg_lt c68
            refine z_iload 71 C dX4_takeNumber_71 5 rfl ?_
            refine z_bipush 73 C dX4_takeNumber_73 (nI 10) rfl ?_
            refine z_imul 75 C dX4_takeNumber_75 ?_
            refine z_aload_n 76 C dX4_takeNumber_76 0 rfl ?_
            refine z_callV 77 C 82 (⟨rfl, rfl⟩) rfl (As := []) (rest := [.int ((zt_nv (σ.1 83) (ps + 1) j) * (nI 10))]) (@m_X4_current _ _ σ tl hL h200 (ps + 1 + j) (by omega) it nu fa ak af as_ at_ ) k_X4_current q883 ⟨rfl, rfl⟩ ⟨Nat.le_of_ble_eq_true rfl, Nat.le_of_ble_eq_true rfl⟩ rfl (Nat.le_of_ble_eq_true rfl) ⟨Nat.le_of_ble_eq_true rfl, Nat.le_of_ble_eq_true rfl⟩ rfl dX4_takeNumber_77 (z_k1 ?_)
            refine z_cv (lv1 := [(0, .ref (z_ad G 82)), (1, .int lo), (2, .int hi), (3, .int (nI ps)), (4, .int (nI 1)), (5, .int (zt_nv (σ.1 83) (ps + 1) j)), (6, .int (nI j))]) (st1 := [.int ((σ.1 83) (ps + 1 + j)), .int ((zt_nv (σ.1 83) (ps + 1) j) * (nI 10))]) (σ1 := z_xU σ (nI (ps + 1 + j)) it nu fa ak af as_ at_) rfl (by rw [zt_at_lt hlt]) rfl ?_
            refine z_bipush 80 C dX4_takeNumber_80 (nI 48) rfl ?_
            refine z_isub 82 C dX4_takeNumber_82 ?_
            refine z_iadd 83 C dX4_takeNumber_83 ?_
            refine z_istore 84 C dX4_takeNumber_84 [(5, .int (((zt_nv (σ.1 83) (ps + 1) j) * (nI 10)) + (((σ.1 83) (ps + 1 + j)) - (nI 48)))), (0, .ref (z_ad G 82)), (1, .int lo), (2, .int hi), (3, .int (nI ps)), (4, .int (nI 1)), (6, .int (nI j))] (by decide) rfl ?_
            refine z_aload_n 86 C dX4_takeNumber_86 1 rfl ?_
            refine z_dup 87 C dX4_takeNumber_87 rfl ?_
            refine z_getf 88 C 82 z_dX4 (⟨rfl, rfl⟩) 6 (by decide) q310 (.int (nI (ps + 1 + j))) rfl dX4_takeNumber_88 ?_
            refine z_iconst 91 C dX4_takeNumber_91 (nI 1) rfl ?_
            refine z_iaddN 92 C (ps + 1 + j) 1 rfl rfl dX4_takeNumber_92 ?_
            refine z_puti 93 C 82 z_dX4 (⟨rfl, rfl⟩) 6 (by decide) q310 rfl (rfl) rfl ⟨Nat.le_of_ble_eq_true rfl, rfl⟩ dX4_takeNumber_93 ?_
            refine z_cv (σ1 := z_xU σ (nI ((ps + 1 + j) + 1)) it nu fa ak af as_ at_) rfl rfl z_xU_pcu ?_
            refine z_iincN 96 C 6 j [(6, .int (nI (j + 1))), (5, .int (((zt_nv (σ.1 83) (ps + 1) j) * (nI 10)) + (((σ.1 83) (ps + 1 + j)) - (nI 48)))), (0, .ref (z_ad G 82)), (1, .int lo), (2, .int hi), (3, .int (nI ps)), (4, .int (nI 1))] rfl rfl (by decide) rfl dX4_takeNumber_96 ?_
            refine z_goto 99 C 58 dX4_takeNumber_99 (by decide) ?_
            refine z_sub [2, 3, 4, 5, 6, 1, 0] (lv1 := [(0, .ref (z_ad G 82)), (1, .int lo), (2, .int hi), (3, .int (nI ps)), (4, .int (nI 1)), (5, .int (((zt_nv (σ.1 83) (ps + 1) j) * (nI 10)) + (((σ.1 83) (ps + 1 + j)) - (nI 48)))), (6, .int (nI (j + 1)))]) rfl ?_
            refine z_cv (lv1 := [(0, .ref (z_ad G 82)), (1, .int lo), (2, .int hi), (3, .int (nI ps)), (4, .int (nI 1)), (5, .int (zt_nv (σ.1 83) (ps + 1) (j + 1))), (6, .int (nI (j + 1)))]) (st1 := []) (σ1 := z_xU σ (nI (ps + 1 + (j + 1))) it nu fa ak af as_ at_) rfl rfl rfl ?_
            exact ih_58 (j + 1) (⟨by omega, by omega, lt_s hdg c68⟩) (by omega)
      · skip
        refine z_aload_n 43 C dX4_takeNumber_43 2 rfl ?_
        refine z_aload_n 44 C dX4_takeNumber_44 2 rfl ?_
        refine z_getf 45 C 82 z_dX4 (⟨rfl, rfl⟩) 6 (by decide) q310 (.int (nI (ps + 1))) rfl dX4_takeNumber_45 ?_
        refine z_callV 48 C 82 (⟨rfl, rfl⟩) rfl (As := [.int (nI (ps + 1))]) (rest := []) (@m_X4_fail _ _ σ tl hL h200 (nI (ps + 1)) it nu fa ak af as_ at_ (nI (ps + 1))) k_X4_fail q900 ⟨rfl, rfl⟩ ⟨Nat.le_of_ble_eq_true rfl, Nat.le_of_ble_eq_true rfl⟩ rfl (Nat.le_of_ble_eq_true rfl) ⟨Nat.le_of_ble_eq_true rfl, Nat.le_of_ble_eq_true rfl⟩ rfl dX4_takeNumber_48 (z_k1 ?_)
        refine z_zret 51 C (rfl) dX4_takeNumber_51 ?_
        exact Or.inl ⟨_, _, _, zt_num_0 (zt_c1_p c11) c40, rfl, rfl⟩
