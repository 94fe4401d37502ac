/-! TEXTS: what a text says -/
/-- the character at c, -1 behind the end -/
def zt_at (ch : Nat → Int32) (L c : Nat) : Int32 := if c < L then ch c else -1
abbrev zt_dg (x : Int32) : Prop := ¬ (x < nI 48 ∨ nI 57 < x)
/-- how many digits stand from c on, n at most -/
def zt_nd (ch : Nat → Int32) (L : Nat) : Nat → Nat → Nat
  | 0, _ => 0
  | n + 1, c => if zt_dg (zt_at ch L c) then zt_nd ch L n (c + 1) + 1 else 0
/-- the number that n digits from c on are -/
def zt_nv (ch : Nat → Int32) (c : Nat) : Nat → Int32
  | 0 => nI 0
  | n + 1 => zt_nv ch c n * nI 10 + (ch (c + n) - nI 48)
def zt_c1 (ch : Nat → Int32) (L c : Nat) : Nat := if zt_at ch L c = nI 45 then c + 1 else c
def zt_vl (ch : Nat → Int32) (L c n : Nat) : Int32 := if zt_at ch L c = nI 45 then -zt_nv ch (zt_c1 ch L c) n else zt_nv ch (zt_c1 ch L c) n
/-- a number at c: the place of its fault, or the place behind it and its value -/
def zt_num (ch : Nat → Int32) (L : Nat) (lo hi : Int32) (c : Nat) : Nat ⊕ (Nat × Int32) :=
  if zt_nd ch L 5 (zt_c1 ch L c) = 0 then .inl (zt_c1 ch L c)
  else if zt_vl ch L c (zt_nd ch L 5 (zt_c1 ch L c)) < lo ∨ hi < zt_vl ch L c (zt_nd ch L 5 (zt_c1 ch L c)) then .inl c
  else .inr (zt_c1 ch L c + zt_nd ch L 5 (zt_c1 ch L c), zt_vl ch L c (zt_nd ch L 5 (zt_c1 ch L c)))
theorem zt_at_lt {ch : Nat → Int32} {L c : Nat} (h : c < L) : zt_at ch L c = ch c := if_pos h
theorem zt_lt {ch : Nat → Int32} {L c : Nat} {x : Int32} (h : zt_at ch L c = x) (hx : ¬ x = -1) : c < L := by
  rcases Nat.lt_or_ge c L with q | q
  · exact q
  · unfold zt_at at h
    rw [if_neg (Nat.not_lt.mpr q)] at h
    exact absurd h.symm hx
theorem zt_dg_lt {ch : Nat → Int32} {L c : Nat} (h : zt_dg (zt_at ch L c)) : c < L := by
  rcases Nat.lt_or_ge c L with q | q
  · exact q
  · unfold zt_at at h
    rw [if_neg (Nat.not_lt.mpr q)] at h
    exact absurd (Or.inl (by decide)) h
theorem zt_nd_eq {ch : Nat → Int32} {L : Nat} : ∀ {n j c : Nat}, (∀ i, i < j → zt_dg (zt_at ch L (c + i))) → j ≤ n → (j = n ∨ ¬ zt_dg (zt_at ch L (c + j))) → zt_nd ch L n c = j
  | 0, j, c, _, h2, _ => by
    have : j = 0 := by omega
    subst this; rfl
  | n + 1, 0, c, _, _, h3 => by
    have : ¬ zt_dg (zt_at ch L c) := by
      rcases h3 with q | q
      · omega
      · exact q
    rw [zt_nd, if_neg this]
  | n + 1, j + 1, c, h1, h2, h3 => by
    rw [zt_nd, if_pos (show zt_dg (zt_at ch L c) from h1 0 (Nat.succ_pos j))]
    rw [zt_nd_eq (n := n) (j := j) (c := c + 1) (fun i hi => by have := h1 (i + 1) (by omega); rw [show c + 1 + i = c + (i + 1) by omega]; exact this) (by omega) (by
      rcases h3 with q | q
      · exact Or.inl (by omega)
      · exact Or.inr (by rw [show c + 1 + j = c + (j + 1) by omega]; exact q))]
theorem zt_nd_rng {ch : Nat → Int32} {L : Nat} : ∀ (n c : Nat), zt_nd ch L n c = 0 ∨ c + zt_nd ch L n c ≤ L
  | 0, c => Or.inl rfl
  | n + 1, c => by
    rw [zt_nd]
    by_cases h : zt_dg (zt_at ch L c)
    · rw [if_pos h]
      have := zt_dg_lt h
      rcases zt_nd_rng n (c + 1) with q | q
      · rw [q]; right; omega
      · right; omega
    · rw [if_neg h]; exact Or.inl rfl
theorem zt_num_rng {ch : Nat → Int32} {L c c1 : Nat} {lo hi v : Int32} (h : zt_num ch L lo hi c = .inr (c1, v)) : c < c1 ∧ c1 ≤ L ∧ ¬ (v < lo ∨ hi < v) := by
  unfold zt_num at h
  by_cases h0 : zt_nd ch L 5 (zt_c1 ch L c) = 0
  · rw [if_pos h0] at h; exact absurd h (by simp)
  · rw [if_neg h0] at h
    by_cases h1 : zt_vl ch L c (zt_nd ch L 5 (zt_c1 ch L c)) < lo ∨ hi < zt_vl ch L c (zt_nd ch L 5 (zt_c1 ch L c))
    · rw [if_pos h1] at h; exact absurd h (by simp)
    · rw [if_neg h1] at h
      have e := Sum.inr.inj h
      have e1 : zt_c1 ch L c + zt_nd ch L 5 (zt_c1 ch L c) = c1 := congrArg Prod.fst e
      have e2 : zt_vl ch L c (zt_nd ch L 5 (zt_c1 ch L c)) = v := congrArg Prod.snd e
      have hc : c ≤ zt_c1 ch L c := by unfold zt_c1; split <;> omega
      rcases zt_nd_rng (ch := ch) (L := L) 5 (zt_c1 ch L c) with q | q
      · exact absurd q h0
      · exact ⟨by omega, by omega, by rw [← e2]; exact h1⟩
theorem zt_num_0 {ch : Nat → Int32} {L c c1 : Nat} {lo hi : Int32} (h1 : zt_c1 ch L c = c1) (h : ¬ zt_dg (zt_at ch L c1)) : zt_num ch L lo hi c = .inl c1 := by
  have e : zt_nd ch L 5 c1 = 0 := zt_nd_eq (j := 0) (fun i hi => absurd hi (Nat.not_lt_zero i)) (by omega) (Or.inr h)
  unfold zt_num
  rw [h1, e, if_pos rfl]
theorem zt_num_1 {ch : Nat → Int32} {L c c1 j : Nat} {lo hi v : Int32} (h1 : zt_c1 ch L c = c1) (hj : 0 < j) (h : zt_nd ch L 5 c1 = j) (hv : zt_vl ch L c j = v) (ho : v < lo ∨ hi < v) : zt_num ch L lo hi c = .inl c := by
  unfold zt_num
  rw [h1, h, hv, if_neg (by omega), if_pos ho]
theorem zt_num_2 {ch : Nat → Int32} {L c c1 j : Nat} {lo hi v : Int32} (h1 : zt_c1 ch L c = c1) (hj : 0 < j) (h : zt_nd ch L 5 c1 = j) (hv : zt_vl ch L c j = v) (ho : ¬ (v < lo ∨ hi < v)) : zt_num ch L lo hi c = .inr (c1 + j, v) := by
  unfold zt_num
  rw [h1, h, hv, if_neg (by omega), if_neg ho]
theorem zt_c1_p {ch : Nat → Int32} {L c : Nat} (h : zt_at ch L c = nI 45) : zt_c1 ch L c = c + 1 := if_pos h
theorem zt_c1_n {ch : Nat → Int32} {L c : Nat} (h : ¬ zt_at ch L c = nI 45) : zt_c1 ch L c = c := if_neg h
theorem zt_vl_p {ch : Nat → Int32} {L c j : Nat} (h : zt_at ch L c = nI 45) : zt_vl ch L c j = -zt_nv ch (c + 1) j := by unfold zt_vl; rw [if_pos h, zt_c1_p h]
theorem zt_vl_n {ch : Nat → Int32} {L c j : Nat} (h : ¬ zt_at ch L c = nI 45) : zt_vl ch L c j = zt_nv ch c j := by unfold zt_vl; rw [if_neg h, zt_c1_n h]
/-- an item: kind and three numbers -/
abbrev zt_It : Type := Int32 × Int32 × Int32 × Int32
def zt_lobes (ch : Nat → Int32) (L : Nat) (k : Int32) (c : Nat) : Nat ⊕ (Nat × zt_It) :=
  match zt_num ch L (nI 0) (nI 12) c with
  | .inl f => .inl f
  | .inr (c1, v1) => if zt_at ch L c1 = nI 97 then
      match zt_num ch L (-1000) (nI 1000) (c1 + 1) with
      | .inl f => .inl f
      | .inr (c2, v2) => if zt_at ch L c2 = nI 102 then
          match zt_num ch L (nI 0) (nI 23) (c2 + 1) with
          | .inl f => .inl f
          | .inr (c3, v3) => .inr (c3, k, v1, v2, v3)
        else .inr (c2, k, v1, v2, nI 0)
    else .inl c1
def zt_ecc (ch : Nat → Int32) (L : Nat) (c : Nat) : Nat ⊕ (Nat × zt_It) :=
  match zt_num ch L (-5000) (nI 5000) c with
  | .inl f => .inl f
  | .inr (c1, v1) => if zt_at ch L c1 = nI 44 then
      match zt_num ch L (-5000) (nI 5000) (c1 + 1) with
      | .inl f => .inl f
      | .inr (c2, v2) => .inr (c2, nI 101, v1, v2, nI 0)
    else .inl c1
abbrev zt_ok (x : Int32) : Prop := x = nI 2 ∨ x = nI 3 ∨ x = nI 4 ∨ x = nI 6 ∨ x = nI 8 ∨ x = nI 12
def zt_stp (ch : Nat → Int32) (L : Nat) (c : Nat) : Nat ⊕ (Nat × zt_It) :=
  match zt_num ch L (nI 0) (nI 12) c with
  | .inl f => .inl f
  | .inr (c1, v1) => if zt_ok v1 then .inr (c1, nI 110, v1, nI 0, nI 0) else .inl c
def zt_item (ch : Nat → Int32) (L : Nat) (c : Nat) : Nat ⊕ (Nat × zt_It) :=
  if zt_at ch L c = nI 112 ∨ zt_at ch L c = nI 115 then zt_lobes ch L (zt_at ch L c) (c + 1)
  else if zt_at ch L c = nI 101 then zt_ecc ch L (c + 1)
  else if zt_at ch L c = nI 110 then zt_stp ch L (c + 1)
  else .inl c
/-- all items from c on, n at most -/
def zt_all (ch : Nat → Int32) (L : Nat) : Nat → Nat → Nat ⊕ List zt_It
  | 0, _ => .inl L
  | n + 1, c => match zt_item ch L c with
    | .inl f => .inl f
    | .inr (c1, i) => if c1 = L then .inr [i] else if zt_at ch L c1 = nI 59 then
        match zt_all ch L n (c1 + 1) with
        | .inl f => .inl f
        | .inr r => .inr (i :: r)
      else .inl c1
def zt_app (pre : List zt_It) (r : Nat ⊕ List zt_It) : Nat ⊕ List zt_It := match r with
  | .inl f => .inl f
  | .inr x => .inr (pre ++ x)
/-! The script's cells, at once -/
def z_xU (σ : z_St) (cu it nu fa : Int32) (ak af as_ at_ : Nat → Int32) : z_St :=
  (fun a => if a = 82 then (fun k => if k = 6 then cu else if k = 7 then it else if k = 8 then nu else if k = 9 then fa else σ.1 82 k) else if a = 84 then ak else if a = 85 then af else if a = 86 then as_ else if a = 87 then at_ else σ.1 a, σ.2)
theorem z_xU_pcu {σ : z_St} {cu it nu fa : Int32} {ak af as_ at_ : Nat → Int32} {v : Int32} : z_ui (z_xU σ cu it nu fa ak af as_ at_) 82 6 v = z_xU σ v it nu fa ak af as_ at_ := by
  unfold z_ui z_xU
  refine Prod.ext ?_ rfl
  funext a
  by_cases h : a = 82
  · subst h
    funext k
    simp only [if_true, upd]
    by_cases h2 : k = 6
    · subst h2; simp
    · simp [h2]
  · simp [h]
theorem z_xU_pit {σ : z_St} {cu it nu fa : Int32} {ak af as_ at_ : Nat → Int32} {v : Int32} : z_ui (z_xU σ cu it nu fa ak af as_ at_) 82 7 v = z_xU σ cu v nu fa ak af as_ at_ := by
  unfold z_ui z_xU
  refine Prod.ext ?_ rfl
  funext a
  by_cases h : a = 82
  · subst h
    funext k
    simp only [if_true, upd]
    by_cases h2 : k = 7
    · subst h2; simp
    · simp [h2]
  · simp [h]
theorem z_xU_pnu {σ : z_St} {cu it nu fa : Int32} {ak af as_ at_ : Nat → Int32} {v : Int32} : z_ui (z_xU σ cu it nu fa ak af as_ at_) 82 8 v = z_xU σ cu it v fa ak af as_ at_ := by
  unfold z_ui z_xU
  refine Prod.ext ?_ rfl
  funext a
  by_cases h : a = 82
  · subst h
    funext k
    simp only [if_true, upd]
    by_cases h2 : k = 8
    · subst h2; simp
    · simp [h2]
  · simp [h]
theorem z_xU_pfa {σ : z_St} {cu it nu fa : Int32} {ak af as_ at_ : Nat → Int32} {v : Int32} : z_ui (z_xU σ cu it nu fa ak af as_ at_) 82 9 v = z_xU σ cu it nu v ak af as_ at_ := by
  unfold z_ui z_xU
  refine Prod.ext ?_ rfl
  funext a
  by_cases h : a = 82
  · subst h
    funext k
    simp only [if_true, upd]
    by_cases h2 : k = 9
    · subst h2; simp
    · simp [h2]
  · simp [h]
theorem z_xU_wak {σ : z_St} {cu it nu fa : Int32} {ak af as_ at_ : Nat → Int32} {j : Nat} {v : Int32} : z_ui (z_xU σ cu it nu fa ak af as_ at_) 84 j v = z_xU σ cu it nu fa (upd ak j v) af as_ at_ := by
  unfold z_ui z_xU
  refine Prod.ext ?_ rfl
  funext a
  by_cases h : a = 84
  · subst h; simp
  · simp [h]
theorem z_xU_waf {σ : z_St} {cu it nu fa : Int32} {ak af as_ at_ : Nat → Int32} {j : Nat} {v : Int32} : z_ui (z_xU σ cu it nu fa ak af as_ at_) 85 j v = z_xU σ cu it nu fa ak (upd af j v) as_ at_ := by
  unfold z_ui z_xU
  refine Prod.ext ?_ rfl
  funext a
  by_cases h : a = 85
  · subst h; simp
  · simp [h]
theorem z_xU_was_ {σ : z_St} {cu it nu fa : Int32} {ak af as_ at_ : Nat → Int32} {j : Nat} {v : Int32} : z_ui (z_xU σ cu it nu fa ak af as_ at_) 86 j v = z_xU σ cu it nu fa ak af (upd as_ j v) at_ := by
  unfold z_ui z_xU
  refine Prod.ext ?_ rfl
  funext a
  by_cases h : a = 86
  · subst h; simp
  · simp [h]
theorem z_xU_wat_ {σ : z_St} {cu it nu fa : Int32} {ak af as_ at_ : Nat → Int32} {j : Nat} {v : Int32} : z_ui (z_xU σ cu it nu fa ak af as_ at_) 87 j v = z_xU σ cu it nu fa ak af as_ (upd at_ j v) := by
  unfold z_ui z_xU
  refine Prod.ext ?_ rfl
  funext a
  by_cases h : a = 87
  · subst h; simp
  · simp [h]
theorem z_xU_self (σ : z_St) : z_xU σ (σ.1 82 6) (σ.1 82 7) (σ.1 82 8) (σ.1 82 9) (σ.1 84) (σ.1 85) (σ.1 86) (σ.1 87) = σ := by
  unfold z_xU
  refine Prod.ext ?_ rfl
  funext a
  by_cases h : a = 82
  · subst h
    funext k
    by_cases h6 : k = 6
    · subst h6; simp
    · by_cases h7 : k = 7
      · subst h7; simp
      · by_cases h8 : k = 8
        · subst h8; simp
        · by_cases h9 : k = 9
          · subst h9; simp
          · simp [h6, h7, h8, h9]
  · by_cases h4 : a = 84
    · subst h4; simp
    · by_cases h5 : a = 85
      · subst h5; simp
      · by_cases h6 : a = 86
        · subst h6; simp
        · by_cases h7 : a = 87
          · subst h7; simp
          · simp [h, h4, h5, h6, h7]
theorem dX4_current_0 : decode cX4_current 0 = .ok (.aload_n 0, 1) := by decide +kernel
theorem dX4_current_1 : decode cX4_current 1 = .ok (.getfield 32, 3) := by decide +kernel
theorem dX4_current_4 : decode cX4_current 4 = .ok (.aload_n 0, 1) := by decide +kernel
theorem dX4_current_5 : decode cX4_current 5 = .ok (.getfield 28, 3) := by decide +kernel
theorem dX4_current_8 : decode cX4_current 8 = .ok (.if_icmp .ge 15, 3) := by decide +kernel
theorem dX4_current_11 : decode cX4_current 11 = .ok (.aload_n 0, 1) := by decide +kernel
theorem dX4_current_12 : decode cX4_current 12 = .ok (.getfield 11, 3) := by decide +kernel
theorem dX4_current_15 : decode cX4_current 15 = .ok (.aload_n 0, 1) := by decide +kernel
theorem dX4_current_16 : decode cX4_current 16 = .ok (.getfield 32, 3) := by decide +kernel
theorem dX4_current_19 : decode cX4_current 19 = .ok (.caload, 1) := by decide +kernel
theorem dX4_current_20 : decode cX4_current 20 = .ok (.goto 4, 3) := by decide +kernel
theorem dX4_current_23 : decode cX4_current 23 = .ok (.iconst (-1), 1) := by decide +kernel
theorem dX4_current_24 : decode cX4_current 24 = .ok (.ireturn, 1) := by decide +kernel
set_option maxRecDepth 100000 in
set_option maxHeartbeats 4000000 in
theorem m_X4_current {l : Launch} {G : z_Gl} {σ : z_St} (tl : Nat) (hL : σ.1 82 5 = nI tl) (h200 : tl ≤ 200) (ps : Nat) (hps : ps ≤ tl) (it : Int32) (nu fa : Int32) (ak af as_ at_ : Nat → Int32) : z_M l G yX4_current cX4_current 1 (some .int) (z_rm 0 0) [.ref (z_ad G 82)] (z_xU σ (nI ps) it nu fa ak af as_ at_) (z_p1 (.int (zt_at (σ.1 83) tl ps)) (z_xU σ (nI ps) it nu fa ak af as_ at_)) := by
  refine z_M.of (by decide) (Nat.le_of_ble_eq_true rfl) (fun p e s m below meth c C => ?_)
  refine z_sub [0] (lv1 := [(0, .ref (z_ad G 82))]) rfl ?_
  refine z_aload_n 0 C dX4_current_0 0 rfl ?_
  refine z_getf 1 C 82 z_dX4 (⟨rfl, rfl⟩) 6 (by decide) q310 (.int (nI ps)) rfl dX4_current_1 ?_
  refine z_aload_n 4 C dX4_current_4 0 rfl ?_
  refine z_getf 5 C 82 z_dX4 (⟨rfl, rfl⟩) 5 (by decide) q308 (.int (nI tl)) (z_ci hL) dX4_current_5 ?_
  refine z_icmp_geN 8 C ps tl rfl rfl (by omega) (by omega) 23 dX4_current_8 (by decide) (fun c8 => ?_) (fun c8 => ?_)
  · skip
    refine z_iconst 23 C dX4_current_23 (-1) rfl ?_
    refine z_iret 24 C dX4_current_24 ?_
    exact ⟨z_ci (by unfold zt_at; first | rw [if_pos c8] | rw [if_neg (Nat.not_lt.mpr c8)]), rfl⟩
  · skip
    refine z_aload_n 11 C dX4_current_11 0 rfl ?_
    refine z_getf 12 C 82 z_dX4 (⟨rfl, rfl⟩) 0 (by decide) q299 (.ref (z_ad G 83)) rfl dX4_current_12 ?_
    refine z_aload_n 15 C dX4_current_15 0 rfl ?_
    refine z_getf 16 C 82 z_dX4 (⟨rfl, rfl⟩) 6 (by decide) q310 (.int (nI ps)) rfl dX4_current_16 ?_
    refine z_caldN 19 C 83 (n := 200) (⟨rfl, rfl⟩) ps rfl (by omega) (by decide) dX4_current_19 ?_
    refine z_cv (st1 := [.int (σ.1 83 ps)]) rfl rfl rfl ?_
    refine z_goto 20 C 24 dX4_current_20 (by decide) ?_
    refine z_iret 24 C dX4_current_24 ?_
    exact ⟨z_ci (by unfold zt_at; first | rw [if_pos c8] | rw [if_neg (Nat.not_lt.mpr c8)]), rfl⟩
theorem dX4_fail_0 : decode cX4_fail 0 = .ok (.aload_n 0, 1) := by decide +kernel
theorem dX4_fail_1 : decode cX4_fail 1 = .ok (.iload_n 1, 1) := by decide +kernel
theorem dX4_fail_2 : decode cX4_fail 2 = .ok (.putfield 41, 3) := by decide +kernel
theorem dX4_fail_5 : decode cX4_fail 5 = .ok (.iconst 0, 1) := by decide +kernel
theorem dX4_fail_6 : decode cX4_fail 6 = .ok (.ireturn, 1) := by decide +kernel
set_option maxRecDepth 100000 in
set_option maxHeartbeats 4000000 in
theorem m_X4_fail {l : Launch} {G : z_Gl} {σ : z_St} (tl : Nat) (hL : σ.1 82 5 = nI tl) (h200 : tl ≤ 200) (cu : Int32) (it : Int32) (nu fa : Int32) (ak af as_ at_ : Nat → Int32) (f : Int32) : z_M l G yX4_fail cX4_fail 2 (some .boolean) (z_rm 0 0) [.ref (z_ad G 82), .int f] (z_xU σ cu it nu fa ak af as_ at_) (z_p1 (.int (nI 0)) (z_xU σ cu it nu f ak af as_ at_)) := by
  refine z_M.of (by decide) (Nat.le_of_ble_eq_true rfl) (fun p e s m below meth c C => ?_)
  refine z_sub [0, 1] (lv1 := [(0, .ref (z_ad G 82)), (1, .int f)]) rfl ?_
  refine z_aload_n 0 C dX4_fail_0 0 rfl ?_
  refine z_iload_n 1 C dX4_fail_1 1 rfl ?_
  refine z_puti 2 C 82 z_dX4 (⟨rfl, rfl⟩) 9 (by decide) q314 rfl (rfl) rfl ⟨Nat.le_of_ble_eq_true rfl, rfl⟩ dX4_fail_2 ?_
  refine z_cv (σ1 := z_xU σ cu it nu f ak af as_ at_) rfl rfl z_xU_pfa ?_
  refine z_iconst 5 C dX4_fail_5 (nI 0) rfl ?_
  refine z_zret 6 C (rfl) dX4_fail_6 ?_
  exact ⟨rfl, rfl⟩
theorem dX4_isAtDigit_0 : decode cX4_isAtDigit 0 = .ok (.aload_n 0, 1) := by decide +kernel
theorem dX4_isAtDigit_1 : decode cX4_isAtDigit 1 = .ok (.invokevirtual 56, 3) := by decide +kernel
theorem dX4_isAtDigit_4 : decode cX4_isAtDigit 4 = .ok (.bipush 48, 2) := by decide +kernel
theorem dX4_isAtDigit_6 : decode cX4_isAtDigit 6 = .ok (.bipush 57, 2) := by decide +kernel
theorem dX4_isAtDigit_8 : decode cX4_isAtDigit 8 = .ok (.invokestatic 83, 3) := by decide +kernel
theorem dX4_isAtDigit_11 : decode cX4_isAtDigit 11 = .ok (.ifCond .ne 7, 3) := by decide +kernel
theorem dX4_isAtDigit_14 : decode cX4_isAtDigit 14 = .ok (.iconst 1, 1) := by decide +kernel
theorem dX4_isAtDigit_15 : decode cX4_isAtDigit 15 = .ok (.goto 4, 3) := by decide +kernel
theorem dX4_isAtDigit_18 : decode cX4_isAtDigit 18 = .ok (.iconst 0, 1) := by decide +kernel
theorem dX4_isAtDigit_19 : decode cX4_isAtDigit 19 = .ok (.ireturn, 1) := by decide +kernel
set_option maxRecDepth 100000 in
set_option maxHeartbeats 4000000 in
theorem m_X4_isAtDigit {l : Launch} {G : z_Gl} {σ : z_St} (tl : Nat) (hL : σ.1 82 5 = nI tl) (h200 : tl ≤ 200) (ps : Nat) (hps : ps ≤ tl) (it : Int32) (nu fa : Int32) (ak af as_ at_ : Nat → Int32) : z_M l G yX4_isAtDigit cX4_isAtDigit 1 (some .boolean) (z_rm 1 22) [.ref (z_ad G 82)] (z_xU σ (nI ps) it nu fa ak af as_ at_) (z_p1 (.int (z_bo (zt_dg (zt_at (σ.1 83) tl ps)))) (z_xU σ (nI ps) it nu fa ak af as_ at_)) := by
  refine z_M.of (by decide) (Nat.le_of_ble_eq_true rfl) (fun p e s m below meth c C => ?_)
  refine z_sub [0] (lv1 := [(0, .ref (z_ad G 82))]) rfl ?_
  refine z_aload_n 0 C dX4_isAtDigit_0 0 rfl ?_
  refine z_callV 1 C 82 (⟨rfl, rfl⟩) rfl (As := []) (rest := []) (@m_X4_current _ _ σ tl hL h200 ps (by omega) it nu fa ak af as_ at_ ) k_X4_current q883 ⟨rfl, rfl⟩ ⟨Nat.le_of_ble_eq_true rfl, Nat.le_of_ble_eq_true rfl⟩ rfl (Nat.le_of_ble_eq_true rfl) ⟨Nat.le_of_ble_eq_true rfl, Nat.le_of_ble_eq_true rfl⟩ rfl dX4_isAtDigit_1 (z_k1 ?_)
  refine z_bipush 4 C dX4_isAtDigit_4 (nI 48) rfl ?_
  refine z_bipush 6 C dX4_isAtDigit_6 (nI 57) rfl ?_
  refine z_callSN 8 C (As := [.int (zt_at (σ.1 83) tl ps), .int (nI 48), .int (nI 57)]) (rest := []) (m_X7_isOutside (σ := z_xU σ (nI ps) it nu fa ak af as_ at_) (zt_at (σ.1 83) tl ps) (nI 48) (nI 57)) k_X7_isOutside (List.mem_of_getElem? (i := 56) rfl) ⟨rfl, rfl⟩ ⟨Nat.le_of_ble_eq_true rfl, Nat.le_of_ble_eq_true rfl⟩ rfl (Nat.le_of_ble_eq_true rfl) ⟨Nat.le_of_ble_eq_true rfl, Nat.le_of_ble_eq_true rfl⟩ rfl dX4_isAtDigit_8 (z_k1 ?_)
  refine z_if_neb 11 C 18 dX4_isAtDigit_11 (by decide) (fun c11 => ?_) (fun c11 => ?_)
  · skip
    refine z_iconst 18 C dX4_isAtDigit_18 (nI 0) rfl ?_
    refine z_zret 19 C (rfl) dX4_isAtDigit_19 ?_
    first | exact ⟨z_ci (z_bo_f (fun z => z c11)), rfl⟩ | exact ⟨z_ci (z_bo_t c11), rfl⟩
  · skip
    refine z_iconst 14 C dX4_isAtDigit_14 (nI 1) rfl ?_
    refine z_goto 15 C 19 dX4_isAtDigit_15 (by decide) ?_
    refine z_zret 19 C (rfl) dX4_isAtDigit_19 ?_
    first | exact ⟨z_ci (z_bo_f (fun z => z c11)), rfl⟩ | exact ⟨z_ci (z_bo_t c11), rfl⟩
theorem dX4_note_0 : decode cX4_note 0 = .ok (.aload_n 0, 1) := by decide +kernel
theorem dX4_note_1 : decode cX4_note 1 = .ok (.getfield 35, 3) := by decide +kernel
theorem dX4_note_4 : decode cX4_note 4 = .ok (.bipush 67, 2) := by decide +kernel
theorem dX4_note_6 : decode cX4_note 6 = .ok (.if_icmp .ge 54, 3) := by decide +kernel
theorem dX4_note_9 : decode cX4_note 9 = .ok (.aload_n 0, 1) := by decide +kernel
theorem dX4_note_10 : decode cX4_note 10 = .ok (.getfield 15, 3) := by decide +kernel
theorem dX4_note_13 : decode cX4_note 13 = .ok (.aload_n 0, 1) := by decide +kernel
theorem dX4_note_14 : decode cX4_note 14 = .ok (.getfield 35, 3) := by decide +kernel
theorem dX4_note_17 : decode cX4_note 17 = .ok (.iload_n 1, 1) := by decide +kernel
theorem dX4_note_18 : decode cX4_note 18 = .ok (.iastore, 1) := by decide +kernel
theorem dX4_note_19 : decode cX4_note 19 = .ok (.aload_n 0, 1) := by decide +kernel
theorem dX4_note_20 : decode cX4_note 20 = .ok (.getfield 19, 3) := by decide +kernel
theorem dX4_note_23 : decode cX4_note 23 = .ok (.aload_n 0, 1) := by decide +kernel
theorem dX4_note_24 : decode cX4_note 24 = .ok (.getfield 35, 3) := by decide +kernel
theorem dX4_note_27 : decode cX4_note 27 = .ok (.iload_n 2, 1) := by decide +kernel
theorem dX4_note_28 : decode cX4_note 28 = .ok (.iastore, 1) := by decide +kernel
theorem dX4_note_29 : decode cX4_note 29 = .ok (.aload_n 0, 1) := by decide +kernel
theorem dX4_note_30 : decode cX4_note 30 = .ok (.getfield 22, 3) := by decide +kernel
theorem dX4_note_33 : decode cX4_note 33 = .ok (.aload_n 0, 1) := by decide +kernel
theorem dX4_note_34 : decode cX4_note 34 = .ok (.getfield 35, 3) := by decide +kernel
theorem dX4_note_37 : decode cX4_note 37 = .ok (.iload_n 3, 1) := by decide +kernel
theorem dX4_note_38 : decode cX4_note 38 = .ok (.iastore, 1) := by decide +kernel
theorem dX4_note_39 : decode cX4_note 39 = .ok (.aload_n 0, 1) := by decide +kernel
theorem dX4_note_40 : decode cX4_note 40 = .ok (.getfield 25, 3) := by decide +kernel
theorem dX4_note_43 : decode cX4_note 43 = .ok (.aload_n 0, 1) := by decide +kernel
theorem dX4_note_44 : decode cX4_note 44 = .ok (.getfield 35, 3) := by decide +kernel
theorem dX4_note_47 : decode cX4_note 47 = .ok (.iload 4, 2) := by decide +kernel
theorem dX4_note_49 : decode cX4_note 49 = .ok (.iastore, 1) := by decide +kernel
theorem dX4_note_50 : decode cX4_note 50 = .ok (.aload_n 0, 1) := by decide +kernel
theorem dX4_note_51 : decode cX4_note 51 = .ok (.dup, 1) := by decide +kernel
theorem dX4_note_52 : decode cX4_note 52 = .ok (.getfield 35, 3) := by decide +kernel
theorem dX4_note_55 : decode cX4_note 55 = .ok (.iconst 1, 1) := by decide +kernel
theorem dX4_note_56 : decode cX4_note 56 = .ok (.iadd, 1) := by decide +kernel
theorem dX4_note_57 : decode cX4_note 57 = .ok (.putfield 35, 3) := by decide +kernel
theorem dX4_note_60 : decode cX4_note 60 = .ok (.return_, 1) := by decide +kernel
set_option maxRecDepth 100000 in
set_option maxHeartbeats 4000000 in
theorem m_X4_note {l : Launch} {G : z_Gl} {σ : z_St} (tl : Nat) (hL : σ.1 82 5 = nI tl) (h200 : tl ≤ 200) (cu : Int32) (n : Nat) (hn : n < 67) (nu fa : Int32) (ak af as_ at_ : Nat → Int32) (kd : Int32) (fi : Int32) (se : Int32) (th : Int32) : z_M l G yX4_note cX4_note 5 none (z_rm 0 0) [.ref (z_ad G 82), .int kd, .int fi, .int se, .int th] (z_xU σ cu (nI n) nu fa ak af as_ at_) (z_p0 (z_xU σ cu (nI (n + 1)) nu fa (upd ak n kd) (upd af n fi) (upd as_ n se) (upd at_ n th))) := by
  refine z_M.of (by decide) (Nat.le_of_ble_eq_true rfl) (fun p e s m below meth c C => ?_)
  refine z_sub [0, 1, 2, 3, 4] (lv1 := [(0, .ref (z_ad G 82)), (1, .int kd), (2, .int fi), (3, .int se), (4, .int th)]) rfl ?_
  refine z_aload_n 0 C dX4_note_0 0 rfl ?_
  refine z_getf 1 C 82 z_dX4 (⟨rfl, rfl⟩) 7 (by decide) q311 (.int (nI n)) rfl dX4_note_1 ?_
  refine z_bipush 4 C dX4_note_4 (nI 67) rfl ?_
  refine z_icmp_geN 6 C n 67 rfl rfl (by omega) (by omega) 60 dX4_note_6 (by decide) (fun c6 => ?_) (fun c6 => ?_)
  · skip
    exact absurd c6 (by omega)
  · skip
    refine z_aload_n 9 C dX4_note_9 0 rfl ?_
    refine z_getf 10 C 82 z_dX4 (⟨rfl, rfl⟩) 1 (by decide) q300 (.ref (z_ad G 84)) rfl dX4_note_10 ?_
    refine z_aload_n 13 C dX4_note_13 0 rfl ?_
    refine z_getf 14 C 82 z_dX4 (⟨rfl, rfl⟩) 7 (by decide) q311 (.int (nI n)) rfl dX4_note_14 ?_
    refine z_iload_n 17 C dX4_note_17 1 rfl ?_
    refine z_iastN 18 C 84 (n := 67) (⟨rfl, rfl⟩) n rfl (by omega) (by decide) dX4_note_18 ?_
    refine z_cv (σ1 := z_xU σ cu (nI n) nu fa (upd ak n kd) af as_ at_) rfl rfl z_xU_wak ?_
    refine z_aload_n 19 C dX4_note_19 0 rfl ?_
    refine z_getf 20 C 82 z_dX4 (⟨rfl, rfl⟩) 2 (by decide) q302 (.ref (z_ad G 85)) rfl dX4_note_20 ?_
    refine z_aload_n 23 C dX4_note_23 0 rfl ?_
    refine z_getf 24 C 82 z_dX4 (⟨rfl, rfl⟩) 7 (by decide) q311 (.int (nI n)) rfl dX4_note_24 ?_
    refine z_iload_n 27 C dX4_note_27 2 rfl ?_
    refine z_iastN 28 C 85 (n := 67) (⟨rfl, rfl⟩) n rfl (by omega) (by decide) dX4_note_28 ?_
    refine z_cv (σ1 := z_xU σ cu (nI n) nu fa (upd ak n kd) (upd af n fi) as_ at_) rfl rfl z_xU_waf ?_
    refine z_aload_n 29 C dX4_note_29 0 rfl ?_
    refine z_getf 30 C 82 z_dX4 (⟨rfl, rfl⟩) 3 (by decide) q304 (.ref (z_ad G 86)) rfl dX4_note_30 ?_
    refine z_aload_n 33 C dX4_note_33 0 rfl ?_
    refine z_getf 34 C 82 z_dX4 (⟨rfl, rfl⟩) 7 (by decide) q311 (.int (nI n)) rfl dX4_note_34 ?_
    refine z_iload_n 37 C dX4_note_37 3 rfl ?_
    refine z_iastN 38 C 86 (n := 67) (⟨rfl, rfl⟩) n rfl (by omega) (by decide) dX4_note_38 ?_
    refine z_cv (σ1 := z_xU σ cu (nI n) nu fa (upd ak n kd) (upd af n fi) (upd as_ n se) at_) rfl rfl z_xU_was_ ?_
    refine z_aload_n 39 C dX4_note_39 0 rfl ?_
    refine z_getf 40 C 82 z_dX4 (⟨rfl, rfl⟩) 4 (by decide) q306 (.ref (z_ad G 87)) rfl dX4_note_40 ?_
    refine z_aload_n 43 C dX4_note_43 0 rfl ?_
    refine z_getf 44 C 82 z_dX4 (⟨rfl, rfl⟩) 7 (by decide) q311 (.int (nI n)) rfl dX4_note_44 ?_
    refine z_iload 47 C dX4_note_47 4 rfl ?_
    refine z_iastN 49 C 87 (n := 67) (⟨rfl, rfl⟩) n rfl (by omega) (by decide) dX4_note_49 ?_
    refine z_cv (σ1 := z_xU σ cu (nI n) nu fa (upd ak n kd) (upd af n fi) (upd as_ n se) (upd at_ n th)) rfl rfl z_xU_wat_ ?_
    refine z_aload_n 50 C dX4_note_50 0 rfl ?_
    refine z_dup 51 C dX4_note_51 rfl ?_
    refine z_getf 52 C 82 z_dX4 (⟨rfl, rfl⟩) 7 (by decide) q311 (.int (nI n)) rfl dX4_note_52 ?_
    refine z_iconst 55 C dX4_note_55 (nI 1) rfl ?_
    refine z_iaddN 56 C n 1 rfl rfl dX4_note_56 ?_
    refine z_puti 57 C 82 z_dX4 (⟨rfl, rfl⟩) 7 (by decide) q311 rfl (rfl) rfl ⟨Nat.le_of_ble_eq_true rfl, rfl⟩ dX4_note_57 ?_
    refine z_cv (σ1 := z_xU σ cu (nI (n + 1)) nu fa (upd ak n kd) (upd af n fi) (upd as_ n se) (upd at_ n th)) rfl rfl z_xU_pit ?_
    refine z_vret 60 C dX4_note_60 ?_
    exact ⟨rfl, rfl⟩
theorem dX4_take_0 : decode cX4_take 0 = .ok (.aload_n 0, 1) := by decide +kernel
theorem dX4_take_1 : decode cX4_take 1 = .ok (.invokevirtual 56, 3) := by decide +kernel
theorem dX4_take_4 : decode cX4_take 4 = .ok (.iload_n 1, 1) := by decide +kernel
theorem dX4_take_5 : decode cX4_take 5 = .ok (.if_icmp .eq 12, 3) := by decide +kernel
theorem dX4_take_8 : decode cX4_take 8 = .ok (.aload_n 0, 1) := by decide +kernel
theorem dX4_take_9 : decode cX4_take 9 = .ok (.aload_n 0, 1) := by decide +kernel
theorem dX4_take_10 : decode cX4_take 10 = .ok (.getfield 32, 3) := by decide +kernel
theorem dX4_take_13 : decode cX4_take 13 = .ok (.invokevirtual 52, 3) := by decide +kernel
theorem dX4_take_16 : decode cX4_take 16 = .ok (.ireturn, 1) := by decide +kernel
theorem dX4_take_17 : decode cX4_take 17 = .ok (.aload_n 0, 1) := by decide +kernel
theorem dX4_take_18 : decode cX4_take 18 = .ok (.dup, 1) := by decide +kernel
theorem dX4_take_19 : decode cX4_take 19 = .ok (.getfield 32, 3) := by decide +kernel
theorem dX4_take_22 : decode cX4_take 22 = .ok (.iconst 1, 1) := by decide +kernel
theorem dX4_take_23 : decode cX4_take 23 = .ok (.iadd, 1) := by decide +kernel
theorem dX4_take_24 : decode cX4_take 24 = .ok (.putfield 32, 3) := by decide +kernel
theorem dX4_take_27 : decode cX4_take 27 = .ok (.iconst 1, 1) := by decide +kernel
theorem dX4_take_28 : decode cX4_take 28 = .ok (.ireturn, 1) := by decide +kernel
set_option maxRecDepth 100000 in
set_option maxHeartbeats 4000000 in
theorem m_X4_take {l : Launch} {G : z_Gl} {σ : z_St} (tl : Nat) (hL : σ.1 82 5 = nI tl) (h200 : tl ≤ 200) (ps : Nat) (hps : ps ≤ tl) (it : Int32) (nu fa : Int32) (ak af as_ at_ : Nat → Int32) (wd : Int32) : z_M l G yX4_take cX4_take 2 (some .boolean) (z_rm 1 21) [.ref (z_ad G 82), .int wd] (z_xU σ (nI ps) it nu fa ak af as_ at_) (fun w σ1 => (¬ zt_at (σ.1 83) tl ps = wd ∧ w = some (.int (nI 0)) ∧ σ1 = z_xU σ (nI ps) it nu (nI ps) ak af as_ at_) ∨ (zt_at (σ.1 83) tl ps = wd ∧ w = some (.int (nI 1)) ∧ σ1 = z_xU σ (nI (ps + 1)) it nu fa ak af as_ at_)) := by
  refine z_M.of (by decide) (Nat.le_of_ble_eq_true rfl) (fun p e s m below meth c C => ?_)
  refine z_sub [0, 1] (lv1 := [(0, .ref (z_ad G 82)), (1, .int wd)]) rfl ?_
  refine z_aload_n 0 C dX4_take_0 0 rfl ?_
  refine z_callV 1 C 82 (⟨rfl, rfl⟩) rfl (As := []) (rest := []) (@m_X4_current _ _ σ tl hL h200 ps (by omega) it nu fa ak af as_ at_ ) k_X4_current q883 ⟨rfl, rfl⟩ ⟨Nat.le_of_ble_eq_true rfl, Nat.le_of_ble_eq_true rfl⟩ rfl (Nat.le_of_ble_eq_true rfl) ⟨Nat.le_of_ble_eq_true rfl, Nat.le_of_ble_eq_true rfl⟩ rfl dX4_take_1 (z_k1 ?_)
  refine z_iload_n 4 C dX4_take_4 1 rfl ?_
  refine z_icmp_eq 5 C 17 dX4_take_5 (by decide) (fun c5 => ?_) (fun c5 => ?_)
  · skip
    refine z_aload_n 17 C dX4_take_17 0 rfl ?_
    refine z_dup 18 C dX4_take_18 rfl ?_
    refine z_getf 19 C 82 z_dX4 (⟨rfl, rfl⟩) 6 (by decide) q310 (.int (nI ps)) rfl dX4_take_19 ?_
    refine z_iconst 22 C dX4_take_22 (nI 1) rfl ?_
    refine z_iaddN 23 C ps 1 rfl rfl dX4_take_23 ?_
    refine z_puti 24 C 82 z_dX4 (⟨rfl, rfl⟩) 6 (by decide) q310 rfl (rfl) rfl ⟨Nat.le_of_ble_eq_true rfl, rfl⟩ dX4_take_24 ?_
    refine z_cv (σ1 := z_xU σ (nI (ps + 1)) it nu fa ak af as_ at_) rfl rfl z_xU_pcu ?_
    refine z_iconst 27 C dX4_take_27 (nI 1) rfl ?_
    refine z_zret 28 C (rfl) dX4_take_28 ?_
    exact Or.inr ⟨c5, rfl, rfl⟩
  · skip
    refine z_aload_n 8 C dX4_take_8 0 rfl ?_
    refine z_aload_n 9 C dX4_take_9 0 rfl ?_
    refine z_getf 10 C 82 z_dX4 (⟨rfl, rfl⟩) 6 (by decide) q310 (.int (nI ps)) rfl dX4_take_10 ?_
    refine z_callV 13 C 82 (⟨rfl, rfl⟩) rfl (As := [.int (nI ps)]) (rest := []) (@m_X4_fail _ _ σ tl hL h200 (nI ps) it nu fa ak af as_ at_ (nI ps)) k_X4_fail q900 ⟨rfl, rfl⟩ ⟨Nat.le_of_ble_eq_true rfl, Nat.le_of_ble_eq_true rfl⟩ rfl (Nat.le_of_ble_eq_true rfl) ⟨Nat.le_of_ble_eq_true rfl, Nat.le_of_ble_eq_true rfl⟩ rfl dX4_take_13 (z_k1 ?_)
    refine z_zret 16 C (rfl) dX4_take_16 ?_
    exact Or.inl ⟨c5, rfl, rfl⟩
theorem dX4_takeNumber_0 : decode cX4_takeNumber 0 = .ok (.aload_n 0, 1) := by decide +kernel
theorem dX4_takeNumber_1 : decode cX4_takeNumber 1 = .ok (.getfield 32, 3) := by decide +kernel
theorem dX4_takeNumber_4 : decode cX4_takeNumber 4 = .ok (.istore_n 3, 1) := by decide +kernel
theorem dX4_takeNumber_5 : decode cX4_takeNumber 5 = .ok (.aload_n 0, 1) := by decide +kernel
theorem dX4_takeNumber_6 : decode cX4_takeNumber 6 = .ok (.invokevirtual 56, 3) := by decide +kernel
theorem dX4_takeNumber_9 : decode cX4_takeNumber 9 = .ok (.bipush 45, 2) := by decide +kernel
theorem dX4_takeNumber_11 : decode cX4_takeNumber 11 = .ok (.if_icmp .ne 7, 3) := by decide +kernel
theorem dX4_takeNumber_14 : decode cX4_takeNumber 14 = .ok (.iconst 1, 1) := by decide +kernel
theorem dX4_takeNumber_15 : decode cX4_takeNumber 15 = .ok (.goto 4, 3) := by decide +kernel
theorem dX4_takeNumber_18 : decode cX4_takeNumber 18 = .ok (.iconst 0, 1) := by decide +kernel
theorem dX4_takeNumber_19 : decode cX4_takeNumber 19 = .ok (.istore 4, 2) := by decide +kernel
theorem dX4_takeNumber_21 : decode cX4_takeNumber 21 = .ok (.iload 4, 2) := by decide +kernel
theorem dX4_takeNumber_23 : decode cX4_takeNumber 23 = .ok (.ifCond .eq 13, 3) := by decide +kernel
theorem dX4_takeNumber_26 : decode cX4_takeNumber 26 = .ok (.aload_n 0, 1) := by decide +kernel
theorem dX4_takeNumber_27 : decode cX4_takeNumber 27 = .ok (.dup, 1) := by decide +kernel
theorem dX4_takeNumber_28 : decode cX4_takeNumber 28 = .ok (.getfield 32, 3) := by decide +kernel
theorem dX4_takeNumber_31 : decode cX4_takeNumber 31 = .ok (.iconst 1, 1) := by decide +kernel
theorem dX4_takeNumber_32 : decode cX4_takeNumber 32 = .ok (.iadd, 1) := by decide +kernel
theorem dX4_takeNumber_33 : decode cX4_takeNumber 33 = .ok (.putfield 32, 3) := by decide +kernel
theorem dX4_takeNumber_36 : decode cX4_takeNumber 36 = .ok (.aload_n 0, 1) := by decide +kernel
theorem dX4_takeNumber_37 : decode cX4_takeNumber 37 = .ok (.invokevirtual 80, 3) := by decide +kernel
theorem dX4_takeNumber_40 : decode cX4_takeNumber 40 = .ok (.ifCond .ne 12, 3) := by decide +kernel
theorem dX4_takeNumber_43 : decode cX4_takeNumber 43 = .ok (.aload_n 0, 1) := by decide +kernel
theorem dX4_takeNumber_44 : decode cX4_takeNumber 44 = .ok (.aload_n 0, 1) := by decide +kernel
theorem dX4_takeNumber_45 : decode cX4_takeNumber 45 = .ok (.getfield 32, 3) := by decide +kernel
theorem dX4_takeNumber_48 : decode cX4_takeNumber 48 = .ok (.invokevirtual 52, 3) := by decide +kernel
theorem dX4_takeNumber_51 : decode cX4_takeNumber 51 = .ok (.ireturn, 1) := by decide +kernel
theorem dX4_takeNumber_52 : decode cX4_takeNumber 52 = .ok (.iconst 0, 1) := by decide +kernel
theorem dX4_takeNumber_53 : decode cX4_takeNumber 53 = .ok (.istore 5, 2) := by decide +kernel
theorem dX4_takeNumber_55 : decode cX4_takeNumber 55 = .ok (.iconst 0, 1) := by decide +kernel
theorem dX4_takeNumber_56 : decode cX4_takeNumber 56 = .ok (.istore 6, 2) := by decide +kernel
theorem dX4_takeNumber_58 : decode cX4_takeNumber 58 = .ok (.iload 6, 2) := by decide +kernel
theorem dX4_takeNumber_60 : decode cX4_takeNumber 60 = .ok (.iconst 5, 1) := by decide +kernel
theorem dX4_takeNumber_61 : decode cX4_takeNumber 61 = .ok (.if_icmp .ge 41, 3) := by decide +kernel
theorem dX4_takeNumber_64 : decode cX4_takeNumber 64 = .ok (.aload_n 0, 1) := by decide +kernel
theorem dX4_takeNumber_65 : decode cX4_takeNumber 65 = .ok (.invokevirtual 80, 3) := by decide +kernel
theorem dX4_takeNumber_68 : decode cX4_takeNumber 68 = .ok (.ifCond .eq 34, 3) := by decide +kernel
theorem dX4_takeNumber_71 : decode cX4_takeNumber 71 = .ok (.iload 5, 2) := by decide +kernel
theorem dX4_takeNumber_73 : decode cX4_takeNumber 73 = .ok (.bipush 10, 2) := by decide +kernel
theorem dX4_takeNumber_75 : decode cX4_takeNumber 75 = .ok (.imul, 1) := by decide +kernel
theorem dX4_takeNumber_76 : decode cX4_takeNumber 76 = .ok (.aload_n 0, 1) := by decide +kernel
theorem dX4_takeNumber_77 : decode cX4_takeNumber 77 = .ok (.invokevirtual 56, 3) := by decide +kernel
theorem dX4_takeNumber_80 : decode cX4_takeNumber 80 = .ok (.bipush 48, 2) := by decide +kernel
theorem dX4_takeNumber_82 : decode cX4_takeNumber 82 = .ok (.isub, 1) := by decide +kernel
theorem dX4_takeNumber_83 : decode cX4_takeNumber 83 = .ok (.iadd, 1) := by decide +kernel
theorem dX4_takeNumber_84 : decode cX4_takeNumber 84 = .ok (.istore 5, 2) := by decide +kernel
theorem dX4_takeNumber_86 : decode cX4_takeNumber 86 = .ok (.aload_n 0, 1) := by decide +kernel
theorem dX4_takeNumber_87 : decode cX4_takeNumber 87 = .ok (.dup, 1) := by decide +kernel
theorem dX4_takeNumber_88 : decode cX4_takeNumber 88 = .ok (.getfield 32, 3) := by decide +kernel
theorem dX4_takeNumber_91 : decode cX4_takeNumber 91 = .ok (.iconst 1, 1) := by decide +kernel
theorem dX4_takeNumber_92 : decode cX4_takeNumber 92 = .ok (.iadd, 1) := by decide +kernel
theorem dX4_takeNumber_93 : decode cX4_takeNumber 93 = .ok (.putfield 32, 3) := by decide +kernel
theorem dX4_takeNumber_96 : decode cX4_takeNumber 96 = .ok (.iinc 6 1, 3) := by decide +kernel
theorem dX4_takeNumber_99 : decode cX4_takeNumber 99 = .ok (.goto (-41), 3) := by decide +kernel
theorem dX4_takeNumber_102 : decode cX4_takeNumber 102 = .ok (.aload_n 0, 1) := by decide +kernel
theorem dX4_takeNumber_103 : decode cX4_takeNumber 103 = .ok (.iload 4, 2) := by decide +kernel
theorem dX4_takeNumber_105 : decode cX4_takeNumber 105 = .ok (.ifCond .eq 9, 3) := by decide +kernel
theorem dX4_takeNumber_108 : decode cX4_takeNumber 108 = .ok (.iload 5, 2) := by decide +kernel
theorem dX4_takeNumber_110 : decode cX4_takeNumber 110 = .ok (.ineg, 1) := by decide +kernel
theorem dX4_takeNumber_111 : decode cX4_takeNumber 111 = .ok (.goto 5, 3) := by decide +kernel
theorem dX4_takeNumber_114 : decode cX4_takeNumber 114 = .ok (.iload 5, 2) := by decide +kernel
theorem dX4_takeNumber_116 : decode cX4_takeNumber 116 = .ok (.putfield 38, 3) := by decide +kernel
theorem dX4_takeNumber_119 : decode cX4_takeNumber 119 = .ok (.aload_n 0, 1) := by decide +kernel
theorem dX4_takeNumber_120 : decode cX4_takeNumber 120 = .ok (.getfield 38, 3) := by decide +kernel
theorem dX4_takeNumber_123 : decode cX4_takeNumber 123 = .ok (.iload_n 1, 1) := by decide +kernel
theorem dX4_takeNumber_124 : decode cX4_takeNumber 124 = .ok (.iload_n 2, 1) := by decide +kernel
theorem dX4_takeNumber_125 : decode cX4_takeNumber 125 = .ok (.invokestatic 83, 3) := by decide +kernel
theorem dX4_takeNumber_128 : decode cX4_takeNumber 128 = .ok (.ifCond .eq 11, 3) := by decide +kernel
theorem dX4_takeNumber_131 : decode cX4_takeNumber 131 = .ok (.aload_n 0, 1) := by decide +kernel
theorem dX4_takeNumber_132 : decode cX4_takeNumber 132 = .ok (.iload_n 3, 1) := by decide +kernel
theorem dX4_takeNumber_133 : decode cX4_takeNumber 133 = .ok (.invokevirtual 52, 3) := by decide +kernel
theorem dX4_takeNumber_136 : decode cX4_takeNumber 136 = .ok (.ifCond .eq 7, 3) := by decide +kernel
theorem dX4_takeNumber_139 : decode cX4_takeNumber 139 = .ok (.iconst 1, 1) := by decide +kernel
theorem dX4_takeNumber_140 : decode cX4_takeNumber 140 = .ok (.goto 4, 3) := by decide +kernel
theorem dX4_takeNumber_143 : decode cX4_takeNumber 143 = .ok (.iconst 0, 1) := by decide +kernel
theorem dX4_takeNumber_144 : decode cX4_takeNumber 144 = .ok (.ireturn, 1) := by decide +kernel
set_option maxRecDepth 100000 in
set_option maxHeartbeats 4000000 in
theorem m_X4_takeNumber {l : Launch} {G : z_Gl} {σ : z_St} (tl : Nat) (hL : σ.1 82 5 = nI tl) (h200 : tl ≤ 200) (ps : Nat) (hps : ps ≤ tl) (it : Int32) (nu fa : Int32) (ak af as_ at_ : Nat → Int32) (lo : Int32) (hi : Int32) : z_M l G yX4_takeNumber cX4_takeNumber 7 (some .boolean) (z_rm 2 42) [.ref (z_ad G 82), .int lo, .int hi] (z_xU σ (nI ps) it nu fa ak af as_ at_) (fun w σ1 => (∃ (f : Nat) (a b : Int32), zt_num (σ.1 83) tl lo hi ps = .inl f ∧ w = some (.int (nI 0)) ∧ σ1 = z_xU σ a it b (nI f) ak af as_ at_) ∨ (∃ (c1 : Nat) (v : Int32), zt_num (σ.1 83) tl lo hi ps = .inr (c1, v) ∧ w = some (.int (nI 1)) ∧ σ1 = z_xU σ (nI c1) it v fa ak af as_ at_)) := by
  refine z_M.of (by decide) (Nat.le_of_ble_eq_true rfl) (fun p e s m below meth c C => ?_)
  refine z_sub [0, 1, 2] (lv1 := [(0, .ref (z_ad G 82)), (1, .int lo), (2, .int hi)]) rfl ?_
  refine z_aload_n 0 C dX4_takeNumber_0 0 rfl ?_
  refine z_getf 1 C 82 z_dX4 (⟨rfl, rfl⟩) 6 (by decide) q310 (.int (nI ps)) rfl dX4_takeNumber_1 ?_
  refine z_istore_n 4 C dX4_takeNumber_4 [(3, .int (nI ps)), (0, .ref (z_ad G 82)), (1, .int lo), (2, .int hi)] (by decide) rfl ?_
  refine z_aload_n 5 C dX4_takeNumber_5 1 rfl ?_
  refine z_callV 6 C 82 (⟨rfl, rfl⟩) rfl (As := []) (rest := []) (@m_X4_current _ _ σ tl hL h200 ps (by omega) it nu fa ak af as_ at_ ) k_X4_current q883 ⟨rfl, rfl⟩ ⟨Nat.le_of_ble_eq_true rfl, Nat.le_of_ble_eq_true rfl⟩ rfl (Nat.le_of_ble_eq_true rfl) ⟨Nat.le_of_ble_eq_true rfl, Nat.le_of_ble_eq_true rfl⟩ rfl dX4_takeNumber_6 (z_k1 ?_)
  refine z_bipush 9 C dX4_takeNumber_9 (nI 45) rfl ?_
  refine z_icmp_ne 11 C 18 dX4_takeNumber_11 (by decide) (fun c11 => ?_) (fun c11 => ?_)
  · skip
    refine z_iconst 18 C dX4_takeNumber_18 (nI 0) rfl ?_
    refine z_istore 19 C dX4_takeNumber_19 [(4, .int (nI 0)), (3, .int (nI ps)), (0, .ref (z_ad G 82)), (1, .int lo), (2, .int hi)] (by decide) rfl ?_
    refine z_iload 21 C dX4_takeNumber_21 0 rfl ?_
    refine z_if_eq 23 C 36 dX4_takeNumber_23 (by decide) (fun c23 => ?_) (fun c23 => ?_)
    · skip
      refine z_aload_n 36 C dX4_takeNumber_36 2 rfl ?_
      refine z_callV 37 C 82 (⟨rfl, rfl⟩) rfl (As := []) (rest := []) (@m_X4_isAtDigit _ _ σ tl hL h200 ps (by omega) it nu fa ak af as_ at_ ) k_X4_isAtDigit q895 ⟨rfl, rfl⟩ ⟨Nat.le_of_ble_eq_true rfl, Nat.le_of_ble_eq_true rfl⟩ rfl (Nat.le_of_ble_eq_true rfl) ⟨Nat.le_of_ble_eq_true rfl, Nat.le_of_ble_eq_true rfl⟩ rfl dX4_takeNumber_37 (z_k1 ?_)
      refine z_if_neb 40 C 52 dX4_takeNumber_40 (by decide) (fun c40 => ?_) (fun c40 => ?_)
      · skip
        have hlt0 := zt_dg_lt c40
        refine z_iconst 52 C dX4_takeNumber_52 (nI 0) rfl ?_
        refine z_istore 53 C dX4_takeNumber_53 [(5, .int (nI 0)), (4, .int (nI 0)), (3, .int (nI ps)), (0, .ref (z_ad G 82)), (1, .int lo), (2, .int hi)] (by decide) rfl ?_
        refine z_iconst 55 C dX4_takeNumber_55 (nI 0) rfl ?_
        refine z_istore 56 C dX4_takeNumber_56 [(6, .int (nI 0)), (5, .int (nI 0)), (4, .int (nI 0)), (3, .int (nI ps)), (0, .ref (z_ad G 82)), (1, .int lo), (2, .int hi)] (by decide) rfl ?_
        refine z_sub [4, 5, 6, 3, 2, 1, 0] (lv1 := [(0, .ref (z_ad G 82)), (1, .int lo), (2, .int hi), (3, .int (nI ps)), (4, .int (nI 0)), (5, .int (nI 0)), (6, .int (nI 0))]) rfl ?_
        refine z_cv (lv1 := [(0, .ref (z_ad G 82)), (1, .int lo), (2, .int hi), (3, .int (nI ps)), (4, .int (nI 0)), (5, .int (zt_nv (σ.1 83) (ps) 0)), (6, .int (nI 0))]) (st1 := []) (σ1 := z_xU σ (nI (ps + 0)) it nu fa ak af as_ at_) rfl rfl rfl ?_
        refine z_lp1 (fun (j : Nat) => j ≤ 5 ∧ ps + j ≤ tl ∧ ∀ i, i < j → zt_dg (zt_at (σ.1 83) tl (ps + i))) (fun (j : Nat) => 5 - j) (fun (j : Nat) => [(0, .ref (z_ad G 82)), (1, .int lo), (2, .int hi), (3, .int (nI ps)), (4, .int (nI 0)), (5, .int (zt_nv (σ.1 83) (ps) j)), (6, .int (nI j))]) (fun (j : Nat) => z_xU σ (nI (ps + j)) it nu fa ak af as_ at_) (fun j hi_58 ih_58 => ?_) 0 (⟨by omega, by omega, fun i h => absurd h (Nat.not_lt_zero i)⟩)
        try dsimp only
        obtain ⟨hj5, hjt, hdg⟩ := hi_58
        refine z_iload 58 C dX4_takeNumber_58 6 rfl ?_
        refine z_iconst 60 C dX4_takeNumber_60 (nI 5) rfl ?_
        refine z_icmp_geN 61 C j 5 rfl rfl (by omega) (by omega) 102 dX4_takeNumber_61 (by decide) (fun c61 => ?_) (fun c61 => ?_)
        · skip
          have ej : j = 5 := by omega
          subst ej
          refine z_aload_n 102 C dX4_takeNumber_102 0 rfl ?_
          refine z_iload 103 C dX4_takeNumber_103 4 rfl ?_
          refine z_if_eq 105 C 114 dX4_takeNumber_105 (by decide) (fun c105 => ?_) (fun c105 => ?_)
          · skip
            refine z_iload 114 C dX4_takeNumber_114 5 rfl ?_
            refine z_puti 116 C 82 z_dX4 (⟨rfl, rfl⟩) 8 (by decide) q313 rfl (rfl) rfl ⟨Nat.le_of_ble_eq_true rfl, rfl⟩ dX4_takeNumber_116 ?_
            refine z_cv (σ1 := z_xU σ (nI (ps + 5)) it (zt_nv (σ.1 83) (ps) 5) fa ak af as_ at_) rfl rfl z_xU_pnu ?_
            refine z_aload_n 119 C dX4_takeNumber_119 0 rfl ?_
            refine z_getf 120 C 82 z_dX4 (⟨rfl, rfl⟩) 8 (by decide) q313 (.int (zt_nv (σ.1 83) (ps) 5)) rfl dX4_takeNumber_120 ?_
            refine z_iload_n 123 C dX4_takeNumber_123 1 rfl ?_
            refine z_iload_n 124 C dX4_takeNumber_124 2 rfl ?_
            refine z_callSN 125 C (As := [.int (zt_nv (σ.1 83) (ps) 5), .int lo, .int hi]) (rest := []) (m_X7_isOutside (σ := z_xU σ (nI (ps + 5)) it (zt_nv (σ.1 83) (ps) 5) fa ak af as_ at_) (zt_nv (σ.1 83) (ps) 5) lo hi) k_X7_isOutside (List.mem_of_getElem? (i := 56) rfl) ⟨rfl, rfl⟩ ⟨Nat.le_of_ble_eq_true rfl, Nat.le_of_ble_eq_true rfl⟩ rfl (Nat.le_of_ble_eq_true rfl) ⟨Nat.le_of_ble_eq_true rfl, Nat.le_of_ble_eq_true rfl⟩ rfl dX4_takeNumber_125 (z_k1 ?_)
            refine z_if_eqb 128 C 139 dX4_takeNumber_128 (by decide) (fun c128 => ?_) (fun c128 => ?_)
            · skip
              refine z_iconst 139 C dX4_takeNumber_139 (nI 1) rfl ?_
              refine z_goto 140 C 144 dX4_takeNumber_140 (by decide) ?_
              refine z_zret 144 C (rfl) dX4_takeNumber_144 ?_
              exact Or.inr ⟨_, _, zt_num_2 (zt_c1_n c11) (by omega) (zt_nd_eq hdg (by omega) (Or.inl rfl)) (zt_vl_n c11) c128, rfl, rfl⟩
            · skip
              refine z_aload_n 131 C dX4_takeNumber_131 0 rfl ?_
              refine z_iload_n 132 C dX4_takeNumber_132 3 rfl ?_
              refine z_callV 133 C 82 (⟨rfl, rfl⟩) rfl (As := [.int (nI ps)]) (rest := []) (@m_X4_fail _ _ σ tl hL h200 (nI (ps + 5)) it (zt_nv (σ.1 83) (ps) 5) fa ak af as_ at_ (nI ps)) k_X4_fail q900 ⟨rfl, rfl⟩ ⟨Nat.le_of_ble_eq_true rfl, Nat.le_of_ble_eq_true rfl⟩ rfl (Nat.le_of_ble_eq_true rfl) ⟨Nat.le_of_ble_eq_true rfl, Nat.le_of_ble_eq_true rfl⟩ rfl dX4_takeNumber_133 (z_k1 ?_)
              refine z_if_eq 136 C 143 dX4_takeNumber_136 (by decide) (fun c136 => ?_) (fun c136 => ?_)
              · skip
                refine z_iconst 143 C dX4_takeNumber_143 (nI 0) rfl ?_
                refine z_zret 144 C (rfl) dX4_takeNumber_144 ?_
                exact Or.inl ⟨_, _, _, zt_num_1 (zt_c1_n c11) (by omega) (zt_nd_eq hdg (by omega) (Or.inl rfl)) (zt_vl_n c11) c128, rfl, rfl⟩
              · skip
                exact absurd rfl c136
          · skip
            exact absurd rfl c105
        · skip
          refine z_aload_n 64 C dX4_takeNumber_64 0 rfl ?_
          refine z_callV 65 C 82 (⟨rfl, rfl⟩) rfl (As := []) (rest := []) (@m_X4_isAtDigit _ _ σ tl hL h200 (ps + j) (by omega) it nu fa ak af as_ at_ ) k_X4_isAtDigit q895 ⟨rfl, rfl⟩ ⟨Nat.le_of_ble_eq_true rfl, Nat.le_of_ble_eq_true rfl⟩ rfl (Nat.le_of_ble_eq_true rfl) ⟨Nat.le_of_ble_eq_true rfl, Nat.le_of_ble_eq_true rfl⟩ rfl dX4_takeNumber_65 (z_k1 ?_)
          refine z_if_eqb 68 C 102 dX4_takeNumber_68 (by decide) (fun c68 => ?_) (fun c68 => ?_)
          · skip
            refine z_aload_n 102 C dX4_takeNumber_102 0 rfl ?_
            refine z_iload 103 C dX4_takeNumber_103 4 rfl ?_
            refine z_if_eq 105 C 114 dX4_takeNumber_105 (by decide) (fun c105 => ?_) (fun c105 => ?_)
            · skip
              refine z_iload 114 C dX4_takeNumber_114 5 rfl ?_
              refine z_puti 116 C 82 z_dX4 (⟨rfl, rfl⟩) 8 (by decide) q313 rfl (rfl) rfl ⟨Nat.le_of_ble_eq_true rfl, rfl⟩ dX4_takeNumber_116 ?_
              refine z_cv (σ1 := z_xU σ (nI (ps + j)) it (zt_nv (σ.1 83) (ps) j) fa ak af as_ at_) rfl rfl z_xU_pnu ?_
              refine z_aload_n 119 C dX4_takeNumber_119 0 rfl ?_
              refine z_getf 120 C 82 z_dX4 (⟨rfl, rfl⟩) 8 (by decide) q313 (.int (zt_nv (σ.1 83) (ps) j)) rfl dX4_takeNumber_120 ?_
              refine z_iload_n 123 C dX4_takeNumber_123 1 rfl ?_
              refine z_iload_n 124 C dX4_takeNumber_124 2 rfl ?_
              refine z_callSN 125 C (As := [.int (zt_nv (σ.1 83) (ps) j), .int lo, .int hi]) (rest := []) (m_X7_isOutside (σ := z_xU σ (nI (ps + j)) it (zt_nv (σ.1 83) (ps) j) fa ak af as_ at_) (zt_nv (σ.1 83) (ps) j) lo hi) k_X7_isOutside (List.mem_of_getElem? (i := 56) rfl) ⟨rfl, rfl⟩ ⟨Nat.le_of_ble_eq_true rfl, Nat.le_of_ble_eq_true rfl⟩ rfl (Nat.le_of_ble_eq_true rfl) ⟨Nat.le_of_ble_eq_true rfl, Nat.le_of_ble_eq_true rfl⟩ rfl dX4_takeNumber_125 (z_k1 ?_)
              refine z_if_eqb 128 C 139 dX4_takeNumber_128 (by decide) (fun c128 => ?_) (fun c128 => ?_)
              · skip
                refine z_iconst 139 C dX4_takeNumber_139 (nI 1) rfl ?_
                refine z_goto 140 C 144 dX4_takeNumber_140 (by decide) ?_
                refine z_zret 144 C (rfl) dX4_takeNumber_144 ?_
                exact Or.inr ⟨_, _, zt_num_2 (zt_c1_n c11) (Nat.pos_of_ne_zero (fun z => by subst z; exact c68 c40)) (zt_nd_eq hdg (by omega) (Or.inr c68)) (zt_vl_n c11) c128, rfl, rfl⟩
              · skip
                refine z_aload_n 131 C dX4_takeNumber_131 0 rfl ?_
                refine z_iload_n 132 C dX4_takeNumber_132 3 rfl ?_
                refine z_callV 133 C 82 (⟨rfl, rfl⟩) rfl (As := [.int (nI ps)]) (rest := []) (@m_X4_fail _ _ σ tl hL h200 (nI (ps + j)) it (zt_nv (σ.1 83) (ps) j) fa ak af as_ at_ (nI ps)) k_X4_fail q900 ⟨rfl, rfl⟩ ⟨Nat.le_of_ble_eq_true rfl, Nat.le_of_ble_eq_true rfl⟩ rfl (Nat.le_of_ble_eq_true rfl) ⟨Nat.le_of_ble_eq_true rfl, Nat.le_of_ble_eq_true rfl⟩ rfl dX4_takeNumber_133 (z_k1 ?_)
                refine z_if_eq 136 C 143 dX4_takeNumber_136 (by decide) (fun c136 => ?_) (fun c136 => ?_)
                · skip
                  refine z_iconst 143 C dX4_takeNumber_143 (nI 0) rfl ?_
                  refine z_zret 144 C (rfl) dX4_takeNumber_144 ?_
                  exact Or.inl ⟨_, _, _, zt_num_1 (zt_c1_n c11) (Nat.pos_of_ne_zero (fun z => by subst z; exact c68 c40)) (zt_nd_eq hdg (by omega) (Or.inr c68)) (zt_vl_n c11) c128, rfl, rfl⟩
                · skip
                  exact absurd rfl c136
            · skip
              exact absurd rfl c105
          · skip
            have hlt := zt_dg_lt c68
            refine z_iload 71 C dX4_takeNumber_71 5 rfl ?_
            refine z_bipush 73 C dX4_takeNumber_73 (nI 10) rfl ?_
            refine z_imul 75 C dX4_takeNumber_75 ?_
            refine z_aload_n 76 C dX4_takeNumber_76 0 rfl ?_
            refine z_callV 77 C 82 (⟨rfl, rfl⟩) rfl (As := []) (rest := [.int ((zt_nv (σ.1 83) (ps) j) * (nI 10))]) (@m_X4_current _ _ σ tl hL h200 (ps + j) (by omega) it nu fa ak af as_ at_ ) k_X4_current q883 ⟨rfl, rfl⟩ ⟨Nat.le_of_ble_eq_true rfl, Nat.le_of_ble_eq_true rfl⟩ rfl (Nat.le_of_ble_eq_true rfl) ⟨Nat.le_of_ble_eq_true rfl, Nat.le_of_ble_eq_true rfl⟩ rfl dX4_takeNumber_77 (z_k1 ?_)
            refine z_cv (lv1 := [(0, .ref (z_ad G 82)), (1, .int lo), (2, .int hi), (3, .int (nI ps)), (4, .int (nI 0)), (5, .int (zt_nv (σ.1 83) (ps) j)), (6, .int (nI j))]) (st1 := [.int ((σ.1 83) (ps + j)), .int ((zt_nv (σ.1 83) (ps) j) * (nI 10))]) (σ1 := z_xU σ (nI (ps + j)) it nu fa ak af as_ at_) rfl (by rw [zt_at_lt hlt]) rfl ?_
            refine z_bipush 80 C dX4_takeNumber_80 (nI 48) rfl ?_
            refine z_isub 82 C dX4_takeNumber_82 ?_
            refine z_iadd 83 C dX4_takeNumber_83 ?_
            refine z_istore 84 C dX4_takeNumber_84 [(5, .int (((zt_nv (σ.1 83) (ps) j) * (nI 10)) + (((σ.1 83) (ps + j)) - (nI 48)))), (0, .ref (z_ad G 82)), (1, .int lo), (2, .int hi), (3, .int (nI ps)), (4, .int (nI 0)), (6, .int (nI j))] (by decide) rfl ?_
            refine z_aload_n 86 C dX4_takeNumber_86 1 rfl ?_
            refine z_dup 87 C dX4_takeNumber_87 rfl ?_
            refine z_getf 88 C 82 z_dX4 (⟨rfl, rfl⟩) 6 (by decide) q310 (.int (nI (ps + j))) rfl dX4_takeNumber_88 ?_
            refine z_iconst 91 C dX4_takeNumber_91 (nI 1) rfl ?_
            refine z_iaddN 92 C (ps + j) 1 rfl rfl dX4_takeNumber_92 ?_
            refine z_puti 93 C 82 z_dX4 (⟨rfl, rfl⟩) 6 (by decide) q310 rfl (rfl) rfl ⟨Nat.le_of_ble_eq_true rfl, rfl⟩ dX4_takeNumber_93 ?_
            refine z_cv (σ1 := z_xU σ (nI ((ps + j) + 1)) it nu fa ak af as_ at_) rfl rfl z_xU_pcu ?_
            refine z_iincN 96 C 6 j [(6, .int (nI (j + 1))), (5, .int (((zt_nv (σ.1 83) (ps) j) * (nI 10)) + (((σ.1 83) (ps + j)) - (nI 48)))), (0, .ref (z_ad G 82)), (1, .int lo), (2, .int hi), (3, .int (nI ps)), (4, .int (nI 0))] rfl rfl (by decide) rfl dX4_takeNumber_96 ?_
            refine z_goto 99 C 58 dX4_takeNumber_99 (by decide) ?_
            refine z_sub [2, 3, 4, 5, 6, 1, 0] (lv1 := [(0, .ref (z_ad G 82)), (1, .int lo), (2, .int hi), (3, .int (nI ps)), (4, .int (nI 0)), (5, .int (((zt_nv (σ.1 83) (ps) j) * (nI 10)) + (((σ.1 83) (ps + j)) - (nI 48)))), (6, .int (nI (j + 1)))]) rfl ?_
            refine z_cv (lv1 := [(0, .ref (z_ad G 82)), (1, .int lo), (2, .int hi), (3, .int (nI ps)), (4, .int (nI 0)), (5, .int (zt_nv (σ.1 83) (ps) (j + 1))), (6, .int (nI (j + 1)))]) (st1 := []) (σ1 := z_xU σ (nI (ps + (j + 1))) it nu fa ak af as_ at_) rfl rfl rfl ?_
            exact ih_58 (j + 1) (⟨by omega, by omega, lt_s hdg c68⟩) (by omega)
      · skip
        refine z_aload_n 43 C dX4_takeNumber_43 2 rfl ?_
        refine z_aload_n 44 C dX4_takeNumber_44 2 rfl ?_
        refine z_getf 45 C 82 z_dX4 (⟨rfl, rfl⟩) 6 (by decide) q310 (.int (nI ps)) rfl dX4_takeNumber_45 ?_
        refine z_callV 48 C 82 (⟨rfl, rfl⟩) rfl (As := [.int (nI ps)]) (rest := []) (@m_X4_fail _ _ σ tl hL h200 (nI ps) it nu fa ak af as_ at_ (nI ps)) k_X4_fail q900 ⟨rfl, rfl⟩ ⟨Nat.le_of_ble_eq_true rfl, Nat.le_of_ble_eq_true rfl⟩ rfl (Nat.le_of_ble_eq_true rfl) ⟨Nat.le_of_ble_eq_true rfl, Nat.le_of_ble_eq_true rfl⟩ rfl dX4_takeNumber_48 (z_k1 ?_)
        refine z_zret 51 C (rfl) dX4_takeNumber_51 ?_
        exact Or.inl ⟨_, _, _, zt_num_0 (zt_c1_n c11) c40, rfl, rfl⟩
    · skip
      exact absurd rfl c23
  · skip
    have hlt9 := zt_lt c11 (by decide)
    refine z_iconst 14 C dX4_takeNumber_14 (nI 1) rfl ?_
    refine z_goto 15 C 19 dX4_takeNumber_15 (by decide) ?_
    refine z_istore 19 C dX4_takeNumber_19 [(4, .int (nI 1)), (3, .int (nI ps)), (0, .ref (z_ad G 82)), (1, .int lo), (2, .int hi)] (by decide) rfl ?_
    refine z_iload 21 C dX4_takeNumber_21 0 rfl ?_
    refine z_if_eq 23 C 36 dX4_takeNumber_23 (by decide) (fun c23 => ?_) (fun c23 => ?_)
    · skip
      exact absurd c23 (by decide)
    · skip
      refine z_aload_n 26 C dX4_takeNumber_26 2 rfl ?_
      refine z_dup 27 C dX4_takeNumber_27 rfl ?_
      refine z_getf 28 C 82 z_dX4 (⟨rfl, rfl⟩) 6 (by decide) q310 (.int (nI ps)) rfl dX4_takeNumber_28 ?_
      refine z_iconst 31 C dX4_takeNumber_31 (nI 1) rfl ?_
      refine z_iaddN 32 C ps 1 rfl rfl dX4_takeNumber_32 ?_
      refine z_puti 33 C 82 z_dX4 (⟨rfl, rfl⟩) 6 (by decide) q310 rfl (rfl) rfl ⟨Nat.le_of_ble_eq_true rfl, rfl⟩ dX4_takeNumber_33 ?_
      refine z_cv (σ1 := z_xU σ (nI (ps + 1)) it nu fa ak af as_ at_) rfl rfl z_xU_pcu ?_
      refine z_aload_n 36 C dX4_takeNumber_36 2 rfl ?_
      refine z_callV 37 C 82 (⟨rfl, rfl⟩) rfl (As := []) (rest := []) (@m_X4_isAtDigit _ _ σ tl hL h200 (ps + 1) (by omega) it nu fa ak af as_ at_ ) k_X4_isAtDigit q895 ⟨rfl, rfl⟩ ⟨Nat.le_of_ble_eq_true rfl, Nat.le_of_ble_eq_true rfl⟩ rfl (Nat.le_of_ble_eq_true rfl) ⟨Nat.le_of_ble_eq_true rfl, Nat.le_of_ble_eq_true rfl⟩ rfl dX4_takeNumber_37 (z_k1 ?_)
      refine z_if_neb 40 C 52 dX4_takeNumber_40 (by decide) (fun c40 => ?_) (fun c40 => ?_)
      · skip
        have hlt0 := zt_dg_lt c40
        refine z_iconst 52 C dX4_takeNumber_52 (nI 0) rfl ?_
        refine z_istore 53 C dX4_takeNumber_53 [(5, .int (nI 0)), (4, .int (nI 1)), (3, .int (nI ps)), (0, .ref (z_ad G 82)), (1, .int lo), (2, .int hi)] (by decide) rfl ?_
        refine z_iconst 55 C dX4_takeNumber_55 (nI 0) rfl ?_
        refine z_istore 56 C dX4_takeNumber_56 [(6, .int (nI 0)), (5, .int (nI 0)), (4, .int (nI 1)), (3, .int (nI ps)), (0, .ref (z_ad G 82)), (1, .int lo), (2, .int hi)] (by decide) rfl ?_
        refine z_sub [4, 5, 6, 3, 2, 1, 0] (lv1 := [(0, .ref (z_ad G 82)), (1, .int lo), (2, .int hi), (3, .int (nI ps)), (4, .int (nI 1)), (5, .int (nI 0)), (6, .int (nI 0))]) rfl ?_
        refine z_cv (lv1 := [(0, .ref (z_ad G 82)), (1, .int lo), (2, .int hi), (3, .int (nI ps)), (4, .int (nI 1)), (5, .int (zt_nv (σ.1 83) (ps + 1) 0)), (6, .int (nI 0))]) (st1 := []) (σ1 := z_xU σ (nI (ps + 1 + 0)) it nu fa ak af as_ at_) rfl rfl rfl ?_
        refine z_lp1 (fun (j : Nat) => j ≤ 5 ∧ ps + 1 + j ≤ tl ∧ ∀ i, i < j → zt_dg (zt_at (σ.1 83) tl (ps + 1 + i))) (fun (j : Nat) => 5 - j) (fun (j : Nat) => [(0, .ref (z_ad G 82)), (1, .int lo), (2, .int hi), (3, .int (nI ps)), (4, .int (nI 1)), (5, .int (zt_nv (σ.1 83) (ps + 1) j)), (6, .int (nI j))]) (fun (j : Nat) => z_xU σ (nI (ps + 1 + j)) it nu fa ak af as_ at_) (fun j hi_58 ih_58 => ?_) 0 (⟨by omega, by omega, fun i h => absurd h (Nat.not_lt_zero i)⟩)
        try dsimp only
        obtain ⟨hj5, hjt, hdg⟩ := hi_58
        refine z_iload 58 C dX4_takeNumber_58 6 rfl ?_
        refine z_iconst 60 C dX4_takeNumber_60 (nI 5) rfl ?_
        refine z_icmp_geN 61 C j 5 rfl rfl (by omega) (by omega) 102 dX4_takeNumber_61 (by decide) (fun c61 => ?_) (fun c61 => ?_)
        · skip
          have ej : j = 5 := by omega
          subst ej
          refine z_aload_n 102 C dX4_takeNumber_102 0 rfl ?_
          refine z_iload 103 C dX4_takeNumber_103 4 rfl ?_
          refine z_if_eq 105 C 114 dX4_takeNumber_105 (by decide) (fun c105 => ?_) (fun c105 => ?_)
          · skip
            exact absurd c105 (by decide)
          · skip
            refine z_iload 108 C dX4_takeNumber_108 5 rfl ?_
            refine z_ineg 110 C dX4_takeNumber_110 ?_
            refine z_goto 111 C 116 dX4_takeNumber_111 (by decide) ?_
            refine z_puti 116 C 82 z_dX4 (⟨rfl, rfl⟩) 8 (by decide) q313 rfl (rfl) rfl ⟨Nat.le_of_ble_eq_true rfl, rfl⟩ dX4_takeNumber_116 ?_
            refine z_cv (σ1 := z_xU σ (nI (ps + 1 + 5)) it (-(zt_nv (σ.1 83) (ps + 1) 5)) fa ak af as_ at_) rfl rfl z_xU_pnu ?_
            refine z_aload_n 119 C dX4_takeNumber_119 0 rfl ?_
            refine z_getf 120 C 82 z_dX4 (⟨rfl, rfl⟩) 8 (by decide) q313 (.int (-(zt_nv (σ.1 83) (ps + 1) 5))) rfl dX4_takeNumber_120 ?_
            refine z_iload_n 123 C dX4_takeNumber_123 1 rfl ?_
            refine z_iload_n 124 C dX4_takeNumber_124 2 rfl ?_
            refine z_callSN 125 C (As := [.int (-(zt_nv (σ.1 83) (ps + 1) 5)), .int lo, .int hi]) (rest := []) (m_X7_isOutside (σ := z_xU σ (nI (ps + 1 + 5)) it (-(zt_nv (σ.1 83) (ps + 1) 5)) fa ak af as_ at_) (-(zt_nv (σ.1 83) (ps + 1) 5)) lo hi) k_X7_isOutside (List.mem_of_getElem? (i := 56) rfl) ⟨rfl, rfl⟩ ⟨Nat.le_of_ble_eq_true rfl, Nat.le_of_ble_eq_true rfl⟩ rfl (Nat.le_of_ble_eq_true rfl) ⟨Nat.le_of_ble_eq_true rfl, Nat.le_of_ble_eq_true rfl⟩ rfl dX4_takeNumber_125 (z_k1 ?_)
            refine z_if_eqb 128 C 139 dX4_takeNumber_128 (by decide) (fun c128 => ?_) (fun c128 => ?_)
            · skip
              refine z_iconst 139 C dX4_takeNumber_139 (nI 1) rfl ?_
              refine z_goto 140 C 144 dX4_takeNumber_140 (by decide) ?_
              refine z_zret 144 C (rfl) dX4_takeNumber_144 ?_
              exact Or.inr ⟨_, _, zt_num_2 (zt_c1_p c11) (by omega) (zt_nd_eq hdg (by omega) (Or.inl rfl)) (zt_vl_p c11) c128, rfl, rfl⟩
            · skip
              refine z_aload_n 131 C dX4_takeNumber_131 0 rfl ?_
              refine z_iload_n 132 C dX4_takeNumber_132 3 rfl ?_
              refine z_callV 133 C 82 (⟨rfl, rfl⟩) rfl (As := [.int (nI ps)]) (rest := []) (@m_X4_fail _ _ σ tl hL h200 (nI (ps + 1 + 5)) it (-(zt_nv (σ.1 83) (ps + 1) 5)) fa ak af as_ at_ (nI ps)) k_X4_fail q900 ⟨rfl, rfl⟩ ⟨Nat.le_of_ble_eq_true rfl, Nat.le_of_ble_eq_true rfl⟩ rfl (Nat.le_of_ble_eq_true rfl) ⟨Nat.le_of_ble_eq_true rfl, Nat.le_of_ble_eq_true rfl⟩ rfl dX4_takeNumber_133 (z_k1 ?_)
              refine z_if_eq 136 C 143 dX4_takeNumber_136 (by decide) (fun c136 => ?_) (fun c136 => ?_)
              · skip
                refine z_iconst 143 C dX4_takeNumber_143 (nI 0) rfl ?_
                refine z_zret 144 C (rfl) dX4_takeNumber_144 ?_
                exact Or.inl ⟨_, _, _, zt_num_1 (zt_c1_p c11) (by omega) (zt_nd_eq hdg (by omega) (Or.inl rfl)) (zt_vl_p c11) c128, rfl, rfl⟩
              · skip
                exact absurd rfl c136
        · skip
          refine z_aload_n 64 C dX4_takeNumber_64 0 rfl ?_
          refine z_callV 65 C 82 (⟨rfl, rfl⟩) rfl (As := []) (rest := []) (@m_X4_isAtDigit _ _ σ tl hL h200 (ps + 1 + j) (by omega) it nu fa ak af as_ at_ ) k_X4_isAtDigit q895 ⟨rfl, rfl⟩ ⟨Nat.le_of_ble_eq_true rfl, Nat.le_of_ble_eq_true rfl⟩ rfl (Nat.le_of_ble_eq_true rfl) ⟨Nat.le_of_ble_eq_true rfl, Nat.le_of_ble_eq_true rfl⟩ rfl dX4_takeNumber_65 (z_k1 ?_)
          refine z_if_eqb 68 C 102 dX4_takeNumber_68 (by decide) (fun c68 => ?_) (fun c68 => ?_)
          · skip
            refine z_aload_n 102 C dX4_takeNumber_102 0 rfl ?_
            refine z_iload 103 C dX4_takeNumber_103 4 rfl ?_
            refine z_if_eq 105 C 114 dX4_takeNumber_105 (by decide) (fun c105 => ?_) (fun c105 => ?_)
            · skip
              exact absurd c105 (by decide)
            · skip
              refine z_iload 108 C dX4_takeNumber_108 5 rfl ?_
              refine z_ineg 110 C dX4_takeNumber_110 ?_
              refine z_goto 111 C 116 dX4_takeNumber_111 (by decide) ?_
              refine z_puti 116 C 82 z_dX4 (⟨rfl, rfl⟩) 8 (by decide) q313 rfl (rfl) rfl ⟨Nat.le_of_ble_eq_true rfl, rfl⟩ dX4_takeNumber_116 ?_
              refine z_cv (σ1 := z_xU σ (nI (ps + 1 + j)) it (-(zt_nv (σ.1 83) (ps + 1) j)) fa ak af as_ at_) rfl rfl z_xU_pnu ?_
              refine z_aload_n 119 C dX4_takeNumber_119 0 rfl ?_
              refine z_getf 120 C 82 z_dX4 (⟨rfl, rfl⟩) 8 (by decide) q313 (.int (-(zt_nv (σ.1 83) (ps + 1) j))) rfl dX4_takeNumber_120 ?_
              refine z_iload_n 123 C dX4_takeNumber_123 1 rfl ?_
              refine z_iload_n 124 C dX4_takeNumber_124 2 rfl ?_
              refine z_callSN 125 C (As := [.int (-(zt_nv (σ.1 83) (ps + 1) j)), .int lo, .int hi]) (rest := []) (m_X7_isOutside (σ := z_xU σ (nI (ps + 1 + j)) it (-(zt_nv (σ.1 83) (ps + 1) j)) fa ak af as_ at_) (-(zt_nv (σ.1 83) (ps + 1) j)) lo hi) k_X7_isOutside (List.mem_of_getElem? (i := 56) rfl) ⟨rfl, rfl⟩ ⟨Nat.le_of_ble_eq_true rfl, Nat.le_of_ble_eq_true rfl⟩ rfl (Nat.le_of_ble_eq_true rfl) ⟨Nat.le_of_ble_eq_true rfl, Nat.le_of_ble_eq_true rfl⟩ rfl dX4_takeNumber_125 (z_k1 ?_)
              refine z_if_eqb 128 C 139 dX4_takeNumber_128 (by decide) (fun c128 => ?_) (fun c128 => ?_)
              · skip
                refine z_iconst 139 C dX4_takeNumber_139 (nI 1) rfl ?_
                refine z_goto 140 C 144 dX4_takeNumber_140 (by decide) ?_
                refine z_zret 144 C (rfl) dX4_takeNumber_144 ?_
                exact Or.inr ⟨_, _, zt_num_2 (zt_c1_p c11) (Nat.pos_of_ne_zero (fun z => by subst z; exact c68 c40)) (zt_nd_eq hdg (by omega) (Or.inr c68)) (zt_vl_p c11) c128, rfl, rfl⟩
              · skip
                refine z_aload_n 131 C dX4_takeNumber_131 0 rfl ?_
                refine z_iload_n 132 C dX4_takeNumber_132 3 rfl ?_
                refine z_callV 133 C 82 (⟨rfl, rfl⟩) rfl (As := [.int (nI ps)]) (rest := []) (@m_X4_fail _ _ σ tl hL h200 (nI (ps + 1 + j)) it (-(zt_nv (σ.1 83) (ps + 1) j)) fa ak af as_ at_ (nI ps)) k_X4_fail q900 ⟨rfl, rfl⟩ ⟨Nat.le_of_ble_eq_true rfl, Nat.le_of_ble_eq_true rfl⟩ rfl (Nat.le_of_ble_eq_true rfl) ⟨Nat.le_of_ble_eq_true rfl, Nat.le_of_ble_eq_true rfl⟩ rfl dX4_takeNumber_133 (z_k1 ?_)
                refine z_if_eq 136 C 143 dX4_takeNumber_136 (by decide) (fun c136 => ?_) (fun c136 => ?_)
                · skip
                  refine z_iconst 143 C dX4_takeNumber_143 (nI 0) rfl ?_
                  refine z_zret 144 C (rfl) dX4_takeNumber_144 ?_
                  exact Or.inl ⟨_, _, _, zt_num_1 (zt_c1_p c11) (Nat.pos_of_ne_zero (fun z => by subst z; exact c68 c40)) (zt_nd_eq hdg (by omega) (Or.inr c68)) (zt_vl_p c11) c128, rfl, rfl⟩
                · skip
                  exact absurd rfl c136
          · skip
            have hlt := zt_dg_lt c68
            refine z_iload 71 C dX4_takeNumber_71 5 rfl ?_
            refine z_bipush 73 C dX4_takeNumber_73 (nI 10) rfl ?_
            refine z_imul 75 C dX4_takeNumber_75 ?_
            refine z_aload_n 76 C dX4_takeNumber_76 0 rfl ?_
            refine z_callV 77 C 82 (⟨rfl, rfl⟩) rfl (As := []) (rest := [.int ((zt_nv (σ.1 83) (ps + 1) j) * (nI 10))]) (@m_X4_current _ _ σ tl hL h200 (ps + 1 + j) (by omega) it nu fa ak af as_ at_ ) k_X4_current q883 ⟨rfl, rfl⟩ ⟨Nat.le_of_ble_eq_true rfl, Nat.le_of_ble_eq_true rfl⟩ rfl (Nat.le_of_ble_eq_true rfl) ⟨Nat.le_of_ble_eq_true rfl, Nat.le_of_ble_eq_true rfl⟩ rfl dX4_takeNumber_77 (z_k1 ?_)
            refine z_cv (lv1 := [(0, .ref (z_ad G 82)), (1, .int lo), (2, .int hi), (3, .int (nI ps)), (4, .int (nI 1)), (5, .int (zt_nv (σ.1 83) (ps + 1) j)), (6, .int (nI j))]) (st1 := [.int ((σ.1 83) (ps + 1 + j)), .int ((zt_nv (σ.1 83) (ps + 1) j) * (nI 10))]) (σ1 := z_xU σ (nI (ps + 1 + j)) it nu fa ak af as_ at_) rfl (by rw [zt_at_lt hlt]) rfl ?_
            refine z_bipush 80 C dX4_takeNumber_80 (nI 48) rfl ?_
            refine z_isub 82 C dX4_takeNumber_82 ?_
            refine z_iadd 83 C dX4_takeNumber_83 ?_
            refine z_istore 84 C dX4_takeNumber_84 [(5, .int (((zt_nv (σ.1 83) (ps + 1) j) * (nI 10)) + (((σ.1 83) (ps + 1 + j)) - (nI 48)))), (0, .ref (z_ad G 82)), (1, .int lo), (2, .int hi), (3, .int (nI ps)), (4, .int (nI 1)), (6, .int (nI j))] (by decide) rfl ?_
            refine z_aload_n 86 C dX4_takeNumber_86 1 rfl ?_
            refine z_dup 87 C dX4_takeNumber_87 rfl ?_
            refine z_getf 88 C 82 z_dX4 (⟨rfl, rfl⟩) 6 (by decide) q310 (.int (nI (ps + 1 + j))) rfl dX4_takeNumber_88 ?_
            refine z_iconst 91 C dX4_takeNumber_91 (nI 1) rfl ?_
            refine z_iaddN 92 C (ps + 1 + j) 1 rfl rfl dX4_takeNumber_92 ?_
            refine z_puti 93 C 82 z_dX4 (⟨rfl, rfl⟩) 6 (by decide) q310 rfl (rfl) rfl ⟨Nat.le_of_ble_eq_true rfl, rfl⟩ dX4_takeNumber_93 ?_
            refine z_cv (σ1 := z_xU σ (nI ((ps + 1 + j) + 1)) it nu fa ak af as_ at_) rfl rfl z_xU_pcu ?_
            refine z_iincN 96 C 6 j [(6, .int (nI (j + 1))), (5, .int (((zt_nv (σ.1 83) (ps + 1) j) * (nI 10)) + (((σ.1 83) (ps + 1 + j)) - (nI 48)))), (0, .ref (z_ad G 82)), (1, .int lo), (2, .int hi), (3, .int (nI ps)), (4, .int (nI 1))] rfl rfl (by decide) rfl dX4_takeNumber_96 ?_
            refine z_goto 99 C 58 dX4_takeNumber_99 (by decide) ?_
            refine z_sub [2, 3, 4, 5, 6, 1, 0] (lv1 := [(0, .ref (z_ad G 82)), (1, .int lo), (2, .int hi), (3, .int (nI ps)), (4, .int (nI 1)), (5, .int (((zt_nv (σ.1 83) (ps + 1) j) * (nI 10)) + (((σ.1 83) (ps + 1 + j)) - (nI 48)))), (6, .int (nI (j + 1)))]) rfl ?_
            refine z_cv (lv1 := [(0, .ref (z_ad G 82)), (1, .int lo), (2, .int hi), (3, .int (nI ps)), (4, .int (nI 1)), (5, .int (zt_nv (σ.1 83) (ps + 1) (j + 1))), (6, .int (nI (j + 1)))]) (st1 := []) (σ1 := z_xU σ (nI (ps + 1 + (j + 1))) it nu fa ak af as_ at_) rfl rfl rfl ?_
            exact ih_58 (j + 1) (⟨by omega, by omega, lt_s hdg c68⟩) (by omega)
      · skip
        refine z_aload_n 43 C dX4_takeNumber_43 2 rfl ?_
        refine z_aload_n 44 C dX4_takeNumber_44 2 rfl ?_
        refine z_getf 45 C 82 z_dX4 (⟨rfl, rfl⟩) 6 (by decide) q310 (.int (nI (ps + 1))) rfl dX4_takeNumber_45 ?_
        refine z_callV 48 C 82 (⟨rfl, rfl⟩) rfl (As := [.int (nI (ps + 1))]) (rest := []) (@m_X4_fail _ _ σ tl hL h200 (nI (ps + 1)) it nu fa ak af as_ at_ (nI (ps + 1))) k_X4_fail q900 ⟨rfl, rfl⟩ ⟨Nat.le_of_ble_eq_true rfl, Nat.le_of_ble_eq_true rfl⟩ rfl (Nat.le_of_ble_eq_true rfl) ⟨Nat.le_of_ble_eq_true rfl, Nat.le_of_ble_eq_true rfl⟩ rfl dX4_takeNumber_48 (z_k1 ?_)
        refine z_zret 51 C (rfl) dX4_takeNumber_51 ?_
        exact Or.inl ⟨_, _, _, zt_num_0 (zt_c1_p c11) c40, rfl, rfl⟩
theorem zt_lobes_rng {ch : Nat → Int32} {L c c1 : Nat} {k : Int32} {i : zt_It} (h : zt_lobes ch L k c = .inr (c1, i)) : c < c1 ∧ c1 ≤ L := by
  unfold zt_lobes at h
  split at h
  · exact absurd h (by simp)
  · rename_i a1 v1 h1
    have r1 := zt_num_rng h1
    split at h
    · split at h
      · exact absurd h (by simp)
      · rename_i a2 v2 h2
        have r2 := zt_num_rng h2
        split at h
        · split at h
          · exact absurd h (by simp)
          · rename_i a3 v3 h3
            have r3 := zt_num_rng h3
            have e := congrArg Prod.fst (Sum.inr.inj h)
            dsimp only at e
            omega
        · have e := congrArg Prod.fst (Sum.inr.inj h)
          dsimp only at e
          omega
    · exact absurd h (by simp)
theorem zt_ecc_rng {ch : Nat → Int32} {L c c1 : Nat} {i : zt_It} (h : zt_ecc ch L c = .inr (c1, i)) : c < c1 ∧ c1 ≤ L := by
  unfold zt_ecc at h
  split at h
  · exact absurd h (by simp)
  · rename_i a1 v1 h1
    have r1 := zt_num_rng h1
    split at h
    · split at h
      · exact absurd h (by simp)
      · rename_i a2 v2 h2
        have r2 := zt_num_rng h2
        have e := congrArg Prod.fst (Sum.inr.inj h)
        dsimp only at e
        omega
    · exact absurd h (by simp)
theorem zt_stp_rng {ch : Nat → Int32} {L c c1 : Nat} {i : zt_It} (h : zt_stp ch L c = .inr (c1, i)) : c < c1 ∧ c1 ≤ L := by
  unfold zt_stp at h
  split at h
  · exact absurd h (by simp)
  · rename_i a1 v1 h1
    have r1 := zt_num_rng h1
    split at h
    · have e := congrArg Prod.fst (Sum.inr.inj h)
      dsimp only at e
      omega
    · exact absurd h (by simp)
theorem zt_item_rng {ch : Nat → Int32} {L c c1 : Nat} {i : zt_It} (h : zt_item ch L c = .inr (c1, i)) : c + 2 ≤ c1 ∧ c1 ≤ L := by
  unfold zt_item at h
  split at h
  · have := zt_lobes_rng h; omega
  · split at h
    · have := zt_ecc_rng h; omega
    · split at h
      · have := zt_stp_rng h; omega
      · exact absurd h (by simp)
/-- four rows hold the items -/
def zt_has (k a b d : Nat → Int32) (l : List zt_It) : Prop := ∀ i x, l[i]? = some x → k i = x.1 ∧ a i = x.2.1 ∧ b i = x.2.2.1 ∧ d i = x.2.2.2
theorem zt_has_0 {k a b d : Nat → Int32} : zt_has k a b d [] := fun i x h => by simp at h
theorem zt_has_s {k a b d : Nat → Int32} {l : List zt_It} {n : Nat} {x1 x2 x3 x4 : Int32} (h : zt_has k a b d l) (hn : l.length = n) : zt_has (upd k n x1) (upd a n x2) (upd b n x3) (upd d n x4) (l ++ [(x1, x2, x3, x4)]) := by
  intro i x hx
  by_cases q : i = n
  · subst q
    rw [List.getElem?_append_right (by omega), hn, Nat.sub_self] at hx
    have e : x = (x1, x2, x3, x4) := by simpa using hx.symm
    subst e
    simp [upd]
  · have hi : i < l.length := by
      rcases Nat.lt_or_ge i l.length with z | z
      · exact z
      · have hlen := List.getElem?_eq_none (l := l ++ [(x1, x2, x3, x4)]) (i := i) (by simp; omega)
        rw [hlen] at hx; exact absurd hx (by simp)
    rw [List.getElem?_append_left hi] at hx
    have := h i x hx
    simp only [upd, if_neg q]
    exact this
section ZTL
variable {ch : Nat → Int32} {tl rd qs c1 f : Nat} {pre : List zt_It} {i : zt_It}
theorem zt_l67 (h : zt_all ch tl (tl + 1) 0 = zt_app pre (zt_all ch tl (tl + 1 - rd) qs)) (hr : tl < rd) : zt_all ch tl (tl + 1) 0 = .inl tl := by
  rw [h, show tl + 1 - rd = 0 by omega]; rfl
theorem zt_l28 (h : zt_all ch tl (tl + 1) 0 = zt_app pre (zt_all ch tl (tl + 1 - rd) qs)) (hr : rd ≤ tl) (hi : zt_item ch tl qs = .inl f) : zt_all ch tl (tl + 1) 0 = .inl f := by
  rw [h, show tl + 1 - rd = (tl - rd) + 1 by omega, zt_all, hi]; rfl
theorem zt_l41 (h : zt_all ch tl (tl + 1) 0 = zt_app pre (zt_all ch tl (tl + 1 - rd) qs)) (hr : rd ≤ tl) (hi : zt_item ch tl qs = .inr (c1, i)) (hc : c1 = tl) : zt_all ch tl (tl + 1) 0 = .inr (pre ++ [i]) := by
  rw [h, show tl + 1 - rd = (tl - rd) + 1 by omega, zt_all, hi]
  simp only [if_pos hc]
  rfl
theorem zt_l52 (h : zt_all ch tl (tl + 1) 0 = zt_app pre (zt_all ch tl (tl + 1 - rd) qs)) (hr : rd ≤ tl) (hi : zt_item ch tl qs = .inr (c1, i)) (hc : ¬ c1 = tl) (ha : ¬ zt_at ch tl c1 = nI 59) : zt_all ch tl (tl + 1) 0 = .inl c1 := by
  rw [h, show tl + 1 - rd = (tl - rd) + 1 by omega, zt_all, hi]
  simp only [if_neg hc, if_neg ha]
  rfl
theorem zt_lnx (h : zt_all ch tl (tl + 1) 0 = zt_app pre (zt_all ch tl (tl + 1 - rd) qs)) (hr : rd ≤ tl) (hi : zt_item ch tl qs = .inr (c1, i)) (hc : ¬ c1 = tl) (ha : zt_at ch tl c1 = nI 59) : zt_all ch tl (tl + 1) 0 = zt_app (pre ++ [i]) (zt_all ch tl (tl + 1 - (rd + 1)) (c1 + 1)) := by
  rw [h, show tl + 1 - rd = (tl - rd) + 1 by omega, zt_all, hi, show tl + 1 - (rd + 1) = tl - rd by omega]
  simp only [if_neg hc, if_pos ha]
  cases zt_all ch tl (tl - rd) (c1 + 1) with
  | inl f => rfl
  | inr r => simp [zt_app]
end ZTL
section ZR
variable {p : Program} {l : Launch} {e : Env} {R : Room} {s : State} {m : MethodId} {args : Array Value} {below : List Frame} {meth : Method} {c : Code} {G : z_Gl} {ce sl : Nat} {Q : State → Prop} {nL : Nat} {lv : List (Nat × Value)} {st : List Value} {σ : z_St} {cc : ByteArray} {own : String} {ret : Option FieldType}
theorem z_lp9 {A0 A1 A2 A3 A4 A5 A6 A7 A8 : Type} {pc : Nat} (I : A0 → A1 → A2 → A3 → A4 → A5 → A6 → A7 → A8 → Prop) (μ : A0 → A1 → A2 → A3 → A4 → A5 → A6 → A7 → A8 → Nat) (LV : A0 → A1 → A2 → A3 → A4 → A5 → A6 → A7 → A8 → List (Nat × Value)) (S : A0 → A1 → A2 → A3 → A4 → A5 → A6 → A7 → A8 → z_St) (body : ∀ a0 a1 a2 a3 a4 a5 a6 a7 a8, I a0 a1 a2 a3 a4 a5 a6 a7 a8 → (∀ b0 b1 b2 b3 b4 b5 b6 b7 b8, I b0 b1 b2 b3 b4 b5 b6 b7 b8 → μ b0 b1 b2 b3 b4 b5 b6 b7 b8 < μ a0 a1 a2 a3 a4 a5 a6 a7 a8 → z_V p l e R s m args below meth c G ce sl Q nL pc (LV b0 b1 b2 b3 b4 b5 b6 b7 b8) st (S b0 b1 b2 b3 b4 b5 b6 b7 b8)) → z_V p l e R s m args below meth c G ce sl Q nL pc (LV a0 a1 a2 a3 a4 a5 a6 a7 a8) st (S a0 a1 a2 a3 a4 a5 a6 a7 a8)) (a0 : A0) ( a1 : A1) ( a2 : A2) ( a3 : A3) ( a4 : A4) ( a5 : A5) ( a6 : A6) ( a7 : A7) ( a8 : A8) (h : I a0 a1 a2 a3 a4 a5 a6 a7 a8) : z_V p l e R s m args below meth c G ce sl Q nL pc (LV a0 a1 a2 a3 a4 a5 a6 a7 a8) st (S a0 a1 a2 a3 a4 a5 a6 a7 a8) :=
  z_lp1 (A := A0 × A1 × A2 × A3 × A4 × A5 × A6 × A7 × A8) (fun q => I q.1 q.2.1 q.2.2.1 q.2.2.2.1 q.2.2.2.2.1 q.2.2.2.2.2.1 q.2.2.2.2.2.2.1 q.2.2.2.2.2.2.2.1 q.2.2.2.2.2.2.2.2) (fun q => μ q.1 q.2.1 q.2.2.1 q.2.2.2.1 q.2.2.2.2.1 q.2.2.2.2.2.1 q.2.2.2.2.2.2.1 q.2.2.2.2.2.2.2.1 q.2.2.2.2.2.2.2.2) (fun q => LV q.1 q.2.1 q.2.2.1 q.2.2.2.1 q.2.2.2.2.1 q.2.2.2.2.2.1 q.2.2.2.2.2.2.1 q.2.2.2.2.2.2.2.1 q.2.2.2.2.2.2.2.2) (fun q => S q.1 q.2.1 q.2.2.1 q.2.2.2.1 q.2.2.2.2.1 q.2.2.2.2.2.1 q.2.2.2.2.2.2.1 q.2.2.2.2.2.2.2.1 q.2.2.2.2.2.2.2.2) (fun q hq ih => body q.1 q.2.1 q.2.2.1 q.2.2.2.1 q.2.2.2.2.1 q.2.2.2.2.2.1 q.2.2.2.2.2.2.1 q.2.2.2.2.2.2.2.1 q.2.2.2.2.2.2.2.2 hq (fun b0 b1 b2 b3 b4 b5 b6 b7 b8 => ih (b0, b1, b2, b3, b4, b5, b6, b7, b8))) (a0, a1, a2, a3, a4, a5, a6, a7, a8) h
end ZR
theorem dX4_parseLobes_0 : decode cX4_parseLobes 0 = .ok (.aload_n 0, 1) := by decide +kernel
theorem dX4_parseLobes_1 : decode cX4_parseLobes 1 = .ok (.dup, 1) := by decide +kernel
theorem dX4_parseLobes_2 : decode cX4_parseLobes 2 = .ok (.getfield 32, 3) := by decide +kernel
theorem dX4_parseLobes_5 : decode cX4_parseLobes 5 = .ok (.iconst 1, 1) := by decide +kernel
theorem dX4_parseLobes_6 : decode cX4_parseLobes 6 = .ok (.iadd, 1) := by decide +kernel
theorem dX4_parseLobes_7 : decode cX4_parseLobes 7 = .ok (.putfield 32, 3) := by decide +kernel
theorem dX4_parseLobes_10 : decode cX4_parseLobes 10 = .ok (.aload_n 0, 1) := by decide +kernel
theorem dX4_parseLobes_11 : decode cX4_parseLobes 11 = .ok (.iconst 0, 1) := by decide +kernel
theorem dX4_parseLobes_12 : decode cX4_parseLobes 12 = .ok (.bipush 12, 2) := by decide +kernel
theorem dX4_parseLobes_14 : decode cX4_parseLobes 14 = .ok (.invokevirtual 69, 3) := by decide +kernel
theorem dX4_parseLobes_17 : decode cX4_parseLobes 17 = .ok (.ifCond .ne 5, 3) := by decide +kernel
theorem dX4_parseLobes_20 : decode cX4_parseLobes 20 = .ok (.iconst 0, 1) := by decide +kernel
theorem dX4_parseLobes_21 : decode cX4_parseLobes 21 = .ok (.ireturn, 1) := by decide +kernel
theorem dX4_parseLobes_22 : decode cX4_parseLobes 22 = .ok (.aload_n 0, 1) := by decide +kernel
theorem dX4_parseLobes_23 : decode cX4_parseLobes 23 = .ok (.getfield 38, 3) := by decide +kernel
theorem dX4_parseLobes_26 : decode cX4_parseLobes 26 = .ok (.istore_n 2, 1) := by decide +kernel
theorem dX4_parseLobes_27 : decode cX4_parseLobes 27 = .ok (.aload_n 0, 1) := by decide +kernel
theorem dX4_parseLobes_28 : decode cX4_parseLobes 28 = .ok (.bipush 97, 2) := by decide +kernel
theorem dX4_parseLobes_30 : decode cX4_parseLobes 30 = .ok (.invokevirtual 48, 3) := by decide +kernel
theorem dX4_parseLobes_33 : decode cX4_parseLobes 33 = .ok (.ifCond .eq 16, 3) := by decide +kernel
theorem dX4_parseLobes_36 : decode cX4_parseLobes 36 = .ok (.aload_n 0, 1) := by decide +kernel
theorem dX4_parseLobes_37 : decode cX4_parseLobes 37 = .ok (.sipush (-1000), 3) := by decide +kernel
theorem dX4_parseLobes_40 : decode cX4_parseLobes 40 = .ok (.sipush 1000, 3) := by decide +kernel
theorem dX4_parseLobes_43 : decode cX4_parseLobes 43 = .ok (.invokevirtual 69, 3) := by decide +kernel
theorem dX4_parseLobes_46 : decode cX4_parseLobes 46 = .ok (.ifCond .ne 5, 3) := by decide +kernel
theorem dX4_parseLobes_49 : decode cX4_parseLobes 49 = .ok (.iconst 0, 1) := by decide +kernel
theorem dX4_parseLobes_50 : decode cX4_parseLobes 50 = .ok (.ireturn, 1) := by decide +kernel
theorem dX4_parseLobes_51 : decode cX4_parseLobes 51 = .ok (.aload_n 0, 1) := by decide +kernel
theorem dX4_parseLobes_52 : decode cX4_parseLobes 52 = .ok (.getfield 38, 3) := by decide +kernel
theorem dX4_parseLobes_55 : decode cX4_parseLobes 55 = .ok (.istore_n 3, 1) := by decide +kernel
theorem dX4_parseLobes_56 : decode cX4_parseLobes 56 = .ok (.iconst 0, 1) := by decide +kernel
theorem dX4_parseLobes_57 : decode cX4_parseLobes 57 = .ok (.istore 4, 2) := by decide +kernel
theorem dX4_parseLobes_59 : decode cX4_parseLobes 59 = .ok (.aload_n 0, 1) := by decide +kernel
theorem dX4_parseLobes_60 : decode cX4_parseLobes 60 = .ok (.invokevirtual 56, 3) := by decide +kernel
theorem dX4_parseLobes_63 : decode cX4_parseLobes 63 = .ok (.bipush 102, 2) := by decide +kernel
theorem dX4_parseLobes_65 : decode cX4_parseLobes 65 = .ok (.if_icmp .ne 31, 3) := by decide +kernel
theorem dX4_parseLobes_68 : decode cX4_parseLobes 68 = .ok (.aload_n 0, 1) := by decide +kernel
theorem dX4_parseLobes_69 : decode cX4_parseLobes 69 = .ok (.dup, 1) := by decide +kernel
theorem dX4_parseLobes_70 : decode cX4_parseLobes 70 = .ok (.getfield 32, 3) := by decide +kernel
theorem dX4_parseLobes_73 : decode cX4_parseLobes 73 = .ok (.iconst 1, 1) := by decide +kernel
theorem dX4_parseLobes_74 : decode cX4_parseLobes 74 = .ok (.iadd, 1) := by decide +kernel
theorem dX4_parseLobes_75 : decode cX4_parseLobes 75 = .ok (.putfield 32, 3) := by decide +kernel
theorem dX4_parseLobes_78 : decode cX4_parseLobes 78 = .ok (.aload_n 0, 1) := by decide +kernel
theorem dX4_parseLobes_79 : decode cX4_parseLobes 79 = .ok (.iconst 0, 1) := by decide +kernel
theorem dX4_parseLobes_80 : decode cX4_parseLobes 80 = .ok (.bipush 23, 2) := by decide +kernel
theorem dX4_parseLobes_82 : decode cX4_parseLobes 82 = .ok (.invokevirtual 69, 3) := by decide +kernel
theorem dX4_parseLobes_85 : decode cX4_parseLobes 85 = .ok (.ifCond .ne 5, 3) := by decide +kernel
theorem dX4_parseLobes_88 : decode cX4_parseLobes 88 = .ok (.iconst 0, 1) := by decide +kernel
theorem dX4_parseLobes_89 : decode cX4_parseLobes 89 = .ok (.ireturn, 1) := by decide +kernel
theorem dX4_parseLobes_90 : decode cX4_parseLobes 90 = .ok (.aload_n 0, 1) := by decide +kernel
theorem dX4_parseLobes_91 : decode cX4_parseLobes 91 = .ok (.getfield 38, 3) := by decide +kernel
theorem dX4_parseLobes_94 : decode cX4_parseLobes 94 = .ok (.istore 4, 2) := by decide +kernel
theorem dX4_parseLobes_96 : decode cX4_parseLobes 96 = .ok (.aload_n 0, 1) := by decide +kernel
theorem dX4_parseLobes_97 : decode cX4_parseLobes 97 = .ok (.iload_n 1, 1) := by decide +kernel
theorem dX4_parseLobes_98 : decode cX4_parseLobes 98 = .ok (.iload_n 2, 1) := by decide +kernel
theorem dX4_parseLobes_99 : decode cX4_parseLobes 99 = .ok (.iload_n 3, 1) := by decide +kernel
theorem dX4_parseLobes_100 : decode cX4_parseLobes 100 = .ok (.iload 4, 2) := by decide +kernel
theorem dX4_parseLobes_102 : decode cX4_parseLobes 102 = .ok (.invokevirtual 73, 3) := by decide +kernel
theorem dX4_parseLobes_105 : decode cX4_parseLobes 105 = .ok (.iconst 1, 1) := by decide +kernel
theorem dX4_parseLobes_106 : decode cX4_parseLobes 106 = .ok (.ireturn, 1) := by decide +kernel
set_option maxRecDepth 100000 in
set_option maxHeartbeats 4000000 in
theorem m_X4_parseLobes {l : Launch} {G : z_Gl} {σ : z_St} (tl : Nat) (hL : σ.1 82 5 = nI tl) (h200 : tl ≤ 200) (ps : Nat) (hps : ps ≤ tl) (n : Nat) (h3 : 3 * n ≤ ps) (nu fa : Int32) (ak af as_ at_ : Nat → Int32) (kd : Int32) (hlt : ps < tl) : z_M l G yX4_parseLobes cX4_parseLobes 5 (some .boolean) (z_rm 3 68) [.ref (z_ad G 82), .int kd] (z_xU σ (nI ps) (nI n) nu fa ak af as_ at_) (fun w σ1 => (∃ (f : Nat) (a b : Int32), zt_lobes (σ.1 83) tl kd (ps + 1) = .inl f ∧ w = some (.int (nI 0)) ∧ σ1 = z_xU σ a (nI n) b (nI f) ak af as_ at_) ∨ (∃ (c1 : Nat) (k1 x1 x2 x3 b : Int32), zt_lobes (σ.1 83) tl kd (ps + 1) = .inr (c1, k1, x1, x2, x3) ∧ w = some (.int (nI 1)) ∧ σ1 = z_xU σ (nI c1) (nI (n + 1)) b fa (upd ak n k1) (upd af n x1) (upd as_ n x2) (upd at_ n x3))) := by
  refine z_M.of (by decide) (Nat.le_of_ble_eq_true rfl) (fun p e s m below meth c C => ?_)
  refine z_sub [0, 1] (lv1 := [(0, .ref (z_ad G 82)), (1, .int kd)]) rfl ?_
  refine z_aload_n 0 C dX4_parseLobes_0 0 rfl ?_
  refine z_dup 1 C dX4_parseLobes_1 rfl ?_
  refine z_getf 2 C 82 z_dX4 (⟨rfl, rfl⟩) 6 (by decide) q310 (.int (nI ps)) rfl dX4_parseLobes_2 ?_
  refine z_iconst 5 C dX4_parseLobes_5 (nI 1) rfl ?_
  refine z_iaddN 6 C ps 1 rfl rfl dX4_parseLobes_6 ?_
  refine z_puti 7 C 82 z_dX4 (⟨rfl, rfl⟩) 6 (by decide) q310 rfl (rfl) rfl ⟨Nat.le_of_ble_eq_true rfl, rfl⟩ dX4_parseLobes_7 ?_
  refine z_cv (σ1 := z_xU σ (nI (ps + 1)) (nI n) nu fa ak af as_ at_) rfl rfl z_xU_pcu ?_
  refine z_aload_n 10 C dX4_parseLobes_10 0 rfl ?_
  refine z_iconst 11 C dX4_parseLobes_11 (nI 0) rfl ?_
  refine z_bipush 12 C dX4_parseLobes_12 (nI 12) rfl ?_
  refine z_callV 14 C 82 (⟨rfl, rfl⟩) rfl (As := [.int (nI 0), .int (nI 12)]) (rest := []) (@m_X4_takeNumber _ _ σ tl hL h200 (ps + 1) (by omega) (nI n) nu fa ak af as_ at_ (nI 0) (nI 12)) k_X4_takeNumber q891 ⟨rfl, rfl⟩ ⟨Nat.le_of_ble_eq_true rfl, Nat.le_of_ble_eq_true rfl⟩ rfl (Nat.le_of_ble_eq_true rfl) ⟨Nat.le_of_ble_eq_true rfl, Nat.le_of_ble_eq_true rfl⟩ rfl dX4_parseLobes_14 (fun v14 σ14 hv14 => ?_)
  rcases hv14 with ⟨f14, a14, b14, hm14, rfl, rfl⟩ | ⟨c14_, v14_, hm14, rfl, rfl⟩
  · skip
    refine z_cv (st1 := [.int (nI 0)]) rfl rfl rfl ?_
    refine z_if_ne 17 C 22 dX4_parseLobes_17 (by decide) (fun c17 => ?_) (fun c17 => ?_)
    · skip
      exact absurd rfl c17
    · skip
      refine z_iconst 20 C dX4_parseLobes_20 (nI 0) rfl ?_
      refine z_zret 21 C (rfl) dX4_parseLobes_21 ?_
      exact Or.inl ⟨_, _, _, by simp only [zt_lobes, hm14, reduceIte], rfl, rfl⟩
  · skip
    refine z_cv (st1 := [.int (nI 1)]) rfl rfl rfl ?_
    have hr14 := zt_num_rng hm14
    refine z_if_ne 17 C 22 dX4_parseLobes_17 (by decide) (fun c17 => ?_) (fun c17 => ?_)
    · skip
      refine z_aload_n 22 C dX4_parseLobes_22 0 rfl ?_
      refine z_getf 23 C 82 z_dX4 (⟨rfl, rfl⟩) 8 (by decide) q313 (.int v14_) rfl dX4_parseLobes_23 ?_
      refine z_istore_n 26 C dX4_parseLobes_26 [(2, .int v14_), (0, .ref (z_ad G 82)), (1, .int kd)] (by decide) rfl ?_
      refine z_aload_n 27 C dX4_parseLobes_27 1 rfl ?_
      refine z_bipush 28 C dX4_parseLobes_28 (nI 97) rfl ?_
      refine z_callV 30 C 82 (⟨rfl, rfl⟩) rfl (As := [.int (nI 97)]) (rest := []) (@m_X4_take _ _ σ tl hL h200 c14_ (by omega) (nI n) v14_ fa ak af as_ at_ (nI 97)) k_X4_take q904 ⟨rfl, rfl⟩ ⟨Nat.le_of_ble_eq_true rfl, Nat.le_of_ble_eq_true rfl⟩ rfl (Nat.le_of_ble_eq_true rfl) ⟨Nat.le_of_ble_eq_true rfl, Nat.le_of_ble_eq_true rfl⟩ rfl dX4_parseLobes_30 (fun v30 σ30 hv30 => ?_)
      rcases hv30 with ⟨ht30, rfl, rfl⟩ | ⟨ht30, rfl, rfl⟩
      · skip
        refine z_cv (st1 := [.int (nI 0)]) rfl rfl rfl ?_
        refine z_if_eq 33 C 49 dX4_parseLobes_33 (by decide) (fun c33 => ?_) (fun c33 => ?_)
        · skip
          refine z_iconst 49 C dX4_parseLobes_49 (nI 0) rfl ?_
          refine z_zret 50 C (rfl) dX4_parseLobes_50 ?_
          exact Or.inl ⟨_, _, _, by simp only [zt_lobes, hm14, ht30, reduceIte], rfl, rfl⟩
        · skip
          exact absurd rfl c33
      · skip
        refine z_cv (st1 := [.int (nI 1)]) rfl rfl rfl ?_
        have hlt30 := zt_lt ht30 (by decide)
        refine z_if_eq 33 C 49 dX4_parseLobes_33 (by decide) (fun c33 => ?_) (fun c33 => ?_)
        · skip
          exact absurd c33 (by decide)
        · skip
          refine z_aload_n 36 C dX4_parseLobes_36 1 rfl ?_
          refine z_sipush 37 C dX4_parseLobes_37 (-1000) rfl ?_
          refine z_sipush 40 C dX4_parseLobes_40 (nI 1000) rfl ?_
          refine z_callV 43 C 82 (⟨rfl, rfl⟩) rfl (As := [.int (-1000), .int (nI 1000)]) (rest := []) (@m_X4_takeNumber _ _ σ tl hL h200 (c14_ + 1) (by omega) (nI n) v14_ fa ak af as_ at_ (-1000) (nI 1000)) k_X4_takeNumber q891 ⟨rfl, rfl⟩ ⟨Nat.le_of_ble_eq_true rfl, Nat.le_of_ble_eq_true rfl⟩ rfl (Nat.le_of_ble_eq_true rfl) ⟨Nat.le_of_ble_eq_true rfl, Nat.le_of_ble_eq_true rfl⟩ rfl dX4_parseLobes_43 (fun v43 σ43 hv43 => ?_)
          rcases hv43 with ⟨f43, a43, b43, hm43, rfl, rfl⟩ | ⟨c43_, v43_, hm43, rfl, rfl⟩
          · skip
            refine z_cv (st1 := [.int (nI 0)]) rfl rfl rfl ?_
            refine z_if_ne 46 C 51 dX4_parseLobes_46 (by decide) (fun c46 => ?_) (fun c46 => ?_)
            · skip
              exact absurd rfl c46
            · skip
              refine z_iconst 49 C dX4_parseLobes_49 (nI 0) rfl ?_
              refine z_zret 50 C (rfl) dX4_parseLobes_50 ?_
              exact Or.inl ⟨_, _, _, by simp only [zt_lobes, hm14, ht30, hm43, reduceIte], rfl, rfl⟩
          · skip
            refine z_cv (st1 := [.int (nI 1)]) rfl rfl rfl ?_
            have hr43 := zt_num_rng hm43
            refine z_if_ne 46 C 51 dX4_parseLobes_46 (by decide) (fun c46 => ?_) (fun c46 => ?_)
            · skip
              refine z_aload_n 51 C dX4_parseLobes_51 1 rfl ?_
              refine z_getf 52 C 82 z_dX4 (⟨rfl, rfl⟩) 8 (by decide) q313 (.int v43_) rfl dX4_parseLobes_52 ?_
              refine z_istore_n 55 C dX4_parseLobes_55 [(3, .int v43_), (2, .int v14_), (0, .ref (z_ad G 82)), (1, .int kd)] (by decide) rfl ?_
              refine z_iconst 56 C dX4_parseLobes_56 (nI 0) rfl ?_
              refine z_istore 57 C dX4_parseLobes_57 [(4, .int (nI 0)), (3, .int v43_), (2, .int v14_), (0, .ref (z_ad G 82)), (1, .int kd)] (by decide) rfl ?_
              refine z_aload_n 59 C dX4_parseLobes_59 3 rfl ?_
              refine z_callV 60 C 82 (⟨rfl, rfl⟩) rfl (As := []) (rest := []) (@m_X4_current _ _ σ tl hL h200 c43_ (by omega) (nI n) v43_ fa ak af as_ at_ ) k_X4_current q883 ⟨rfl, rfl⟩ ⟨Nat.le_of_ble_eq_true rfl, Nat.le_of_ble_eq_true rfl⟩ rfl (Nat.le_of_ble_eq_true rfl) ⟨Nat.le_of_ble_eq_true rfl, Nat.le_of_ble_eq_true rfl⟩ rfl dX4_parseLobes_60 (z_k1 ?_)
              refine z_bipush 63 C dX4_parseLobes_63 (nI 102) rfl ?_
              refine z_icmp_ne 65 C 96 dX4_parseLobes_65 (by decide) (fun c65 => ?_) (fun c65 => ?_)
              · skip
                refine z_aload_n 96 C dX4_parseLobes_96 3 rfl ?_
                refine z_iload_n 97 C dX4_parseLobes_97 4 rfl ?_
                refine z_iload_n 98 C dX4_parseLobes_98 2 rfl ?_
                refine z_iload_n 99 C dX4_parseLobes_99 1 rfl ?_
                refine z_iload 100 C dX4_parseLobes_100 0 rfl ?_
                refine z_callV 102 C 82 (⟨rfl, rfl⟩) rfl (As := [.int kd, .int v14_, .int v43_, .int (nI 0)]) (rest := []) (@m_X4_note _ _ σ tl hL h200 (nI c43_) n (by omega) v43_ fa ak af as_ at_ kd v14_ v43_ (nI 0)) k_X4_note q908 ⟨rfl, rfl⟩ ⟨Nat.le_of_ble_eq_true rfl, Nat.le_of_ble_eq_true rfl⟩ rfl (Nat.le_of_ble_eq_true rfl) ⟨Nat.le_of_ble_eq_true rfl, Nat.le_of_ble_eq_true rfl⟩ rfl dX4_parseLobes_102 (z_k0 ?_)
                refine z_iconst 105 C dX4_parseLobes_105 (nI 1) rfl ?_
                refine z_zret 106 C (rfl) dX4_parseLobes_106 ?_
                exact Or.inr ⟨_, _, _, _, _, _, by simp only [zt_lobes, hm14, ht30, hm43, c65, reduceIte], rfl, rfl⟩
              · skip
                have hlt65 := zt_lt c65 (by decide)
                refine z_aload_n 68 C dX4_parseLobes_68 3 rfl ?_
                refine z_dup 69 C dX4_parseLobes_69 rfl ?_
                refine z_getf 70 C 82 z_dX4 (⟨rfl, rfl⟩) 6 (by decide) q310 (.int (nI c43_)) rfl dX4_parseLobes_70 ?_
                refine z_iconst 73 C dX4_parseLobes_73 (nI 1) rfl ?_
                refine z_iaddN 74 C c43_ 1 rfl rfl dX4_parseLobes_74 ?_
                refine z_puti 75 C 82 z_dX4 (⟨rfl, rfl⟩) 6 (by decide) q310 rfl (rfl) rfl ⟨Nat.le_of_ble_eq_true rfl, rfl⟩ dX4_parseLobes_75 ?_
                refine z_cv (σ1 := z_xU σ (nI (c43_ + 1)) (nI n) v43_ fa ak af as_ at_) rfl rfl z_xU_pcu ?_
                refine z_aload_n 78 C dX4_parseLobes_78 3 rfl ?_
                refine z_iconst 79 C dX4_parseLobes_79 (nI 0) rfl ?_
                refine z_bipush 80 C dX4_parseLobes_80 (nI 23) rfl ?_
                refine z_callV 82 C 82 (⟨rfl, rfl⟩) rfl (As := [.int (nI 0), .int (nI 23)]) (rest := []) (@m_X4_takeNumber _ _ σ tl hL h200 (c43_ + 1) (by omega) (nI n) v43_ fa ak af as_ at_ (nI 0) (nI 23)) k_X4_takeNumber q891 ⟨rfl, rfl⟩ ⟨Nat.le_of_ble_eq_true rfl, Nat.le_of_ble_eq_true rfl⟩ rfl (Nat.le_of_ble_eq_true rfl) ⟨Nat.le_of_ble_eq_true rfl, Nat.le_of_ble_eq_true rfl⟩ rfl dX4_parseLobes_82 (fun v82 σ82 hv82 => ?_)
                rcases hv82 with ⟨f82, a82, b82, hm82, rfl, rfl⟩ | ⟨c82_, v82_, hm82, rfl, rfl⟩
                · skip
                  refine z_cv (st1 := [.int (nI 0)]) rfl rfl rfl ?_
                  refine z_if_ne 85 C 90 dX4_parseLobes_85 (by decide) (fun c85 => ?_) (fun c85 => ?_)
                  · skip
                    exact absurd rfl c85
                  · skip
                    refine z_iconst 88 C dX4_parseLobes_88 (nI 0) rfl ?_
                    refine z_zret 89 C (rfl) dX4_parseLobes_89 ?_
                    exact Or.inl ⟨_, _, _, by simp only [zt_lobes, hm14, ht30, hm43, hm82, c65, reduceIte], rfl, rfl⟩
                · skip
                  refine z_cv (st1 := [.int (nI 1)]) rfl rfl rfl ?_
                  have hr82 := zt_num_rng hm82
                  refine z_if_ne 85 C 90 dX4_parseLobes_85 (by decide) (fun c85 => ?_) (fun c85 => ?_)
                  · skip
                    refine z_aload_n 90 C dX4_parseLobes_90 3 rfl ?_
                    refine z_getf 91 C 82 z_dX4 (⟨rfl, rfl⟩) 8 (by decide) q313 (.int v82_) rfl dX4_parseLobes_91 ?_
                    refine z_istore 94 C dX4_parseLobes_94 [(4, .int v82_), (3, .int v43_), (2, .int v14_), (0, .ref (z_ad G 82)), (1, .int kd)] (by decide) rfl ?_
                    refine z_aload_n 96 C dX4_parseLobes_96 3 rfl ?_
                    refine z_iload_n 97 C dX4_parseLobes_97 4 rfl ?_
                    refine z_iload_n 98 C dX4_parseLobes_98 2 rfl ?_
                    refine z_iload_n 99 C dX4_parseLobes_99 1 rfl ?_
                    refine z_iload 100 C dX4_parseLobes_100 0 rfl ?_
                    refine z_callV 102 C 82 (⟨rfl, rfl⟩) rfl (As := [.int kd, .int v14_, .int v43_, .int v82_]) (rest := []) (@m_X4_note _ _ σ tl hL h200 (nI c82_) n (by omega) v82_ fa ak af as_ at_ kd v14_ v43_ v82_) k_X4_note q908 ⟨rfl, rfl⟩ ⟨Nat.le_of_ble_eq_true rfl, Nat.le_of_ble_eq_true rfl⟩ rfl (Nat.le_of_ble_eq_true rfl) ⟨Nat.le_of_ble_eq_true rfl, Nat.le_of_ble_eq_true rfl⟩ rfl dX4_parseLobes_102 (z_k0 ?_)
                    refine z_iconst 105 C dX4_parseLobes_105 (nI 1) rfl ?_
                    refine z_zret 106 C (rfl) dX4_parseLobes_106 ?_
                    exact Or.inr ⟨_, _, _, _, _, _, by simp only [zt_lobes, hm14, ht30, hm43, hm82, c65, reduceIte], rfl, rfl⟩
                  · skip
                    exact absurd c85 (by decide)
            · skip
              exact absurd c46 (by decide)
    · skip
      exact absurd c17 (by decide)
theorem dX4_parseEccentricity_0 : decode cX4_parseEccentricity 0 = .ok (.aload_n 0, 1) := by decide +kernel
theorem dX4_parseEccentricity_1 : decode cX4_parseEccentricity 1 = .ok (.dup, 1) := by decide +kernel
theorem dX4_parseEccentricity_2 : decode cX4_parseEccentricity 2 = .ok (.getfield 32, 3) := by decide +kernel
theorem dX4_parseEccentricity_5 : decode cX4_parseEccentricity 5 = .ok (.iconst 1, 1) := by decide +kernel
theorem dX4_parseEccentricity_6 : decode cX4_parseEccentricity 6 = .ok (.iadd, 1) := by decide +kernel
theorem dX4_parseEccentricity_7 : decode cX4_parseEccentricity 7 = .ok (.putfield 32, 3) := by decide +kernel
theorem dX4_parseEccentricity_10 : decode cX4_parseEccentricity 10 = .ok (.aload_n 0, 1) := by decide +kernel
theorem dX4_parseEccentricity_11 : decode cX4_parseEccentricity 11 = .ok (.sipush (-5000), 3) := by decide +kernel
theorem dX4_parseEccentricity_14 : decode cX4_parseEccentricity 14 = .ok (.sipush 5000, 3) := by decide +kernel
theorem dX4_parseEccentricity_17 : decode cX4_parseEccentricity 17 = .ok (.invokevirtual 69, 3) := by decide +kernel
theorem dX4_parseEccentricity_20 : decode cX4_parseEccentricity 20 = .ok (.ifCond .ne 5, 3) := by decide +kernel
theorem dX4_parseEccentricity_23 : decode cX4_parseEccentricity 23 = .ok (.iconst 0, 1) := by decide +kernel
theorem dX4_parseEccentricity_24 : decode cX4_parseEccentricity 24 = .ok (.ireturn, 1) := by decide +kernel
theorem dX4_parseEccentricity_25 : decode cX4_parseEccentricity 25 = .ok (.aload_n 0, 1) := by decide +kernel
theorem dX4_parseEccentricity_26 : decode cX4_parseEccentricity 26 = .ok (.getfield 38, 3) := by decide +kernel
theorem dX4_parseEccentricity_29 : decode cX4_parseEccentricity 29 = .ok (.istore_n 1, 1) := by decide +kernel
theorem dX4_parseEccentricity_30 : decode cX4_parseEccentricity 30 = .ok (.aload_n 0, 1) := by decide +kernel
theorem dX4_parseEccentricity_31 : decode cX4_parseEccentricity 31 = .ok (.bipush 44, 2) := by decide +kernel
theorem dX4_parseEccentricity_33 : decode cX4_parseEccentricity 33 = .ok (.invokevirtual 48, 3) := by decide +kernel
theorem dX4_parseEccentricity_36 : decode cX4_parseEccentricity 36 = .ok (.ifCond .eq 16, 3) := by decide +kernel
theorem dX4_parseEccentricity_39 : decode cX4_parseEccentricity 39 = .ok (.aload_n 0, 1) := by decide +kernel
theorem dX4_parseEccentricity_40 : decode cX4_parseEccentricity 40 = .ok (.sipush (-5000), 3) := by decide +kernel
theorem dX4_parseEccentricity_43 : decode cX4_parseEccentricity 43 = .ok (.sipush 5000, 3) := by decide +kernel
theorem dX4_parseEccentricity_46 : decode cX4_parseEccentricity 46 = .ok (.invokevirtual 69, 3) := by decide +kernel
theorem dX4_parseEccentricity_49 : decode cX4_parseEccentricity 49 = .ok (.ifCond .ne 5, 3) := by decide +kernel
theorem dX4_parseEccentricity_52 : decode cX4_parseEccentricity 52 = .ok (.iconst 0, 1) := by decide +kernel
theorem dX4_parseEccentricity_53 : decode cX4_parseEccentricity 53 = .ok (.ireturn, 1) := by decide +kernel
theorem dX4_parseEccentricity_54 : decode cX4_parseEccentricity 54 = .ok (.aload_n 0, 1) := by decide +kernel
theorem dX4_parseEccentricity_55 : decode cX4_parseEccentricity 55 = .ok (.bipush 101, 2) := by decide +kernel
theorem dX4_parseEccentricity_57 : decode cX4_parseEccentricity 57 = .ok (.iload_n 1, 1) := by decide +kernel
theorem dX4_parseEccentricity_58 : decode cX4_parseEccentricity 58 = .ok (.aload_n 0, 1) := by decide +kernel
theorem dX4_parseEccentricity_59 : decode cX4_parseEccentricity 59 = .ok (.getfield 38, 3) := by decide +kernel
theorem dX4_parseEccentricity_62 : decode cX4_parseEccentricity 62 = .ok (.iconst 0, 1) := by decide +kernel
theorem dX4_parseEccentricity_63 : decode cX4_parseEccentricity 63 = .ok (.invokevirtual 73, 3) := by decide +kernel
theorem dX4_parseEccentricity_66 : decode cX4_parseEccentricity 66 = .ok (.iconst 1, 1) := by decide +kernel
theorem dX4_parseEccentricity_67 : decode cX4_parseEccentricity 67 = .ok (.ireturn, 1) := by decide +kernel
set_option maxRecDepth 100000 in
set_option maxHeartbeats 4000000 in
theorem m_X4_parseEccentricity {l : Launch} {G : z_Gl} {σ : z_St} (tl : Nat) (hL : σ.1 82 5 = nI tl) (h200 : tl ≤ 200) (ps : Nat) (hps : ps ≤ tl) (n : Nat) (h3 : 3 * n ≤ ps) (nu fa : Int32) (ak af as_ at_ : Nat → Int32)  (hlt : ps < tl) : z_M l G yX4_parseEccentricity cX4_parseEccentricity 2 (some .boolean) (z_rm 3 68) [.ref (z_ad G 82)] (z_xU σ (nI ps) (nI n) nu fa ak af as_ at_) (fun w σ1 => (∃ (f : Nat) (a b : Int32), zt_ecc (σ.1 83) tl (ps + 1) = .inl f ∧ w = some (.int (nI 0)) ∧ σ1 = z_xU σ a (nI n) b (nI f) ak af as_ at_) ∨ (∃ (c1 : Nat) (k1 x1 x2 x3 b : Int32), zt_ecc (σ.1 83) tl (ps + 1) = .inr (c1, k1, x1, x2, x3) ∧ w = some (.int (nI 1)) ∧ σ1 = z_xU σ (nI c1) (nI (n + 1)) b fa (upd ak n k1) (upd af n x1) (upd as_ n x2) (upd at_ n x3))) := by
  refine z_M.of (by decide) (Nat.le_of_ble_eq_true rfl) (fun p e s m below meth c C => ?_)
  refine z_sub [0] (lv1 := [(0, .ref (z_ad G 82))]) rfl ?_
  refine z_aload_n 0 C dX4_parseEccentricity_0 0 rfl ?_
  refine z_dup 1 C dX4_parseEccentricity_1 rfl ?_
  refine z_getf 2 C 82 z_dX4 (⟨rfl, rfl⟩) 6 (by decide) q310 (.int (nI ps)) rfl dX4_parseEccentricity_2 ?_
  refine z_iconst 5 C dX4_parseEccentricity_5 (nI 1) rfl ?_
  refine z_iaddN 6 C ps 1 rfl rfl dX4_parseEccentricity_6 ?_
  refine z_puti 7 C 82 z_dX4 (⟨rfl, rfl⟩) 6 (by decide) q310 rfl (rfl) rfl ⟨Nat.le_of_ble_eq_true rfl, rfl⟩ dX4_parseEccentricity_7 ?_
  refine z_cv (σ1 := z_xU σ (nI (ps + 1)) (nI n) nu fa ak af as_ at_) rfl rfl z_xU_pcu ?_
  refine z_aload_n 10 C dX4_parseEccentricity_10 0 rfl ?_
  refine z_sipush 11 C dX4_parseEccentricity_11 (-5000) rfl ?_
  refine z_sipush 14 C dX4_parseEccentricity_14 (nI 5000) rfl ?_
  refine z_callV 17 C 82 (⟨rfl, rfl⟩) rfl (As := [.int (-5000), .int (nI 5000)]) (rest := []) (@m_X4_takeNumber _ _ σ tl hL h200 (ps + 1) (by omega) (nI n) nu fa ak af as_ at_ (-5000) (nI 5000)) k_X4_takeNumber q891 ⟨rfl, rfl⟩ ⟨Nat.le_of_ble_eq_true rfl, Nat.le_of_ble_eq_true rfl⟩ rfl (Nat.le_of_ble_eq_true rfl) ⟨Nat.le_of_ble_eq_true rfl, Nat.le_of_ble_eq_true rfl⟩ rfl dX4_parseEccentricity_17 (fun v17 σ17 hv17 => ?_)
  rcases hv17 with ⟨f17, a17, b17, hm17, rfl, rfl⟩ | ⟨c17_, v17_, hm17, rfl, rfl⟩
  · skip
    refine z_cv (st1 := [.int (nI 0)]) rfl rfl rfl ?_
    refine z_if_ne 20 C 25 dX4_parseEccentricity_20 (by decide) (fun c20 => ?_) (fun c20 => ?_)
    · skip
      exact absurd rfl c20
    · skip
      refine z_iconst 23 C dX4_parseEccentricity_23 (nI 0) rfl ?_
      refine z_zret 24 C (rfl) dX4_parseEccentricity_24 ?_
      exact Or.inl ⟨_, _, _, by simp only [zt_ecc, hm17, reduceIte], rfl, rfl⟩
  · skip
    refine z_cv (st1 := [.int (nI 1)]) rfl rfl rfl ?_
    have hr17 := zt_num_rng hm17
    refine z_if_ne 20 C 25 dX4_parseEccentricity_20 (by decide) (fun c20 => ?_) (fun c20 => ?_)
    · skip
      refine z_aload_n 25 C dX4_parseEccentricity_25 0 rfl ?_
      refine z_getf 26 C 82 z_dX4 (⟨rfl, rfl⟩) 8 (by decide) q313 (.int v17_) rfl dX4_parseEccentricity_26 ?_
      refine z_istore_n 29 C dX4_parseEccentricity_29 [(1, .int v17_), (0, .ref (z_ad G 82))] (by decide) rfl ?_
      refine z_aload_n 30 C dX4_parseEccentricity_30 1 rfl ?_
      refine z_bipush 31 C dX4_parseEccentricity_31 (nI 44) rfl ?_
      refine z_callV 33 C 82 (⟨rfl, rfl⟩) rfl (As := [.int (nI 44)]) (rest := []) (@m_X4_take _ _ σ tl hL h200 c17_ (by omega) (nI n) v17_ fa ak af as_ at_ (nI 44)) k_X4_take q904 ⟨rfl, rfl⟩ ⟨Nat.le_of_ble_eq_true rfl, Nat.le_of_ble_eq_true rfl⟩ rfl (Nat.le_of_ble_eq_true rfl) ⟨Nat.le_of_ble_eq_true rfl, Nat.le_of_ble_eq_true rfl⟩ rfl dX4_parseEccentricity_33 (fun v33 σ33 hv33 => ?_)
      rcases hv33 with ⟨ht33, rfl, rfl⟩ | ⟨ht33, rfl, rfl⟩
      · skip
        refine z_cv (st1 := [.int (nI 0)]) rfl rfl rfl ?_
        refine z_if_eq 36 C 52 dX4_parseEccentricity_36 (by decide) (fun c36 => ?_) (fun c36 => ?_)
        · skip
          refine z_iconst 52 C dX4_parseEccentricity_52 (nI 0) rfl ?_
          refine z_zret 53 C (rfl) dX4_parseEccentricity_53 ?_
          exact Or.inl ⟨_, _, _, by simp only [zt_ecc, hm17, ht33, reduceIte], rfl, rfl⟩
        · skip
          exact absurd rfl c36
      · skip
        refine z_cv (st1 := [.int (nI 1)]) rfl rfl rfl ?_
        have hlt33 := zt_lt ht33 (by decide)
        refine z_if_eq 36 C 52 dX4_parseEccentricity_36 (by decide) (fun c36 => ?_) (fun c36 => ?_)
        · skip
          exact absurd c36 (by decide)
        · skip
          refine z_aload_n 39 C dX4_parseEccentricity_39 1 rfl ?_
          refine z_sipush 40 C dX4_parseEccentricity_40 (-5000) rfl ?_
          refine z_sipush 43 C dX4_parseEccentricity_43 (nI 5000) rfl ?_
          refine z_callV 46 C 82 (⟨rfl, rfl⟩) rfl (As := [.int (-5000), .int (nI 5000)]) (rest := []) (@m_X4_takeNumber _ _ σ tl hL h200 (c17_ + 1) (by omega) (nI n) v17_ fa ak af as_ at_ (-5000) (nI 5000)) k_X4_takeNumber q891 ⟨rfl, rfl⟩ ⟨Nat.le_of_ble_eq_true rfl, Nat.le_of_ble_eq_true rfl⟩ rfl (Nat.le_of_ble_eq_true rfl) ⟨Nat.le_of_ble_eq_true rfl, Nat.le_of_ble_eq_true rfl⟩ rfl dX4_parseEccentricity_46 (fun v46 σ46 hv46 => ?_)
          rcases hv46 with ⟨f46, a46, b46, hm46, rfl, rfl⟩ | ⟨c46_, v46_, hm46, rfl, rfl⟩
          · skip
            refine z_cv (st1 := [.int (nI 0)]) rfl rfl rfl ?_
            refine z_if_ne 49 C 54 dX4_parseEccentricity_49 (by decide) (fun c49 => ?_) (fun c49 => ?_)
            · skip
              exact absurd rfl c49
            · skip
              refine z_iconst 52 C dX4_parseEccentricity_52 (nI 0) rfl ?_
              refine z_zret 53 C (rfl) dX4_parseEccentricity_53 ?_
              exact Or.inl ⟨_, _, _, by simp only [zt_ecc, hm17, ht33, hm46, reduceIte], rfl, rfl⟩
          · skip
            refine z_cv (st1 := [.int (nI 1)]) rfl rfl rfl ?_
            have hr46 := zt_num_rng hm46
            refine z_if_ne 49 C 54 dX4_parseEccentricity_49 (by decide) (fun c49 => ?_) (fun c49 => ?_)
            · skip
              refine z_aload_n 54 C dX4_parseEccentricity_54 1 rfl ?_
              refine z_bipush 55 C dX4_parseEccentricity_55 (nI 101) rfl ?_
              refine z_iload_n 57 C dX4_parseEccentricity_57 0 rfl ?_
              refine z_aload_n 58 C dX4_parseEccentricity_58 1 rfl ?_
              refine z_getf 59 C 82 z_dX4 (⟨rfl, rfl⟩) 8 (by decide) q313 (.int v46_) rfl dX4_parseEccentricity_59 ?_
              refine z_iconst 62 C dX4_parseEccentricity_62 (nI 0) rfl ?_
              refine z_callV 63 C 82 (⟨rfl, rfl⟩) rfl (As := [.int (nI 101), .int v17_, .int v46_, .int (nI 0)]) (rest := []) (@m_X4_note _ _ σ tl hL h200 (nI c46_) n (by omega) v46_ fa ak af as_ at_ (nI 101) v17_ v46_ (nI 0)) k_X4_note q908 ⟨rfl, rfl⟩ ⟨Nat.le_of_ble_eq_true rfl, Nat.le_of_ble_eq_true rfl⟩ rfl (Nat.le_of_ble_eq_true rfl) ⟨Nat.le_of_ble_eq_true rfl, Nat.le_of_ble_eq_true rfl⟩ rfl dX4_parseEccentricity_63 (z_k0 ?_)
              refine z_iconst 66 C dX4_parseEccentricity_66 (nI 1) rfl ?_
              refine z_zret 67 C (rfl) dX4_parseEccentricity_67 ?_
              exact Or.inr ⟨_, _, _, _, _, _, by simp only [zt_ecc, hm17, ht33, hm46, reduceIte], rfl, rfl⟩
            · skip
              exact absurd c49 (by decide)
    · skip
      exact absurd c20 (by decide)
theorem dX4_parseSteps_0 : decode cX4_parseSteps 0 = .ok (.aload_n 0, 1) := by decide +kernel
theorem dX4_parseSteps_1 : decode cX4_parseSteps 1 = .ok (.dup, 1) := by decide +kernel
theorem dX4_parseSteps_2 : decode cX4_parseSteps 2 = .ok (.getfield 32, 3) := by decide +kernel
theorem dX4_parseSteps_5 : decode cX4_parseSteps 5 = .ok (.iconst 1, 1) := by decide +kernel
theorem dX4_parseSteps_6 : decode cX4_parseSteps 6 = .ok (.iadd, 1) := by decide +kernel
theorem dX4_parseSteps_7 : decode cX4_parseSteps 7 = .ok (.putfield 32, 3) := by decide +kernel
theorem dX4_parseSteps_10 : decode cX4_parseSteps 10 = .ok (.aload_n 0, 1) := by decide +kernel
theorem dX4_parseSteps_11 : decode cX4_parseSteps 11 = .ok (.getfield 32, 3) := by decide +kernel
theorem dX4_parseSteps_14 : decode cX4_parseSteps 14 = .ok (.istore_n 1, 1) := by decide +kernel
theorem dX4_parseSteps_15 : decode cX4_parseSteps 15 = .ok (.aload_n 0, 1) := by decide +kernel
theorem dX4_parseSteps_16 : decode cX4_parseSteps 16 = .ok (.iconst 0, 1) := by decide +kernel
theorem dX4_parseSteps_17 : decode cX4_parseSteps 17 = .ok (.bipush 12, 2) := by decide +kernel
theorem dX4_parseSteps_19 : decode cX4_parseSteps 19 = .ok (.invokevirtual 69, 3) := by decide +kernel
theorem dX4_parseSteps_22 : decode cX4_parseSteps 22 = .ok (.ifCond .ne 5, 3) := by decide +kernel
theorem dX4_parseSteps_25 : decode cX4_parseSteps 25 = .ok (.iconst 0, 1) := by decide +kernel
theorem dX4_parseSteps_26 : decode cX4_parseSteps 26 = .ok (.ireturn, 1) := by decide +kernel
theorem dX4_parseSteps_27 : decode cX4_parseSteps 27 = .ok (.aload_n 0, 1) := by decide +kernel
theorem dX4_parseSteps_28 : decode cX4_parseSteps 28 = .ok (.getfield 38, 3) := by decide +kernel
theorem dX4_parseSteps_31 : decode cX4_parseSteps 31 = .ok (.invokestatic 77, 3) := by decide +kernel
theorem dX4_parseSteps_34 : decode cX4_parseSteps 34 = .ok (.ifCond .ne 9, 3) := by decide +kernel
theorem dX4_parseSteps_37 : decode cX4_parseSteps 37 = .ok (.aload_n 0, 1) := by decide +kernel
theorem dX4_parseSteps_38 : decode cX4_parseSteps 38 = .ok (.iload_n 1, 1) := by decide +kernel
theorem dX4_parseSteps_39 : decode cX4_parseSteps 39 = .ok (.invokevirtual 52, 3) := by decide +kernel
theorem dX4_parseSteps_42 : decode cX4_parseSteps 42 = .ok (.ireturn, 1) := by decide +kernel
theorem dX4_parseSteps_43 : decode cX4_parseSteps 43 = .ok (.aload_n 0, 1) := by decide +kernel
theorem dX4_parseSteps_44 : decode cX4_parseSteps 44 = .ok (.bipush 110, 2) := by decide +kernel
theorem dX4_parseSteps_46 : decode cX4_parseSteps 46 = .ok (.aload_n 0, 1) := by decide +kernel
theorem dX4_parseSteps_47 : decode cX4_parseSteps 47 = .ok (.getfield 38, 3) := by decide +kernel
theorem dX4_parseSteps_50 : decode cX4_parseSteps 50 = .ok (.iconst 0, 1) := by decide +kernel
theorem dX4_parseSteps_51 : decode cX4_parseSteps 51 = .ok (.iconst 0, 1) := by decide +kernel
theorem dX4_parseSteps_52 : decode cX4_parseSteps 52 = .ok (.invokevirtual 73, 3) := by decide +kernel
theorem dX4_parseSteps_55 : decode cX4_parseSteps 55 = .ok (.iconst 1, 1) := by decide +kernel
theorem dX4_parseSteps_56 : decode cX4_parseSteps 56 = .ok (.ireturn, 1) := by decide +kernel
set_option maxRecDepth 100000 in
set_option maxHeartbeats 4000000 in
theorem m_X4_parseSteps {l : Launch} {G : z_Gl} {σ : z_St} (tl : Nat) (hL : σ.1 82 5 = nI tl) (h200 : tl ≤ 200) (ps : Nat) (hps : ps ≤ tl) (n : Nat) (h3 : 3 * n ≤ ps) (nu fa : Int32) (ak af as_ at_ : Nat → Int32)  (hlt : ps < tl) : z_M l G yX4_parseSteps cX4_parseSteps 2 (some .boolean) (z_rm 3 68) [.ref (z_ad G 82)] (z_xU σ (nI ps) (nI n) nu fa ak af as_ at_) (fun w σ1 => (∃ (f : Nat) (a b : Int32), zt_stp (σ.1 83) tl (ps + 1) = .inl f ∧ w = some (.int (nI 0)) ∧ σ1 = z_xU σ a (nI n) b (nI f) ak af as_ at_) ∨ (∃ (c1 : Nat) (k1 x1 x2 x3 b : Int32), zt_stp (σ.1 83) tl (ps + 1) = .inr (c1, k1, x1, x2, x3) ∧ w = some (.int (nI 1)) ∧ σ1 = z_xU σ (nI c1) (nI (n + 1)) b fa (upd ak n k1) (upd af n x1) (upd as_ n x2) (upd at_ n x3))) := by
  refine z_M.of (by decide) (Nat.le_of_ble_eq_true rfl) (fun p e s m below meth c C => ?_)
  refine z_sub [0] (lv1 := [(0, .ref (z_ad G 82))]) rfl ?_
  refine z_aload_n 0 C dX4_parseSteps_0 0 rfl ?_
  refine z_dup 1 C dX4_parseSteps_1 rfl ?_
  refine z_getf 2 C 82 z_dX4 (⟨rfl, rfl⟩) 6 (by decide) q310 (.int (nI ps)) rfl dX4_parseSteps_2 ?_
  refine z_iconst 5 C dX4_parseSteps_5 (nI 1) rfl ?_
  refine z_iaddN 6 C ps 1 rfl rfl dX4_parseSteps_6 ?_
  refine z_puti 7 C 82 z_dX4 (⟨rfl, rfl⟩) 6 (by decide) q310 rfl (rfl) rfl ⟨Nat.le_of_ble_eq_true rfl, rfl⟩ dX4_parseSteps_7 ?_
  refine z_cv (σ1 := z_xU σ (nI (ps + 1)) (nI n) nu fa ak af as_ at_) rfl rfl z_xU_pcu ?_
  refine z_aload_n 10 C dX4_parseSteps_10 0 rfl ?_
  refine z_getf 11 C 82 z_dX4 (⟨rfl, rfl⟩) 6 (by decide) q310 (.int (nI (ps + 1))) rfl dX4_parseSteps_11 ?_
  refine z_istore_n 14 C dX4_parseSteps_14 [(1, .int (nI (ps + 1))), (0, .ref (z_ad G 82))] (by decide) rfl ?_
  refine z_aload_n 15 C dX4_parseSteps_15 1 rfl ?_
  refine z_iconst 16 C dX4_parseSteps_16 (nI 0) rfl ?_
  refine z_bipush 17 C dX4_parseSteps_17 (nI 12) rfl ?_
  refine z_callV 19 C 82 (⟨rfl, rfl⟩) rfl (As := [.int (nI 0), .int (nI 12)]) (rest := []) (@m_X4_takeNumber _ _ σ tl hL h200 (ps + 1) (by omega) (nI n) nu fa ak af as_ at_ (nI 0) (nI 12)) k_X4_takeNumber q891 ⟨rfl, rfl⟩ ⟨Nat.le_of_ble_eq_true rfl, Nat.le_of_ble_eq_true rfl⟩ rfl (Nat.le_of_ble_eq_true rfl) ⟨Nat.le_of_ble_eq_true rfl, Nat.le_of_ble_eq_true rfl⟩ rfl dX4_parseSteps_19 (fun v19 σ19 hv19 => ?_)
  rcases hv19 with ⟨f19, a19, b19, hm19, rfl, rfl⟩ | ⟨c19_, v19_, hm19, rfl, rfl⟩
  · skip
    refine z_cv (st1 := [.int (nI 0)]) rfl rfl rfl ?_
    refine z_if_ne 22 C 27 dX4_parseSteps_22 (by decide) (fun c22 => ?_) (fun c22 => ?_)
    · skip
      exact absurd rfl c22
    · skip
      refine z_iconst 25 C dX4_parseSteps_25 (nI 0) rfl ?_
      refine z_zret 26 C (rfl) dX4_parseSteps_26 ?_
      exact Or.inl ⟨_, _, _, by simp only [zt_stp, zt_ok, hm19, reduceIte], rfl, rfl⟩
  · skip
    refine z_cv (st1 := [.int (nI 1)]) rfl rfl rfl ?_
    have hr19 := zt_num_rng hm19
    refine z_if_ne 22 C 27 dX4_parseSteps_22 (by decide) (fun c22 => ?_) (fun c22 => ?_)
    · skip
      refine z_aload_n 27 C dX4_parseSteps_27 1 rfl ?_
      refine z_getf 28 C 82 z_dX4 (⟨rfl, rfl⟩) 8 (by decide) q313 (.int v19_) rfl dX4_parseSteps_28 ?_
      refine z_callSN 31 C (As := [.int v19_]) (rest := []) (m_X7_isStepCount (σ := z_xU σ (nI c19_) (nI n) v19_ fa ak af as_ at_) v19_) k_X7_isStepCount (List.mem_of_getElem? (i := 57) rfl) ⟨rfl, rfl⟩ ⟨Nat.le_of_ble_eq_true rfl, Nat.le_of_ble_eq_true rfl⟩ rfl (Nat.le_of_ble_eq_true rfl) ⟨Nat.le_of_ble_eq_true rfl, Nat.le_of_ble_eq_true rfl⟩ rfl dX4_parseSteps_31 (z_k1 ?_)
      refine z_if_neb 34 C 43 dX4_parseSteps_34 (by decide) (fun c34 => ?_) (fun c34 => ?_)
      · skip
        refine z_aload_n 43 C dX4_parseSteps_43 1 rfl ?_
        refine z_bipush 44 C dX4_parseSteps_44 (nI 110) rfl ?_
        refine z_aload_n 46 C dX4_parseSteps_46 1 rfl ?_
        refine z_getf 47 C 82 z_dX4 (⟨rfl, rfl⟩) 8 (by decide) q313 (.int v19_) rfl dX4_parseSteps_47 ?_
        refine z_iconst 50 C dX4_parseSteps_50 (nI 0) rfl ?_
        refine z_iconst 51 C dX4_parseSteps_51 (nI 0) rfl ?_
        refine z_callV 52 C 82 (⟨rfl, rfl⟩) rfl (As := [.int (nI 110), .int v19_, .int (nI 0), .int (nI 0)]) (rest := []) (@m_X4_note _ _ σ tl hL h200 (nI c19_) n (by omega) v19_ fa ak af as_ at_ (nI 110) v19_ (nI 0) (nI 0)) k_X4_note q908 ⟨rfl, rfl⟩ ⟨Nat.le_of_ble_eq_true rfl, Nat.le_of_ble_eq_true rfl⟩ rfl (Nat.le_of_ble_eq_true rfl) ⟨Nat.le_of_ble_eq_true rfl, Nat.le_of_ble_eq_true rfl⟩ rfl dX4_parseSteps_52 (z_k0 ?_)
        refine z_iconst 55 C dX4_parseSteps_55 (nI 1) rfl ?_
        refine z_zret 56 C (rfl) dX4_parseSteps_56 ?_
        exact Or.inr ⟨_, _, _, _, _, _, by simp only [zt_stp, zt_ok, hm19, c34, reduceIte], rfl, rfl⟩
      · skip
        refine z_aload_n 37 C dX4_parseSteps_37 1 rfl ?_
        refine z_iload_n 38 C dX4_parseSteps_38 0 rfl ?_
        refine z_callV 39 C 82 (⟨rfl, rfl⟩) rfl (As := [.int (nI (ps + 1))]) (rest := []) (@m_X4_fail _ _ σ tl hL h200 (nI c19_) (nI n) v19_ fa ak af as_ at_ (nI (ps + 1))) k_X4_fail q900 ⟨rfl, rfl⟩ ⟨Nat.le_of_ble_eq_true rfl, Nat.le_of_ble_eq_true rfl⟩ rfl (Nat.le_of_ble_eq_true rfl) ⟨Nat.le_of_ble_eq_true rfl, Nat.le_of_ble_eq_true rfl⟩ rfl dX4_parseSteps_39 (z_k1 ?_)
        refine z_zret 42 C (rfl) dX4_parseSteps_42 ?_
        exact Or.inl ⟨_, _, _, by simp only [zt_stp, zt_ok, hm19, c34, reduceIte], rfl, rfl⟩
    · skip
      exact absurd c22 (by decide)
theorem dX4_parseItem_0 : decode cX4_parseItem 0 = .ok (.aload_n 0, 1) := by decide +kernel
theorem dX4_parseItem_1 : decode cX4_parseItem 1 = .ok (.invokevirtual 56, 3) := by decide +kernel
theorem dX4_parseItem_4 : decode cX4_parseItem 4 = .ok (.istore_n 1, 1) := by decide +kernel
theorem dX4_parseItem_5 : decode cX4_parseItem 5 = .ok (.iload_n 1, 1) := by decide +kernel
theorem dX4_parseItem_6 : decode cX4_parseItem 6 = .ok (.bipush 112, 2) := by decide +kernel
theorem dX4_parseItem_8 : decode cX4_parseItem 8 = .ok (.if_icmp .eq 9, 3) := by decide +kernel
theorem dX4_parseItem_11 : decode cX4_parseItem 11 = .ok (.iload_n 1, 1) := by decide +kernel
theorem dX4_parseItem_12 : decode cX4_parseItem 12 = .ok (.bipush 115, 2) := by decide +kernel
theorem dX4_parseItem_14 : decode cX4_parseItem 14 = .ok (.if_icmp .ne 9, 3) := by decide +kernel
theorem dX4_parseItem_17 : decode cX4_parseItem 17 = .ok (.aload_n 0, 1) := by decide +kernel
theorem dX4_parseItem_18 : decode cX4_parseItem 18 = .ok (.iload_n 1, 1) := by decide +kernel
theorem dX4_parseItem_19 : decode cX4_parseItem 19 = .ok (.invokevirtual 60, 3) := by decide +kernel
theorem dX4_parseItem_22 : decode cX4_parseItem 22 = .ok (.ireturn, 1) := by decide +kernel
theorem dX4_parseItem_23 : decode cX4_parseItem 23 = .ok (.iload_n 1, 1) := by decide +kernel
theorem dX4_parseItem_24 : decode cX4_parseItem 24 = .ok (.bipush 101, 2) := by decide +kernel
theorem dX4_parseItem_26 : decode cX4_parseItem 26 = .ok (.if_icmp .ne 8, 3) := by decide +kernel
theorem dX4_parseItem_29 : decode cX4_parseItem 29 = .ok (.aload_n 0, 1) := by decide +kernel
theorem dX4_parseItem_30 : decode cX4_parseItem 30 = .ok (.invokevirtual 63, 3) := by decide +kernel
theorem dX4_parseItem_33 : decode cX4_parseItem 33 = .ok (.ireturn, 1) := by decide +kernel
theorem dX4_parseItem_34 : decode cX4_parseItem 34 = .ok (.iload_n 1, 1) := by decide +kernel
theorem dX4_parseItem_35 : decode cX4_parseItem 35 = .ok (.bipush 110, 2) := by decide +kernel
theorem dX4_parseItem_37 : decode cX4_parseItem 37 = .ok (.if_icmp .ne 10, 3) := by decide +kernel
theorem dX4_parseItem_40 : decode cX4_parseItem 40 = .ok (.aload_n 0, 1) := by decide +kernel
theorem dX4_parseItem_41 : decode cX4_parseItem 41 = .ok (.invokevirtual 66, 3) := by decide +kernel
theorem dX4_parseItem_44 : decode cX4_parseItem 44 = .ok (.goto 11, 3) := by decide +kernel
theorem dX4_parseItem_47 : decode cX4_parseItem 47 = .ok (.aload_n 0, 1) := by decide +kernel
theorem dX4_parseItem_48 : decode cX4_parseItem 48 = .ok (.aload_n 0, 1) := by decide +kernel
theorem dX4_parseItem_49 : decode cX4_parseItem 49 = .ok (.getfield 32, 3) := by decide +kernel
theorem dX4_parseItem_52 : decode cX4_parseItem 52 = .ok (.invokevirtual 52, 3) := by decide +kernel
theorem dX4_parseItem_55 : decode cX4_parseItem 55 = .ok (.ireturn, 1) := by decide +kernel
set_option maxRecDepth 100000 in
set_option maxHeartbeats 4000000 in
theorem m_X4_parseItem {l : Launch} {G : z_Gl} {σ : z_St} (tl : Nat) (hL : σ.1 82 5 = nI tl) (h200 : tl ≤ 200) (ps : Nat) (hps : ps ≤ tl) (n : Nat) (h3 : 3 * n ≤ ps) (nu fa : Int32) (ak af as_ at_ : Nat → Int32) : z_M l G yX4_parseItem cX4_parseItem 2 (some .boolean) (z_rm 4 92) [.ref (z_ad G 82)] (z_xU σ (nI ps) (nI n) nu fa ak af as_ at_) (fun w σ1 => (∃ (f : Nat) (a b : Int32), zt_item (σ.1 83) tl ps = .inl f ∧ w = some (.int (nI 0)) ∧ σ1 = z_xU σ a (nI n) b (nI f) ak af as_ at_) ∨ (∃ (c1 : Nat) (k1 x1 x2 x3 b : Int32), zt_item (σ.1 83) tl ps = .inr (c1, k1, x1, x2, x3) ∧ w = some (.int (nI 1)) ∧ σ1 = z_xU σ (nI c1) (nI (n + 1)) b fa (upd ak n k1) (upd af n x1) (upd as_ n x2) (upd at_ n x3))) := by
  refine z_M.of (by decide) (Nat.le_of_ble_eq_true rfl) (fun p e s m below meth c C => ?_)
  refine z_sub [0] (lv1 := [(0, .ref (z_ad G 82))]) rfl ?_
  refine z_aload_n 0 C dX4_parseItem_0 0 rfl ?_
  refine z_callV 1 C 82 (⟨rfl, rfl⟩) rfl (As := []) (rest := []) (@m_X4_current _ _ σ tl hL h200 ps (by omega) (nI n) nu fa ak af as_ at_ ) k_X4_current q883 ⟨rfl, rfl⟩ ⟨Nat.le_of_ble_eq_true rfl, Nat.le_of_ble_eq_true rfl⟩ rfl (Nat.le_of_ble_eq_true rfl) ⟨Nat.le_of_ble_eq_true rfl, Nat.le_of_ble_eq_true rfl⟩ rfl dX4_parseItem_1 (z_k1 ?_)
  refine z_istore_n 4 C dX4_parseItem_4 [(1, .int (zt_at (σ.1 83) tl ps)), (0, .ref (z_ad G 82))] (by decide) rfl ?_
  refine z_iload_n 5 C dX4_parseItem_5 0 rfl ?_
  refine z_bipush 6 C dX4_parseItem_6 (nI 112) rfl ?_
  refine z_icmp_eq 8 C 17 dX4_parseItem_8 (by decide) (fun c8 => ?_) (fun c8 => ?_)
  · skip
    have hlt := zt_lt c8 (by decide)
    refine z_aload_n 17 C dX4_parseItem_17 1 rfl ?_
    refine z_iload_n 18 C dX4_parseItem_18 0 rfl ?_
    refine z_callV 19 C 82 (⟨rfl, rfl⟩) rfl (As := [.int (zt_at (σ.1 83) tl ps)]) (rest := []) (@m_X4_parseLobes _ _ σ tl hL h200 ps (by omega) n (by omega) nu fa ak af as_ at_ (zt_at (σ.1 83) tl ps) (by omega)) k_X4_parseLobes q887 ⟨rfl, rfl⟩ ⟨Nat.le_of_ble_eq_true rfl, Nat.le_of_ble_eq_true rfl⟩ rfl (Nat.le_of_ble_eq_true rfl) ⟨Nat.le_of_ble_eq_true rfl, Nat.le_of_ble_eq_true rfl⟩ rfl dX4_parseItem_19 (fun v19 σ19 hv19 => ?_)
    rcases hv19 with ⟨f19, a19, b19, hm19, rfl, rfl⟩ | ⟨c19_, k19_, x19, y19, z19, b19, hm19, rfl, rfl⟩
    · skip
      refine z_cv (st1 := [.int (nI 0)]) rfl rfl rfl ?_
      refine z_zret 22 C (rfl) dX4_parseItem_22 ?_
      exact Or.inl ⟨_, _, _, by unfold zt_item; first | (rw [if_pos (Or.inl c8)]; exact hm19) | (rw [if_pos (Or.inr c14)]; exact hm19), rfl, rfl⟩
    · skip
      refine z_cv (st1 := [.int (nI 1)]) rfl rfl rfl ?_
      have hr19 := zt_lobes_rng hm19
      refine z_zret 22 C (rfl) dX4_parseItem_22 ?_
      exact Or.inr ⟨_, _, _, _, _, _, by unfold zt_item; first | (rw [if_pos (Or.inl c8)]; exact hm19) | (rw [if_pos (Or.inr c14)]; exact hm19), rfl, rfl⟩
  · skip
    refine z_iload_n 11 C dX4_parseItem_11 0 rfl ?_
    refine z_bipush 12 C dX4_parseItem_12 (nI 115) rfl ?_
    refine z_icmp_ne 14 C 23 dX4_parseItem_14 (by decide) (fun c14 => ?_) (fun c14 => ?_)
    · skip
      refine z_iload_n 23 C dX4_parseItem_23 0 rfl ?_
      refine z_bipush 24 C dX4_parseItem_24 (nI 101) rfl ?_
      refine z_icmp_ne 26 C 34 dX4_parseItem_26 (by decide) (fun c26 => ?_) (fun c26 => ?_)
      · skip
        refine z_iload_n 34 C dX4_parseItem_34 0 rfl ?_
        refine z_bipush 35 C dX4_parseItem_35 (nI 110) rfl ?_
        refine z_icmp_ne 37 C 47 dX4_parseItem_37 (by decide) (fun c37 => ?_) (fun c37 => ?_)
        · skip
          refine z_aload_n 47 C dX4_parseItem_47 1 rfl ?_
          refine z_aload_n 48 C dX4_parseItem_48 1 rfl ?_
          refine z_getf 49 C 82 z_dX4 (⟨rfl, rfl⟩) 6 (by decide) q310 (.int (nI ps)) rfl dX4_parseItem_49 ?_
          refine z_callV 52 C 82 (⟨rfl, rfl⟩) rfl (As := [.int (nI ps)]) (rest := []) (@m_X4_fail _ _ σ tl hL h200 (nI ps) (nI n) nu fa ak af as_ at_ (nI ps)) k_X4_fail q900 ⟨rfl, rfl⟩ ⟨Nat.le_of_ble_eq_true rfl, Nat.le_of_ble_eq_true rfl⟩ rfl (Nat.le_of_ble_eq_true rfl) ⟨Nat.le_of_ble_eq_true rfl, Nat.le_of_ble_eq_true rfl⟩ rfl dX4_parseItem_52 (z_k1 ?_)
          refine z_zret 55 C (rfl) dX4_parseItem_55 ?_
          exact Or.inl ⟨_, _, _, by unfold zt_item; rw [if_neg (fun z => z.elim c8 c14), if_neg c26, if_neg c37], rfl, rfl⟩
        · skip
          have hlt := zt_lt c37 (by decide)
          refine z_aload_n 40 C dX4_parseItem_40 1 rfl ?_
          refine z_callV 41 C 82 (⟨rfl, rfl⟩) rfl (As := []) (rest := []) (@m_X4_parseSteps _ _ σ tl hL h200 ps (by omega) n (by omega) nu fa ak af as_ at_  (by omega)) k_X4_parseSteps q916 ⟨rfl, rfl⟩ ⟨Nat.le_of_ble_eq_true rfl, Nat.le_of_ble_eq_true rfl⟩ rfl (Nat.le_of_ble_eq_true rfl) ⟨Nat.le_of_ble_eq_true rfl, Nat.le_of_ble_eq_true rfl⟩ rfl dX4_parseItem_41 (fun v41 σ41 hv41 => ?_)
          rcases hv41 with ⟨f41, a41, b41, hm41, rfl, rfl⟩ | ⟨c41_, k41_, x41, y41, z41, b41, hm41, rfl, rfl⟩
          · skip
            refine z_cv (st1 := [.int (nI 0)]) rfl rfl rfl ?_
            refine z_goto 44 C 55 dX4_parseItem_44 (by decide) ?_
            refine z_zret 55 C (rfl) dX4_parseItem_55 ?_
            exact Or.inl ⟨_, _, _, by unfold zt_item; first | (rw [if_neg (fun z => z.elim c8 c14), if_neg c26, if_pos c37]; exact hm41), rfl, rfl⟩
          · skip
            refine z_cv (st1 := [.int (nI 1)]) rfl rfl rfl ?_
            have hr41 := zt_stp_rng hm41
            refine z_goto 44 C 55 dX4_parseItem_44 (by decide) ?_
            refine z_zret 55 C (rfl) dX4_parseItem_55 ?_
            exact Or.inr ⟨_, _, _, _, _, _, by unfold zt_item; first | (rw [if_neg (fun z => z.elim c8 c14), if_neg c26, if_pos c37]; exact hm41), rfl, rfl⟩
      · skip
        have hlt := zt_lt c26 (by decide)
        refine z_aload_n 29 C dX4_parseItem_29 1 rfl ?_
        refine z_callV 30 C 82 (⟨rfl, rfl⟩) rfl (As := []) (rest := []) (@m_X4_parseEccentricity _ _ σ tl hL h200 ps (by omega) n (by omega) nu fa ak af as_ at_  (by omega)) k_X4_parseEccentricity q912 ⟨rfl, rfl⟩ ⟨Nat.le_of_ble_eq_true rfl, Nat.le_of_ble_eq_true rfl⟩ rfl (Nat.le_of_ble_eq_true rfl) ⟨Nat.le_of_ble_eq_true rfl, Nat.le_of_ble_eq_true rfl⟩ rfl dX4_parseItem_30 (fun v30 σ30 hv30 => ?_)
        rcases hv30 with ⟨f30, a30, b30, hm30, rfl, rfl⟩ | ⟨c30_, k30_, x30, y30, z30, b30, hm30, rfl, rfl⟩
        · skip
          refine z_cv (st1 := [.int (nI 0)]) rfl rfl rfl ?_
          refine z_zret 33 C (rfl) dX4_parseItem_33 ?_
          exact Or.inl ⟨_, _, _, by unfold zt_item; first | (rw [if_neg (fun z => z.elim c8 c14), if_pos c26]; exact hm30), rfl, rfl⟩
        · skip
          refine z_cv (st1 := [.int (nI 1)]) rfl rfl rfl ?_
          have hr30 := zt_ecc_rng hm30
          refine z_zret 33 C (rfl) dX4_parseItem_33 ?_
          exact Or.inr ⟨_, _, _, _, _, _, by unfold zt_item; first | (rw [if_neg (fun z => z.elim c8 c14), if_pos c26]; exact hm30), rfl, rfl⟩
    · skip
      have hlt := zt_lt c14 (by decide)
      refine z_aload_n 17 C dX4_parseItem_17 1 rfl ?_
      refine z_iload_n 18 C dX4_parseItem_18 0 rfl ?_
      refine z_callV 19 C 82 (⟨rfl, rfl⟩) rfl (As := [.int (zt_at (σ.1 83) tl ps)]) (rest := []) (@m_X4_parseLobes _ _ σ tl hL h200 ps (by omega) n (by omega) nu fa ak af as_ at_ (zt_at (σ.1 83) tl ps) (by omega)) k_X4_parseLobes q887 ⟨rfl, rfl⟩ ⟨Nat.le_of_ble_eq_true rfl, Nat.le_of_ble_eq_true rfl⟩ rfl (Nat.le_of_ble_eq_true rfl) ⟨Nat.le_of_ble_eq_true rfl, Nat.le_of_ble_eq_true rfl⟩ rfl dX4_parseItem_19 (fun v19 σ19 hv19 => ?_)
      rcases hv19 with ⟨f19, a19, b19, hm19, rfl, rfl⟩ | ⟨c19_, k19_, x19, y19, z19, b19, hm19, rfl, rfl⟩
      · skip
        refine z_cv (st1 := [.int (nI 0)]) rfl rfl rfl ?_
        refine z_zret 22 C (rfl) dX4_parseItem_22 ?_
        exact Or.inl ⟨_, _, _, by unfold zt_item; first | (rw [if_pos (Or.inl c8)]; exact hm19) | (rw [if_pos (Or.inr c14)]; exact hm19), rfl, rfl⟩
      · skip
        refine z_cv (st1 := [.int (nI 1)]) rfl rfl rfl ?_
        have hr19 := zt_lobes_rng hm19
        refine z_zret 22 C (rfl) dX4_parseItem_22 ?_
        exact Or.inr ⟨_, _, _, _, _, _, by unfold zt_item; first | (rw [if_pos (Or.inl c8)]; exact hm19) | (rw [if_pos (Or.inr c14)]; exact hm19), rfl, rfl⟩
theorem dX4_parse_0 : decode cX4_parse 0 = .ok (.aload_n 0, 1) := by decide +kernel
theorem dX4_parse_1 : decode cX4_parse 1 = .ok (.iconst 0, 1) := by decide +kernel
theorem dX4_parse_2 : decode cX4_parse 2 = .ok (.putfield 32, 3) := by decide +kernel
theorem dX4_parse_5 : decode cX4_parse 5 = .ok (.aload_n 0, 1) := by decide +kernel
theorem dX4_parse_6 : decode cX4_parse 6 = .ok (.iconst 0, 1) := by decide +kernel
theorem dX4_parse_7 : decode cX4_parse 7 = .ok (.putfield 35, 3) := by decide +kernel
theorem dX4_parse_10 : decode cX4_parse 10 = .ok (.iconst 0, 1) := by decide +kernel
theorem dX4_parse_11 : decode cX4_parse 11 = .ok (.istore_n 1, 1) := by decide +kernel
theorem dX4_parse_12 : decode cX4_parse 12 = .ok (.iload_n 1, 1) := by decide +kernel
theorem dX4_parse_13 : decode cX4_parse 13 = .ok (.aload_n 0, 1) := by decide +kernel
theorem dX4_parse_14 : decode cX4_parse 14 = .ok (.getfield 28, 3) := by decide +kernel
theorem dX4_parse_17 : decode cX4_parse 17 = .ok (.if_icmp .gt 42, 3) := by decide +kernel
theorem dX4_parse_20 : decode cX4_parse 20 = .ok (.aload_n 0, 1) := by decide +kernel
theorem dX4_parse_21 : decode cX4_parse 21 = .ok (.invokevirtual 44, 3) := by decide +kernel
theorem dX4_parse_24 : decode cX4_parse 24 = .ok (.ifCond .ne 5, 3) := by decide +kernel
theorem dX4_parse_27 : decode cX4_parse 27 = .ok (.iconst 0, 1) := by decide +kernel
theorem dX4_parse_28 : decode cX4_parse 28 = .ok (.ireturn, 1) := by decide +kernel
theorem dX4_parse_29 : decode cX4_parse 29 = .ok (.aload_n 0, 1) := by decide +kernel
theorem dX4_parse_30 : decode cX4_parse 30 = .ok (.getfield 32, 3) := by decide +kernel
theorem dX4_parse_33 : decode cX4_parse 33 = .ok (.aload_n 0, 1) := by decide +kernel
theorem dX4_parse_34 : decode cX4_parse 34 = .ok (.getfield 28, 3) := by decide +kernel
theorem dX4_parse_37 : decode cX4_parse 37 = .ok (.if_icmp .ne 5, 3) := by decide +kernel
theorem dX4_parse_40 : decode cX4_parse 40 = .ok (.iconst 1, 1) := by decide +kernel
theorem dX4_parse_41 : decode cX4_parse 41 = .ok (.ireturn, 1) := by decide +kernel
theorem dX4_parse_42 : decode cX4_parse 42 = .ok (.aload_n 0, 1) := by decide +kernel
theorem dX4_parse_43 : decode cX4_parse 43 = .ok (.bipush 59, 2) := by decide +kernel
theorem dX4_parse_45 : decode cX4_parse 45 = .ok (.invokevirtual 48, 3) := by decide +kernel
theorem dX4_parse_48 : decode cX4_parse 48 = .ok (.ifCond .ne 5, 3) := by decide +kernel
theorem dX4_parse_51 : decode cX4_parse 51 = .ok (.iconst 0, 1) := by decide +kernel
theorem dX4_parse_52 : decode cX4_parse 52 = .ok (.ireturn, 1) := by decide +kernel
theorem dX4_parse_53 : decode cX4_parse 53 = .ok (.iinc 1 1, 3) := by decide +kernel
theorem dX4_parse_56 : decode cX4_parse 56 = .ok (.goto (-44), 3) := by decide +kernel
theorem dX4_parse_59 : decode cX4_parse 59 = .ok (.aload_n 0, 1) := by decide +kernel
theorem dX4_parse_60 : decode cX4_parse 60 = .ok (.aload_n 0, 1) := by decide +kernel
theorem dX4_parse_61 : decode cX4_parse 61 = .ok (.getfield 28, 3) := by decide +kernel
theorem dX4_parse_64 : decode cX4_parse 64 = .ok (.invokevirtual 52, 3) := by decide +kernel
theorem dX4_parse_67 : decode cX4_parse 67 = .ok (.ireturn, 1) := by decide +kernel
set_option maxRecDepth 100000 in
set_option maxHeartbeats 4000000 in
theorem m_X4_parse {l : Launch} {G : z_Gl} {σ : z_St} (tl : Nat) (hL : σ.1 82 5 = nI tl) (h200 : tl ≤ 200) (cu : Int32) (it : Int32) (nu fa : Int32) (ak af as_ at_ : Nat → Int32) : z_M l G yX4_parse cX4_parse 2 (some .boolean) (z_rm 5 113) [.ref (z_ad G 82)] (z_xU σ cu it nu fa ak af as_ at_) (fun w σ1 => (∃ (f : Nat) (a i b : Int32) (k1 k2 k3 k4 : Nat → Int32), zt_all (σ.1 83) tl (tl + 1) 0 = .inl f ∧ w = some (.int (nI 0)) ∧ σ1 = z_xU σ a i b (nI f) k1 k2 k3 k4) ∨ (∃ (its : List zt_It) (a b f : Int32) (k1 k2 k3 k4 : Nat → Int32), zt_all (σ.1 83) tl (tl + 1) 0 = .inr its ∧ zt_has k1 k2 k3 k4 its ∧ its.length ≤ 67 ∧ w = some (.int (nI 1)) ∧ σ1 = z_xU σ a (nI its.length) b f k1 k2 k3 k4)) := by
  refine z_M.of (by decide) (Nat.le_of_ble_eq_true rfl) (fun p e s m below meth c C => ?_)
  refine z_sub [0] (lv1 := [(0, .ref (z_ad G 82))]) rfl ?_
  refine z_aload_n 0 C dX4_parse_0 0 rfl ?_
  refine z_iconst 1 C dX4_parse_1 (nI 0) rfl ?_
  refine z_puti 2 C 82 z_dX4 (⟨rfl, rfl⟩) 6 (by decide) q310 rfl (rfl) rfl ⟨Nat.le_of_ble_eq_true rfl, rfl⟩ dX4_parse_2 ?_
  refine z_cv (σ1 := z_xU σ (nI 0) it nu fa ak af as_ at_) rfl rfl z_xU_pcu ?_
  refine z_aload_n 5 C dX4_parse_5 0 rfl ?_
  refine z_iconst 6 C dX4_parse_6 (nI 0) rfl ?_
  refine z_puti 7 C 82 z_dX4 (⟨rfl, rfl⟩) 7 (by decide) q311 rfl (rfl) rfl ⟨Nat.le_of_ble_eq_true rfl, rfl⟩ dX4_parse_7 ?_
  refine z_cv (σ1 := z_xU σ (nI 0) (nI 0) nu fa ak af as_ at_) rfl rfl z_xU_pit ?_
  refine z_iconst 10 C dX4_parse_10 (nI 0) rfl ?_
  refine z_istore_n 11 C dX4_parse_11 [(1, .int (nI 0)), (0, .ref (z_ad G 82))] (by decide) rfl ?_
  refine z_sub [1, 0] (lv1 := [(0, .ref (z_ad G 82)), (1, .int (nI 0))]) rfl ?_
  refine z_cv (lv1 := [(0, .ref (z_ad G 82)), (1, .int (nI 0))]) (st1 := []) (σ1 := z_xU σ (nI 0) (nI 0) nu fa ak af as_ at_) rfl rfl rfl ?_
  refine z_lp9 (fun (rd : Nat) (qs : Nat) (qn : Nat) (qu : Int32) (qf : Int32) (qk : Nat → Int32) (qa : Nat → Int32) (qb : Nat → Int32) (qd : Nat → Int32) => qs ≤ tl ∧ 3 * qn ≤ qs ∧ rd ≤ tl + 1 ∧ ∃ pre : List zt_It, pre.length = qn ∧ zt_has qk qa qb qd pre ∧ zt_all (σ.1 83) tl (tl + 1) 0 = zt_app pre (zt_all (σ.1 83) tl (tl + 1 - rd) qs)) (fun (rd : Nat) (qs : Nat) (qn : Nat) (qu : Int32) (qf : Int32) (qk : Nat → Int32) (qa : Nat → Int32) (qb : Nat → Int32) (qd : Nat → Int32) => tl + 1 - rd) (fun (rd : Nat) (qs : Nat) (qn : Nat) (qu : Int32) (qf : Int32) (qk : Nat → Int32) (qa : Nat → Int32) (qb : Nat → Int32) (qd : Nat → Int32) => [(0, .ref (z_ad G 82)), (1, .int (nI rd))]) (fun (rd : Nat) (qs : Nat) (qn : Nat) (qu : Int32) (qf : Int32) (qk : Nat → Int32) (qa : Nat → Int32) (qb : Nat → Int32) (qd : Nat → Int32) => z_xU σ (nI qs) (nI qn) qu qf qk qa qb qd) (fun rd qs qn qu qf qk qa qb qd hi_12 ih_12 => ?_) 0 0 0 nu fa ak af as_ at_ (⟨by omega, by omega, by omega, [], rfl, zt_has_0, by cases h : zt_all (σ.1 83) tl (tl + 1) 0 with | inl f => simp only [zt_app, Nat.sub_zero, h] | inr r => simp only [zt_app, Nat.sub_zero, h, List.nil_append]⟩)
  try dsimp only
  obtain ⟨hqs, h3q, hrd, pre, hpl, hph, happ⟩ := hi_12
  refine z_iload_n 12 C dX4_parse_12 1 rfl ?_
  refine z_aload_n 13 C dX4_parse_13 0 rfl ?_
  refine z_getf 14 C 82 z_dX4 (⟨rfl, rfl⟩) 5 (by decide) q308 (.int (nI tl)) (z_ci hL) dX4_parse_14 ?_
  refine z_icmp_gtN 17 C rd tl rfl rfl (by omega) (by omega) 59 dX4_parse_17 (by decide) (fun c17 => ?_) (fun c17 => ?_)
  · skip
    refine z_aload_n 59 C dX4_parse_59 0 rfl ?_
    refine z_aload_n 60 C dX4_parse_60 0 rfl ?_
    refine z_getf 61 C 82 z_dX4 (⟨rfl, rfl⟩) 5 (by decide) q308 (.int (nI tl)) (z_ci hL) dX4_parse_61 ?_
    refine z_callV 64 C 82 (⟨rfl, rfl⟩) rfl (As := [.int (nI tl)]) (rest := []) (@m_X4_fail _ _ σ tl hL h200 (nI qs) (nI qn) qu qf qk qa qb qd (nI tl)) k_X4_fail q900 ⟨rfl, rfl⟩ ⟨Nat.le_of_ble_eq_true rfl, Nat.le_of_ble_eq_true rfl⟩ rfl (Nat.le_of_ble_eq_true rfl) ⟨Nat.le_of_ble_eq_true rfl, Nat.le_of_ble_eq_true rfl⟩ rfl dX4_parse_64 (z_k1 ?_)
    refine z_zret 67 C (rfl) dX4_parse_67 ?_
    exact Or.inl ⟨_, _, _, _, _, _, _, _, zt_l67 happ c17, rfl, rfl⟩
  · skip
    refine z_aload_n 20 C dX4_parse_20 0 rfl ?_
    refine z_callV 21 C 82 (⟨rfl, rfl⟩) rfl (As := []) (rest := []) (@m_X4_parseItem _ _ σ tl hL h200 qs (by omega) qn (by omega) qu qf qk qa qb qd ) k_X4_parseItem q879 ⟨rfl, rfl⟩ ⟨Nat.le_of_ble_eq_true rfl, Nat.le_of_ble_eq_true rfl⟩ rfl (Nat.le_of_ble_eq_true rfl) ⟨Nat.le_of_ble_eq_true rfl, Nat.le_of_ble_eq_true rfl⟩ rfl dX4_parse_21 (fun v21 σ21 hv21 => ?_)
    rcases hv21 with ⟨f21, a21, b21, hm21, rfl, rfl⟩ | ⟨c21_, k21_, x21, y21, z21, b21, hm21, rfl, rfl⟩
    · skip
      refine z_cv (st1 := [.int (nI 0)]) rfl rfl rfl ?_
      refine z_if_ne 24 C 29 dX4_parse_24 (by decide) (fun c24 => ?_) (fun c24 => ?_)
      · skip
        exact absurd rfl c24
      · skip
        refine z_iconst 27 C dX4_parse_27 (nI 0) rfl ?_
        refine z_zret 28 C (rfl) dX4_parse_28 ?_
        exact Or.inl ⟨_, _, _, _, _, _, _, _, zt_l28 happ (by omega) hm21, rfl, rfl⟩
    · skip
      refine z_cv (st1 := [.int (nI 1)]) rfl rfl rfl ?_
      have hr21 := zt_item_rng hm21
      refine z_if_ne 24 C 29 dX4_parse_24 (by decide) (fun c24 => ?_) (fun c24 => ?_)
      · skip
        refine z_aload_n 29 C dX4_parse_29 0 rfl ?_
        refine z_getf 30 C 82 z_dX4 (⟨rfl, rfl⟩) 6 (by decide) q310 (.int (nI c21_)) rfl dX4_parse_30 ?_
        refine z_aload_n 33 C dX4_parse_33 0 rfl ?_
        refine z_getf 34 C 82 z_dX4 (⟨rfl, rfl⟩) 5 (by decide) q308 (.int (nI tl)) (z_ci hL) dX4_parse_34 ?_
        refine z_icmp_neN 37 C c21_ tl rfl rfl (by omega) (by omega) 42 dX4_parse_37 (by decide) (fun c37 => ?_) (fun c37 => ?_)
        · skip
          refine z_aload_n 42 C dX4_parse_42 0 rfl ?_
          refine z_bipush 43 C dX4_parse_43 (nI 59) rfl ?_
          refine z_callV 45 C 82 (⟨rfl, rfl⟩) rfl (As := [.int (nI 59)]) (rest := []) (@m_X4_take _ _ σ tl hL h200 c21_ (by omega) (nI (qn + 1)) b21 qf (upd qk qn k21_) (upd qa qn x21) (upd qb qn y21) (upd qd qn z21) (nI 59)) k_X4_take q904 ⟨rfl, rfl⟩ ⟨Nat.le_of_ble_eq_true rfl, Nat.le_of_ble_eq_true rfl⟩ rfl (Nat.le_of_ble_eq_true rfl) ⟨Nat.le_of_ble_eq_true rfl, Nat.le_of_ble_eq_true rfl⟩ rfl dX4_parse_45 (fun v45 σ45 hv45 => ?_)
          rcases hv45 with ⟨ht45, rfl, rfl⟩ | ⟨ht45, rfl, rfl⟩
          · skip
            refine z_cv (st1 := [.int (nI 0)]) rfl rfl rfl ?_
            refine z_if_ne 48 C 53 dX4_parse_48 (by decide) (fun c48 => ?_) (fun c48 => ?_)
            · skip
              exact absurd rfl c48
            · skip
              refine z_iconst 51 C dX4_parse_51 (nI 0) rfl ?_
              refine z_zret 52 C (rfl) dX4_parse_52 ?_
              exact Or.inl ⟨_, _, _, _, _, _, _, _, zt_l52 happ (by omega) hm21 c37 ht45, rfl, rfl⟩
          · skip
            refine z_cv (st1 := [.int (nI 1)]) rfl rfl rfl ?_
            have hlt45 := zt_lt ht45 (by decide)
            refine z_if_ne 48 C 53 dX4_parse_48 (by decide) (fun c48 => ?_) (fun c48 => ?_)
            · skip
              refine z_iincN 53 C 1 rd [(1, .int (nI (rd + 1))), (0, .ref (z_ad G 82))] rfl rfl (by decide) rfl dX4_parse_53 ?_
              refine z_goto 56 C 12 dX4_parse_56 (by decide) ?_
              refine z_sub [1, 0] (lv1 := [(0, .ref (z_ad G 82)), (1, .int (nI (rd + 1)))]) rfl ?_
              refine z_cv (lv1 := [(0, .ref (z_ad G 82)), (1, .int (nI (rd + 1)))]) (st1 := []) (σ1 := z_xU σ (nI (c21_ + 1)) (nI (qn + 1)) b21 qf (upd qk qn k21_) (upd qa qn x21) (upd qb qn y21) (upd qd qn z21)) rfl rfl rfl ?_
              exact ih_12 (rd + 1) (c21_ + 1) (qn + 1) b21 qf (upd qk qn k21_) (upd qa qn x21) (upd qb qn y21) (upd qd qn z21) (⟨by omega, by omega, by omega, pre ++ [(k21_, x21, y21, z21)], by simp [hpl], zt_has_s hph hpl, zt_lnx happ (by omega) hm21 c37 ht45⟩) (by omega)
            · skip
              exact absurd c48 (by decide)
        · skip
          refine z_iconst 40 C dX4_parse_40 (nI 1) rfl ?_
          refine z_zret 41 C (rfl) dX4_parse_41 ?_
          subst hpl
          exact Or.inr ⟨pre ++ [(k21_, x21, y21, z21)], nI c21_, b21, qf, upd qk pre.length k21_, upd qa pre.length x21, upd qb pre.length y21, upd qd pre.length z21, zt_l41 happ (by omega) hm21 c37, zt_has_s hph rfl, by simp; omega, rfl, by rw [List.length_append]; rfl⟩
      · skip
        exact absurd c24 (by decide)
