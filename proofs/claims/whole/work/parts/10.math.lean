section ZR
variable {p : Program} {l : Launch} {e : Env} {R : Room} {s : State} {m : MethodId} {args : Array Value} {below : List Frame} {meth : Method} {c : Code} {G : z_Gl} {ce sl : Nat} {Q : State → Prop} {nL : Nat} {lv : List (Nat × Value)} {st : List Value} {σ : z_St} {cc : ByteArray} {own : String} {ret : Option FieldType}
theorem z_dup2 (pc : Nat) (C : z_C p s m args meth c G cc nL own ret) {v u : Value} (hd : decode cc pc = .ok (.dup2, 1)) (hc : v.category = 1) (hc2 : u.category = 1) (k : z_V p l e R s m args below meth c G ce sl Q nL (pc + 1) lv (v :: u :: v :: u :: st) σ) : z_V p l e R s m args below meth c G ce sl Q nL pc lv (v :: u :: st) σ := fun H locs ls h1 h2 h3 => lv_dup2_11 C.1 C.2.1 hd hc hc2 (k H locs ls h1 h2 h3)
end ZR
theorem z_ci {a b : Int32} (h : a = b) : some (Value.int a) = some (Value.int b) := by rw [h]
theorem z_cl {a b : Int64} (h : a = b) : some (Value.long a) = some (Value.long b) := by rw [h]
theorem z_nI0 {t : Nat} (h : t < 2 ^ 31) : nI t = 0 ↔ t = 0 := nI_eq (a := t) (b := 0) h (by decide)
theorem z_pm_s {a b : Nat} (ha : a < 2 ^ 30) (hb : b < 2 ^ 30) : z_pm (nI a - nI b) = (a + (24 - b % 24)) % 24 := by
  unfold z_pm
  rw [pk_sub_toInt ha hb]
  omega
theorem z_cf_1 {z : Nat → Int64} {t h : Nat} (q : h = 0 ∨ h = 12) : z_fd (z_sm z t h 24) 24000000 = z_cf z t h := by unfold z_cf z_dv; rw [if_pos q]
theorem z_cf_2 {z : Nat → Int64} {t h : Nat} (q1 : ¬ h = 0) (q2 : ¬ h = 12) : z_fd (z_sm z t h 24) 12000000 = z_cf z t h := by unfold z_cf z_dv; rw [if_neg (by omega)]
theorem z_ab_1 {x : Int64} (h : 0 ≤ x) : x = z_ab x := by unfold z_ab; rw [if_neg (Int64.not_lt.mpr h)]
theorem z_ab_2 {x : Int64} (h : ¬ 0 ≤ x) : -x = z_ab x := by unfold z_ab; rw [if_pos (Int64.not_le.mp h)]
theorem z_mix (σ : z_St) (q : Nat) (A B f : Nat → Int64) : z_uL σ q (z_fil A (z_fil B f 24) 24) = z_uL σ q (z_fil A f 24) := by
  congr 1
  funext j
  by_cases h : j < 24
  · rw [z_fil_lt h, z_fil_lt h]
  · rw [z_fil_ge (Nat.not_lt.mp h), z_fil_ge (Nat.not_lt.mp h), z_fil_ge (Nat.not_lt.mp h)]
abbrev z_eq24 (f g : Nat → Int64) : Prop := ∀ j, j < 24 → f j = g j
def z_cla (x : Int64) (m : Int32) : Int32 := if m.toInt64 < x then m else if x < (-m).toInt64 then -m else x.toInt32
theorem dJ9_floorMod_7cf53_0 : decode cJ9_floorMod_7cf53 0 = .ok (.iload_n 0, 1) := by decide +kernel
theorem dJ9_floorMod_7cf53_1 : decode cJ9_floorMod_7cf53 1 = .ok (.iload_n 1, 1) := by decide +kernel
theorem dJ9_floorMod_7cf53_2 : decode cJ9_floorMod_7cf53 2 = .ok (.irem, 1) := by decide +kernel
theorem dJ9_floorMod_7cf53_3 : decode cJ9_floorMod_7cf53 3 = .ok (.istore_n 2, 1) := by decide +kernel
theorem dJ9_floorMod_7cf53_4 : decode cJ9_floorMod_7cf53 4 = .ok (.iload_n 0, 1) := by decide +kernel
theorem dJ9_floorMod_7cf53_5 : decode cJ9_floorMod_7cf53 5 = .ok (.iload_n 1, 1) := by decide +kernel
theorem dJ9_floorMod_7cf53_6 : decode cJ9_floorMod_7cf53 6 = .ok (.ixor, 1) := by decide +kernel
theorem dJ9_floorMod_7cf53_7 : decode cJ9_floorMod_7cf53 7 = .ok (.ifCond .ge 11, 3) := by decide +kernel
theorem dJ9_floorMod_7cf53_10 : decode cJ9_floorMod_7cf53 10 = .ok (.iload_n 2, 1) := by decide +kernel
theorem dJ9_floorMod_7cf53_11 : decode cJ9_floorMod_7cf53 11 = .ok (.ifCond .eq 7, 3) := by decide +kernel
theorem dJ9_floorMod_7cf53_14 : decode cJ9_floorMod_7cf53 14 = .ok (.iload_n 2, 1) := by decide +kernel
theorem dJ9_floorMod_7cf53_15 : decode cJ9_floorMod_7cf53 15 = .ok (.iload_n 1, 1) := by decide +kernel
theorem dJ9_floorMod_7cf53_16 : decode cJ9_floorMod_7cf53 16 = .ok (.iadd, 1) := by decide +kernel
theorem dJ9_floorMod_7cf53_17 : decode cJ9_floorMod_7cf53 17 = .ok (.ireturn, 1) := by decide +kernel
theorem dJ9_floorMod_7cf53_18 : decode cJ9_floorMod_7cf53 18 = .ok (.iload_n 2, 1) := by decide +kernel
theorem dJ9_floorMod_7cf53_19 : decode cJ9_floorMod_7cf53 19 = .ok (.ireturn, 1) := by decide +kernel
set_option maxRecDepth 100000 in
set_option maxHeartbeats 4000000 in
theorem m_J9_floorMod_7cf53 {l : Launch} {G : z_Gl} {σ : z_St} (x : Int32) : z_M l G yJ9_floorMod_7cf53 cJ9_floorMod_7cf53 3 (some .int) (z_rm 0 0) [.int x, .int (nI 24)] σ (z_p1 (.int (nI (z_pm x))) σ) := by
  refine z_Mj.of (by decide +kernel) (Nat.le_of_ble_eq_true rfl) (fun p S e s m below meth c s1 C hP => ?_)
  refine j_sub [0, 1] (lv1 := [(0, .int x), (1, .int (nI 24))]) rfl ?_
  refine j_iload_n 0 C dJ9_floorMod_7cf53_0 0 rfl ?_
  refine j_iload_n 1 C dJ9_floorMod_7cf53_1 1 rfl ?_
  refine j_irem 2 C dJ9_floorMod_7cf53_2 (by decide) ?_
  refine j_istore_n 3 C dJ9_floorMod_7cf53_3 [(2, .int (x - x / (nI 24) * (nI 24))), (0, .int x), (1, .int (nI 24))] (by decide) rfl ?_
  refine j_iload_n 4 C dJ9_floorMod_7cf53_4 1 rfl ?_
  refine j_iload_n 5 C dJ9_floorMod_7cf53_5 2 rfl ?_
  refine j_ixor 6 C dJ9_floorMod_7cf53_6 ?_
  refine j_if_ge 7 C 18 dJ9_floorMod_7cf53_7 (by decide) (fun c7 => ?_) (fun c7 => ?_)
  · skip
    refine j_iload_n 18 C dJ9_floorMod_7cf53_18 0 rfl ?_
    refine j_iret 19 C hP dJ9_floorMod_7cf53_19 ?_
    first | exact ⟨z_ci (z_fm_1 c7), rfl⟩ | exact ⟨z_ci (z_fm_2 c7 c11), rfl⟩
  · skip
    refine j_iload_n 10 C dJ9_floorMod_7cf53_10 0 rfl ?_
    refine j_if_eq 11 C 18 dJ9_floorMod_7cf53_11 (by decide) (fun c11 => ?_) (fun c11 => ?_)
    · skip
      refine j_iload_n 18 C dJ9_floorMod_7cf53_18 0 rfl ?_
      refine j_iret 19 C hP dJ9_floorMod_7cf53_19 ?_
      first | exact ⟨z_ci (z_fm_1 c7), rfl⟩ | exact ⟨z_ci (z_fm_2 c7 c11), rfl⟩
    · skip
      refine j_iload_n 14 C dJ9_floorMod_7cf53_14 0 rfl ?_
      refine j_iload_n 15 C dJ9_floorMod_7cf53_15 2 rfl ?_
      refine j_iadd 16 C dJ9_floorMod_7cf53_16 ?_
      refine j_iret 17 C hP dJ9_floorMod_7cf53_17 ?_
      exact ⟨z_ci (z_fm_3 c7 c11), rfl⟩
theorem dJ9_floorDiv_f86c9_0 : decode cJ9_floorDiv_f86c9 0 = .ok (.lload_n 0, 1) := by decide +kernel
theorem dJ9_floorDiv_f86c9_1 : decode cJ9_floorDiv_f86c9 1 = .ok (.lload_n 2, 1) := by decide +kernel
theorem dJ9_floorDiv_f86c9_2 : decode cJ9_floorDiv_f86c9 2 = .ok (.ldiv, 1) := by decide +kernel
theorem dJ9_floorDiv_f86c9_3 : decode cJ9_floorDiv_f86c9 3 = .ok (.lstore 4, 2) := by decide +kernel
theorem dJ9_floorDiv_f86c9_5 : decode cJ9_floorDiv_f86c9 5 = .ok (.lload_n 0, 1) := by decide +kernel
theorem dJ9_floorDiv_f86c9_6 : decode cJ9_floorDiv_f86c9 6 = .ok (.lload_n 2, 1) := by decide +kernel
theorem dJ9_floorDiv_f86c9_7 : decode cJ9_floorDiv_f86c9 7 = .ok (.lxor, 1) := by decide +kernel
theorem dJ9_floorDiv_f86c9_8 : decode cJ9_floorDiv_f86c9 8 = .ok (.lconst 0, 1) := by decide +kernel
theorem dJ9_floorDiv_f86c9_9 : decode cJ9_floorDiv_f86c9 9 = .ok (.lcmp, 1) := by decide +kernel
theorem dJ9_floorDiv_f86c9_10 : decode cJ9_floorDiv_f86c9 10 = .ok (.ifCond .ge 17, 3) := by decide +kernel
theorem dJ9_floorDiv_f86c9_13 : decode cJ9_floorDiv_f86c9 13 = .ok (.lload 4, 2) := by decide +kernel
theorem dJ9_floorDiv_f86c9_15 : decode cJ9_floorDiv_f86c9 15 = .ok (.lload_n 2, 1) := by decide +kernel
theorem dJ9_floorDiv_f86c9_16 : decode cJ9_floorDiv_f86c9 16 = .ok (.lmul, 1) := by decide +kernel
theorem dJ9_floorDiv_f86c9_17 : decode cJ9_floorDiv_f86c9 17 = .ok (.lload_n 0, 1) := by decide +kernel
theorem dJ9_floorDiv_f86c9_18 : decode cJ9_floorDiv_f86c9 18 = .ok (.lcmp, 1) := by decide +kernel
theorem dJ9_floorDiv_f86c9_19 : decode cJ9_floorDiv_f86c9 19 = .ok (.ifCond .eq 8, 3) := by decide +kernel
theorem dJ9_floorDiv_f86c9_22 : decode cJ9_floorDiv_f86c9 22 = .ok (.lload 4, 2) := by decide +kernel
theorem dJ9_floorDiv_f86c9_24 : decode cJ9_floorDiv_f86c9 24 = .ok (.lconst 1, 1) := by decide +kernel
theorem dJ9_floorDiv_f86c9_25 : decode cJ9_floorDiv_f86c9 25 = .ok (.lsub, 1) := by decide +kernel
theorem dJ9_floorDiv_f86c9_26 : decode cJ9_floorDiv_f86c9 26 = .ok (.lreturn, 1) := by decide +kernel
theorem dJ9_floorDiv_f86c9_27 : decode cJ9_floorDiv_f86c9 27 = .ok (.lload 4, 2) := by decide +kernel
theorem dJ9_floorDiv_f86c9_29 : decode cJ9_floorDiv_f86c9 29 = .ok (.lreturn, 1) := by decide +kernel
set_option maxRecDepth 100000 in
set_option maxHeartbeats 4000000 in
theorem m_J9_floorDiv_f86c9 {l : Launch} {G : z_Gl} {σ : z_St} (a b : Int64) (hb : 0 < b) : z_M l G yJ9_floorDiv_f86c9 cJ9_floorDiv_f86c9 6 (some .long) (z_rm 0 0) [.long a, .long b] σ (z_p1 (.long (z_fd a b)) σ) := by
  refine z_Mj.of (by decide +kernel) (Nat.le_of_ble_eq_true rfl) (fun p S e s m below meth c s1 C hP => ?_)
  refine j_sub [0, 1] (lv1 := [(0, .long a), (2, .long b)]) rfl ?_
  refine j_lload_n 0 C dJ9_floorDiv_f86c9_0 0 rfl ?_
  refine j_lload_n 1 C dJ9_floorDiv_f86c9_1 1 rfl ?_
  refine j_ldiv 2 C dJ9_floorDiv_f86c9_2 (fun z => absurd hb (by rw [z]; decide)) ?_
  refine j_lstore 3 C dJ9_floorDiv_f86c9_3 [(4, .long (a / b)), (0, .long a), (2, .long b)] (by decide) rfl ?_
  refine j_lload_n 5 C dJ9_floorDiv_f86c9_5 1 rfl ?_
  refine j_lload_n 6 C dJ9_floorDiv_f86c9_6 2 rfl ?_
  refine j_lxor 7 C dJ9_floorDiv_f86c9_7 ?_
  refine j_lconst 8 C dJ9_floorDiv_f86c9_8 0 rfl ?_
  refine j_lcmp_ge 9 C 27 dJ9_floorDiv_f86c9_9 dJ9_floorDiv_f86c9_10 (by decide) (fun c9 => ?_) (fun c9 => ?_)
  · skip
    refine j_lload 27 C dJ9_floorDiv_f86c9_27 0 rfl ?_
    refine j_lret 29 C hP dJ9_floorDiv_f86c9_29 ?_
    first | exact ⟨z_cl (z_fd_1 hb c9), rfl⟩ | exact ⟨z_cl (z_fd_2 hb c9 c18), rfl⟩
  · skip
    refine j_lload 13 C dJ9_floorDiv_f86c9_13 0 rfl ?_
    refine j_lload_n 15 C dJ9_floorDiv_f86c9_15 2 rfl ?_
    refine j_lmul 16 C dJ9_floorDiv_f86c9_16 ?_
    refine j_lload_n 17 C dJ9_floorDiv_f86c9_17 1 rfl ?_
    refine j_lcmp_eq 18 C 27 dJ9_floorDiv_f86c9_18 dJ9_floorDiv_f86c9_19 (by decide) (fun c18 => ?_) (fun c18 => ?_)
    · skip
      refine j_lload 27 C dJ9_floorDiv_f86c9_27 0 rfl ?_
      refine j_lret 29 C hP dJ9_floorDiv_f86c9_29 ?_
      first | exact ⟨z_cl (z_fd_1 hb c9), rfl⟩ | exact ⟨z_cl (z_fd_2 hb c9 c18), rfl⟩
    · skip
      refine j_lload 22 C dJ9_floorDiv_f86c9_22 0 rfl ?_
      refine j_lconst 24 C dJ9_floorDiv_f86c9_24 1 rfl ?_
      refine j_lsub 25 C dJ9_floorDiv_f86c9_25 ?_
      refine j_lret 26 C hP dJ9_floorDiv_f86c9_26 ?_
      exact ⟨z_cl (z_fd_3 hb c9 c18), rfl⟩
theorem dJ9_abs_067f4_0 : decode cJ9_abs_067f4 0 = .ok (.lload_n 0, 1) := by decide +kernel
theorem dJ9_abs_067f4_1 : decode cJ9_abs_067f4 1 = .ok (.lconst 0, 1) := by decide +kernel
theorem dJ9_abs_067f4_2 : decode cJ9_abs_067f4 2 = .ok (.lcmp, 1) := by decide +kernel
theorem dJ9_abs_067f4_3 : decode cJ9_abs_067f4 3 = .ok (.ifCond .ge 8, 3) := by decide +kernel
theorem dJ9_abs_067f4_6 : decode cJ9_abs_067f4 6 = .ok (.lload_n 0, 1) := by decide +kernel
theorem dJ9_abs_067f4_7 : decode cJ9_abs_067f4 7 = .ok (.lneg, 1) := by decide +kernel
theorem dJ9_abs_067f4_8 : decode cJ9_abs_067f4 8 = .ok (.goto 4, 3) := by decide +kernel
theorem dJ9_abs_067f4_11 : decode cJ9_abs_067f4 11 = .ok (.lload_n 0, 1) := by decide +kernel
theorem dJ9_abs_067f4_12 : decode cJ9_abs_067f4 12 = .ok (.lreturn, 1) := by decide +kernel
set_option maxRecDepth 100000 in
set_option maxHeartbeats 4000000 in
theorem m_J9_abs_067f4 {l : Launch} {G : z_Gl} {σ : z_St} (x : Int64) : z_M l G yJ9_abs_067f4 cJ9_abs_067f4 2 (some .long) (z_rm 0 0) [.long x] σ (z_p1 (.long (z_ab x)) σ) := by
  refine z_Mj.of (by decide +kernel) (Nat.le_of_ble_eq_true rfl) (fun p S e s m below meth c s1 C hP => ?_)
  refine j_sub [0] (lv1 := [(0, .long x)]) rfl ?_
  refine j_lload_n 0 C dJ9_abs_067f4_0 0 rfl ?_
  refine j_lconst 1 C dJ9_abs_067f4_1 0 rfl ?_
  refine j_lcmp_ge 2 C 11 dJ9_abs_067f4_2 dJ9_abs_067f4_3 (by decide) (fun c2 => ?_) (fun c2 => ?_)
  · skip
    refine j_lload_n 11 C dJ9_abs_067f4_11 0 rfl ?_
    refine j_lret 12 C hP dJ9_abs_067f4_12 ?_
    first | exact ⟨z_cl (z_ab_1 c2), rfl⟩ | exact ⟨z_cl (z_ab_2 c2), rfl⟩
  · skip
    refine j_lload_n 6 C dJ9_abs_067f4_6 0 rfl ?_
    refine j_lneg 7 C dJ9_abs_067f4_7 ?_
    refine j_goto 8 C 12 dJ9_abs_067f4_8 (by decide) ?_
    refine j_lret 12 C hP dJ9_abs_067f4_12 ?_
    first | exact ⟨z_cl (z_ab_1 c2), rfl⟩ | exact ⟨z_cl (z_ab_2 c2), rfl⟩
theorem dJ9_max_f86c9_0 : decode cJ9_max_f86c9 0 = .ok (.lload_n 0, 1) := by decide +kernel
theorem dJ9_max_f86c9_1 : decode cJ9_max_f86c9 1 = .ok (.lload_n 2, 1) := by decide +kernel
theorem dJ9_max_f86c9_2 : decode cJ9_max_f86c9 2 = .ok (.lcmp, 1) := by decide +kernel
theorem dJ9_max_f86c9_3 : decode cJ9_max_f86c9 3 = .ok (.ifCond .lt 7, 3) := by decide +kernel
theorem dJ9_max_f86c9_6 : decode cJ9_max_f86c9 6 = .ok (.lload_n 0, 1) := by decide +kernel
theorem dJ9_max_f86c9_7 : decode cJ9_max_f86c9 7 = .ok (.goto 4, 3) := by decide +kernel
theorem dJ9_max_f86c9_10 : decode cJ9_max_f86c9 10 = .ok (.lload_n 2, 1) := by decide +kernel
theorem dJ9_max_f86c9_11 : decode cJ9_max_f86c9 11 = .ok (.lreturn, 1) := by decide +kernel
set_option maxRecDepth 100000 in
set_option maxHeartbeats 4000000 in
theorem m_J9_max_f86c9 {l : Launch} {G : z_Gl} {σ : z_St} (a b : Int64) : z_M l G yJ9_max_f86c9 cJ9_max_f86c9 4 (some .long) (z_rm 0 0) [.long a, .long b] σ (z_p1 (.long (z_mx a b)) σ) := by
  refine z_Mj.of (by decide +kernel) (Nat.le_of_ble_eq_true rfl) (fun p S e s m below meth c s1 C hP => ?_)
  refine j_sub [0, 1] (lv1 := [(0, .long a), (2, .long b)]) rfl ?_
  refine j_lload_n 0 C dJ9_max_f86c9_0 0 rfl ?_
  refine j_lload_n 1 C dJ9_max_f86c9_1 1 rfl ?_
  refine j_lcmp_lt 2 C 10 dJ9_max_f86c9_2 dJ9_max_f86c9_3 (by decide) (fun c2 => ?_) (fun c2 => ?_)
  · skip
    refine j_lload_n 10 C dJ9_max_f86c9_10 1 rfl ?_
    refine j_lret 11 C hP dJ9_max_f86c9_11 ?_
    first | exact ⟨z_cl (if_pos c2).symm, rfl⟩ | exact ⟨z_cl (if_neg c2).symm, rfl⟩
  · skip
    refine j_lload_n 6 C dJ9_max_f86c9_6 0 rfl ?_
    refine j_goto 7 C 11 dJ9_max_f86c9_7 (by decide) ?_
    refine j_lret 11 C hP dJ9_max_f86c9_11 ?_
    first | exact ⟨z_cl (if_pos c2).symm, rfl⟩ | exact ⟨z_cl (if_neg c2).symm, rfl⟩
theorem dJ9_min_f86c9_0 : decode cJ9_min_f86c9 0 = .ok (.lload_n 0, 1) := by decide +kernel
theorem dJ9_min_f86c9_1 : decode cJ9_min_f86c9 1 = .ok (.lload_n 2, 1) := by decide +kernel
theorem dJ9_min_f86c9_2 : decode cJ9_min_f86c9 2 = .ok (.lcmp, 1) := by decide +kernel
theorem dJ9_min_f86c9_3 : decode cJ9_min_f86c9 3 = .ok (.ifCond .gt 7, 3) := by decide +kernel
theorem dJ9_min_f86c9_6 : decode cJ9_min_f86c9 6 = .ok (.lload_n 0, 1) := by decide +kernel
theorem dJ9_min_f86c9_7 : decode cJ9_min_f86c9 7 = .ok (.goto 4, 3) := by decide +kernel
theorem dJ9_min_f86c9_10 : decode cJ9_min_f86c9 10 = .ok (.lload_n 2, 1) := by decide +kernel
theorem dJ9_min_f86c9_11 : decode cJ9_min_f86c9 11 = .ok (.lreturn, 1) := by decide +kernel
set_option maxRecDepth 100000 in
set_option maxHeartbeats 4000000 in
theorem m_J9_min_f86c9 {l : Launch} {G : z_Gl} {σ : z_St} (a b : Int64) : z_M l G yJ9_min_f86c9 cJ9_min_f86c9 4 (some .long) (z_rm 0 0) [.long a, .long b] σ (z_p1 (.long (z_mn a b)) σ) := by
  refine z_Mj.of (by decide +kernel) (Nat.le_of_ble_eq_true rfl) (fun p S e s m below meth c s1 C hP => ?_)
  refine j_sub [0, 1] (lv1 := [(0, .long a), (2, .long b)]) rfl ?_
  refine j_lload_n 0 C dJ9_min_f86c9_0 0 rfl ?_
  refine j_lload_n 1 C dJ9_min_f86c9_1 1 rfl ?_
  refine j_lcmp_gt 2 C 10 dJ9_min_f86c9_2 dJ9_min_f86c9_3 (by decide) (fun c2 => ?_) (fun c2 => ?_)
  · skip
    refine j_lload_n 10 C dJ9_min_f86c9_10 1 rfl ?_
    refine j_lret 11 C hP dJ9_min_f86c9_11 ?_
    first | exact ⟨z_cl (if_pos c2).symm, rfl⟩ | exact ⟨z_cl (if_neg c2).symm, rfl⟩
  · skip
    refine j_lload_n 6 C dJ9_min_f86c9_6 0 rfl ?_
    refine j_goto 7 C 11 dJ9_min_f86c9_7 (by decide) ?_
    refine j_lret 11 C hP dJ9_min_f86c9_11 ?_
    first | exact ⟨z_cl (if_pos c2).symm, rfl⟩ | exact ⟨z_cl (if_neg c2).symm, rfl⟩
theorem dX7_isOutside_0 : decode cX7_isOutside 0 = .ok (.iload_n 0, 1) := by decide +kernel
theorem dX7_isOutside_1 : decode cX7_isOutside 1 = .ok (.iload_n 1, 1) := by decide +kernel
theorem dX7_isOutside_2 : decode cX7_isOutside 2 = .ok (.if_icmp .lt 8, 3) := by decide +kernel
theorem dX7_isOutside_5 : decode cX7_isOutside 5 = .ok (.iload_n 0, 1) := by decide +kernel
theorem dX7_isOutside_6 : decode cX7_isOutside 6 = .ok (.iload_n 2, 1) := by decide +kernel
theorem dX7_isOutside_7 : decode cX7_isOutside 7 = .ok (.if_icmp .le 7, 3) := by decide +kernel
theorem dX7_isOutside_10 : decode cX7_isOutside 10 = .ok (.iconst 1, 1) := by decide +kernel
theorem dX7_isOutside_11 : decode cX7_isOutside 11 = .ok (.goto 4, 3) := by decide +kernel
theorem dX7_isOutside_14 : decode cX7_isOutside 14 = .ok (.iconst 0, 1) := by decide +kernel
theorem dX7_isOutside_15 : decode cX7_isOutside 15 = .ok (.ireturn, 1) := by decide +kernel
set_option maxRecDepth 100000 in
set_option maxHeartbeats 4000000 in
theorem m_X7_isOutside {l : Launch} {G : z_Gl} {σ : z_St} (x a b : Int32) : z_M l G yX7_isOutside cX7_isOutside 3 (some .boolean) (z_rm 0 0) [.int x, .int a, .int b] σ (z_p1 (.int (z_bo (x < a ∨ b < x))) σ) := by
  refine z_M.of (by decide) (Nat.le_of_ble_eq_true rfl) (fun p e s m below meth c C => ?_)
  refine z_sub [0, 1, 2] (lv1 := [(0, .int x), (1, .int a), (2, .int b)]) rfl ?_
  refine z_iload_n 0 C dX7_isOutside_0 0 rfl ?_
  refine z_iload_n 1 C dX7_isOutside_1 1 rfl ?_
  refine z_icmp_lt 2 C 10 dX7_isOutside_2 (by decide) (fun c2 => ?_) (fun c2 => ?_)
  · skip
    refine z_iconst 10 C dX7_isOutside_10 (nI 1) rfl ?_
    refine z_goto 11 C 15 dX7_isOutside_11 (by decide) ?_
    refine z_zret 15 C (rfl) dX7_isOutside_15 ?_
    first | exact ⟨z_ci (z_bo_t (Or.inl c2)), rfl⟩ | exact ⟨z_ci (z_bo_f (fun z => z.elim c2 (Int32.not_lt.mpr c7))), rfl⟩ | exact ⟨z_ci (z_bo_t (Or.inr (Int32.not_le.mp c7))), rfl⟩
  · skip
    refine z_iload_n 5 C dX7_isOutside_5 0 rfl ?_
    refine z_iload_n 6 C dX7_isOutside_6 2 rfl ?_
    refine z_icmp_le 7 C 14 dX7_isOutside_7 (by decide) (fun c7 => ?_) (fun c7 => ?_)
    · skip
      refine z_iconst 14 C dX7_isOutside_14 (nI 0) rfl ?_
      refine z_zret 15 C (rfl) dX7_isOutside_15 ?_
      first | exact ⟨z_ci (z_bo_t (Or.inl c2)), rfl⟩ | exact ⟨z_ci (z_bo_f (fun z => z.elim c2 (Int32.not_lt.mpr c7))), rfl⟩ | exact ⟨z_ci (z_bo_t (Or.inr (Int32.not_le.mp c7))), rfl⟩
    · skip
      refine z_iconst 10 C dX7_isOutside_10 (nI 1) rfl ?_
      refine z_goto 11 C 15 dX7_isOutside_11 (by decide) ?_
      refine z_zret 15 C (rfl) dX7_isOutside_15 ?_
      first | exact ⟨z_ci (z_bo_t (Or.inl c2)), rfl⟩ | exact ⟨z_ci (z_bo_f (fun z => z.elim c2 (Int32.not_lt.mpr c7))), rfl⟩ | exact ⟨z_ci (z_bo_t (Or.inr (Int32.not_le.mp c7))), rfl⟩
theorem dX7_isNoPosition_0 : decode cX7_isNoPosition 0 = .ok (.iload_n 0, 1) := by decide +kernel
theorem dX7_isNoPosition_1 : decode cX7_isNoPosition 1 = .ok (.iconst 0, 1) := by decide +kernel
theorem dX7_isNoPosition_2 : decode cX7_isNoPosition 2 = .ok (.bipush 23, 2) := by decide +kernel
theorem dX7_isNoPosition_4 : decode cX7_isNoPosition 4 = .ok (.invokestatic 77, 3) := by decide +kernel
theorem dX7_isNoPosition_7 : decode cX7_isNoPosition 7 = .ok (.ireturn, 1) := by decide +kernel
set_option maxRecDepth 100000 in
set_option maxHeartbeats 4000000 in
theorem m_X7_isNoPosition {l : Launch} {G : z_Gl} {σ : z_St} (x : Int32) : z_M l G yX7_isNoPosition cX7_isNoPosition 1 (some .boolean) (z_rm 1 22) [.int x] σ (z_p1 (.int (z_bo (x < nI 0 ∨ nI 23 < x))) σ) := by
  refine z_M.of (by decide) (Nat.le_of_ble_eq_true rfl) (fun p e s m below meth c C => ?_)
  refine z_sub [0] (lv1 := [(0, .int x)]) rfl ?_
  refine z_iload_n 0 C dX7_isNoPosition_0 0 rfl ?_
  refine z_iconst 1 C dX7_isNoPosition_1 (nI 0) rfl ?_
  refine z_bipush 2 C dX7_isNoPosition_2 (nI 23) rfl ?_
  refine z_callS 4 C (As := [.int x, .int (nI 0), .int (nI 23)]) (rest := []) (m_X7_isOutside x (nI 0) (nI 23)) k_X7_isOutside q380 ⟨rfl, rfl⟩ ⟨Nat.le_of_ble_eq_true rfl, Nat.le_of_ble_eq_true rfl⟩ rfl (Nat.le_of_ble_eq_true rfl) ⟨Nat.le_of_ble_eq_true rfl, Nat.le_of_ble_eq_true rfl⟩ rfl dX7_isNoPosition_4 (z_k1 ?_)
  refine z_zret 7 C (z_bo_nar) dX7_isNoPosition_7 ?_
  exact ⟨rfl, rfl⟩
theorem dX7_isNoMethod_0 : decode cX7_isNoMethod 0 = .ok (.iload_n 0, 1) := by decide +kernel
theorem dX7_isNoMethod_1 : decode cX7_isNoMethod 1 = .ok (.iconst 0, 1) := by decide +kernel
theorem dX7_isNoMethod_2 : decode cX7_isNoMethod 2 = .ok (.iconst 3, 1) := by decide +kernel
theorem dX7_isNoMethod_3 : decode cX7_isNoMethod 3 = .ok (.invokestatic 77, 3) := by decide +kernel
theorem dX7_isNoMethod_6 : decode cX7_isNoMethod 6 = .ok (.ireturn, 1) := by decide +kernel
set_option maxRecDepth 100000 in
set_option maxHeartbeats 4000000 in
theorem m_X7_isNoMethod {l : Launch} {G : z_Gl} {σ : z_St} (x : Int32) : z_M l G yX7_isNoMethod cX7_isNoMethod 1 (some .boolean) (z_rm 1 22) [.int x] σ (z_p1 (.int (z_bo (x < nI 0 ∨ nI 3 < x))) σ) := by
  refine z_M.of (by decide) (Nat.le_of_ble_eq_true rfl) (fun p e s m below meth c C => ?_)
  refine z_sub [0] (lv1 := [(0, .int x)]) rfl ?_
  refine z_iload_n 0 C dX7_isNoMethod_0 0 rfl ?_
  refine z_iconst 1 C dX7_isNoMethod_1 (nI 0) rfl ?_
  refine z_iconst 2 C dX7_isNoMethod_2 (nI 3) rfl ?_
  refine z_callS 3 C (As := [.int x, .int (nI 0), .int (nI 3)]) (rest := []) (m_X7_isOutside x (nI 0) (nI 3)) k_X7_isOutside q380 ⟨rfl, rfl⟩ ⟨Nat.le_of_ble_eq_true rfl, Nat.le_of_ble_eq_true rfl⟩ rfl (Nat.le_of_ble_eq_true rfl) ⟨Nat.le_of_ble_eq_true rfl, Nat.le_of_ble_eq_true rfl⟩ rfl dX7_isNoMethod_3 (z_k1 ?_)
  refine z_zret 6 C (z_bo_nar) dX7_isNoMethod_6 ?_
  exact ⟨rfl, rfl⟩
theorem dX7_isNoRange_0 : decode cX7_isNoRange 0 = .ok (.iload_n 0, 1) := by decide +kernel
theorem dX7_isNoRange_1 : decode cX7_isNoRange 1 = .ok (.ifCond .lt 14, 3) := by decide +kernel
theorem dX7_isNoRange_4 : decode cX7_isNoRange 4 = .ok (.iload_n 0, 1) := by decide +kernel
theorem dX7_isNoRange_5 : decode cX7_isNoRange 5 = .ok (.iload_n 1, 1) := by decide +kernel
theorem dX7_isNoRange_6 : decode cX7_isNoRange 6 = .ok (.if_icmp .gt 9, 3) := by decide +kernel
theorem dX7_isNoRange_9 : decode cX7_isNoRange 9 = .ok (.iload_n 1, 1) := by decide +kernel
theorem dX7_isNoRange_10 : decode cX7_isNoRange 10 = .ok (.bipush 12, 2) := by decide +kernel
theorem dX7_isNoRange_12 : decode cX7_isNoRange 12 = .ok (.if_icmp .le 7, 3) := by decide +kernel
theorem dX7_isNoRange_15 : decode cX7_isNoRange 15 = .ok (.iconst 1, 1) := by decide +kernel
theorem dX7_isNoRange_16 : decode cX7_isNoRange 16 = .ok (.goto 4, 3) := by decide +kernel
theorem dX7_isNoRange_19 : decode cX7_isNoRange 19 = .ok (.iconst 0, 1) := by decide +kernel
theorem dX7_isNoRange_20 : decode cX7_isNoRange 20 = .ok (.ireturn, 1) := by decide +kernel
set_option maxRecDepth 100000 in
set_option maxHeartbeats 4000000 in
theorem m_X7_isNoRange {l : Launch} {G : z_Gl} {σ : z_St} (a b : Int32) : z_M l G yX7_isNoRange cX7_isNoRange 2 (some .boolean) (z_rm 0 0) [.int a, .int b] σ (z_p1 (.int (z_bo (a < 0 ∨ b < a ∨ nI 12 < b))) σ) := by
  refine z_M.of (by decide) (Nat.le_of_ble_eq_true rfl) (fun p e s m below meth c C => ?_)
  refine z_sub [0, 1] (lv1 := [(0, .int a), (1, .int b)]) rfl ?_
  refine z_iload_n 0 C dX7_isNoRange_0 0 rfl ?_
  refine z_if_lt 1 C 15 dX7_isNoRange_1 (by decide) (fun c1 => ?_) (fun c1 => ?_)
  · skip
    refine z_iconst 15 C dX7_isNoRange_15 (nI 1) rfl ?_
    refine z_goto 16 C 20 dX7_isNoRange_16 (by decide) ?_
    refine z_zret 20 C (rfl) dX7_isNoRange_20 ?_
    first | exact ⟨z_ci (z_bo_t (Or.inl c1)), rfl⟩ | exact ⟨z_ci (z_bo_t (Or.inr (Or.inl c6))), rfl⟩ | exact ⟨z_ci (z_bo_t (Or.inr (Or.inr (Int32.not_le.mp c12)))), rfl⟩ | exact ⟨z_ci (z_bo_f (fun z => z.elim c1 (fun z => z.elim c6 (Int32.not_lt.mpr c12)))), rfl⟩
  · skip
    refine z_iload_n 4 C dX7_isNoRange_4 0 rfl ?_
    refine z_iload_n 5 C dX7_isNoRange_5 1 rfl ?_
    refine z_icmp_gt 6 C 15 dX7_isNoRange_6 (by decide) (fun c6 => ?_) (fun c6 => ?_)
    · skip
      refine z_iconst 15 C dX7_isNoRange_15 (nI 1) rfl ?_
      refine z_goto 16 C 20 dX7_isNoRange_16 (by decide) ?_
      refine z_zret 20 C (rfl) dX7_isNoRange_20 ?_
      first | exact ⟨z_ci (z_bo_t (Or.inl c1)), rfl⟩ | exact ⟨z_ci (z_bo_t (Or.inr (Or.inl c6))), rfl⟩ | exact ⟨z_ci (z_bo_t (Or.inr (Or.inr (Int32.not_le.mp c12)))), rfl⟩ | exact ⟨z_ci (z_bo_f (fun z => z.elim c1 (fun z => z.elim c6 (Int32.not_lt.mpr c12)))), rfl⟩
    · skip
      refine z_iload_n 9 C dX7_isNoRange_9 1 rfl ?_
      refine z_bipush 10 C dX7_isNoRange_10 (nI 12) rfl ?_
      refine z_icmp_le 12 C 19 dX7_isNoRange_12 (by decide) (fun c12 => ?_) (fun c12 => ?_)
      · skip
        refine z_iconst 19 C dX7_isNoRange_19 (nI 0) rfl ?_
        refine z_zret 20 C (rfl) dX7_isNoRange_20 ?_
        first | exact ⟨z_ci (z_bo_t (Or.inl c1)), rfl⟩ | exact ⟨z_ci (z_bo_t (Or.inr (Or.inl c6))), rfl⟩ | exact ⟨z_ci (z_bo_t (Or.inr (Or.inr (Int32.not_le.mp c12)))), rfl⟩ | exact ⟨z_ci (z_bo_f (fun z => z.elim c1 (fun z => z.elim c6 (Int32.not_lt.mpr c12)))), rfl⟩
      · skip
        refine z_iconst 15 C dX7_isNoRange_15 (nI 1) rfl ?_
        refine z_goto 16 C 20 dX7_isNoRange_16 (by decide) ?_
        refine z_zret 20 C (rfl) dX7_isNoRange_20 ?_
        first | exact ⟨z_ci (z_bo_t (Or.inl c1)), rfl⟩ | exact ⟨z_ci (z_bo_t (Or.inr (Or.inl c6))), rfl⟩ | exact ⟨z_ci (z_bo_t (Or.inr (Or.inr (Int32.not_le.mp c12)))), rfl⟩ | exact ⟨z_ci (z_bo_f (fun z => z.elim c1 (fun z => z.elim c6 (Int32.not_lt.mpr c12)))), rfl⟩
theorem dX7_isStepCount_0 : decode cX7_isStepCount 0 = .ok (.iload_n 0, 1) := by decide +kernel
theorem dX7_isStepCount_1 : decode cX7_isStepCount 1 = .ok (.iconst 2, 1) := by decide +kernel
theorem dX7_isStepCount_2 : decode cX7_isStepCount 2 = .ok (.if_icmp .eq 31, 3) := by decide +kernel
theorem dX7_isStepCount_5 : decode cX7_isStepCount 5 = .ok (.iload_n 0, 1) := by decide +kernel
theorem dX7_isStepCount_6 : decode cX7_isStepCount 6 = .ok (.iconst 3, 1) := by decide +kernel
theorem dX7_isStepCount_7 : decode cX7_isStepCount 7 = .ok (.if_icmp .eq 26, 3) := by decide +kernel
theorem dX7_isStepCount_10 : decode cX7_isStepCount 10 = .ok (.iload_n 0, 1) := by decide +kernel
theorem dX7_isStepCount_11 : decode cX7_isStepCount 11 = .ok (.iconst 4, 1) := by decide +kernel
theorem dX7_isStepCount_12 : decode cX7_isStepCount 12 = .ok (.if_icmp .eq 21, 3) := by decide +kernel
theorem dX7_isStepCount_15 : decode cX7_isStepCount 15 = .ok (.iload_n 0, 1) := by decide +kernel
theorem dX7_isStepCount_16 : decode cX7_isStepCount 16 = .ok (.bipush 6, 2) := by decide +kernel
theorem dX7_isStepCount_18 : decode cX7_isStepCount 18 = .ok (.if_icmp .eq 15, 3) := by decide +kernel
theorem dX7_isStepCount_21 : decode cX7_isStepCount 21 = .ok (.iload_n 0, 1) := by decide +kernel
theorem dX7_isStepCount_22 : decode cX7_isStepCount 22 = .ok (.bipush 8, 2) := by decide +kernel
theorem dX7_isStepCount_24 : decode cX7_isStepCount 24 = .ok (.if_icmp .eq 9, 3) := by decide +kernel
theorem dX7_isStepCount_27 : decode cX7_isStepCount 27 = .ok (.iload_n 0, 1) := by decide +kernel
theorem dX7_isStepCount_28 : decode cX7_isStepCount 28 = .ok (.bipush 12, 2) := by decide +kernel
theorem dX7_isStepCount_30 : decode cX7_isStepCount 30 = .ok (.if_icmp .ne 7, 3) := by decide +kernel
theorem dX7_isStepCount_33 : decode cX7_isStepCount 33 = .ok (.iconst 1, 1) := by decide +kernel
theorem dX7_isStepCount_34 : decode cX7_isStepCount 34 = .ok (.goto 4, 3) := by decide +kernel
theorem dX7_isStepCount_37 : decode cX7_isStepCount 37 = .ok (.iconst 0, 1) := by decide +kernel
theorem dX7_isStepCount_38 : decode cX7_isStepCount 38 = .ok (.ireturn, 1) := by decide +kernel
set_option maxRecDepth 100000 in
set_option maxHeartbeats 4000000 in
theorem m_X7_isStepCount {l : Launch} {G : z_Gl} {σ : z_St} (x : Int32) : z_M l G yX7_isStepCount cX7_isStepCount 1 (some .boolean) (z_rm 0 0) [.int x] σ (z_p1 (.int (z_bo (x = nI 2 ∨ x = nI 3 ∨ x = nI 4 ∨ x = nI 6 ∨ x = nI 8 ∨ x = nI 12))) σ) := by
  refine z_M.of (by decide) (Nat.le_of_ble_eq_true rfl) (fun p e s m below meth c C => ?_)
  refine z_sub [0] (lv1 := [(0, .int x)]) rfl ?_
  refine z_iload_n 0 C dX7_isStepCount_0 0 rfl ?_
  refine z_iconst 1 C dX7_isStepCount_1 (nI 2) rfl ?_
  refine z_icmp_eq 2 C 33 dX7_isStepCount_2 (by decide) (fun c2 => ?_) (fun c2 => ?_)
  · skip
    refine z_iconst 33 C dX7_isStepCount_33 (nI 1) rfl ?_
    refine z_goto 34 C 38 dX7_isStepCount_34 (by decide) ?_
    refine z_zret 38 C (rfl) dX7_isStepCount_38 ?_
    first | exact ⟨z_ci (z_bo_t (Or.inl c2)), rfl⟩ | exact ⟨z_ci (z_bo_t (Or.inr (Or.inl c7))), rfl⟩ | exact ⟨z_ci (z_bo_t (Or.inr (Or.inr (Or.inl c12)))), rfl⟩ | exact ⟨z_ci (z_bo_t (Or.inr (Or.inr (Or.inr (Or.inl c18))))), rfl⟩ | exact ⟨z_ci (z_bo_t (Or.inr (Or.inr (Or.inr (Or.inr (Or.inl c24)))))), rfl⟩ | exact ⟨z_ci (z_bo_f (fun z => z.elim c2 (fun z => z.elim c7 (fun z => z.elim c12 (fun z => z.elim c18 (fun z => z.elim c24 c30)))))), rfl⟩ | exact ⟨z_ci (z_bo_t (Or.inr (Or.inr (Or.inr (Or.inr (Or.inr c30)))))), rfl⟩
  · skip
    refine z_iload_n 5 C dX7_isStepCount_5 0 rfl ?_
    refine z_iconst 6 C dX7_isStepCount_6 (nI 3) rfl ?_
    refine z_icmp_eq 7 C 33 dX7_isStepCount_7 (by decide) (fun c7 => ?_) (fun c7 => ?_)
    · skip
      refine z_iconst 33 C dX7_isStepCount_33 (nI 1) rfl ?_
      refine z_goto 34 C 38 dX7_isStepCount_34 (by decide) ?_
      refine z_zret 38 C (rfl) dX7_isStepCount_38 ?_
      first | exact ⟨z_ci (z_bo_t (Or.inl c2)), rfl⟩ | exact ⟨z_ci (z_bo_t (Or.inr (Or.inl c7))), rfl⟩ | exact ⟨z_ci (z_bo_t (Or.inr (Or.inr (Or.inl c12)))), rfl⟩ | exact ⟨z_ci (z_bo_t (Or.inr (Or.inr (Or.inr (Or.inl c18))))), rfl⟩ | exact ⟨z_ci (z_bo_t (Or.inr (Or.inr (Or.inr (Or.inr (Or.inl c24)))))), rfl⟩ | exact ⟨z_ci (z_bo_f (fun z => z.elim c2 (fun z => z.elim c7 (fun z => z.elim c12 (fun z => z.elim c18 (fun z => z.elim c24 c30)))))), rfl⟩ | exact ⟨z_ci (z_bo_t (Or.inr (Or.inr (Or.inr (Or.inr (Or.inr c30)))))), rfl⟩
    · skip
      refine z_iload_n 10 C dX7_isStepCount_10 0 rfl ?_
      refine z_iconst 11 C dX7_isStepCount_11 (nI 4) rfl ?_
      refine z_icmp_eq 12 C 33 dX7_isStepCount_12 (by decide) (fun c12 => ?_) (fun c12 => ?_)
      · skip
        refine z_iconst 33 C dX7_isStepCount_33 (nI 1) rfl ?_
        refine z_goto 34 C 38 dX7_isStepCount_34 (by decide) ?_
        refine z_zret 38 C (rfl) dX7_isStepCount_38 ?_
        first | exact ⟨z_ci (z_bo_t (Or.inl c2)), rfl⟩ | exact ⟨z_ci (z_bo_t (Or.inr (Or.inl c7))), rfl⟩ | exact ⟨z_ci (z_bo_t (Or.inr (Or.inr (Or.inl c12)))), rfl⟩ | exact ⟨z_ci (z_bo_t (Or.inr (Or.inr (Or.inr (Or.inl c18))))), rfl⟩ | exact ⟨z_ci (z_bo_t (Or.inr (Or.inr (Or.inr (Or.inr (Or.inl c24)))))), rfl⟩ | exact ⟨z_ci (z_bo_f (fun z => z.elim c2 (fun z => z.elim c7 (fun z => z.elim c12 (fun z => z.elim c18 (fun z => z.elim c24 c30)))))), rfl⟩ | exact ⟨z_ci (z_bo_t (Or.inr (Or.inr (Or.inr (Or.inr (Or.inr c30)))))), rfl⟩
      · skip
        refine z_iload_n 15 C dX7_isStepCount_15 0 rfl ?_
        refine z_bipush 16 C dX7_isStepCount_16 (nI 6) rfl ?_
        refine z_icmp_eq 18 C 33 dX7_isStepCount_18 (by decide) (fun c18 => ?_) (fun c18 => ?_)
        · skip
          refine z_iconst 33 C dX7_isStepCount_33 (nI 1) rfl ?_
          refine z_goto 34 C 38 dX7_isStepCount_34 (by decide) ?_
          refine z_zret 38 C (rfl) dX7_isStepCount_38 ?_
          first | exact ⟨z_ci (z_bo_t (Or.inl c2)), rfl⟩ | exact ⟨z_ci (z_bo_t (Or.inr (Or.inl c7))), rfl⟩ | exact ⟨z_ci (z_bo_t (Or.inr (Or.inr (Or.inl c12)))), rfl⟩ | exact ⟨z_ci (z_bo_t (Or.inr (Or.inr (Or.inr (Or.inl c18))))), rfl⟩ | exact ⟨z_ci (z_bo_t (Or.inr (Or.inr (Or.inr (Or.inr (Or.inl c24)))))), rfl⟩ | exact ⟨z_ci (z_bo_f (fun z => z.elim c2 (fun z => z.elim c7 (fun z => z.elim c12 (fun z => z.elim c18 (fun z => z.elim c24 c30)))))), rfl⟩ | exact ⟨z_ci (z_bo_t (Or.inr (Or.inr (Or.inr (Or.inr (Or.inr c30)))))), rfl⟩
        · skip
          refine z_iload_n 21 C dX7_isStepCount_21 0 rfl ?_
          refine z_bipush 22 C dX7_isStepCount_22 (nI 8) rfl ?_
          refine z_icmp_eq 24 C 33 dX7_isStepCount_24 (by decide) (fun c24 => ?_) (fun c24 => ?_)
          · skip
            refine z_iconst 33 C dX7_isStepCount_33 (nI 1) rfl ?_
            refine z_goto 34 C 38 dX7_isStepCount_34 (by decide) ?_
            refine z_zret 38 C (rfl) dX7_isStepCount_38 ?_
            first | exact ⟨z_ci (z_bo_t (Or.inl c2)), rfl⟩ | exact ⟨z_ci (z_bo_t (Or.inr (Or.inl c7))), rfl⟩ | exact ⟨z_ci (z_bo_t (Or.inr (Or.inr (Or.inl c12)))), rfl⟩ | exact ⟨z_ci (z_bo_t (Or.inr (Or.inr (Or.inr (Or.inl c18))))), rfl⟩ | exact ⟨z_ci (z_bo_t (Or.inr (Or.inr (Or.inr (Or.inr (Or.inl c24)))))), rfl⟩ | exact ⟨z_ci (z_bo_f (fun z => z.elim c2 (fun z => z.elim c7 (fun z => z.elim c12 (fun z => z.elim c18 (fun z => z.elim c24 c30)))))), rfl⟩ | exact ⟨z_ci (z_bo_t (Or.inr (Or.inr (Or.inr (Or.inr (Or.inr c30)))))), rfl⟩
          · skip
            refine z_iload_n 27 C dX7_isStepCount_27 0 rfl ?_
            refine z_bipush 28 C dX7_isStepCount_28 (nI 12) rfl ?_
            refine z_icmp_ne 30 C 37 dX7_isStepCount_30 (by decide) (fun c30 => ?_) (fun c30 => ?_)
            · skip
              refine z_iconst 37 C dX7_isStepCount_37 (nI 0) rfl ?_
              refine z_zret 38 C (rfl) dX7_isStepCount_38 ?_
              first | exact ⟨z_ci (z_bo_t (Or.inl c2)), rfl⟩ | exact ⟨z_ci (z_bo_t (Or.inr (Or.inl c7))), rfl⟩ | exact ⟨z_ci (z_bo_t (Or.inr (Or.inr (Or.inl c12)))), rfl⟩ | exact ⟨z_ci (z_bo_t (Or.inr (Or.inr (Or.inr (Or.inl c18))))), rfl⟩ | exact ⟨z_ci (z_bo_t (Or.inr (Or.inr (Or.inr (Or.inr (Or.inl c24)))))), rfl⟩ | exact ⟨z_ci (z_bo_f (fun z => z.elim c2 (fun z => z.elim c7 (fun z => z.elim c12 (fun z => z.elim c18 (fun z => z.elim c24 c30)))))), rfl⟩ | exact ⟨z_ci (z_bo_t (Or.inr (Or.inr (Or.inr (Or.inr (Or.inr c30)))))), rfl⟩
            · skip
              refine z_iconst 33 C dX7_isStepCount_33 (nI 1) rfl ?_
              refine z_goto 34 C 38 dX7_isStepCount_34 (by decide) ?_
              refine z_zret 38 C (rfl) dX7_isStepCount_38 ?_
              first | exact ⟨z_ci (z_bo_t (Or.inl c2)), rfl⟩ | exact ⟨z_ci (z_bo_t (Or.inr (Or.inl c7))), rfl⟩ | exact ⟨z_ci (z_bo_t (Or.inr (Or.inr (Or.inl c12)))), rfl⟩ | exact ⟨z_ci (z_bo_t (Or.inr (Or.inr (Or.inr (Or.inl c18))))), rfl⟩ | exact ⟨z_ci (z_bo_t (Or.inr (Or.inr (Or.inr (Or.inr (Or.inl c24)))))), rfl⟩ | exact ⟨z_ci (z_bo_f (fun z => z.elim c2 (fun z => z.elim c7 (fun z => z.elim c12 (fun z => z.elim c18 (fun z => z.elim c24 c30)))))), rfl⟩ | exact ⟨z_ci (z_bo_t (Or.inr (Or.inr (Or.inr (Or.inr (Or.inr c30)))))), rfl⟩
theorem dX7_place_0 : decode cX7_place 0 = .ok (.iload_n 0, 1) := by decide +kernel
theorem dX7_place_1 : decode cX7_place 1 = .ok (.bipush 24, 2) := by decide +kernel
theorem dX7_place_3 : decode cX7_place 3 = .ok (.invokestatic 368, 3) := by decide +kernel
theorem dX7_place_6 : decode cX7_place 6 = .ok (.ireturn, 1) := by decide +kernel
set_option maxRecDepth 100000 in
set_option maxHeartbeats 4000000 in
theorem m_X7_place {l : Launch} {G : z_Gl} {σ : z_St} (x : Int32) : z_M l G yX7_place cX7_place 1 (some .int) (z_rm 1 22) [.int x] σ (z_p1 (.int (nI (z_pm x))) σ) := by
  refine z_M.of (by decide) (Nat.le_of_ble_eq_true rfl) (fun p e s m below meth c C => ?_)
  refine z_sub [0] (lv1 := [(0, .int x)]) rfl ?_
  refine z_iload_n 0 C dX7_place_0 0 rfl ?_
  refine z_bipush 1 C dX7_place_1 (nI 24) rfl ?_
  refine z_callS 3 C (As := [.int x, .int (nI 24)]) (rest := []) (m_J9_floorMod_7cf53 x) k_J9_floorMod_7cf53 q415 ⟨rfl, rfl⟩ ⟨Nat.le_of_ble_eq_true rfl, Nat.le_of_ble_eq_true rfl⟩ rfl (Nat.le_of_ble_eq_true rfl) ⟨Nat.le_of_ble_eq_true rfl, Nat.le_of_ble_eq_true rfl⟩ rfl dX7_place_3 (z_k1 ?_)
  refine z_iret 6 C dX7_place_6 ?_
  exact ⟨rfl, rfl⟩
theorem m_X7_place_n {l : Launch} {G : z_Gl} {σ : z_St} (n : Nat) (hn : n < 2 ^ 31) : z_M l G yX7_place cX7_place 1 (some .int) (z_rm 1 22) [.int (nI n)] σ (z_p1 (.int (nI (n % 24))) σ) := by
  have h := m_X7_place (l := l) (G := G) (σ := σ) (nI n)
  rw [z_pm_n hn] at h
  exact h
theorem m_X7_place_d {l : Launch} {G : z_Gl} {σ : z_St} (a b : Nat) (ha : a < 2 ^ 30) (hb : b < 2 ^ 30) : z_M l G yX7_place cX7_place 1 (some .int) (z_rm 1 22) [.int (nI a - nI b)] σ (z_p1 (.int (nI ((a + (24 - b % 24)) % 24))) σ) := by
  have h := m_X7_place (l := l) (G := G) (σ := σ) (nI a - nI b)
  rw [z_pm_s ha hb] at h
  exact h
theorem dX7_cosine_0 : decode cX7_cosine 0 = .ok (.getstatic 371, 3) := by decide +kernel
theorem dX7_cosine_3 : decode cX7_cosine 3 = .ok (.iload_n 0, 1) := by decide +kernel
theorem dX7_cosine_4 : decode cX7_cosine 4 = .ok (.invokestatic 144, 3) := by decide +kernel
theorem dX7_cosine_7 : decode cX7_cosine 7 = .ok (.iaload, 1) := by decide +kernel
theorem dX7_cosine_8 : decode cX7_cosine 8 = .ok (.ireturn, 1) := by decide +kernel
set_option maxRecDepth 100000 in
set_option maxHeartbeats 4000000 in
theorem m_X7_cosine {l : Launch} {G : z_Gl} {σ : z_St} (x : Int32) : z_M l G yX7_cosine cX7_cosine 1 (some .int) (z_rm 2 42) [.int x] σ (z_p1 (.int (z_tv 0 (z_pm x))) σ) := by
  refine z_M.of (by decide) (Nat.le_of_ble_eq_true rfl) (fun p e s m below meth c C => ?_)
  refine z_sub [0] (lv1 := [(0, .int x)]) rfl ?_
  refine z_gets 0 C 0 (by decide) q421 dX7_cosine_0 ?_
  refine z_iload_n 3 C dX7_cosine_3 0 rfl ?_
  refine z_callS 4 C (As := [.int x]) (rest := [.ref (z_ta G 0)]) (m_X7_place x) k_X7_place q563 ⟨rfl, rfl⟩ ⟨Nat.le_of_ble_eq_true rfl, Nat.le_of_ble_eq_true rfl⟩ rfl (Nat.le_of_ble_eq_true rfl) ⟨Nat.le_of_ble_eq_true rfl, Nat.le_of_ble_eq_true rfl⟩ rfl dX7_cosine_4 (z_k1 ?_)
  refine z_taldN 7 C 0 (by decide) (z_pm x) rfl (show _ < 24 from (z_pm_lt x)) dX7_cosine_7 ?_
  refine z_iret 8 C dX7_cosine_8 ?_
  exact ⟨rfl, rfl⟩
theorem m_X7_cosine_n {l : Launch} {G : z_Gl} {σ : z_St} (n : Nat) (hn : n < 2 ^ 31) : z_M l G yX7_cosine cX7_cosine 1 (some .int) (z_rm 2 42) [.int (nI n)] σ (z_p1 (.int (z_tv 0 (n % 24))) σ) := by
  have h := m_X7_cosine (l := l) (G := G) (σ := σ) (nI n)
  rw [z_pm_n hn] at h
  exact h
theorem dX7_divide_0 : decode cX7_divide 0 = .ok (.lload_n 2, 1) := by decide +kernel
theorem dX7_divide_1 : decode cX7_divide 1 = .ok (.lconst 0, 1) := by decide +kernel
theorem dX7_divide_2 : decode cX7_divide 2 = .ok (.lcmp, 1) := by decide +kernel
theorem dX7_divide_3 : decode cX7_divide 3 = .ok (.ifCond .ne 7, 3) := by decide +kernel
theorem dX7_divide_10 : decode cX7_divide 10 = .ok (.lload_n 0, 1) := by decide +kernel
theorem dX7_divide_11 : decode cX7_divide 11 = .ok (.lload_n 2, 1) := by decide +kernel
theorem dX7_divide_12 : decode cX7_divide 12 = .ok (.invokestatic 374, 3) := by decide +kernel
theorem dX7_divide_15 : decode cX7_divide 15 = .ok (.lreturn, 1) := by decide +kernel
set_option maxRecDepth 100000 in
set_option maxHeartbeats 4000000 in
theorem m_X7_divide {l : Launch} {G : z_Gl} {σ : z_St} (a b : Int64) (hb : 0 < b) : z_M l G yX7_divide cX7_divide 4 (some .long) (z_rm 1 25) [.long a, .long b] σ (z_p1 (.long (z_fd a b)) σ) := by
  refine z_M.of (by decide) (Nat.le_of_ble_eq_true rfl) (fun p e s m below meth c C => ?_)
  refine z_sub [0, 1] (lv1 := [(0, .long a), (2, .long b)]) rfl ?_
  refine z_lload_n 0 C dX7_divide_0 1 rfl ?_
  refine z_lconst 1 C dX7_divide_1 0 rfl ?_
  refine z_lcmp_ne 2 C 10 dX7_divide_2 dX7_divide_3 (by decide) (fun c2 => ?_) (fun c2 => ?_)
  · skip
    refine z_lload_n 10 C dX7_divide_10 0 rfl ?_
    refine z_lload_n 11 C dX7_divide_11 1 rfl ?_
    refine z_callS 12 C (As := [.long a, .long b]) (rest := []) (m_J9_floorDiv_f86c9 a b (hb)) k_J9_floorDiv_f86c9 q426 ⟨rfl, rfl⟩ ⟨Nat.le_of_ble_eq_true rfl, Nat.le_of_ble_eq_true rfl⟩ rfl (Nat.le_of_ble_eq_true rfl) ⟨Nat.le_of_ble_eq_true rfl, Nat.le_of_ble_eq_true rfl⟩ rfl dX7_divide_12 (z_k1 ?_)
    refine z_lret 15 C dX7_divide_15 ?_
    exact ⟨rfl, rfl⟩
  · skip
    exact absurd c2 (fun z => absurd hb (by rw [z]; decide))
theorem dX7_clamp_0 : decode cX7_clamp 0 = .ok (.lload_n 0, 1) := by decide +kernel
theorem dX7_clamp_1 : decode cX7_clamp 1 = .ok (.iload_n 2, 1) := by decide +kernel
theorem dX7_clamp_2 : decode cX7_clamp 2 = .ok (.i2l, 1) := by decide +kernel
theorem dX7_clamp_3 : decode cX7_clamp 3 = .ok (.lcmp, 1) := by decide +kernel
theorem dX7_clamp_4 : decode cX7_clamp 4 = .ok (.ifCond .le 5, 3) := by decide +kernel
theorem dX7_clamp_7 : decode cX7_clamp 7 = .ok (.iload_n 2, 1) := by decide +kernel
theorem dX7_clamp_8 : decode cX7_clamp 8 = .ok (.ireturn, 1) := by decide +kernel
theorem dX7_clamp_9 : decode cX7_clamp 9 = .ok (.lload_n 0, 1) := by decide +kernel
theorem dX7_clamp_10 : decode cX7_clamp 10 = .ok (.iload_n 2, 1) := by decide +kernel
theorem dX7_clamp_11 : decode cX7_clamp 11 = .ok (.ineg, 1) := by decide +kernel
theorem dX7_clamp_12 : decode cX7_clamp 12 = .ok (.i2l, 1) := by decide +kernel
theorem dX7_clamp_13 : decode cX7_clamp 13 = .ok (.lcmp, 1) := by decide +kernel
theorem dX7_clamp_14 : decode cX7_clamp 14 = .ok (.ifCond .ge 8, 3) := by decide +kernel
theorem dX7_clamp_17 : decode cX7_clamp 17 = .ok (.iload_n 2, 1) := by decide +kernel
theorem dX7_clamp_18 : decode cX7_clamp 18 = .ok (.ineg, 1) := by decide +kernel
theorem dX7_clamp_19 : decode cX7_clamp 19 = .ok (.goto 5, 3) := by decide +kernel
theorem dX7_clamp_22 : decode cX7_clamp 22 = .ok (.lload_n 0, 1) := by decide +kernel
theorem dX7_clamp_23 : decode cX7_clamp 23 = .ok (.l2i, 1) := by decide +kernel
theorem dX7_clamp_24 : decode cX7_clamp 24 = .ok (.ireturn, 1) := by decide +kernel
set_option maxRecDepth 100000 in
set_option maxHeartbeats 4000000 in
theorem m_X7_clamp {l : Launch} {G : z_Gl} {σ : z_St} (x : Int64) (b : Int32) : z_M l G yX7_clamp cX7_clamp 3 (some .int) (z_rm 0 0) [.long x, .int b] σ (z_p1 (.int (z_cla x b)) σ) := by
  refine z_M.of (by decide) (Nat.le_of_ble_eq_true rfl) (fun p e s m below meth c C => ?_)
  refine z_sub [0, 1] (lv1 := [(0, .long x), (2, .int b)]) rfl ?_
  refine z_lload_n 0 C dX7_clamp_0 0 rfl ?_
  refine z_iload_n 1 C dX7_clamp_1 1 rfl ?_
  refine z_i2l 2 C dX7_clamp_2 ?_
  refine z_lcmp_le 3 C 9 dX7_clamp_3 dX7_clamp_4 (by decide) (fun c3 => ?_) (fun c3 => ?_)
  · skip
    refine z_lload_n 9 C dX7_clamp_9 0 rfl ?_
    refine z_iload_n 10 C dX7_clamp_10 1 rfl ?_
    refine z_ineg 11 C dX7_clamp_11 ?_
    refine z_i2l 12 C dX7_clamp_12 ?_
    refine z_lcmp_ge 13 C 22 dX7_clamp_13 dX7_clamp_14 (by decide) (fun c13 => ?_) (fun c13 => ?_)
    · skip
      refine z_lload_n 22 C dX7_clamp_22 0 rfl ?_
      refine z_l2i 23 C dX7_clamp_23 ?_
      refine z_iret 24 C dX7_clamp_24 ?_
      first | exact ⟨z_ci (by unfold z_cla; rw [if_neg (Int64.not_lt.mpr c3), if_pos (Int64.not_le.mp c13)]), rfl⟩ | exact ⟨z_ci (by unfold z_cla; rw [if_neg (Int64.not_lt.mpr c3), if_neg (Int64.not_lt.mpr c13)]), rfl⟩
    · skip
      refine z_iload_n 17 C dX7_clamp_17 1 rfl ?_
      refine z_ineg 18 C dX7_clamp_18 ?_
      refine z_goto 19 C 24 dX7_clamp_19 (by decide) ?_
      refine z_iret 24 C dX7_clamp_24 ?_
      first | exact ⟨z_ci (by unfold z_cla; rw [if_neg (Int64.not_lt.mpr c3), if_pos (Int64.not_le.mp c13)]), rfl⟩ | exact ⟨z_ci (by unfold z_cla; rw [if_neg (Int64.not_lt.mpr c3), if_neg (Int64.not_lt.mpr c13)]), rfl⟩
  · skip
    refine z_iload_n 7 C dX7_clamp_7 1 rfl ?_
    refine z_iret 8 C dX7_clamp_8 ?_
    exact ⟨z_ci (by unfold z_cla; rw [if_pos (Int64.not_le.mp c3)]), rfl⟩
theorem dX7_wave_0 : decode cX7_wave 0 = .ok (.iload 4, 2) := by decide +kernel
theorem dX7_wave_2 : decode cX7_wave 2 = .ok (.bipush 24, 2) := by decide +kernel
theorem dX7_wave_4 : decode cX7_wave 4 = .ok (.invokestatic 368, 3) := by decide +kernel
theorem dX7_wave_7 : decode cX7_wave 7 = .ok (.istore 5, 2) := by decide +kernel
theorem dX7_wave_9 : decode cX7_wave 9 = .ok (.lload_n 0, 1) := by decide +kernel
theorem dX7_wave_10 : decode cX7_wave 10 = .ok (.getstatic 371, 3) := by decide +kernel
theorem dX7_wave_13 : decode cX7_wave 13 = .ok (.iload 5, 2) := by decide +kernel
theorem dX7_wave_15 : decode cX7_wave 15 = .ok (.iaload, 1) := by decide +kernel
theorem dX7_wave_16 : decode cX7_wave 16 = .ok (.i2l, 1) := by decide +kernel
theorem dX7_wave_17 : decode cX7_wave 17 = .ok (.lmul, 1) := by decide +kernel
theorem dX7_wave_18 : decode cX7_wave 18 = .ok (.lload_n 2, 1) := by decide +kernel
theorem dX7_wave_19 : decode cX7_wave 19 = .ok (.getstatic 377, 3) := by decide +kernel
theorem dX7_wave_22 : decode cX7_wave 22 = .ok (.iload 5, 2) := by decide +kernel
theorem dX7_wave_24 : decode cX7_wave 24 = .ok (.iaload, 1) := by decide +kernel
theorem dX7_wave_25 : decode cX7_wave 25 = .ok (.i2l, 1) := by decide +kernel
theorem dX7_wave_26 : decode cX7_wave 26 = .ok (.lmul, 1) := by decide +kernel
theorem dX7_wave_27 : decode cX7_wave 27 = .ok (.ladd, 1) := by decide +kernel
theorem dX7_wave_28 : decode cX7_wave 28 = .ok (.ldc2_w 297, 3) := by decide +kernel
theorem dX7_wave_31 : decode cX7_wave 31 = .ok (.invokestatic 374, 3) := by decide +kernel
theorem dX7_wave_34 : decode cX7_wave 34 = .ok (.lreturn, 1) := by decide +kernel
set_option maxRecDepth 100000 in
set_option maxHeartbeats 4000000 in
theorem m_X7_wave {l : Launch} {G : z_Gl} {σ : z_St} (a b : Int64) (x : Int32) : z_M l G yX7_wave cX7_wave 6 (some .long) (z_rm 1 25) [.long a, .long b, .int x] σ (z_p1 (.long (z_wv a b (z_pm x))) σ) := by
  refine z_M.of (by decide) (Nat.le_of_ble_eq_true rfl) (fun p e s m below meth c C => ?_)
  refine z_sub [0, 1, 2] (lv1 := [(0, .long a), (2, .long b), (4, .int x)]) rfl ?_
  refine z_iload 0 C dX7_wave_0 2 rfl ?_
  refine z_bipush 2 C dX7_wave_2 (nI 24) rfl ?_
  refine z_callS 4 C (As := [.int x, .int (nI 24)]) (rest := []) (m_J9_floorMod_7cf53 x) k_J9_floorMod_7cf53 q415 ⟨rfl, rfl⟩ ⟨Nat.le_of_ble_eq_true rfl, Nat.le_of_ble_eq_true rfl⟩ rfl (Nat.le_of_ble_eq_true rfl) ⟨Nat.le_of_ble_eq_true rfl, Nat.le_of_ble_eq_true rfl⟩ rfl dX7_wave_4 (z_k1 ?_)
  refine z_istore 7 C dX7_wave_7 [(5, .int (nI (z_pm x))), (0, .long a), (2, .long b), (4, .int x)] (by decide) rfl ?_
  refine z_lload_n 9 C dX7_wave_9 1 rfl ?_
  refine z_gets 10 C 0 (by decide) q421 dX7_wave_10 ?_
  refine z_iload 13 C dX7_wave_13 0 rfl ?_
  refine z_taldN 15 C 0 (by decide) (z_pm x) rfl (show _ < 24 from (z_pm_lt x)) dX7_wave_15 ?_
  refine z_i2l 16 C dX7_wave_16 ?_
  refine z_lmul 17 C dX7_wave_17 ?_
  refine z_lload_n 18 C dX7_wave_18 2 rfl ?_
  refine z_gets 19 C 1 (by decide) q423 dX7_wave_19 ?_
  refine z_iload 22 C dX7_wave_22 0 rfl ?_
  refine z_taldN 24 C 1 (by decide) (z_pm x) rfl (show _ < 24 from (z_pm_lt x)) dX7_wave_24 ?_
  refine z_i2l 25 C dX7_wave_25 ?_
  refine z_lmul 26 C dX7_wave_26 ?_
  refine z_ladd 27 C dX7_wave_27 ?_
  refine z_ldc2 28 C dX7_wave_28 q425 ?_
  refine z_callS 31 C (As := [.long ((a * (Int32.toInt64 (z_tv 0 (z_pm x)))) + (b * (Int32.toInt64 (z_tv 1 (z_pm x))))), .long 1000000]) (rest := []) (m_J9_floorDiv_f86c9 ((a * (Int32.toInt64 (z_tv 0 (z_pm x)))) + (b * (Int32.toInt64 (z_tv 1 (z_pm x))))) 1000000 (by decide)) k_J9_floorDiv_f86c9 q426 ⟨rfl, rfl⟩ ⟨Nat.le_of_ble_eq_true rfl, Nat.le_of_ble_eq_true rfl⟩ rfl (Nat.le_of_ble_eq_true rfl) ⟨Nat.le_of_ble_eq_true rfl, Nat.le_of_ble_eq_true rfl⟩ rfl dX7_wave_31 (z_k1 ?_)
  refine z_lret 34 C dX7_wave_34 ?_
  exact ⟨rfl, rfl⟩
theorem m_X7_wave_n {l : Launch} {G : z_Gl} {σ : z_St} (a b : Int64) (n : Nat) (hn : n < 2 ^ 31) : z_M l G yX7_wave cX7_wave 6 (some .long) (z_rm 1 25) [.long a, .long b, .int (nI n)] σ (z_p1 (.long (z_wv a b (n % 24))) σ) := by
  have h := m_X7_wave (l := l) (G := G) (σ := σ) a b (nI n)
  rw [z_pm_n hn] at h
  exact h
theorem dX7_coefficient_0 : decode cX7_coefficient 0 = .ok (.iload_n 2, 1) := by decide +kernel
theorem dX7_coefficient_1 : decode cX7_coefficient 1 = .ok (.ifCond .eq 9, 3) := by decide +kernel
theorem dX7_coefficient_4 : decode cX7_coefficient 4 = .ok (.getstatic 377, 3) := by decide +kernel
theorem dX7_coefficient_7 : decode cX7_coefficient 7 = .ok (.goto 6, 3) := by decide +kernel
theorem dX7_coefficient_10 : decode cX7_coefficient 10 = .ok (.getstatic 371, 3) := by decide +kernel
theorem dX7_coefficient_13 : decode cX7_coefficient 13 = .ok (.astore_n 3, 1) := by decide +kernel
theorem dX7_coefficient_14 : decode cX7_coefficient 14 = .ok (.lconst 0, 1) := by decide +kernel
theorem dX7_coefficient_15 : decode cX7_coefficient 15 = .ok (.lstore 4, 2) := by decide +kernel
theorem dX7_coefficient_17 : decode cX7_coefficient 17 = .ok (.iconst 0, 1) := by decide +kernel
theorem dX7_coefficient_18 : decode cX7_coefficient 18 = .ok (.istore 6, 2) := by decide +kernel
theorem dX7_coefficient_20 : decode cX7_coefficient 20 = .ok (.iload 6, 2) := by decide +kernel
theorem dX7_coefficient_22 : decode cX7_coefficient 22 = .ok (.bipush 24, 2) := by decide +kernel
theorem dX7_coefficient_24 : decode cX7_coefficient 24 = .ok (.if_icmp .ge 29, 3) := by decide +kernel
theorem dX7_coefficient_27 : decode cX7_coefficient 27 = .ok (.lload 4, 2) := by decide +kernel
theorem dX7_coefficient_29 : decode cX7_coefficient 29 = .ok (.aload_n 0, 1) := by decide +kernel
theorem dX7_coefficient_30 : decode cX7_coefficient 30 = .ok (.iload 6, 2) := by decide +kernel
theorem dX7_coefficient_32 : decode cX7_coefficient 32 = .ok (.laload, 1) := by decide +kernel
theorem dX7_coefficient_33 : decode cX7_coefficient 33 = .ok (.aload_n 3, 1) := by decide +kernel
theorem dX7_coefficient_34 : decode cX7_coefficient 34 = .ok (.iload_n 1, 1) := by decide +kernel
theorem dX7_coefficient_35 : decode cX7_coefficient 35 = .ok (.iload 6, 2) := by decide +kernel
theorem dX7_coefficient_37 : decode cX7_coefficient 37 = .ok (.imul, 1) := by decide +kernel
theorem dX7_coefficient_38 : decode cX7_coefficient 38 = .ok (.invokestatic 144, 3) := by decide +kernel
theorem dX7_coefficient_41 : decode cX7_coefficient 41 = .ok (.iaload, 1) := by decide +kernel
theorem dX7_coefficient_42 : decode cX7_coefficient 42 = .ok (.i2l, 1) := by decide +kernel
theorem dX7_coefficient_43 : decode cX7_coefficient 43 = .ok (.lmul, 1) := by decide +kernel
theorem dX7_coefficient_44 : decode cX7_coefficient 44 = .ok (.ladd, 1) := by decide +kernel
theorem dX7_coefficient_45 : decode cX7_coefficient 45 = .ok (.lstore 4, 2) := by decide +kernel
theorem dX7_coefficient_47 : decode cX7_coefficient 47 = .ok (.iinc 6 1, 3) := by decide +kernel
theorem dX7_coefficient_50 : decode cX7_coefficient 50 = .ok (.goto (-30), 3) := by decide +kernel
theorem dX7_coefficient_53 : decode cX7_coefficient 53 = .ok (.lload 4, 2) := by decide +kernel
theorem dX7_coefficient_55 : decode cX7_coefficient 55 = .ok (.iload_n 1, 1) := by decide +kernel
theorem dX7_coefficient_56 : decode cX7_coefficient 56 = .ok (.ifCond .eq 9, 3) := by decide +kernel
theorem dX7_coefficient_59 : decode cX7_coefficient 59 = .ok (.iload_n 1, 1) := by decide +kernel
theorem dX7_coefficient_60 : decode cX7_coefficient 60 = .ok (.bipush 12, 2) := by decide +kernel
theorem dX7_coefficient_62 : decode cX7_coefficient 62 = .ok (.if_icmp .ne 9, 3) := by decide +kernel
theorem dX7_coefficient_65 : decode cX7_coefficient 65 = .ok (.ldc2_w 380, 3) := by decide +kernel
theorem dX7_coefficient_68 : decode cX7_coefficient 68 = .ok (.goto 6, 3) := by decide +kernel
theorem dX7_coefficient_71 : decode cX7_coefficient 71 = .ok (.ldc2_w 382, 3) := by decide +kernel
theorem dX7_coefficient_74 : decode cX7_coefficient 74 = .ok (.invokestatic 374, 3) := by decide +kernel
theorem dX7_coefficient_77 : decode cX7_coefficient 77 = .ok (.lreturn, 1) := by decide +kernel
set_option maxRecDepth 100000 in
set_option maxHeartbeats 4000000 in
theorem m_X7_coefficient {l : Launch} {G : z_Gl} {σ : z_St} (r h t : Nat) (hr : z_kd r = 2 ∧ z_sz r = 24) (hh : h ≤ 12) (ht : t < 2) : z_M l G yX7_coefficient cX7_coefficient 7 (some .long) (z_rm 2 42) [.ref (z_ad G r), .int (nI h), .int (nI t)] σ (z_p1 (.long (z_cf (σ.2 r) t h)) σ) := by
  refine z_M.of (by decide) (Nat.le_of_ble_eq_true rfl) (fun p e s m below meth c C => ?_)
  refine z_sub [0, 1, 2] (lv1 := [(0, .ref (z_ad G r)), (1, .int (nI h)), (2, .int (nI t))]) rfl ?_
  refine z_iload_n 0 C dX7_coefficient_0 2 rfl ?_
  refine z_if_eq 1 C 10 dX7_coefficient_1 (by decide) (fun c1 => ?_) (fun c1 => ?_)
  · skip
    have et : t = 0 := (z_nI0 (by omega)).mp c1
    subst et
    refine z_gets 10 C 0 (by decide) q421 dX7_coefficient_10 ?_
    refine z_astore_n 13 C dX7_coefficient_13 [(3, .ref (z_ta G 0)), (0, .ref (z_ad G r)), (1, .int (nI h)), (2, .int (nI 0))] (by decide) rfl ?_
    refine z_lconst 14 C dX7_coefficient_14 0 rfl ?_
    refine z_lstore 15 C dX7_coefficient_15 [(4, .long 0), (3, .ref (z_ta G 0)), (0, .ref (z_ad G r)), (1, .int (nI h)), (2, .int (nI 0))] (by decide) rfl ?_
    refine z_iconst 17 C dX7_coefficient_17 (nI 0) rfl ?_
    refine z_istore 18 C dX7_coefficient_18 [(6, .int (nI 0)), (4, .long 0), (3, .ref (z_ta G 0)), (0, .ref (z_ad G r)), (1, .int (nI h)), (2, .int (nI 0))] (by decide) rfl ?_
    refine z_sub [3, 4, 5, 2, 1, 0] (lv1 := [(0, .ref (z_ad G r)), (1, .int (nI h)), (2, .int (nI 0)), (3, .ref (z_ta G 0)), (4, .long 0), (6, .int (nI 0))]) rfl ?_
    refine z_cv (lv1 := [(0, .ref (z_ad G r)), (1, .int (nI h)), (2, .int (nI 0)), (3, .ref (z_ta G 0)), (4, .long (z_sm (σ.2 r) 0 h 0)), (6, .int (nI 0))]) (st1 := []) (σ1 := σ) rfl rfl rfl ?_
    refine z_lp1 (fun (k : Nat) => k ≤ 24) (fun (k : Nat) => 24 - k) (fun (k : Nat) => [(0, .ref (z_ad G r)), (1, .int (nI h)), (2, .int (nI 0)), (3, .ref (z_ta G 0)), (4, .long (z_sm (σ.2 r) 0 h k)), (6, .int (nI k))]) (fun (k : Nat) => σ) (fun k hi_20 ih_20 => ?_) 0 (by omega)
    try dsimp only
    refine z_iload 20 C dX7_coefficient_20 5 rfl ?_
    refine z_bipush 22 C dX7_coefficient_22 (nI 24) rfl ?_
    refine z_icmp_geN 24 C k 24 rfl rfl (by omega) (by omega) 53 dX7_coefficient_24 (by decide) (fun c24 => ?_) (fun c24 => ?_)
    · skip
      have ek : k = 24 := by omega
      subst ek
      refine z_lload 53 C dX7_coefficient_53 4 rfl ?_
      refine z_iload_n 55 C dX7_coefficient_55 1 rfl ?_
      refine z_if_eq 56 C 65 dX7_coefficient_56 (by decide) (fun c56 => ?_) (fun c56 => ?_)
      · skip
        refine z_ldc2 65 C dX7_coefficient_65 q571 ?_
        refine z_goto 68 C 74 dX7_coefficient_68 (by decide) ?_
        refine z_callS 74 C (As := [.long (z_sm (σ.2 r) 0 h 24), .long 24000000]) (rest := []) (m_J9_floorDiv_f86c9 (z_sm (σ.2 r) 0 h 24) 24000000 (by decide)) k_J9_floorDiv_f86c9 q426 ⟨rfl, rfl⟩ ⟨Nat.le_of_ble_eq_true rfl, Nat.le_of_ble_eq_true rfl⟩ rfl (Nat.le_of_ble_eq_true rfl) ⟨Nat.le_of_ble_eq_true rfl, Nat.le_of_ble_eq_true rfl⟩ rfl dX7_coefficient_74 (z_k1 ?_)
        refine z_lret 77 C dX7_coefficient_77 ?_
        first | exact ⟨z_cl (z_cf_1 (Or.inl ((z_nI0 (by omega)).mp c56))), rfl⟩ | exact ⟨z_cl (z_cf_1 (Or.inr c62)), rfl⟩ | exact ⟨z_cl (z_cf_2 (fun z => c56 ((z_nI0 (by omega)).mpr z)) c62), rfl⟩
      · skip
        refine z_iload_n 59 C dX7_coefficient_59 1 rfl ?_
        refine z_bipush 60 C dX7_coefficient_60 (nI 12) rfl ?_
        refine z_icmp_neN 62 C h 12 rfl rfl (by omega) (by omega) 71 dX7_coefficient_62 (by decide) (fun c62 => ?_) (fun c62 => ?_)
        · skip
          refine z_ldc2 71 C dX7_coefficient_71 q572 ?_
          refine z_callS 74 C (As := [.long (z_sm (σ.2 r) 0 h 24), .long 12000000]) (rest := []) (m_J9_floorDiv_f86c9 (z_sm (σ.2 r) 0 h 24) 12000000 (by decide)) k_J9_floorDiv_f86c9 q426 ⟨rfl, rfl⟩ ⟨Nat.le_of_ble_eq_true rfl, Nat.le_of_ble_eq_true rfl⟩ rfl (Nat.le_of_ble_eq_true rfl) ⟨Nat.le_of_ble_eq_true rfl, Nat.le_of_ble_eq_true rfl⟩ rfl dX7_coefficient_74 (z_k1 ?_)
          refine z_lret 77 C dX7_coefficient_77 ?_
          first | exact ⟨z_cl (z_cf_1 (Or.inl ((z_nI0 (by omega)).mp c56))), rfl⟩ | exact ⟨z_cl (z_cf_1 (Or.inr c62)), rfl⟩ | exact ⟨z_cl (z_cf_2 (fun z => c56 ((z_nI0 (by omega)).mpr z)) c62), rfl⟩
        · skip
          refine z_ldc2 65 C dX7_coefficient_65 q571 ?_
          refine z_goto 68 C 74 dX7_coefficient_68 (by decide) ?_
          refine z_callS 74 C (As := [.long (z_sm (σ.2 r) 0 h 24), .long 24000000]) (rest := []) (m_J9_floorDiv_f86c9 (z_sm (σ.2 r) 0 h 24) 24000000 (by decide)) k_J9_floorDiv_f86c9 q426 ⟨rfl, rfl⟩ ⟨Nat.le_of_ble_eq_true rfl, Nat.le_of_ble_eq_true rfl⟩ rfl (Nat.le_of_ble_eq_true rfl) ⟨Nat.le_of_ble_eq_true rfl, Nat.le_of_ble_eq_true rfl⟩ rfl dX7_coefficient_74 (z_k1 ?_)
          refine z_lret 77 C dX7_coefficient_77 ?_
          first | exact ⟨z_cl (z_cf_1 (Or.inl ((z_nI0 (by omega)).mp c56))), rfl⟩ | exact ⟨z_cl (z_cf_1 (Or.inr c62)), rfl⟩ | exact ⟨z_cl (z_cf_2 (fun z => c56 ((z_nI0 (by omega)).mpr z)) c62), rfl⟩
    · skip
      refine z_lload 27 C dX7_coefficient_27 4 rfl ?_
      refine z_aload_n 29 C dX7_coefficient_29 0 rfl ?_
      refine z_iload 30 C dX7_coefficient_30 5 rfl ?_
      refine z_laldN 32 C r (n := 24) (hr) k rfl (by omega) (by decide) dX7_coefficient_32 ?_
      refine z_aload_n 33 C dX7_coefficient_33 3 rfl ?_
      refine z_iload_n 34 C dX7_coefficient_34 1 rfl ?_
      refine z_iload 35 C dX7_coefficient_35 5 rfl ?_
      refine z_imulN 37 C h k rfl rfl dX7_coefficient_37 ?_
      have hhk : h * k ≤ 12 * 24 := Nat.mul_le_mul hh (by omega)
      refine z_callS 38 C (As := [.int (nI (h * k))]) (rest := [.ref (z_ta G 0), .long (σ.2 r k), .long (z_sm (σ.2 r) 0 h k)]) (m_X7_place_n (h * k) (by omega)) k_X7_place q563 ⟨rfl, rfl⟩ ⟨Nat.le_of_ble_eq_true rfl, Nat.le_of_ble_eq_true rfl⟩ rfl (Nat.le_of_ble_eq_true rfl) ⟨Nat.le_of_ble_eq_true rfl, Nat.le_of_ble_eq_true rfl⟩ rfl dX7_coefficient_38 (z_k1 ?_)
      refine z_taldN 41 C 0 (by decide) ((h * k) % 24) rfl (show _ < 24 from (by omega)) dX7_coefficient_41 ?_
      refine z_i2l 42 C dX7_coefficient_42 ?_
      refine z_lmul 43 C dX7_coefficient_43 ?_
      refine z_ladd 44 C dX7_coefficient_44 ?_
      refine z_lstore 45 C dX7_coefficient_45 [(4, .long ((z_sm (σ.2 r) 0 h k) + ((σ.2 r k) * (Int32.toInt64 (z_tv 0 ((h * k) % 24)))))), (0, .ref (z_ad G r)), (1, .int (nI h)), (2, .int (nI 0)), (3, .ref (z_ta G 0)), (6, .int (nI k))] (by decide) rfl ?_
      refine z_iincN 47 C 5 k [(6, .int (nI (k + 1))), (4, .long ((z_sm (σ.2 r) 0 h k) + ((σ.2 r k) * (Int32.toInt64 (z_tv 0 ((h * k) % 24)))))), (0, .ref (z_ad G r)), (1, .int (nI h)), (2, .int (nI 0)), (3, .ref (z_ta G 0))] rfl rfl (by decide) rfl dX7_coefficient_47 ?_
      refine z_goto 50 C 20 dX7_coefficient_50 (by decide) ?_
      refine z_sub [2, 3, 4, 5, 1, 0] (lv1 := [(0, .ref (z_ad G r)), (1, .int (nI h)), (2, .int (nI 0)), (3, .ref (z_ta G 0)), (4, .long ((z_sm (σ.2 r) 0 h k) + ((σ.2 r k) * (Int32.toInt64 (z_tv 0 ((h * k) % 24)))))), (6, .int (nI (k + 1)))]) rfl ?_
      refine z_cv (lv1 := [(0, .ref (z_ad G r)), (1, .int (nI h)), (2, .int (nI 0)), (3, .ref (z_ta G 0)), (4, .long (z_sm (σ.2 r) 0 h (k + 1))), (6, .int (nI (k + 1)))]) (st1 := []) (σ1 := σ) rfl rfl rfl ?_
      exact ih_20 (k + 1) (by omega) (by omega)
  · skip
    have et : t = 1 := by
      have : ¬ t = 0 := fun z => c1 ((z_nI0 (t := t) (by omega)).mpr z)
      omega
    subst et
    refine z_gets 4 C 1 (by decide) q423 dX7_coefficient_4 ?_
    refine z_goto 7 C 13 dX7_coefficient_7 (by decide) ?_
    refine z_astore_n 13 C dX7_coefficient_13 [(3, .ref (z_ta G 1)), (0, .ref (z_ad G r)), (1, .int (nI h)), (2, .int (nI 1))] (by decide) rfl ?_
    refine z_lconst 14 C dX7_coefficient_14 0 rfl ?_
    refine z_lstore 15 C dX7_coefficient_15 [(4, .long 0), (3, .ref (z_ta G 1)), (0, .ref (z_ad G r)), (1, .int (nI h)), (2, .int (nI 1))] (by decide) rfl ?_
    refine z_iconst 17 C dX7_coefficient_17 (nI 0) rfl ?_
    refine z_istore 18 C dX7_coefficient_18 [(6, .int (nI 0)), (4, .long 0), (3, .ref (z_ta G 1)), (0, .ref (z_ad G r)), (1, .int (nI h)), (2, .int (nI 1))] (by decide) rfl ?_
    refine z_sub [3, 4, 5, 2, 1, 0] (lv1 := [(0, .ref (z_ad G r)), (1, .int (nI h)), (2, .int (nI 1)), (3, .ref (z_ta G 1)), (4, .long 0), (6, .int (nI 0))]) rfl ?_
    refine z_cv (lv1 := [(0, .ref (z_ad G r)), (1, .int (nI h)), (2, .int (nI 1)), (3, .ref (z_ta G 1)), (4, .long (z_sm (σ.2 r) 1 h 0)), (6, .int (nI 0))]) (st1 := []) (σ1 := σ) rfl rfl rfl ?_
    refine z_lp1 (fun (k : Nat) => k ≤ 24) (fun (k : Nat) => 24 - k) (fun (k : Nat) => [(0, .ref (z_ad G r)), (1, .int (nI h)), (2, .int (nI 1)), (3, .ref (z_ta G 1)), (4, .long (z_sm (σ.2 r) 1 h k)), (6, .int (nI k))]) (fun (k : Nat) => σ) (fun k hi_20 ih_20 => ?_) 0 (by omega)
    try dsimp only
    refine z_iload 20 C dX7_coefficient_20 5 rfl ?_
    refine z_bipush 22 C dX7_coefficient_22 (nI 24) rfl ?_
    refine z_icmp_geN 24 C k 24 rfl rfl (by omega) (by omega) 53 dX7_coefficient_24 (by decide) (fun c24 => ?_) (fun c24 => ?_)
    · skip
      have ek : k = 24 := by omega
      subst ek
      refine z_lload 53 C dX7_coefficient_53 4 rfl ?_
      refine z_iload_n 55 C dX7_coefficient_55 1 rfl ?_
      refine z_if_eq 56 C 65 dX7_coefficient_56 (by decide) (fun c56 => ?_) (fun c56 => ?_)
      · skip
        refine z_ldc2 65 C dX7_coefficient_65 q571 ?_
        refine z_goto 68 C 74 dX7_coefficient_68 (by decide) ?_
        refine z_callS 74 C (As := [.long (z_sm (σ.2 r) 1 h 24), .long 24000000]) (rest := []) (m_J9_floorDiv_f86c9 (z_sm (σ.2 r) 1 h 24) 24000000 (by decide)) k_J9_floorDiv_f86c9 q426 ⟨rfl, rfl⟩ ⟨Nat.le_of_ble_eq_true rfl, Nat.le_of_ble_eq_true rfl⟩ rfl (Nat.le_of_ble_eq_true rfl) ⟨Nat.le_of_ble_eq_true rfl, Nat.le_of_ble_eq_true rfl⟩ rfl dX7_coefficient_74 (z_k1 ?_)
        refine z_lret 77 C dX7_coefficient_77 ?_
        first | exact ⟨z_cl (z_cf_1 (Or.inl ((z_nI0 (by omega)).mp c56))), rfl⟩ | exact ⟨z_cl (z_cf_1 (Or.inr c62)), rfl⟩ | exact ⟨z_cl (z_cf_2 (fun z => c56 ((z_nI0 (by omega)).mpr z)) c62), rfl⟩
      · skip
        refine z_iload_n 59 C dX7_coefficient_59 1 rfl ?_
        refine z_bipush 60 C dX7_coefficient_60 (nI 12) rfl ?_
        refine z_icmp_neN 62 C h 12 rfl rfl (by omega) (by omega) 71 dX7_coefficient_62 (by decide) (fun c62 => ?_) (fun c62 => ?_)
        · skip
          refine z_ldc2 71 C dX7_coefficient_71 q572 ?_
          refine z_callS 74 C (As := [.long (z_sm (σ.2 r) 1 h 24), .long 12000000]) (rest := []) (m_J9_floorDiv_f86c9 (z_sm (σ.2 r) 1 h 24) 12000000 (by decide)) k_J9_floorDiv_f86c9 q426 ⟨rfl, rfl⟩ ⟨Nat.le_of_ble_eq_true rfl, Nat.le_of_ble_eq_true rfl⟩ rfl (Nat.le_of_ble_eq_true rfl) ⟨Nat.le_of_ble_eq_true rfl, Nat.le_of_ble_eq_true rfl⟩ rfl dX7_coefficient_74 (z_k1 ?_)
          refine z_lret 77 C dX7_coefficient_77 ?_
          first | exact ⟨z_cl (z_cf_1 (Or.inl ((z_nI0 (by omega)).mp c56))), rfl⟩ | exact ⟨z_cl (z_cf_1 (Or.inr c62)), rfl⟩ | exact ⟨z_cl (z_cf_2 (fun z => c56 ((z_nI0 (by omega)).mpr z)) c62), rfl⟩
        · skip
          refine z_ldc2 65 C dX7_coefficient_65 q571 ?_
          refine z_goto 68 C 74 dX7_coefficient_68 (by decide) ?_
          refine z_callS 74 C (As := [.long (z_sm (σ.2 r) 1 h 24), .long 24000000]) (rest := []) (m_J9_floorDiv_f86c9 (z_sm (σ.2 r) 1 h 24) 24000000 (by decide)) k_J9_floorDiv_f86c9 q426 ⟨rfl, rfl⟩ ⟨Nat.le_of_ble_eq_true rfl, Nat.le_of_ble_eq_true rfl⟩ rfl (Nat.le_of_ble_eq_true rfl) ⟨Nat.le_of_ble_eq_true rfl, Nat.le_of_ble_eq_true rfl⟩ rfl dX7_coefficient_74 (z_k1 ?_)
          refine z_lret 77 C dX7_coefficient_77 ?_
          first | exact ⟨z_cl (z_cf_1 (Or.inl ((z_nI0 (by omega)).mp c56))), rfl⟩ | exact ⟨z_cl (z_cf_1 (Or.inr c62)), rfl⟩ | exact ⟨z_cl (z_cf_2 (fun z => c56 ((z_nI0 (by omega)).mpr z)) c62), rfl⟩
    · skip
      refine z_lload 27 C dX7_coefficient_27 4 rfl ?_
      refine z_aload_n 29 C dX7_coefficient_29 0 rfl ?_
      refine z_iload 30 C dX7_coefficient_30 5 rfl ?_
      refine z_laldN 32 C r (n := 24) (hr) k rfl (by omega) (by decide) dX7_coefficient_32 ?_
      refine z_aload_n 33 C dX7_coefficient_33 3 rfl ?_
      refine z_iload_n 34 C dX7_coefficient_34 1 rfl ?_
      refine z_iload 35 C dX7_coefficient_35 5 rfl ?_
      refine z_imulN 37 C h k rfl rfl dX7_coefficient_37 ?_
      have hhk : h * k ≤ 12 * 24 := Nat.mul_le_mul hh (by omega)
      refine z_callS 38 C (As := [.int (nI (h * k))]) (rest := [.ref (z_ta G 1), .long (σ.2 r k), .long (z_sm (σ.2 r) 1 h k)]) (m_X7_place_n (h * k) (by omega)) k_X7_place q563 ⟨rfl, rfl⟩ ⟨Nat.le_of_ble_eq_true rfl, Nat.le_of_ble_eq_true rfl⟩ rfl (Nat.le_of_ble_eq_true rfl) ⟨Nat.le_of_ble_eq_true rfl, Nat.le_of_ble_eq_true rfl⟩ rfl dX7_coefficient_38 (z_k1 ?_)
      refine z_taldN 41 C 1 (by decide) ((h * k) % 24) rfl (show _ < 24 from (by omega)) dX7_coefficient_41 ?_
      refine z_i2l 42 C dX7_coefficient_42 ?_
      refine z_lmul 43 C dX7_coefficient_43 ?_
      refine z_ladd 44 C dX7_coefficient_44 ?_
      refine z_lstore 45 C dX7_coefficient_45 [(4, .long ((z_sm (σ.2 r) 1 h k) + ((σ.2 r k) * (Int32.toInt64 (z_tv 1 ((h * k) % 24)))))), (0, .ref (z_ad G r)), (1, .int (nI h)), (2, .int (nI 1)), (3, .ref (z_ta G 1)), (6, .int (nI k))] (by decide) rfl ?_
      refine z_iincN 47 C 5 k [(6, .int (nI (k + 1))), (4, .long ((z_sm (σ.2 r) 1 h k) + ((σ.2 r k) * (Int32.toInt64 (z_tv 1 ((h * k) % 24)))))), (0, .ref (z_ad G r)), (1, .int (nI h)), (2, .int (nI 1)), (3, .ref (z_ta G 1))] rfl rfl (by decide) rfl dX7_coefficient_47 ?_
      refine z_goto 50 C 20 dX7_coefficient_50 (by decide) ?_
      refine z_sub [2, 3, 4, 5, 1, 0] (lv1 := [(0, .ref (z_ad G r)), (1, .int (nI h)), (2, .int (nI 1)), (3, .ref (z_ta G 1)), (4, .long ((z_sm (σ.2 r) 1 h k) + ((σ.2 r k) * (Int32.toInt64 (z_tv 1 ((h * k) % 24)))))), (6, .int (nI (k + 1)))]) rfl ?_
      refine z_cv (lv1 := [(0, .ref (z_ad G r)), (1, .int (nI h)), (2, .int (nI 1)), (3, .ref (z_ta G 1)), (4, .long (z_sm (σ.2 r) 1 h (k + 1))), (6, .int (nI (k + 1)))]) (st1 := []) (σ1 := σ) rfl rfl rfl ?_
      exact ih_20 (k + 1) (by omega) (by omega)
theorem dX7_isSame_0 : decode cX7_isSame 0 = .ok (.iconst 0, 1) := by decide +kernel
theorem dX7_isSame_1 : decode cX7_isSame 1 = .ok (.istore_n 2, 1) := by decide +kernel
theorem dX7_isSame_2 : decode cX7_isSame 2 = .ok (.iload_n 2, 1) := by decide +kernel
theorem dX7_isSame_3 : decode cX7_isSame 3 = .ok (.bipush 24, 2) := by decide +kernel
theorem dX7_isSame_5 : decode cX7_isSame 5 = .ok (.if_icmp .ge 21, 3) := by decide +kernel
theorem dX7_isSame_8 : decode cX7_isSame 8 = .ok (.aload_n 0, 1) := by decide +kernel
theorem dX7_isSame_9 : decode cX7_isSame 9 = .ok (.iload_n 2, 1) := by decide +kernel
theorem dX7_isSame_10 : decode cX7_isSame 10 = .ok (.laload, 1) := by decide +kernel
theorem dX7_isSame_11 : decode cX7_isSame 11 = .ok (.aload_n 1, 1) := by decide +kernel
theorem dX7_isSame_12 : decode cX7_isSame 12 = .ok (.iload_n 2, 1) := by decide +kernel
theorem dX7_isSame_13 : decode cX7_isSame 13 = .ok (.laload, 1) := by decide +kernel
theorem dX7_isSame_14 : decode cX7_isSame 14 = .ok (.lcmp, 1) := by decide +kernel
theorem dX7_isSame_15 : decode cX7_isSame 15 = .ok (.ifCond .eq 5, 3) := by decide +kernel
theorem dX7_isSame_18 : decode cX7_isSame 18 = .ok (.iconst 0, 1) := by decide +kernel
theorem dX7_isSame_19 : decode cX7_isSame 19 = .ok (.ireturn, 1) := by decide +kernel
theorem dX7_isSame_20 : decode cX7_isSame 20 = .ok (.iinc 2 1, 3) := by decide +kernel
theorem dX7_isSame_23 : decode cX7_isSame 23 = .ok (.goto (-21), 3) := by decide +kernel
theorem dX7_isSame_26 : decode cX7_isSame 26 = .ok (.iconst 1, 1) := by decide +kernel
theorem dX7_isSame_27 : decode cX7_isSame 27 = .ok (.ireturn, 1) := by decide +kernel
set_option maxRecDepth 100000 in
set_option maxHeartbeats 4000000 in
theorem m_X7_isSame {l : Launch} {G : z_Gl} {σ : z_St} (r q : Nat) (hr : z_kd r = 2 ∧ z_sz r = 24) (hq : z_kd q = 2 ∧ z_sz q = 24) : z_M l G yX7_isSame cX7_isSame 3 (some .boolean) (z_rm 0 0) [.ref (z_ad G r), .ref (z_ad G q)] σ (z_p1 (.int (z_bo (z_eq24 (σ.2 r) (σ.2 q)))) σ) := by
  refine z_M.of (by decide) (Nat.le_of_ble_eq_true rfl) (fun p e s m below meth c C => ?_)
  refine z_sub [0, 1] (lv1 := [(0, .ref (z_ad G r)), (1, .ref (z_ad G q))]) rfl ?_
  refine z_iconst 0 C dX7_isSame_0 (nI 0) rfl ?_
  refine z_istore_n 1 C dX7_isSame_1 [(2, .int (nI 0)), (0, .ref (z_ad G r)), (1, .ref (z_ad G q))] (by decide) rfl ?_
  refine z_sub [1, 2, 0] (lv1 := [(0, .ref (z_ad G r)), (1, .ref (z_ad G q)), (2, .int (nI 0))]) rfl ?_
  refine z_cv (lv1 := [(0, .ref (z_ad G r)), (1, .ref (z_ad G q)), (2, .int (nI 0))]) (st1 := []) (σ1 := σ) rfl rfl rfl ?_
  refine z_lp1 (fun (k : Nat) => k ≤ 24 ∧ ∀ j, j < k → σ.2 r j = σ.2 q j) (fun (k : Nat) => 24 - k) (fun (k : Nat) => [(0, .ref (z_ad G r)), (1, .ref (z_ad G q)), (2, .int (nI k))]) (fun (k : Nat) => σ) (fun k hi_2 ih_2 => ?_) 0 (⟨by omega, fun j h => absurd h (Nat.not_lt_zero j)⟩)
  try dsimp only
  obtain ⟨hk, hj⟩ := hi_2
  refine z_iload_n 2 C dX7_isSame_2 2 rfl ?_
  refine z_bipush 3 C dX7_isSame_3 (nI 24) rfl ?_
  refine z_icmp_geN 5 C k 24 rfl rfl (by omega) (by omega) 26 dX7_isSame_5 (by decide) (fun c5 => ?_) (fun c5 => ?_)
  · skip
    have ek : k = 24 := by omega
    subst ek
    refine z_iconst 26 C dX7_isSame_26 (nI 1) rfl ?_
    refine z_zret 27 C (rfl) dX7_isSame_27 ?_
    exact ⟨z_ci (z_bo_t hj), rfl⟩
  · skip
    refine z_aload_n 8 C dX7_isSame_8 0 rfl ?_
    refine z_iload_n 9 C dX7_isSame_9 2 rfl ?_
    refine z_laldN 10 C r (n := 24) (hr) k rfl (by omega) (by decide) dX7_isSame_10 ?_
    refine z_aload_n 11 C dX7_isSame_11 1 rfl ?_
    refine z_iload_n 12 C dX7_isSame_12 2 rfl ?_
    refine z_laldN 13 C q (n := 24) (hq) k rfl (by omega) (by decide) dX7_isSame_13 ?_
    refine z_lcmp_eq 14 C 20 dX7_isSame_14 dX7_isSame_15 (by decide) (fun c14 => ?_) (fun c14 => ?_)
    · skip
      refine z_iincN 20 C 2 k [(2, .int (nI (k + 1))), (0, .ref (z_ad G r)), (1, .ref (z_ad G q))] rfl rfl (by decide) rfl dX7_isSame_20 ?_
      refine z_goto 23 C 2 dX7_isSame_23 (by decide) ?_
      refine z_sub [1, 2, 0] (lv1 := [(0, .ref (z_ad G r)), (1, .ref (z_ad G q)), (2, .int (nI (k + 1)))]) rfl ?_
      refine z_cv (lv1 := [(0, .ref (z_ad G r)), (1, .ref (z_ad G q)), (2, .int (nI (k + 1)))]) (st1 := []) (σ1 := σ) rfl rfl rfl ?_
      exact ih_2 (k + 1) (⟨by omega, lt_s hj c14⟩) (by omega)
    · skip
      refine z_iconst 18 C dX7_isSame_18 (nI 0) rfl ?_
      refine z_zret 19 C (rfl) dX7_isSame_19 ?_
      exact ⟨z_ci (z_bo_f (fun z => c14 (z k c5))), rfl⟩
theorem dX7_strengthOf_0 : decode cX7_strengthOf 0 = .ok (.aload_n 0, 1) := by decide +kernel
theorem dX7_strengthOf_1 : decode cX7_strengthOf 1 = .ok (.iload_n 1, 1) := by decide +kernel
theorem dX7_strengthOf_2 : decode cX7_strengthOf 2 = .ok (.iconst 0, 1) := by decide +kernel
theorem dX7_strengthOf_3 : decode cX7_strengthOf 3 = .ok (.invokestatic 147, 3) := by decide +kernel
theorem dX7_strengthOf_6 : decode cX7_strengthOf 6 = .ok (.invokestatic 334, 3) := by decide +kernel
theorem dX7_strengthOf_9 : decode cX7_strengthOf 9 = .ok (.aload_n 0, 1) := by decide +kernel
theorem dX7_strengthOf_10 : decode cX7_strengthOf 10 = .ok (.iload_n 1, 1) := by decide +kernel
theorem dX7_strengthOf_11 : decode cX7_strengthOf 11 = .ok (.iconst 1, 1) := by decide +kernel
theorem dX7_strengthOf_12 : decode cX7_strengthOf 12 = .ok (.invokestatic 147, 3) := by decide +kernel
theorem dX7_strengthOf_15 : decode cX7_strengthOf 15 = .ok (.invokestatic 334, 3) := by decide +kernel
theorem dX7_strengthOf_18 : decode cX7_strengthOf 18 = .ok (.ladd, 1) := by decide +kernel
theorem dX7_strengthOf_19 : decode cX7_strengthOf 19 = .ok (.lreturn, 1) := by decide +kernel
set_option maxRecDepth 100000 in
set_option maxHeartbeats 4000000 in
theorem m_X7_strengthOf {l : Launch} {G : z_Gl} {σ : z_St} (r h : Nat) (hr : z_kd r = 2 ∧ z_sz r = 24) (hh : h ≤ 12) : z_M l G yX7_strengthOf cX7_strengthOf 2 (some .long) (z_rm 3 68) [.ref (z_ad G r), .int (nI h)] σ (z_p1 (.long (z_sg (σ.2 r) h)) σ) := by
  refine z_M.of (by decide) (Nat.le_of_ble_eq_true rfl) (fun p e s m below meth c C => ?_)
  refine z_sub [0, 1] (lv1 := [(0, .ref (z_ad G r)), (1, .int (nI h))]) rfl ?_
  refine z_aload_n 0 C dX7_strengthOf_0 0 rfl ?_
  refine z_iload_n 1 C dX7_strengthOf_1 1 rfl ?_
  refine z_iconst 2 C dX7_strengthOf_2 (nI 0) rfl ?_
  refine z_callS 3 C (As := [.ref (z_ad G r), .int (nI h), .int (nI 0)]) (rest := []) (m_X7_coefficient r h 0 (hr) (by omega) (by omega)) k_X7_coefficient q568 ⟨rfl, rfl⟩ ⟨Nat.le_of_ble_eq_true rfl, Nat.le_of_ble_eq_true rfl⟩ rfl (Nat.le_of_ble_eq_true rfl) ⟨Nat.le_of_ble_eq_true rfl, Nat.le_of_ble_eq_true rfl⟩ rfl dX7_strengthOf_3 (z_k1 ?_)
  refine z_callS 6 C (As := [.long (z_cf (σ.2 r) 0 h)]) (rest := []) (m_J9_abs_067f4 (z_cf (σ.2 r) 0 h)) k_J9_abs_067f4 q592 ⟨rfl, rfl⟩ ⟨Nat.le_of_ble_eq_true rfl, Nat.le_of_ble_eq_true rfl⟩ rfl (Nat.le_of_ble_eq_true rfl) ⟨Nat.le_of_ble_eq_true rfl, Nat.le_of_ble_eq_true rfl⟩ rfl dX7_strengthOf_6 (z_k1 ?_)
  refine z_aload_n 9 C dX7_strengthOf_9 0 rfl ?_
  refine z_iload_n 10 C dX7_strengthOf_10 1 rfl ?_
  refine z_iconst 11 C dX7_strengthOf_11 (nI 1) rfl ?_
  refine z_callS 12 C (As := [.ref (z_ad G r), .int (nI h), .int (nI 1)]) (rest := [.long (z_ab (z_cf (σ.2 r) 0 h))]) (m_X7_coefficient r h 1 (hr) (by omega) (by omega)) k_X7_coefficient q568 ⟨rfl, rfl⟩ ⟨Nat.le_of_ble_eq_true rfl, Nat.le_of_ble_eq_true rfl⟩ rfl (Nat.le_of_ble_eq_true rfl) ⟨Nat.le_of_ble_eq_true rfl, Nat.le_of_ble_eq_true rfl⟩ rfl dX7_strengthOf_12 (z_k1 ?_)
  refine z_callS 15 C (As := [.long (z_cf (σ.2 r) 1 h)]) (rest := [.long (z_ab (z_cf (σ.2 r) 0 h))]) (m_J9_abs_067f4 (z_cf (σ.2 r) 1 h)) k_J9_abs_067f4 q592 ⟨rfl, rfl⟩ ⟨Nat.le_of_ble_eq_true rfl, Nat.le_of_ble_eq_true rfl⟩ rfl (Nat.le_of_ble_eq_true rfl) ⟨Nat.le_of_ble_eq_true rfl, Nat.le_of_ble_eq_true rfl⟩ rfl dX7_strengthOf_15 (z_k1 ?_)
  refine z_ladd 18 C dX7_strengthOf_18 ?_
  refine z_lret 19 C dX7_strengthOf_19 ?_
  exact ⟨rfl, rfl⟩
theorem dX7_copyLobes_0 : decode cX7_copyLobes 0 = .ok (.iconst 0, 1) := by decide +kernel
theorem dX7_copyLobes_1 : decode cX7_copyLobes 1 = .ok (.istore 4, 2) := by decide +kernel
theorem dX7_copyLobes_3 : decode cX7_copyLobes 3 = .ok (.iload 4, 2) := by decide +kernel
theorem dX7_copyLobes_5 : decode cX7_copyLobes 5 = .ok (.bipush 24, 2) := by decide +kernel
theorem dX7_copyLobes_7 : decode cX7_copyLobes 7 = .ok (.if_icmp .ge 14, 3) := by decide +kernel
theorem dX7_copyLobes_10 : decode cX7_copyLobes 10 = .ok (.aload_n 3, 1) := by decide +kernel
theorem dX7_copyLobes_11 : decode cX7_copyLobes 11 = .ok (.iload 4, 2) := by decide +kernel
theorem dX7_copyLobes_13 : decode cX7_copyLobes 13 = .ok (.lconst 0, 1) := by decide +kernel
theorem dX7_copyLobes_14 : decode cX7_copyLobes 14 = .ok (.lastore, 1) := by decide +kernel
theorem dX7_copyLobes_15 : decode cX7_copyLobes 15 = .ok (.iinc 4 1, 3) := by decide +kernel
theorem dX7_copyLobes_18 : decode cX7_copyLobes 18 = .ok (.goto (-15), 3) := by decide +kernel
theorem dX7_copyLobes_21 : decode cX7_copyLobes 21 = .ok (.iload_n 1, 1) := by decide +kernel
theorem dX7_copyLobes_22 : decode cX7_copyLobes 22 = .ok (.istore 4, 2) := by decide +kernel
theorem dX7_copyLobes_24 : decode cX7_copyLobes 24 = .ok (.iload 4, 2) := by decide +kernel
theorem dX7_copyLobes_26 : decode cX7_copyLobes 26 = .ok (.iload_n 2, 1) := by decide +kernel
theorem dX7_copyLobes_27 : decode cX7_copyLobes 27 = .ok (.if_icmp .gt 62, 3) := by decide +kernel
theorem dX7_copyLobes_30 : decode cX7_copyLobes 30 = .ok (.aload_n 0, 1) := by decide +kernel
theorem dX7_copyLobes_31 : decode cX7_copyLobes 31 = .ok (.iload 4, 2) := by decide +kernel
theorem dX7_copyLobes_33 : decode cX7_copyLobes 33 = .ok (.iconst 0, 1) := by decide +kernel
theorem dX7_copyLobes_34 : decode cX7_copyLobes 34 = .ok (.invokestatic 147, 3) := by decide +kernel
theorem dX7_copyLobes_37 : decode cX7_copyLobes 37 = .ok (.lstore 5, 2) := by decide +kernel
theorem dX7_copyLobes_39 : decode cX7_copyLobes 39 = .ok (.aload_n 0, 1) := by decide +kernel
theorem dX7_copyLobes_40 : decode cX7_copyLobes 40 = .ok (.iload 4, 2) := by decide +kernel
theorem dX7_copyLobes_42 : decode cX7_copyLobes 42 = .ok (.iconst 1, 1) := by decide +kernel
theorem dX7_copyLobes_43 : decode cX7_copyLobes 43 = .ok (.invokestatic 147, 3) := by decide +kernel
theorem dX7_copyLobes_46 : decode cX7_copyLobes 46 = .ok (.lstore 7, 2) := by decide +kernel
theorem dX7_copyLobes_48 : decode cX7_copyLobes 48 = .ok (.iconst 0, 1) := by decide +kernel
theorem dX7_copyLobes_49 : decode cX7_copyLobes 49 = .ok (.istore 9, 2) := by decide +kernel
theorem dX7_copyLobes_51 : decode cX7_copyLobes 51 = .ok (.iload 9, 2) := by decide +kernel
theorem dX7_copyLobes_53 : decode cX7_copyLobes 53 = .ok (.bipush 24, 2) := by decide +kernel
theorem dX7_copyLobes_55 : decode cX7_copyLobes 55 = .ok (.if_icmp .ge 28, 3) := by decide +kernel
theorem dX7_copyLobes_58 : decode cX7_copyLobes 58 = .ok (.aload_n 3, 1) := by decide +kernel
theorem dX7_copyLobes_59 : decode cX7_copyLobes 59 = .ok (.iload 9, 2) := by decide +kernel
theorem dX7_copyLobes_61 : decode cX7_copyLobes 61 = .ok (.dup2, 1) := by decide +kernel
theorem dX7_copyLobes_62 : decode cX7_copyLobes 62 = .ok (.laload, 1) := by decide +kernel
theorem dX7_copyLobes_63 : decode cX7_copyLobes 63 = .ok (.lload 5, 2) := by decide +kernel
theorem dX7_copyLobes_65 : decode cX7_copyLobes 65 = .ok (.lload 7, 2) := by decide +kernel
theorem dX7_copyLobes_67 : decode cX7_copyLobes 67 = .ok (.iload 4, 2) := by decide +kernel
theorem dX7_copyLobes_69 : decode cX7_copyLobes 69 = .ok (.iload 9, 2) := by decide +kernel
theorem dX7_copyLobes_71 : decode cX7_copyLobes 71 = .ok (.imul, 1) := by decide +kernel
theorem dX7_copyLobes_72 : decode cX7_copyLobes 72 = .ok (.invokestatic 151, 3) := by decide +kernel
theorem dX7_copyLobes_75 : decode cX7_copyLobes 75 = .ok (.ladd, 1) := by decide +kernel
theorem dX7_copyLobes_76 : decode cX7_copyLobes 76 = .ok (.lastore, 1) := by decide +kernel
theorem dX7_copyLobes_77 : decode cX7_copyLobes 77 = .ok (.iinc 9 1, 3) := by decide +kernel
theorem dX7_copyLobes_80 : decode cX7_copyLobes 80 = .ok (.goto (-29), 3) := by decide +kernel
theorem dX7_copyLobes_83 : decode cX7_copyLobes 83 = .ok (.iinc 4 1, 3) := by decide +kernel
theorem dX7_copyLobes_86 : decode cX7_copyLobes 86 = .ok (.goto (-62), 3) := by decide +kernel
theorem dX7_copyLobes_89 : decode cX7_copyLobes 89 = .ok (.return_, 1) := by decide +kernel
set_option maxRecDepth 100000 in
set_option maxHeartbeats 4000000 in
theorem m_X7_copyLobes {l : Launch} {G : z_Gl} {σ : z_St} (r f g q : Nat) (hr : z_kd r = 2 ∧ z_sz r = 24) (hq : z_kd q = 2 ∧ z_sz q = 24) (hne : ¬ r = q) (hfg : f ≤ g) (hg : g ≤ 12) : z_M l G yX7_copyLobes cX7_copyLobes 10 none (z_rm 3 68) [.ref (z_ad G r), .int (nI f), .int (nI g), .ref (z_ad G q)] σ (z_p0 (z_uL σ q (z_fil (z_kl (σ.2 r) f (g + 1 - f)) (σ.2 q) 24))) := by
  refine z_M.of (by decide) (Nat.le_of_ble_eq_true rfl) (fun p e s m below meth c C => ?_)
  refine z_sub [0, 1, 2, 3] (lv1 := [(0, .ref (z_ad G r)), (1, .int (nI f)), (2, .int (nI g)), (3, .ref (z_ad G q))]) rfl ?_
  refine z_iconst 0 C dX7_copyLobes_0 (nI 0) rfl ?_
  refine z_istore 1 C dX7_copyLobes_1 [(4, .int (nI 0)), (0, .ref (z_ad G r)), (1, .int (nI f)), (2, .int (nI g)), (3, .ref (z_ad G q))] (by decide) rfl ?_
  refine z_sub [1, 2, 3, 4, 0] (lv1 := [(0, .ref (z_ad G r)), (1, .int (nI f)), (2, .int (nI g)), (3, .ref (z_ad G q)), (4, .int (nI 0))]) rfl ?_
  refine z_cv (lv1 := [(0, .ref (z_ad G r)), (1, .int (nI f)), (2, .int (nI g)), (3, .ref (z_ad G q)), (4, .int (nI 0))]) (st1 := []) (σ1 := z_uL σ q (z_fil (fun _ => 0) (σ.2 q) 0)) rfl rfl (z_fil0L σ q _) ?_
  refine z_lp1 (fun (k : Nat) => k ≤ 24) (fun (k : Nat) => 24 - k) (fun (k : Nat) => [(0, .ref (z_ad G r)), (1, .int (nI f)), (2, .int (nI g)), (3, .ref (z_ad G q)), (4, .int (nI k))]) (fun (k : Nat) => z_uL σ q (z_fil (fun _ => 0) (σ.2 q) k)) (fun k hi_3 ih_3 => ?_) 0 (by omega)
  try dsimp only
  refine z_iload 3 C dX7_copyLobes_3 4 rfl ?_
  refine z_bipush 5 C dX7_copyLobes_5 (nI 24) rfl ?_
  refine z_icmp_geN 7 C k 24 rfl rfl (by omega) (by omega) 21 dX7_copyLobes_7 (by decide) (fun c7 => ?_) (fun c7 => ?_)
  · skip
    have ek : k = 24 := by omega
    subst ek
    refine z_iload_n 21 C dX7_copyLobes_21 1 rfl ?_
    refine z_istore 22 C dX7_copyLobes_22 [(4, .int (nI f)), (0, .ref (z_ad G r)), (1, .int (nI f)), (2, .int (nI g)), (3, .ref (z_ad G q))] (by decide) rfl ?_
    refine z_sub [1, 2, 3, 4, 0] (lv1 := [(0, .ref (z_ad G r)), (1, .int (nI f)), (2, .int (nI g)), (3, .ref (z_ad G q)), (4, .int (nI f))]) rfl ?_
    refine z_cv (lv1 := [(0, .ref (z_ad G r)), (1, .int (nI f)), (2, .int (nI g)), (3, .ref (z_ad G q)), (4, .int (nI (f + 0)))]) (st1 := []) (σ1 := z_uL σ q (z_fil (z_kl (σ.2 r) f 0) (σ.2 q) 24)) rfl rfl rfl ?_
    refine z_lp1 (fun (d : Nat) => f + d ≤ g + 1) (fun (d : Nat) => g + 1 - (f + d)) (fun (d : Nat) => [(0, .ref (z_ad G r)), (1, .int (nI f)), (2, .int (nI g)), (3, .ref (z_ad G q)), (4, .int (nI (f + d)))]) (fun (d : Nat) => z_uL σ q (z_fil (z_kl (σ.2 r) f d) (σ.2 q) 24)) (fun d hi_24 ih_24 => ?_) 0 (by omega)
    try dsimp only
    refine z_iload 24 C dX7_copyLobes_24 4 rfl ?_
    refine z_iload_n 26 C dX7_copyLobes_26 2 rfl ?_
    refine z_icmp_gtN 27 C (f + d) g rfl rfl (by omega) (by omega) 89 dX7_copyLobes_27 (by decide) (fun c27 => ?_) (fun c27 => ?_)
    · skip
      have ed : g + 1 - f = d := by omega
      rw [ed]
      refine z_vret 89 C dX7_copyLobes_89 ?_
      exact ⟨rfl, rfl⟩
    · skip
      refine z_aload_n 30 C dX7_copyLobes_30 0 rfl ?_
      refine z_iload 31 C dX7_copyLobes_31 4 rfl ?_
      refine z_iconst 33 C dX7_copyLobes_33 (nI 0) rfl ?_
      refine z_callS 34 C (As := [.ref (z_ad G r), .int (nI (f + d)), .int (nI 0)]) (rest := []) (m_X7_coefficient (σ := z_uL σ q (z_fil (z_kl (σ.2 r) f d) (σ.2 q) 24)) r (f + d) 0 (hr) (by omega) (by omega)) k_X7_coefficient q568 ⟨rfl, rfl⟩ ⟨Nat.le_of_ble_eq_true rfl, Nat.le_of_ble_eq_true rfl⟩ rfl (Nat.le_of_ble_eq_true rfl) ⟨Nat.le_of_ble_eq_true rfl, Nat.le_of_ble_eq_true rfl⟩ rfl dX7_copyLobes_34 (z_k1 ?_)
      refine z_cv (lv1 := [(0, .ref (z_ad G r)), (1, .int (nI f)), (2, .int (nI g)), (3, .ref (z_ad G q)), (4, .int (nI (f + d)))]) (st1 := [.long (z_cf (σ.2 r) 0 (f + d))]) (σ1 := z_uL σ q (z_fil (z_kl (σ.2 r) f d) (σ.2 q) 24)) rfl (by rw [z_uL2, if_neg hne]) rfl ?_
      refine z_lstore 37 C dX7_copyLobes_37 [(5, .long (z_cf (σ.2 r) 0 (f + d))), (0, .ref (z_ad G r)), (1, .int (nI f)), (2, .int (nI g)), (3, .ref (z_ad G q)), (4, .int (nI (f + d)))] (by decide) rfl ?_
      refine z_aload_n 39 C dX7_copyLobes_39 1 rfl ?_
      refine z_iload 40 C dX7_copyLobes_40 5 rfl ?_
      refine z_iconst 42 C dX7_copyLobes_42 (nI 1) rfl ?_
      refine z_callS 43 C (As := [.ref (z_ad G r), .int (nI (f + d)), .int (nI 1)]) (rest := []) (m_X7_coefficient (σ := z_uL σ q (z_fil (z_kl (σ.2 r) f d) (σ.2 q) 24)) r (f + d) 1 (hr) (by omega) (by omega)) k_X7_coefficient q568 ⟨rfl, rfl⟩ ⟨Nat.le_of_ble_eq_true rfl, Nat.le_of_ble_eq_true rfl⟩ rfl (Nat.le_of_ble_eq_true rfl) ⟨Nat.le_of_ble_eq_true rfl, Nat.le_of_ble_eq_true rfl⟩ rfl dX7_copyLobes_43 (z_k1 ?_)
      refine z_cv (lv1 := [(5, .long (z_cf (σ.2 r) 0 (f + d))), (0, .ref (z_ad G r)), (1, .int (nI f)), (2, .int (nI g)), (3, .ref (z_ad G q)), (4, .int (nI (f + d)))]) (st1 := [.long (z_cf (σ.2 r) 1 (f + d))]) (σ1 := z_uL σ q (z_fil (z_kl (σ.2 r) f d) (σ.2 q) 24)) rfl (by rw [z_uL2, if_neg hne]) rfl ?_
      refine z_lstore 46 C dX7_copyLobes_46 [(7, .long (z_cf (σ.2 r) 1 (f + d))), (5, .long (z_cf (σ.2 r) 0 (f + d))), (0, .ref (z_ad G r)), (1, .int (nI f)), (2, .int (nI g)), (3, .ref (z_ad G q)), (4, .int (nI (f + d)))] (by decide) rfl ?_
      refine z_iconst 48 C dX7_copyLobes_48 (nI 0) rfl ?_
      refine z_istore 49 C dX7_copyLobes_49 [(9, .int (nI 0)), (7, .long (z_cf (σ.2 r) 1 (f + d))), (5, .long (z_cf (σ.2 r) 0 (f + d))), (0, .ref (z_ad G r)), (1, .int (nI f)), (2, .int (nI g)), (3, .ref (z_ad G q)), (4, .int (nI (f + d)))] (by decide) rfl ?_
      refine z_sub [3, 4, 5, 6, 7, 2, 1, 0] (lv1 := [(0, .ref (z_ad G r)), (1, .int (nI f)), (2, .int (nI g)), (3, .ref (z_ad G q)), (4, .int (nI (f + d))), (5, .long (z_cf (σ.2 r) 0 (f + d))), (7, .long (z_cf (σ.2 r) 1 (f + d))), (9, .int (nI 0))]) rfl ?_
      refine z_cv (lv1 := [(0, .ref (z_ad G r)), (1, .int (nI f)), (2, .int (nI g)), (3, .ref (z_ad G q)), (4, .int (nI (f + d))), (5, .long (z_cf (σ.2 r) 0 (f + d))), (7, .long (z_cf (σ.2 r) 1 (f + d))), (9, .int (nI 0))]) (st1 := []) (σ1 := z_uL σ q (z_fil (z_kl (σ.2 r) f (d + 1)) (z_fil (z_kl (σ.2 r) f d) (σ.2 q) 24) 0)) rfl rfl (by rw [z_fil_0]) ?_
      refine z_lp1 (fun (k : Nat) => k ≤ 24) (fun (k : Nat) => 24 - k) (fun (k : Nat) => [(0, .ref (z_ad G r)), (1, .int (nI f)), (2, .int (nI g)), (3, .ref (z_ad G q)), (4, .int (nI (f + d))), (5, .long (z_cf (σ.2 r) 0 (f + d))), (7, .long (z_cf (σ.2 r) 1 (f + d))), (9, .int (nI k))]) (fun (k : Nat) => z_uL σ q (z_fil (z_kl (σ.2 r) f (d + 1)) (z_fil (z_kl (σ.2 r) f d) (σ.2 q) 24) k)) (fun k hi_51 ih_51 => ?_) 0 (by omega)
      try dsimp only
      refine z_iload 51 C dX7_copyLobes_51 7 rfl ?_
      refine z_bipush 53 C dX7_copyLobes_53 (nI 24) rfl ?_
      refine z_icmp_geN 55 C k 24 rfl rfl (by omega) (by omega) 83 dX7_copyLobes_55 (by decide) (fun c55 => ?_) (fun c55 => ?_)
      · skip
        have ek : k = 24 := by omega
        subst ek
        refine z_cv (lv1 := [(0, .ref (z_ad G r)), (1, .int (nI f)), (2, .int (nI g)), (3, .ref (z_ad G q)), (4, .int (nI (f + d))), (5, .long (z_cf (σ.2 r) 0 (f + d))), (7, .long (z_cf (σ.2 r) 1 (f + d))), (9, .int (nI 24))]) (st1 := []) (σ1 := z_uL σ q (z_fil (z_kl (σ.2 r) f (d + 1)) (σ.2 q) 24)) rfl rfl (z_mix σ q _ _ _) ?_
        refine z_iincN 83 C 4 (f + d) [(4, .int (nI (f + d + 1))), (0, .ref (z_ad G r)), (1, .int (nI f)), (2, .int (nI g)), (3, .ref (z_ad G q)), (5, .long (z_cf (σ.2 r) 0 (f + d))), (7, .long (z_cf (σ.2 r) 1 (f + d))), (9, .int (nI 24))] rfl rfl (by decide) rfl dX7_copyLobes_83 ?_
        refine z_goto 86 C 24 dX7_copyLobes_86 (by decide) ?_
        refine z_sub [1, 2, 3, 4, 0] (lv1 := [(0, .ref (z_ad G r)), (1, .int (nI f)), (2, .int (nI g)), (3, .ref (z_ad G q)), (4, .int (nI (f + d + 1)))]) rfl ?_
        refine z_cv (lv1 := [(0, .ref (z_ad G r)), (1, .int (nI f)), (2, .int (nI g)), (3, .ref (z_ad G q)), (4, .int (nI (f + (d + 1))))]) (st1 := []) (σ1 := z_uL σ q (z_fil (z_kl (σ.2 r) f (d + 1)) (σ.2 q) 24)) rfl rfl rfl ?_
        exact ih_24 (d + 1) (by omega) (by omega)
      · skip
        refine z_aload_n 58 C dX7_copyLobes_58 3 rfl ?_
        refine z_iload 59 C dX7_copyLobes_59 7 rfl ?_
        refine z_dup2 61 C dX7_copyLobes_61 rfl rfl ?_
        refine z_laldN 62 C q (n := 24) (hq) k rfl (by omega) (by decide) dX7_copyLobes_62 ?_
        refine z_lload 63 C dX7_copyLobes_63 5 rfl ?_
        refine z_lload 65 C dX7_copyLobes_65 6 rfl ?_
        refine z_iload 67 C dX7_copyLobes_67 4 rfl ?_
        refine z_iload 69 C dX7_copyLobes_69 7 rfl ?_
        refine z_imulN 71 C (f + d) k rfl rfl dX7_copyLobes_71 ?_
        have hhk : (f + d) * k ≤ 12 * 24 := Nat.mul_le_mul (by omega) (by omega)
        refine z_callS 72 C (As := [.long (z_cf (σ.2 r) 0 (f + d)), .long (z_cf (σ.2 r) 1 (f + d)), .int (nI ((f + d) * k))]) (rest := [.long ((z_uL σ q (z_fil (z_kl (σ.2 r) f (d + 1)) (z_fil (z_kl (σ.2 r) f d) (σ.2 q) 24) k)).2 q k), .int (nI k), .ref (z_ad G q)]) (m_X7_wave_n (σ := z_uL σ q (z_fil (z_kl (σ.2 r) f (d + 1)) (z_fil (z_kl (σ.2 r) f d) (σ.2 q) 24) k)) (z_cf (σ.2 r) 0 (f + d)) (z_cf (σ.2 r) 1 (f + d)) ((f + d) * k) (by omega)) k_X7_wave q573 ⟨rfl, rfl⟩ ⟨Nat.le_of_ble_eq_true rfl, Nat.le_of_ble_eq_true rfl⟩ rfl (Nat.le_of_ble_eq_true rfl) ⟨Nat.le_of_ble_eq_true rfl, Nat.le_of_ble_eq_true rfl⟩ rfl dX7_copyLobes_72 (z_k1 ?_)
        refine z_ladd 75 C dX7_copyLobes_75 ?_
        refine z_lastN 76 C q (n := 24) (hq) k rfl (by omega) (by decide) dX7_copyLobes_76 ?_
        refine z_iincN 77 C 7 k [(9, .int (nI (k + 1))), (0, .ref (z_ad G r)), (1, .int (nI f)), (2, .int (nI g)), (3, .ref (z_ad G q)), (4, .int (nI (f + d))), (5, .long (z_cf (σ.2 r) 0 (f + d))), (7, .long (z_cf (σ.2 r) 1 (f + d)))] rfl rfl (by decide) rfl dX7_copyLobes_77 ?_
        refine z_goto 80 C 51 dX7_copyLobes_80 (by decide) ?_
        refine z_sub [1, 2, 3, 4, 5, 6, 7, 0] (lv1 := [(0, .ref (z_ad G r)), (1, .int (nI f)), (2, .int (nI g)), (3, .ref (z_ad G q)), (4, .int (nI (f + d))), (5, .long (z_cf (σ.2 r) 0 (f + d))), (7, .long (z_cf (σ.2 r) 1 (f + d))), (9, .int (nI (k + 1)))]) rfl ?_
        refine z_cv (lv1 := [(0, .ref (z_ad G r)), (1, .int (nI f)), (2, .int (nI g)), (3, .ref (z_ad G q)), (4, .int (nI (f + d))), (5, .long (z_cf (σ.2 r) 0 (f + d))), (7, .long (z_cf (σ.2 r) 1 (f + d))), (9, .int (nI (k + 1)))]) (st1 := []) (σ1 := z_uL σ q (z_fil (z_kl (σ.2 r) f (d + 1)) (z_fil (z_kl (σ.2 r) f d) (σ.2 q) 24) (k + 1))) rfl rfl (z_filSL σ q k _ _ (by rw [z_uL2, if_pos rfl, z_fil_ge (Nat.le_refl k), z_fil_lt c55]; rfl)) ?_
        exact ih_51 (k + 1) (by omega) (by omega)
  · skip
    refine z_aload_n 10 C dX7_copyLobes_10 3 rfl ?_
    refine z_iload 11 C dX7_copyLobes_11 4 rfl ?_
    refine z_lconst 13 C dX7_copyLobes_13 0 rfl ?_
    refine z_lastN 14 C q (n := 24) (hq) k rfl (by omega) (by decide) dX7_copyLobes_14 ?_
    refine z_iincN 15 C 4 k [(4, .int (nI (k + 1))), (0, .ref (z_ad G r)), (1, .int (nI f)), (2, .int (nI g)), (3, .ref (z_ad G q))] rfl rfl (by decide) rfl dX7_copyLobes_15 ?_
    refine z_goto 18 C 3 dX7_copyLobes_18 (by decide) ?_
    refine z_sub [1, 2, 3, 4, 0] (lv1 := [(0, .ref (z_ad G r)), (1, .int (nI f)), (2, .int (nI g)), (3, .ref (z_ad G q)), (4, .int (nI (k + 1)))]) rfl ?_
    refine z_cv (lv1 := [(0, .ref (z_ad G r)), (1, .int (nI f)), (2, .int (nI g)), (3, .ref (z_ad G q)), (4, .int (nI (k + 1)))]) (st1 := []) (σ1 := z_uL σ q (z_fil (fun _ => 0) (σ.2 q) (k + 1))) rfl rfl (z_filSL σ q k _ _ rfl) ?_
    exact ih_3 (k + 1) (by omega) (by omega)
