/-! THE LAW'S LOOP -/
section ZL
variable {p : Program} {l : Launch} {e : Env} {R : Room} {s : State} {m : MethodId} {args : Array Value} {below : List Frame} {meth : Method} {c : Code} {G : z_Gl} {ce sl : Nat} {Q : State → Prop} {nL : Nat} {lv : List (Nat × Value)} {st : List Value} {σ : z_St} {cc : ByteArray} {own : String} {ret : Option FieldType}
theorem z_slen (pc : Nat) (C : z_C p s m args meth c G cc nL own ret) {b L : Nat} {xs : Nat → Int32} (hX : va_X b L xs s s.heap) (hbl : b < s.heap.size) (hbA : ¬ z_A G b) (hd : decode cc pc = .ok (.arraylength, 1)) (k : z_V p l e R s m args below meth c G ce sl Q nL (pc + 1) lv (.int (Int32.ofNat L) :: st) σ) : z_V p l e R s m args below meth c G ce sl Q nL pc lv (.ref b :: st) σ := fun H locs ls h1 h2 h3 => va_slen C.1 C.2.1 hX hbl hbA h2 hd (k H locs ls h1 h2 h3)
theorem z_sld (pc : Nat) (C : z_C p s m args meth c G cc nL own ret) {b L : Nat} {xs : Nat → Int32} (hX : va_X b L xs s s.heap) (hbl : b < s.heap.size) (hbA : ¬ z_A G b) (j : Nat) (hj : j < L) (hL : L < 2 ^ 31) (hd : decode cc pc = .ok (.iaload, 1)) (k : z_V p l e R s m args below meth c G ce sl Q nL (pc + 1) lv (.int (xs j) :: st) σ) : z_V p l e R s m args below meth c G ce sl Q nL pc lv (.int (nI j) :: .ref b :: st) σ := fun H locs ls h1 h2 h3 => by
  have e : (nI j).toNatClampNeg = j := nI_clamp (by omega)
  refine va_sld C.1 C.2.1 hX hbl hbA h2 (i := nI j) (fun z => ?_) hd ?_
  · rcases z with z | z
    · exact absurd z (Int32.not_lt.mpr (zm_nn (by omega)))
    · rw [e] at z; omega
  · rw [e]
    exact k H locs ls h1 h2 h3
def z_dc (x y : UInt64) : Int32 := Op.cmpValue (FP.dcmp x y) CmpOp.l
theorem z_dcmp (pc : Nat) (C : z_C p s m args meth c G cc nL own ret) {x y : UInt64} (hd : decode cc pc = .ok (.dcmp .l, 1)) (k : z_V p l e R s m args below meth c G ce sl Q nL (pc + 1) lv (.int (z_dc x y) :: st) σ) : z_V p l e R s m args below meth c G ce sl Q nL pc lv (.double y :: .double x :: st) σ := fun H locs ls h1 h2 h3 => lv_dcmp C.1 C.2.1 hd (k H locs ls h1 h2 h3)
theorem z_f2d (pc : Nat) (C : z_C p s m args meth c G cc nL own ret) {x : UInt32} (hd : decode cc pc = .ok (.f2d, 1)) (hn : vf_n64 (FP.f2d x)) (k : z_V p l e R s m args below meth c G ce sl Q nL (pc + 1) lv (.double (FP.f2d x) :: st) σ) : z_V p l e R s m args below meth c G ce sl Q nL pc lv (.float x :: st) σ := fun H locs ls h1 h2 h3 => lv_f2d C.1 C.2.1 hd hn (k H locs ls h1 h2 h3)
end ZL
theorem zl_5 {L k : Nat} (hL : L ≤ 2560) (hk : 5 * k ≤ L) (h : ¬ (nI L - nI 5 < nI (5 * k))) : 5 * k + 5 ≤ L := by
  have e5 : (nI 5).toInt = 5 := by decide
  have eL : (nI L).toInt = L := nI_toInt (by omega)
  have ek : (nI (5 * k)).toInt = ((5 * k : Nat) : Int) := nI_toInt (by omega)
  rw [Int32.lt_iff_toInt_lt, fb_subI (by rw [eL, e5]; omega) (by rw [eL, e5]; omega), eL, e5, ek] at h
  omega
theorem zl_inc {k : Nat} (h : k < 1000) : nI (5 * k) + Int32.ofInt 5 = nI (5 * (k + 1)) := by
  have e5 : (Int32.ofInt 5).toInt = 5 := by decide
  have ek : (nI (5 * k)).toInt = ((5 * k : Nat) : Int) := nI_toInt (by omega)
  have ek1 : (nI (5 * (k + 1))).toInt = ((5 * (k + 1) : Nat) : Int) := nI_toInt (by omega)
  rw [fa_eq, fb_addI (by rw [ek, e5]; omega) (by rw [ek, e5]; omega), ek, e5, ek1]
  omega
theorem zl_tab {x : Int32} (h0 : ¬ x = (0 : Int32)) (h1 : ¬ x = (1 : Int32)) (h2 : ¬ x = (2 : Int32)) (h3 : ¬ x = (3 : Int32)) (h4 : ¬ x = (4 : Int32)) (h5 : ¬ x = (5 : Int32)) (h6 : ¬ x = (6 : Int32)) (h7 : ¬ x = (7 : Int32)) (h8 : ¬ x = (8 : Int32)) (h9 : ¬ x = (9 : Int32)) (h10 : ¬ x = (10 : Int32)) (h11 : ¬ x = (11 : Int32)) (h12 : ¬ x = (12 : Int32)) (h13 : ¬ x = (13 : Int32)) (h14 : ¬ x = (14 : Int32)) (h15 : ¬ x = (15 : Int32)) (h16 : ¬ x = (16 : Int32)) (h17 : ¬ x = (17 : Int32)) (h18 : ¬ x = (18 : Int32)) (h19 : ¬ x = (19 : Int32)) (h20 : ¬ x = (20 : Int32)) (h21 : ¬ x = (21 : Int32)) (h22 : ¬ x = (22 : Int32)) (h23 : ¬ x = (23 : Int32)) (h24 : ¬ x = (24 : Int32)) (h25 : ¬ x = (25 : Int32)) (h26 : ¬ x = (26 : Int32)) (h27 : ¬ x = (27 : Int32)) (h28 : ¬ x = (28 : Int32)) (h29 : ¬ x = (29 : Int32)) (h30 : ¬ x = (30 : Int32)) (h31 : ¬ x = (31 : Int32)) (h32 : ¬ x = (32 : Int32)) (h33 : ¬ x = (33 : Int32)) (h34 : ¬ x = (34 : Int32)) (h35 : ¬ x = (35 : Int32)) (h36 : ¬ x = (36 : Int32)) (h37 : ¬ x = (37 : Int32)) (h38 : ¬ x = (38 : Int32)) (h39 : ¬ x = (39 : Int32)) (h40 : ¬ x = (40 : Int32)) (h41 : ¬ x = (41 : Int32)) (h42 : ¬ x = (42 : Int32)) (h43 : ¬ x = (43 : Int32)) (h44 : ¬ x = (44 : Int32)) (h45 : ¬ x = (45 : Int32)) (h46 : ¬ x = (46 : Int32)) (h47 : ¬ x = (47 : Int32)) (h48 : ¬ x = (48 : Int32)) (h49 : ¬ x = (49 : Int32)) (h50 : ¬ x = (50 : Int32)) : x.toInt < 0 ∨ 50 < x.toInt := by
  by_cases q : x.toInt < 0
  · exact Or.inl q
  · right
    obtain ⟨j, hj, rfl⟩ := nI_of (x := x) (by rw [Int32.lt_iff_toInt_lt]; exact q)
    rw [nI_toInt (by omega)]
    have n : ∀ i, i < 51 → ¬ nI j = nI i → ¬ j = i := fun i _ z e => z (by rw [e])
    have k0 := n 0 (by decide) h0
    have k1 := n 1 (by decide) h1
    have k2 := n 2 (by decide) h2
    have k3 := n 3 (by decide) h3
    have k4 := n 4 (by decide) h4
    have k5 := n 5 (by decide) h5
    have k6 := n 6 (by decide) h6
    have k7 := n 7 (by decide) h7
    have k8 := n 8 (by decide) h8
    have k9 := n 9 (by decide) h9
    have k10 := n 10 (by decide) h10
    have k11 := n 11 (by decide) h11
    have k12 := n 12 (by decide) h12
    have k13 := n 13 (by decide) h13
    have k14 := n 14 (by decide) h14
    have k15 := n 15 (by decide) h15
    have k16 := n 16 (by decide) h16
    have k17 := n 17 (by decide) h17
    have k18 := n 18 (by decide) h18
    have k19 := n 19 (by decide) h19
    have k20 := n 20 (by decide) h20
    have k21 := n 21 (by decide) h21
    have k22 := n 22 (by decide) h22
    have k23 := n 23 (by decide) h23
    have k24 := n 24 (by decide) h24
    have k25 := n 25 (by decide) h25
    have k26 := n 26 (by decide) h26
    have k27 := n 27 (by decide) h27
    have k28 := n 28 (by decide) h28
    have k29 := n 29 (by decide) h29
    have k30 := n 30 (by decide) h30
    have k31 := n 31 (by decide) h31
    have k32 := n 32 (by decide) h32
    have k33 := n 33 (by decide) h33
    have k34 := n 34 (by decide) h34
    have k35 := n 35 (by decide) h35
    have k36 := n 36 (by decide) h36
    have k37 := n 37 (by decide) h37
    have k38 := n 38 (by decide) h38
    have k39 := n 39 (by decide) h39
    have k40 := n 40 (by decide) h40
    have k41 := n 41 (by decide) h41
    have k42 := n 42 (by decide) h42
    have k43 := n 43 (by decide) h43
    have k44 := n 44 (by decide) h44
    have k45 := n 45 (by decide) h45
    have k46 := n 46 (by decide) h46
    have k47 := n 47 (by decide) h47
    have k48 := n 48 (by decide) h48
    have k49 := n 49 (by decide) h49
    have k50 := n 50 (by decide) h50
    omega
theorem z_R.up1 {c : Nat} {σ : z_St} (h : z_R c σ) : z_R (c + 1) σ := by
  obtain ⟨P, n, o, u, v, w, rc, tl, h⟩ := h
  exact h.two
set_option maxRecDepth 100000 in
set_option maxHeartbeats 40000000 in
theorem law_loop {p : Program} {l : Launch} {e : Env} {s : State} {m : MethodId} {below : List Frame} {meth : Method} {c : Code} {G : z_Gl} {ce sl : Nat} {Q : State → Prop} {b L : Nat} {xs : Nat → Int32} (hL : L ≤ 2560) (C : z_C p s m #[Value.ref b] meth c G cL_law 8 RL ret) (hcs : ce ≤ room_1.cells ∧ sl ≤ room_1.slots) (hX : va_X b L xs s s.heap) (hbl : b < s.heap.size) (hbA : ¬ z_A G b) {σ : z_St} (hR : z_R 0 σ) (hend : ∀ (lv : List (Nat × Value)) (τ : z_St), z_V p l e room_1 s m #[Value.ref b] below meth c G ce sl Q 8 1789 lv [] τ) : z_V p l e room_1 s m #[Value.ref b] below meth c G ce sl Q 8 18 [(3, .int (nI 0)), (2, .ref (z_ad G 105)), (1, .ref (z_ad G 0)), (0, .ref b)] [] σ := by
  refine z_sub [3, 2, 1, 0] (lv1 := [(0, .ref b), (1, .ref (z_ad G 0)), (2, .ref (z_ad G 105)), (3, .int (nI 0))]) rfl ?_
  refine z_cv (lv1 := [(0, .ref b), (1, .ref (z_ad G 0)), (2, .ref (z_ad G 105)), (3, .int (nI (5 * 0)))]) (st1 := []) (σ1 := σ) rfl rfl rfl ?_
  refine z_lp2 (fun (k : Nat) (τ : z_St) => 5 * k ≤ L ∧ z_R k τ) (fun (k : Nat) (τ : z_St) => L + 5 - 5 * k) (fun (k : Nat) (τ : z_St) => [(0, .ref b), (1, .ref (z_ad G 0)), (2, .ref (z_ad G 105)), (3, .int (nI (5 * k)))]) (fun (k : Nat) (τ : z_St) => τ) (fun k τ hi_18 ih_18 => ?_) 0 σ (⟨by omega, hR⟩)
  try dsimp only
  obtain ⟨hi5, hRk⟩ := hi_18
  refine z_iload_n 18 C dL_law_18 3 rfl ?_
  refine z_aload_n 19 C dL_law_19 0 rfl ?_
  refine z_slen 20 C hX hbl hbA dL_law_20 ?_
  refine z_cv (st1 := [.int (nI L), .int (nI (5 * k))]) rfl rfl rfl ?_
  refine z_iconst 21 C dL_law_21 (nI 5) rfl ?_
  refine z_isub 22 C dL_law_22 ?_
  refine z_icmp_gt 23 C 1789 dL_law_23 (by decide) (fun c23 => ?_) (fun c23 => ?_)
  · skip
    exact hend _ _
  · skip
    have hk5 : 5 * k + 5 ≤ L := zl_5 hL hi5 c23
    refine z_aload_n 26 C dL_law_26 0 rfl ?_
    refine z_iload_n 27 C dL_law_27 3 rfl ?_
    refine z_sld 28 C hX hbl hbA (5 * k) (by omega) (by omega) dL_law_28 ?_
    refine z_bipush 29 C dL_law_29 (nI 63) rfl ?_
    refine z_iand 31 C dL_law_31 ?_
    by_cases e32_0 : ((xs (5 * k)) &&& (nI 63)) = (0 : Int32)
    · skip
      refine z_tabIn 32 C 252 dL_law_32 (by rw [e32_0]; decide) (by rw [e32_0]; decide) (by rw [e32_0]; rfl) (by decide) ?_
      refine z_aload_n 252 C dL_law_252 1 rfl ?_
      refine z_aload_n 253 C dL_law_253 0 rfl ?_
      refine z_iload_n 254 C dL_law_254 3 rfl ?_
      refine z_iconst 255 C dL_law_255 (nI 1) rfl ?_
      refine z_iaddN 256 C (5 * k) 1 rfl rfl dL_law_256 ?_
      refine z_sld 257 C hX hbl hbA ((5 * k) + 1) (by omega) (by omega) dL_law_257 ?_
      refine z_callV 258 C 0 (⟨rfl, rfl⟩) rfl (As := [.int (xs ((5 * k) + 1))]) (rest := []) (pr_setSteps (l := l) (G := G) hRk (xs ((5 * k) + 1))) k_X7_setSteps q364 ⟨rfl, rfl⟩ ⟨Nat.le_of_ble_eq_true rfl, Nat.le_of_ble_eq_true rfl⟩ rfl (Nat.le_of_ble_eq_true rfl) hcs rfl dL_law_258 (fun v258 σ258 hv258 => ?_)
      rcases hv258 with ⟨xx, rfl, hm⟩
      · skip
        refine z_cv (st1 := [.int xx]) rfl rfl rfl ?_
        refine z_aload_n 261 C dL_law_261 2 rfl ?_
        refine z_aload_n 262 C dL_law_262 0 rfl ?_
        refine z_iload_n 263 C dL_law_263 3 rfl ?_
        refine z_iconst 264 C dL_law_264 (nI 1) rfl ?_
        refine z_iaddN 265 C (5 * k) 1 rfl rfl dL_law_265 ?_
        refine z_sld 266 C hX hbl hbA ((5 * k) + 1) (by omega) (by omega) dL_law_266 ?_
        refine z_callV 267 C 105 (⟨rfl, rfl⟩) rfl (As := [.int (xs ((5 * k) + 1))]) (rest := [.int xx]) (hm) k_X8_setSteps q1057 ⟨rfl, rfl⟩ ⟨Nat.le_of_ble_eq_true rfl, Nat.le_of_ble_eq_true rfl⟩ rfl (Nat.le_of_ble_eq_true rfl) hcs rfl dL_law_267 (fun v267 σ267 hv267 => ?_)
        rcases hv267 with ⟨rfl, hR2⟩
        · skip
          refine z_cv (st1 := [.int xx, .int xx]) rfl rfl rfl ?_
          refine z_icmp_eq 270 C 1783 dL_law_270 (by decide) (fun c270 => ?_) (fun c270 => ?_)
          · skip
            refine z_iinc 1783 C dL_law_1783 3 [(3, .int ((nI (5 * k)) + Int32.ofInt 5)), (0, .ref b), (1, .ref (z_ad G 0)), (2, .ref (z_ad G 105))] rfl (by decide) rfl ?_
            refine z_cv (lv1 := [(3, .int (nI (5 * (k + 1)))), (0, .ref b), (1, .ref (z_ad G 0)), (2, .ref (z_ad G 105))]) (st1 := []) (σ1 := σ267) (by rw [zl_inc (by omega)]) rfl rfl ?_
            refine z_goto 1786 C 18 dL_law_1786 (by decide) ?_
            refine z_sub [1, 2, 3, 0] (lv1 := [(0, .ref b), (1, .ref (z_ad G 0)), (2, .ref (z_ad G 105)), (3, .int (nI (5 * (k + 1))))]) rfl ?_
            refine z_cv (lv1 := [(0, .ref b), (1, .ref (z_ad G 0)), (2, .ref (z_ad G 105)), (3, .int (nI (5 * (k + 1))))]) (st1 := []) (σ1 := σ267) rfl rfl rfl ?_
            exact ih_18 (k + 1) σ267 (⟨by omega, by first | exact hR2 | exact z_R.up1 hRk⟩) (by omega)
          · skip
            exact absurd rfl c270
    by_cases e32_1 : ((xs (5 * k)) &&& (nI 63)) = (1 : Int32)
    · skip
      refine z_tabIn 32 C 275 dL_law_32 (by rw [e32_1]; decide) (by rw [e32_1]; decide) (by rw [e32_1]; rfl) (by decide) ?_
      refine z_aload_n 275 C dL_law_275 1 rfl ?_
      refine z_aload_n 276 C dL_law_276 0 rfl ?_
      refine z_iload_n 277 C dL_law_277 3 rfl ?_
      refine z_iconst 278 C dL_law_278 (nI 1) rfl ?_
      refine z_iaddN 279 C (5 * k) 1 rfl rfl dL_law_279 ?_
      refine z_sld 280 C hX hbl hbA ((5 * k) + 1) (by omega) (by omega) dL_law_280 ?_
      refine z_callV 281 C 0 (⟨rfl, rfl⟩) rfl (As := [.int (xs ((5 * k) + 1))]) (rest := []) (pr_read (l := l) (G := G) hRk (xs ((5 * k) + 1))) k_X7_read q376 ⟨rfl, rfl⟩ ⟨Nat.le_of_ble_eq_true rfl, Nat.le_of_ble_eq_true rfl⟩ rfl (Nat.le_of_ble_eq_true rfl) hcs rfl dL_law_281 (fun v281 σ281 hv281 => ?_)
      rcases hv281 with ⟨xx, rfl, hm⟩
      · skip
        refine z_cv (st1 := [.int xx]) rfl rfl rfl ?_
        refine z_aload_n 284 C dL_law_284 2 rfl ?_
        refine z_aload_n 285 C dL_law_285 0 rfl ?_
        refine z_iload_n 286 C dL_law_286 3 rfl ?_
        refine z_iconst 287 C dL_law_287 (nI 1) rfl ?_
        refine z_iaddN 288 C (5 * k) 1 rfl rfl dL_law_288 ?_
        refine z_sld 289 C hX hbl hbA ((5 * k) + 1) (by omega) (by omega) dL_law_289 ?_
        refine z_callV 290 C 105 (⟨rfl, rfl⟩) rfl (As := [.int (xs ((5 * k) + 1))]) (rest := [.int xx]) (hm) k_X8_read q1065 ⟨rfl, rfl⟩ ⟨Nat.le_of_ble_eq_true rfl, Nat.le_of_ble_eq_true rfl⟩ rfl (Nat.le_of_ble_eq_true rfl) hcs rfl dL_law_290 (fun v290 σ290 hv290 => ?_)
        rcases hv290 with ⟨rfl, hR2⟩
        · skip
          refine z_cv (st1 := [.int xx, .int xx]) rfl rfl rfl ?_
          refine z_icmp_eq 293 C 1783 dL_law_293 (by decide) (fun c293 => ?_) (fun c293 => ?_)
          · skip
            refine z_iinc 1783 C dL_law_1783 3 [(3, .int ((nI (5 * k)) + Int32.ofInt 5)), (0, .ref b), (1, .ref (z_ad G 0)), (2, .ref (z_ad G 105))] rfl (by decide) rfl ?_
            refine z_cv (lv1 := [(3, .int (nI (5 * (k + 1)))), (0, .ref b), (1, .ref (z_ad G 0)), (2, .ref (z_ad G 105))]) (st1 := []) (σ1 := σ290) (by rw [zl_inc (by omega)]) rfl rfl ?_
            refine z_goto 1786 C 18 dL_law_1786 (by decide) ?_
            refine z_sub [1, 2, 3, 0] (lv1 := [(0, .ref b), (1, .ref (z_ad G 0)), (2, .ref (z_ad G 105)), (3, .int (nI (5 * (k + 1))))]) rfl ?_
            refine z_cv (lv1 := [(0, .ref b), (1, .ref (z_ad G 0)), (2, .ref (z_ad G 105)), (3, .int (nI (5 * (k + 1))))]) (st1 := []) (σ1 := σ290) rfl rfl rfl ?_
            exact ih_18 (k + 1) σ290 (⟨by omega, by first | exact hR2 | exact z_R.up1 hRk⟩) (by omega)
          · skip
            exact absurd rfl c293
    by_cases e32_2 : ((xs (5 * k)) &&& (nI 63)) = (2 : Int32)
    · skip
      refine z_tabIn 32 C 298 dL_law_32 (by rw [e32_2]; decide) (by rw [e32_2]; decide) (by rw [e32_2]; rfl) (by decide) ?_
      refine z_aload_n 298 C dL_law_298 1 rfl ?_
      refine z_callV 299 C 0 (⟨rfl, rfl⟩) rfl (As := []) (rest := []) (pr_simulateStep (l := l) (G := G) hRk ) k_X7_simulateStep q392 ⟨rfl, rfl⟩ ⟨Nat.le_of_ble_eq_true rfl, Nat.le_of_ble_eq_true rfl⟩ rfl (Nat.le_of_ble_eq_true rfl) hcs rfl dL_law_299 (fun v299 σ299 hv299 => ?_)
      rcases hv299 with ⟨xx, rfl, hm⟩
      · skip
        refine z_cv (st1 := [.int xx]) rfl rfl rfl ?_
        refine z_aload_n 302 C dL_law_302 2 rfl ?_
        refine z_callV 303 C 105 (⟨rfl, rfl⟩) rfl (As := []) (rest := [.int xx]) (hm) k_X8_simulateStep q1483 ⟨rfl, rfl⟩ ⟨Nat.le_of_ble_eq_true rfl, Nat.le_of_ble_eq_true rfl⟩ rfl (Nat.le_of_ble_eq_true rfl) hcs rfl dL_law_303 (fun v303 σ303 hv303 => ?_)
        rcases hv303 with ⟨rfl, hR2⟩
        · skip
          refine z_cv (st1 := [.int xx, .int xx]) rfl rfl rfl ?_
          refine z_icmp_eq 306 C 1783 dL_law_306 (by decide) (fun c306 => ?_) (fun c306 => ?_)
          · skip
            refine z_iinc 1783 C dL_law_1783 3 [(3, .int ((nI (5 * k)) + Int32.ofInt 5)), (0, .ref b), (1, .ref (z_ad G 0)), (2, .ref (z_ad G 105))] rfl (by decide) rfl ?_
            refine z_cv (lv1 := [(3, .int (nI (5 * (k + 1)))), (0, .ref b), (1, .ref (z_ad G 0)), (2, .ref (z_ad G 105))]) (st1 := []) (σ1 := σ303) (by rw [zl_inc (by omega)]) rfl rfl ?_
            refine z_goto 1786 C 18 dL_law_1786 (by decide) ?_
            refine z_sub [1, 2, 3, 0] (lv1 := [(0, .ref b), (1, .ref (z_ad G 0)), (2, .ref (z_ad G 105)), (3, .int (nI (5 * (k + 1))))]) rfl ?_
            refine z_cv (lv1 := [(0, .ref b), (1, .ref (z_ad G 0)), (2, .ref (z_ad G 105)), (3, .int (nI (5 * (k + 1))))]) (st1 := []) (σ1 := σ303) rfl rfl rfl ?_
            exact ih_18 (k + 1) σ303 (⟨by omega, by first | exact hR2 | exact z_R.up1 hRk⟩) (by omega)
          · skip
            exact absurd rfl c306
    by_cases e32_3 : ((xs (5 * k)) &&& (nI 63)) = (3 : Int32)
    · skip
      refine z_tabIn 32 C 311 dL_law_32 (by rw [e32_3]; decide) (by rw [e32_3]; decide) (by rw [e32_3]; rfl) (by decide) ?_
      refine z_aload_n 311 C dL_law_311 1 rfl ?_
      refine z_aload_n 312 C dL_law_312 0 rfl ?_
      refine z_iload_n 313 C dL_law_313 3 rfl ?_
      refine z_iconst 314 C dL_law_314 (nI 1) rfl ?_
      refine z_iaddN 315 C (5 * k) 1 rfl rfl dL_law_315 ?_
      refine z_sld 316 C hX hbl hbA ((5 * k) + 1) (by omega) (by omega) dL_law_316 ?_
      refine z_callV 317 C 0 (⟨rfl, rfl⟩) rfl (As := [.int (xs ((5 * k) + 1))]) (rest := []) (pr_removeReadings (l := l) (G := G) hRk (xs ((5 * k) + 1))) k_X7_removeReadings q432 ⟨rfl, rfl⟩ ⟨Nat.le_of_ble_eq_true rfl, Nat.le_of_ble_eq_true rfl⟩ rfl (Nat.le_of_ble_eq_true rfl) hcs rfl dL_law_317 (fun v317 σ317 hv317 => ?_)
      rcases hv317 with ⟨xx, rfl, hm⟩
      · skip
        refine z_cv (st1 := [.int xx]) rfl rfl rfl ?_
        refine z_aload_n 320 C dL_law_320 2 rfl ?_
        refine z_aload_n 321 C dL_law_321 0 rfl ?_
        refine z_iload_n 322 C dL_law_322 3 rfl ?_
        refine z_iconst 323 C dL_law_323 (nI 1) rfl ?_
        refine z_iaddN 324 C (5 * k) 1 rfl rfl dL_law_324 ?_
        refine z_sld 325 C hX hbl hbA ((5 * k) + 1) (by omega) (by omega) dL_law_325 ?_
        refine z_callV 326 C 105 (⟨rfl, rfl⟩) rfl (As := [.int (xs ((5 * k) + 1))]) (rest := [.int xx]) (hm) k_X8_removeReadings q1079 ⟨rfl, rfl⟩ ⟨Nat.le_of_ble_eq_true rfl, Nat.le_of_ble_eq_true rfl⟩ rfl (Nat.le_of_ble_eq_true rfl) hcs rfl dL_law_326 (fun v326 σ326 hv326 => ?_)
        rcases hv326 with ⟨rfl, hR2⟩
        · skip
          refine z_cv (st1 := [.int xx, .int xx]) rfl rfl rfl ?_
          refine z_icmp_eq 329 C 1783 dL_law_329 (by decide) (fun c329 => ?_) (fun c329 => ?_)
          · skip
            refine z_iinc 1783 C dL_law_1783 3 [(3, .int ((nI (5 * k)) + Int32.ofInt 5)), (0, .ref b), (1, .ref (z_ad G 0)), (2, .ref (z_ad G 105))] rfl (by decide) rfl ?_
            refine z_cv (lv1 := [(3, .int (nI (5 * (k + 1)))), (0, .ref b), (1, .ref (z_ad G 0)), (2, .ref (z_ad G 105))]) (st1 := []) (σ1 := σ326) (by rw [zl_inc (by omega)]) rfl rfl ?_
            refine z_goto 1786 C 18 dL_law_1786 (by decide) ?_
            refine z_sub [1, 2, 3, 0] (lv1 := [(0, .ref b), (1, .ref (z_ad G 0)), (2, .ref (z_ad G 105)), (3, .int (nI (5 * (k + 1))))]) rfl ?_
            refine z_cv (lv1 := [(0, .ref b), (1, .ref (z_ad G 0)), (2, .ref (z_ad G 105)), (3, .int (nI (5 * (k + 1))))]) (st1 := []) (σ1 := σ326) rfl rfl rfl ?_
            exact ih_18 (k + 1) σ326 (⟨by omega, by first | exact hR2 | exact z_R.up1 hRk⟩) (by omega)
          · skip
            exact absurd rfl c329
    by_cases e32_4 : ((xs (5 * k)) &&& (nI 63)) = (4 : Int32)
    · skip
      refine z_tabIn 32 C 334 dL_law_32 (by rw [e32_4]; decide) (by rw [e32_4]; decide) (by rw [e32_4]; rfl) (by decide) ?_
      refine z_aload_n 334 C dL_law_334 1 rfl ?_
      refine z_aload_n 335 C dL_law_335 0 rfl ?_
      refine z_iload_n 336 C dL_law_336 3 rfl ?_
      refine z_iconst 337 C dL_law_337 (nI 1) rfl ?_
      refine z_iaddN 338 C (5 * k) 1 rfl rfl dL_law_338 ?_
      refine z_sld 339 C hX hbl hbA ((5 * k) + 1) (by omega) (by omega) dL_law_339 ?_
      refine z_callV 340 C 0 (⟨rfl, rfl⟩) rfl (As := [.int (xs ((5 * k) + 1))]) (rest := []) (pr_progress (l := l) (G := G) hRk (xs ((5 * k) + 1))) k_X7_progress q436 ⟨rfl, rfl⟩ ⟨Nat.le_of_ble_eq_true rfl, Nat.le_of_ble_eq_true rfl⟩ rfl (Nat.le_of_ble_eq_true rfl) hcs rfl dL_law_340 (fun v340 σ340 hv340 => ?_)
      rcases hv340 with ⟨xx, rfl, hm⟩
      · skip
        refine z_cv (st1 := [.int xx]) rfl rfl rfl ?_
        refine z_aload_n 343 C dL_law_343 2 rfl ?_
        refine z_aload_n 344 C dL_law_344 0 rfl ?_
        refine z_iload_n 345 C dL_law_345 3 rfl ?_
        refine z_iconst 346 C dL_law_346 (nI 1) rfl ?_
        refine z_iaddN 347 C (5 * k) 1 rfl rfl dL_law_347 ?_
        refine z_sld 348 C hX hbl hbA ((5 * k) + 1) (by omega) (by omega) dL_law_348 ?_
        refine z_callV 349 C 105 (⟨rfl, rfl⟩) rfl (As := [.int (xs ((5 * k) + 1))]) (rest := [.int xx]) (hm) k_X8_progress q1083 ⟨rfl, rfl⟩ ⟨Nat.le_of_ble_eq_true rfl, Nat.le_of_ble_eq_true rfl⟩ rfl (Nat.le_of_ble_eq_true rfl) hcs rfl dL_law_349 (fun v349 σ349 hv349 => ?_)
        rcases hv349 with ⟨rfl, hR2⟩
        · skip
          refine z_cv (st1 := [.int xx, .int xx]) rfl rfl rfl ?_
          refine z_icmp_eq 352 C 1783 dL_law_352 (by decide) (fun c352 => ?_) (fun c352 => ?_)
          · skip
            refine z_iinc 1783 C dL_law_1783 3 [(3, .int ((nI (5 * k)) + Int32.ofInt 5)), (0, .ref b), (1, .ref (z_ad G 0)), (2, .ref (z_ad G 105))] rfl (by decide) rfl ?_
            refine z_cv (lv1 := [(3, .int (nI (5 * (k + 1)))), (0, .ref b), (1, .ref (z_ad G 0)), (2, .ref (z_ad G 105))]) (st1 := []) (σ1 := σ349) (by rw [zl_inc (by omega)]) rfl rfl ?_
            refine z_goto 1786 C 18 dL_law_1786 (by decide) ?_
            refine z_sub [1, 2, 3, 0] (lv1 := [(0, .ref b), (1, .ref (z_ad G 0)), (2, .ref (z_ad G 105)), (3, .int (nI (5 * (k + 1))))]) rfl ?_
            refine z_cv (lv1 := [(0, .ref b), (1, .ref (z_ad G 0)), (2, .ref (z_ad G 105)), (3, .int (nI (5 * (k + 1))))]) (st1 := []) (σ1 := σ349) rfl rfl rfl ?_
            exact ih_18 (k + 1) σ349 (⟨by omega, by first | exact hR2 | exact z_R.up1 hRk⟩) (by omega)
          · skip
            exact absurd rfl c352
    by_cases e32_5 : ((xs (5 * k)) &&& (nI 63)) = (5 : Int32)
    · skip
      refine z_tabIn 32 C 357 dL_law_32 (by rw [e32_5]; decide) (by rw [e32_5]; decide) (by rw [e32_5]; rfl) (by decide) ?_
      refine z_aload_n 357 C dL_law_357 1 rfl ?_
      refine z_aload_n 358 C dL_law_358 0 rfl ?_
      refine z_iload_n 359 C dL_law_359 3 rfl ?_
      refine z_iconst 360 C dL_law_360 (nI 1) rfl ?_
      refine z_iaddN 361 C (5 * k) 1 rfl rfl dL_law_361 ?_
      refine z_sld 362 C hX hbl hbA ((5 * k) + 1) (by omega) (by omega) dL_law_362 ?_
      refine z_aload_n 363 C dL_law_363 0 rfl ?_
      refine z_iload_n 364 C dL_law_364 3 rfl ?_
      refine z_iconst 365 C dL_law_365 (nI 2) rfl ?_
      refine z_iaddN 366 C (5 * k) 2 rfl rfl dL_law_366 ?_
      refine z_sld 367 C hX hbl hbA ((5 * k) + 2) (by omega) (by omega) dL_law_367 ?_
      refine z_callV 368 C 0 (⟨rfl, rfl⟩) rfl (As := [.int (xs ((5 * k) + 1)), .int (xs ((5 * k) + 2))]) (rest := []) (pr_reading (l := l) (G := G) hRk (xs ((5 * k) + 1)) (xs ((5 * k) + 2))) k_X7_reading q441 ⟨rfl, rfl⟩ ⟨Nat.le_of_ble_eq_true rfl, Nat.le_of_ble_eq_true rfl⟩ rfl (Nat.le_of_ble_eq_true rfl) hcs rfl dL_law_368 (fun v368 σ368 hv368 => ?_)
      rcases hv368 with ⟨xx, rfl, hm⟩
      · skip
        refine z_cv (st1 := [.int xx]) rfl rfl rfl ?_
        refine z_aload_n 371 C dL_law_371 2 rfl ?_
        refine z_aload_n 372 C dL_law_372 0 rfl ?_
        refine z_iload_n 373 C dL_law_373 3 rfl ?_
        refine z_iconst 374 C dL_law_374 (nI 1) rfl ?_
        refine z_iaddN 375 C (5 * k) 1 rfl rfl dL_law_375 ?_
        refine z_sld 376 C hX hbl hbA ((5 * k) + 1) (by omega) (by omega) dL_law_376 ?_
        refine z_aload_n 377 C dL_law_377 0 rfl ?_
        refine z_iload_n 378 C dL_law_378 3 rfl ?_
        refine z_iconst 379 C dL_law_379 (nI 2) rfl ?_
        refine z_iaddN 380 C (5 * k) 2 rfl rfl dL_law_380 ?_
        refine z_sld 381 C hX hbl hbA ((5 * k) + 2) (by omega) (by omega) dL_law_381 ?_
        refine z_callV 382 C 105 (⟨rfl, rfl⟩) rfl (As := [.int (xs ((5 * k) + 1)), .int (xs ((5 * k) + 2))]) (rest := [.int xx]) (hm) k_X8_reading q1088 ⟨rfl, rfl⟩ ⟨Nat.le_of_ble_eq_true rfl, Nat.le_of_ble_eq_true rfl⟩ rfl (Nat.le_of_ble_eq_true rfl) hcs rfl dL_law_382 (fun v382 σ382 hv382 => ?_)
        rcases hv382 with ⟨rfl, hR2⟩
        · skip
          refine z_cv (st1 := [.int xx, .int xx]) rfl rfl rfl ?_
          refine z_icmp_eq 385 C 1783 dL_law_385 (by decide) (fun c385 => ?_) (fun c385 => ?_)
          · skip
            refine z_iinc 1783 C dL_law_1783 3 [(3, .int ((nI (5 * k)) + Int32.ofInt 5)), (0, .ref b), (1, .ref (z_ad G 0)), (2, .ref (z_ad G 105))] rfl (by decide) rfl ?_
            refine z_cv (lv1 := [(3, .int (nI (5 * (k + 1)))), (0, .ref b), (1, .ref (z_ad G 0)), (2, .ref (z_ad G 105))]) (st1 := []) (σ1 := σ382) (by rw [zl_inc (by omega)]) rfl rfl ?_
            refine z_goto 1786 C 18 dL_law_1786 (by decide) ?_
            refine z_sub [1, 2, 3, 0] (lv1 := [(0, .ref b), (1, .ref (z_ad G 0)), (2, .ref (z_ad G 105)), (3, .int (nI (5 * (k + 1))))]) rfl ?_
            refine z_cv (lv1 := [(0, .ref b), (1, .ref (z_ad G 0)), (2, .ref (z_ad G 105)), (3, .int (nI (5 * (k + 1))))]) (st1 := []) (σ1 := σ382) rfl rfl rfl ?_
            exact ih_18 (k + 1) σ382 (⟨by omega, by first | exact hR2 | exact z_R.up1 hRk⟩) (by omega)
          · skip
            exact absurd rfl c385
    by_cases e32_6 : ((xs (5 * k)) &&& (nI 63)) = (6 : Int32)
    · skip
      refine z_tabIn 32 C 390 dL_law_32 (by rw [e32_6]; decide) (by rw [e32_6]; decide) (by rw [e32_6]; rfl) (by decide) ?_
      refine z_aload_n 390 C dL_law_390 1 rfl ?_
      refine z_aload_n 391 C dL_law_391 0 rfl ?_
      refine z_iload_n 392 C dL_law_392 3 rfl ?_
      refine z_iconst 393 C dL_law_393 (nI 1) rfl ?_
      refine z_iaddN 394 C (5 * k) 1 rfl rfl dL_law_394 ?_
      refine z_sld 395 C hX hbl hbA ((5 * k) + 1) (by omega) (by omega) dL_law_395 ?_
      refine z_aload_n 396 C dL_law_396 0 rfl ?_
      refine z_iload_n 397 C dL_law_397 3 rfl ?_
      refine z_iconst 398 C dL_law_398 (nI 2) rfl ?_
      refine z_iaddN 399 C (5 * k) 2 rfl rfl dL_law_399 ?_
      refine z_sld 400 C hX hbl hbA ((5 * k) + 2) (by omega) (by omega) dL_law_400 ?_
      refine z_callV 401 C 0 (⟨rfl, rfl⟩) rfl (As := [.int (xs ((5 * k) + 1)), .int (xs ((5 * k) + 2))]) (rest := []) (pr_despike (l := l) (G := G) hRk (xs ((5 * k) + 1)) (xs ((5 * k) + 2))) k_X7_despike q453 ⟨rfl, rfl⟩ ⟨Nat.le_of_ble_eq_true rfl, Nat.le_of_ble_eq_true rfl⟩ rfl (Nat.le_of_ble_eq_true rfl) hcs rfl dL_law_401 (fun v401 σ401 hv401 => ?_)
      rcases hv401 with ⟨xx, rfl, hm⟩
      · skip
        refine z_cv (st1 := [.int xx]) rfl rfl rfl ?_
        refine z_aload_n 404 C dL_law_404 2 rfl ?_
        refine z_aload_n 405 C dL_law_405 0 rfl ?_
        refine z_iload_n 406 C dL_law_406 3 rfl ?_
        refine z_iconst 407 C dL_law_407 (nI 1) rfl ?_
        refine z_iaddN 408 C (5 * k) 1 rfl rfl dL_law_408 ?_
        refine z_sld 409 C hX hbl hbA ((5 * k) + 1) (by omega) (by omega) dL_law_409 ?_
        refine z_aload_n 410 C dL_law_410 0 rfl ?_
        refine z_iload_n 411 C dL_law_411 3 rfl ?_
        refine z_iconst 412 C dL_law_412 (nI 2) rfl ?_
        refine z_iaddN 413 C (5 * k) 2 rfl rfl dL_law_413 ?_
        refine z_sld 414 C hX hbl hbA ((5 * k) + 2) (by omega) (by omega) dL_law_414 ?_
        refine z_callV 415 C 105 (⟨rfl, rfl⟩) rfl (As := [.int (xs ((5 * k) + 1)), .int (xs ((5 * k) + 2))]) (rest := [.int xx]) (hm) k_X8_despike q1100 ⟨rfl, rfl⟩ ⟨Nat.le_of_ble_eq_true rfl, Nat.le_of_ble_eq_true rfl⟩ rfl (Nat.le_of_ble_eq_true rfl) hcs rfl dL_law_415 (fun v415 σ415 hv415 => ?_)
        rcases hv415 with ⟨rfl, hR2⟩
        · skip
          refine z_cv (st1 := [.int xx, .int xx]) rfl rfl rfl ?_
          refine z_icmp_eq 418 C 1783 dL_law_418 (by decide) (fun c418 => ?_) (fun c418 => ?_)
          · skip
            refine z_iinc 1783 C dL_law_1783 3 [(3, .int ((nI (5 * k)) + Int32.ofInt 5)), (0, .ref b), (1, .ref (z_ad G 0)), (2, .ref (z_ad G 105))] rfl (by decide) rfl ?_
            refine z_cv (lv1 := [(3, .int (nI (5 * (k + 1)))), (0, .ref b), (1, .ref (z_ad G 0)), (2, .ref (z_ad G 105))]) (st1 := []) (σ1 := σ415) (by rw [zl_inc (by omega)]) rfl rfl ?_
            refine z_goto 1786 C 18 dL_law_1786 (by decide) ?_
            refine z_sub [1, 2, 3, 0] (lv1 := [(0, .ref b), (1, .ref (z_ad G 0)), (2, .ref (z_ad G 105)), (3, .int (nI (5 * (k + 1))))]) rfl ?_
            refine z_cv (lv1 := [(0, .ref b), (1, .ref (z_ad G 0)), (2, .ref (z_ad G 105)), (3, .int (nI (5 * (k + 1))))]) (st1 := []) (σ1 := σ415) rfl rfl rfl ?_
            exact ih_18 (k + 1) σ415 (⟨by omega, by first | exact hR2 | exact z_R.up1 hRk⟩) (by omega)
          · skip
            exact absurd rfl c418
    by_cases e32_7 : ((xs (5 * k)) &&& (nI 63)) = (7 : Int32)
    · skip
      refine z_tabIn 32 C 423 dL_law_32 (by rw [e32_7]; decide) (by rw [e32_7]; decide) (by rw [e32_7]; rfl) (by decide) ?_
      refine z_aload_n 423 C dL_law_423 1 rfl ?_
      refine z_aload_n 424 C dL_law_424 0 rfl ?_
      refine z_iload_n 425 C dL_law_425 3 rfl ?_
      refine z_iconst 426 C dL_law_426 (nI 1) rfl ?_
      refine z_iaddN 427 C (5 * k) 1 rfl rfl dL_law_427 ?_
      refine z_sld 428 C hX hbl hbA ((5 * k) + 1) (by omega) (by omega) dL_law_428 ?_
      refine z_callV 429 C 0 (⟨rfl, rfl⟩) rfl (As := [.int (xs ((5 * k) + 1))]) (rest := []) (pr_part (l := l) (G := G) hRk (xs ((5 * k) + 1))) k_X7_part q471 ⟨rfl, rfl⟩ ⟨Nat.le_of_ble_eq_true rfl, Nat.le_of_ble_eq_true rfl⟩ rfl (Nat.le_of_ble_eq_true rfl) hcs rfl dL_law_429 (fun v429 σ429 hv429 => ?_)
      rcases hv429 with ⟨xx, rfl, hm⟩
      · skip
        refine z_cv (st1 := [.long xx]) rfl rfl rfl ?_
        refine z_aload_n 432 C dL_law_432 2 rfl ?_
        refine z_aload_n 433 C dL_law_433 0 rfl ?_
        refine z_iload_n 434 C dL_law_434 3 rfl ?_
        refine z_iconst 435 C dL_law_435 (nI 1) rfl ?_
        refine z_iaddN 436 C (5 * k) 1 rfl rfl dL_law_436 ?_
        refine z_sld 437 C hX hbl hbA ((5 * k) + 1) (by omega) (by omega) dL_law_437 ?_
        refine z_callV 438 C 105 (⟨rfl, rfl⟩) rfl (As := [.int (xs ((5 * k) + 1))]) (rest := [.long xx]) (hm) k_X8_part q1119 ⟨rfl, rfl⟩ ⟨Nat.le_of_ble_eq_true rfl, Nat.le_of_ble_eq_true rfl⟩ rfl (Nat.le_of_ble_eq_true rfl) hcs rfl dL_law_438 (fun v438 σ438 hv438 => ?_)
        rcases hv438 with ⟨rfl, hR2⟩
        · skip
          refine z_cv (st1 := [.long xx, .long xx]) rfl rfl rfl ?_
          refine z_lcmp_eq 441 C 1783 dL_law_441 dL_law_442 (by decide) (fun c441 => ?_) (fun c441 => ?_)
          · skip
            refine z_iinc 1783 C dL_law_1783 3 [(3, .int ((nI (5 * k)) + Int32.ofInt 5)), (0, .ref b), (1, .ref (z_ad G 0)), (2, .ref (z_ad G 105))] rfl (by decide) rfl ?_
            refine z_cv (lv1 := [(3, .int (nI (5 * (k + 1)))), (0, .ref b), (1, .ref (z_ad G 0)), (2, .ref (z_ad G 105))]) (st1 := []) (σ1 := σ438) (by rw [zl_inc (by omega)]) rfl rfl ?_
            refine z_goto 1786 C 18 dL_law_1786 (by decide) ?_
            refine z_sub [1, 2, 3, 0] (lv1 := [(0, .ref b), (1, .ref (z_ad G 0)), (2, .ref (z_ad G 105)), (3, .int (nI (5 * (k + 1))))]) rfl ?_
            refine z_cv (lv1 := [(0, .ref b), (1, .ref (z_ad G 0)), (2, .ref (z_ad G 105)), (3, .int (nI (5 * (k + 1))))]) (st1 := []) (σ1 := σ438) rfl rfl rfl ?_
            exact ih_18 (k + 1) σ438 (⟨by omega, by first | exact hR2 | exact z_R.up1 hRk⟩) (by omega)
          · skip
            exact absurd rfl c441
    by_cases e32_8 : ((xs (5 * k)) &&& (nI 63)) = (8 : Int32)
    · skip
      refine z_tabIn 32 C 447 dL_law_32 (by rw [e32_8]; decide) (by rw [e32_8]; decide) (by rw [e32_8]; rfl) (by decide) ?_
      refine z_aload_n 447 C dL_law_447 1 rfl ?_
      refine z_aload_n 448 C dL_law_448 0 rfl ?_
      refine z_iload_n 449 C dL_law_449 3 rfl ?_
      refine z_iconst 450 C dL_law_450 (nI 1) rfl ?_
      refine z_iaddN 451 C (5 * k) 1 rfl rfl dL_law_451 ?_
      refine z_sld 452 C hX hbl hbA ((5 * k) + 1) (by omega) (by omega) dL_law_452 ?_
      refine z_callV 453 C 0 (⟨rfl, rfl⟩) rfl (As := [.int (xs ((5 * k) + 1))]) (rest := []) (pr_spindle (l := l) (G := G) hRk (xs ((5 * k) + 1))) k_X7_spindle q490 ⟨rfl, rfl⟩ ⟨Nat.le_of_ble_eq_true rfl, Nat.le_of_ble_eq_true rfl⟩ rfl (Nat.le_of_ble_eq_true rfl) hcs rfl dL_law_453 (fun v453 σ453 hv453 => ?_)
      rcases hv453 with ⟨xx, rfl, hm⟩
      · skip
        refine z_cv (st1 := [.long xx]) rfl rfl rfl ?_
        refine z_aload_n 456 C dL_law_456 2 rfl ?_
        refine z_aload_n 457 C dL_law_457 0 rfl ?_
        refine z_iload_n 458 C dL_law_458 3 rfl ?_
        refine z_iconst 459 C dL_law_459 (nI 1) rfl ?_
        refine z_iaddN 460 C (5 * k) 1 rfl rfl dL_law_460 ?_
        refine z_sld 461 C hX hbl hbA ((5 * k) + 1) (by omega) (by omega) dL_law_461 ?_
        refine z_callV 462 C 105 (⟨rfl, rfl⟩) rfl (As := [.int (xs ((5 * k) + 1))]) (rest := [.long xx]) (hm) k_X8_spindle q1140 ⟨rfl, rfl⟩ ⟨Nat.le_of_ble_eq_true rfl, Nat.le_of_ble_eq_true rfl⟩ rfl (Nat.le_of_ble_eq_true rfl) hcs rfl dL_law_462 (fun v462 σ462 hv462 => ?_)
        rcases hv462 with ⟨rfl, hR2⟩
        · skip
          refine z_cv (st1 := [.long xx, .long xx]) rfl rfl rfl ?_
          refine z_lcmp_eq 465 C 1783 dL_law_465 dL_law_466 (by decide) (fun c465 => ?_) (fun c465 => ?_)
          · skip
            refine z_iinc 1783 C dL_law_1783 3 [(3, .int ((nI (5 * k)) + Int32.ofInt 5)), (0, .ref b), (1, .ref (z_ad G 0)), (2, .ref (z_ad G 105))] rfl (by decide) rfl ?_
            refine z_cv (lv1 := [(3, .int (nI (5 * (k + 1)))), (0, .ref b), (1, .ref (z_ad G 0)), (2, .ref (z_ad G 105))]) (st1 := []) (σ1 := σ462) (by rw [zl_inc (by omega)]) rfl rfl ?_
            refine z_goto 1786 C 18 dL_law_1786 (by decide) ?_
            refine z_sub [1, 2, 3, 0] (lv1 := [(0, .ref b), (1, .ref (z_ad G 0)), (2, .ref (z_ad G 105)), (3, .int (nI (5 * (k + 1))))]) rfl ?_
            refine z_cv (lv1 := [(0, .ref b), (1, .ref (z_ad G 0)), (2, .ref (z_ad G 105)), (3, .int (nI (5 * (k + 1))))]) (st1 := []) (σ1 := σ462) rfl rfl rfl ?_
            exact ih_18 (k + 1) σ462 (⟨by omega, by first | exact hR2 | exact z_R.up1 hRk⟩) (by omega)
          · skip
            exact absurd rfl c465
    by_cases e32_9 : ((xs (5 * k)) &&& (nI 63)) = (9 : Int32)
    · skip
      refine z_tabIn 32 C 471 dL_law_32 (by rw [e32_9]; decide) (by rw [e32_9]; decide) (by rw [e32_9]; rfl) (by decide) ?_
      refine z_aload_n 471 C dL_law_471 1 rfl ?_
      refine z_aload_n 472 C dL_law_472 0 rfl ?_
      refine z_iload_n 473 C dL_law_473 3 rfl ?_
      refine z_iconst 474 C dL_law_474 (nI 1) rfl ?_
      refine z_iaddN 475 C (5 * k) 1 rfl rfl dL_law_475 ?_
      refine z_sld 476 C hX hbl hbA ((5 * k) + 1) (by omega) (by omega) dL_law_476 ?_
      refine z_callV 477 C 0 (⟨rfl, rfl⟩) rfl (As := [.int (xs ((5 * k) + 1))]) (rest := []) (pr_isBlind (l := l) (G := G) hRk (xs ((5 * k) + 1))) k_X7_isBlind q498 ⟨rfl, rfl⟩ ⟨Nat.le_of_ble_eq_true rfl, Nat.le_of_ble_eq_true rfl⟩ rfl (Nat.le_of_ble_eq_true rfl) hcs rfl dL_law_477 (fun v477 σ477 hv477 => ?_)
      rcases hv477 with ⟨xx, rfl, hm⟩
      · skip
        refine z_cv (st1 := [.int xx]) rfl rfl rfl ?_
        refine z_aload_n 480 C dL_law_480 2 rfl ?_
        refine z_aload_n 481 C dL_law_481 0 rfl ?_
        refine z_iload_n 482 C dL_law_482 3 rfl ?_
        refine z_iconst 483 C dL_law_483 (nI 1) rfl ?_
        refine z_iaddN 484 C (5 * k) 1 rfl rfl dL_law_484 ?_
        refine z_sld 485 C hX hbl hbA ((5 * k) + 1) (by omega) (by omega) dL_law_485 ?_
        refine z_callV 486 C 105 (⟨rfl, rfl⟩) rfl (As := [.int (xs ((5 * k) + 1))]) (rest := [.int xx]) (hm) k_X8_isBlind q1148 ⟨rfl, rfl⟩ ⟨Nat.le_of_ble_eq_true rfl, Nat.le_of_ble_eq_true rfl⟩ rfl (Nat.le_of_ble_eq_true rfl) hcs rfl dL_law_486 (fun v486 σ486 hv486 => ?_)
        rcases hv486 with ⟨rfl, hR2⟩
        · skip
          refine z_cv (st1 := [.int xx, .int xx]) rfl rfl rfl ?_
          refine z_icmp_eq 489 C 1783 dL_law_489 (by decide) (fun c489 => ?_) (fun c489 => ?_)
          · skip
            refine z_iinc 1783 C dL_law_1783 3 [(3, .int ((nI (5 * k)) + Int32.ofInt 5)), (0, .ref b), (1, .ref (z_ad G 0)), (2, .ref (z_ad G 105))] rfl (by decide) rfl ?_
            refine z_cv (lv1 := [(3, .int (nI (5 * (k + 1)))), (0, .ref b), (1, .ref (z_ad G 0)), (2, .ref (z_ad G 105))]) (st1 := []) (σ1 := σ486) (by rw [zl_inc (by omega)]) rfl rfl ?_
            refine z_goto 1786 C 18 dL_law_1786 (by decide) ?_
            refine z_sub [1, 2, 3, 0] (lv1 := [(0, .ref b), (1, .ref (z_ad G 0)), (2, .ref (z_ad G 105)), (3, .int (nI (5 * (k + 1))))]) rfl ?_
            refine z_cv (lv1 := [(0, .ref b), (1, .ref (z_ad G 0)), (2, .ref (z_ad G 105)), (3, .int (nI (5 * (k + 1))))]) (st1 := []) (σ1 := σ486) rfl rfl rfl ?_
            exact ih_18 (k + 1) σ486 (⟨by omega, by first | exact hR2 | exact z_R.up1 hRk⟩) (by omega)
          · skip
            exact absurd rfl c489
    by_cases e32_10 : ((xs (5 * k)) &&& (nI 63)) = (10 : Int32)
    · skip
      refine z_tabIn 32 C 494 dL_law_32 (by rw [e32_10]; decide) (by rw [e32_10]; decide) (by rw [e32_10]; rfl) (by decide) ?_
      refine z_aload_n 494 C dL_law_494 1 rfl ?_
      refine z_callV 495 C 0 (⟨rfl, rfl⟩) rfl (As := []) (rest := []) (pr_residual (l := l) (G := G) hRk ) k_X7_residual q502 ⟨rfl, rfl⟩ ⟨Nat.le_of_ble_eq_true rfl, Nat.le_of_ble_eq_true rfl⟩ rfl (Nat.le_of_ble_eq_true rfl) hcs rfl dL_law_495 (fun v495 σ495 hv495 => ?_)
      rcases hv495 with ⟨xx, rfl, hm⟩
      · skip
        refine z_cv (st1 := [.long xx]) rfl rfl rfl ?_
        refine z_aload_n 498 C dL_law_498 2 rfl ?_
        refine z_callV 499 C 105 (⟨rfl, rfl⟩) rfl (As := []) (rest := [.long xx]) (hm) k_X8_residual q1153 ⟨rfl, rfl⟩ ⟨Nat.le_of_ble_eq_true rfl, Nat.le_of_ble_eq_true rfl⟩ rfl (Nat.le_of_ble_eq_true rfl) hcs rfl dL_law_499 (fun v499 σ499 hv499 => ?_)
        rcases hv499 with ⟨rfl, hR2⟩
        · skip
          refine z_cv (st1 := [.long xx, .long xx]) rfl rfl rfl ?_
          refine z_lcmp_eq 502 C 1783 dL_law_502 dL_law_503 (by decide) (fun c502 => ?_) (fun c502 => ?_)
          · skip
            refine z_iinc 1783 C dL_law_1783 3 [(3, .int ((nI (5 * k)) + Int32.ofInt 5)), (0, .ref b), (1, .ref (z_ad G 0)), (2, .ref (z_ad G 105))] rfl (by decide) rfl ?_
            refine z_cv (lv1 := [(3, .int (nI (5 * (k + 1)))), (0, .ref b), (1, .ref (z_ad G 0)), (2, .ref (z_ad G 105))]) (st1 := []) (σ1 := σ499) (by rw [zl_inc (by omega)]) rfl rfl ?_
            refine z_goto 1786 C 18 dL_law_1786 (by decide) ?_
            refine z_sub [1, 2, 3, 0] (lv1 := [(0, .ref b), (1, .ref (z_ad G 0)), (2, .ref (z_ad G 105)), (3, .int (nI (5 * (k + 1))))]) rfl ?_
            refine z_cv (lv1 := [(0, .ref b), (1, .ref (z_ad G 0)), (2, .ref (z_ad G 105)), (3, .int (nI (5 * (k + 1))))]) (st1 := []) (σ1 := σ499) rfl rfl rfl ?_
            exact ih_18 (k + 1) σ499 (⟨by omega, by first | exact hR2 | exact z_R.up1 hRk⟩) (by omega)
          · skip
            exact absurd rfl c502
    by_cases e32_11 : ((xs (5 * k)) &&& (nI 63)) = (11 : Int32)
    · skip
      refine z_tabIn 32 C 508 dL_law_32 (by rw [e32_11]; decide) (by rw [e32_11]; decide) (by rw [e32_11]; rfl) (by decide) ?_
      refine z_aload_n 508 C dL_law_508 1 rfl ?_
      refine z_aload_n 509 C dL_law_509 0 rfl ?_
      refine z_iload_n 510 C dL_law_510 3 rfl ?_
      refine z_iconst 511 C dL_law_511 (nI 1) rfl ?_
      refine z_iaddN 512 C (5 * k) 1 rfl rfl dL_law_512 ?_
      refine z_sld 513 C hX hbl hbA ((5 * k) + 1) (by omega) (by omega) dL_law_513 ?_
      refine z_aload_n 514 C dL_law_514 0 rfl ?_
      refine z_iload_n 515 C dL_law_515 3 rfl ?_
      refine z_iconst 516 C dL_law_516 (nI 2) rfl ?_
      refine z_iaddN 517 C (5 * k) 2 rfl rfl dL_law_517 ?_
      refine z_sld 518 C hX hbl hbA ((5 * k) + 2) (by omega) (by omega) dL_law_518 ?_
      refine z_callV 519 C 0 (⟨rfl, rfl⟩) rfl (As := [.int (xs ((5 * k) + 1)), .int (xs ((5 * k) + 2))]) (rest := []) (pr_load (l := l) (G := G) hRk (xs ((5 * k) + 1)) (xs ((5 * k) + 2)) (by omega)) k_X7_load q518 ⟨rfl, rfl⟩ ⟨Nat.le_of_ble_eq_true rfl, Nat.le_of_ble_eq_true rfl⟩ rfl (Nat.le_of_ble_eq_true rfl) hcs rfl dL_law_519 (fun v519 σ519 hv519 => ?_)
      rcases hv519 with ⟨xx, rfl, hm⟩
      · skip
        refine z_cv (st1 := [.int xx]) rfl rfl rfl ?_
        refine z_aload_n 522 C dL_law_522 2 rfl ?_
        refine z_aload_n 523 C dL_law_523 0 rfl ?_
        refine z_iload_n 524 C dL_law_524 3 rfl ?_
        refine z_iconst 525 C dL_law_525 (nI 1) rfl ?_
        refine z_iaddN 526 C (5 * k) 1 rfl rfl dL_law_526 ?_
        refine z_sld 527 C hX hbl hbA ((5 * k) + 1) (by omega) (by omega) dL_law_527 ?_
        refine z_aload_n 528 C dL_law_528 0 rfl ?_
        refine z_iload_n 529 C dL_law_529 3 rfl ?_
        refine z_iconst 530 C dL_law_530 (nI 2) rfl ?_
        refine z_iaddN 531 C (5 * k) 2 rfl rfl dL_law_531 ?_
        refine z_sld 532 C hX hbl hbA ((5 * k) + 2) (by omega) (by omega) dL_law_532 ?_
        refine z_callV 533 C 105 (⟨rfl, rfl⟩) rfl (As := [.int (xs ((5 * k) + 1)), .int (xs ((5 * k) + 2))]) (rest := [.int xx]) (hm) k_X8_load q1165 ⟨rfl, rfl⟩ ⟨Nat.le_of_ble_eq_true rfl, Nat.le_of_ble_eq_true rfl⟩ rfl (Nat.le_of_ble_eq_true rfl) hcs rfl dL_law_533 (fun v533 σ533 hv533 => ?_)
        rcases hv533 with ⟨rfl, hR2⟩
        · skip
          refine z_cv (st1 := [.int xx, .int xx]) rfl rfl rfl ?_
          refine z_icmp_eq 536 C 1783 dL_law_536 (by decide) (fun c536 => ?_) (fun c536 => ?_)
          · skip
            refine z_iinc 1783 C dL_law_1783 3 [(3, .int ((nI (5 * k)) + Int32.ofInt 5)), (0, .ref b), (1, .ref (z_ad G 0)), (2, .ref (z_ad G 105))] rfl (by decide) rfl ?_
            refine z_cv (lv1 := [(3, .int (nI (5 * (k + 1)))), (0, .ref b), (1, .ref (z_ad G 0)), (2, .ref (z_ad G 105))]) (st1 := []) (σ1 := σ533) (by rw [zl_inc (by omega)]) rfl rfl ?_
            refine z_goto 1786 C 18 dL_law_1786 (by decide) ?_
            refine z_sub [1, 2, 3, 0] (lv1 := [(0, .ref b), (1, .ref (z_ad G 0)), (2, .ref (z_ad G 105)), (3, .int (nI (5 * (k + 1))))]) rfl ?_
            refine z_cv (lv1 := [(0, .ref b), (1, .ref (z_ad G 0)), (2, .ref (z_ad G 105)), (3, .int (nI (5 * (k + 1))))]) (st1 := []) (σ1 := σ533) rfl rfl rfl ?_
            exact ih_18 (k + 1) σ533 (⟨by omega, by first | exact hR2 | exact z_R.up1 hRk⟩) (by omega)
          · skip
            exact absurd rfl c536
    by_cases e32_12 : ((xs (5 * k)) &&& (nI 63)) = (12 : Int32)
    · skip
      refine z_tabIn 32 C 541 dL_law_32 (by rw [e32_12]; decide) (by rw [e32_12]; decide) (by rw [e32_12]; rfl) (by decide) ?_
      refine z_aload_n 541 C dL_law_541 1 rfl ?_
      refine z_aload_n 542 C dL_law_542 0 rfl ?_
      refine z_iload_n 543 C dL_law_543 3 rfl ?_
      refine z_iconst 544 C dL_law_544 (nI 1) rfl ?_
      refine z_iaddN 545 C (5 * k) 1 rfl rfl dL_law_545 ?_
      refine z_sld 546 C hX hbl hbA ((5 * k) + 1) (by omega) (by omega) dL_law_546 ?_
      refine z_callV 547 C 0 (⟨rfl, rfl⟩) rfl (As := [.int (xs ((5 * k) + 1))]) (rest := []) (pr_profile (l := l) (G := G) hRk (xs ((5 * k) + 1))) k_X7_profile q554 ⟨rfl, rfl⟩ ⟨Nat.le_of_ble_eq_true rfl, Nat.le_of_ble_eq_true rfl⟩ rfl (Nat.le_of_ble_eq_true rfl) hcs rfl dL_law_547 (fun v547 σ547 hv547 => ?_)
      rcases hv547 with ⟨xx, rfl, hm⟩
      · skip
        refine z_cv (st1 := [.long xx]) rfl rfl rfl ?_
        refine z_aload_n 550 C dL_law_550 2 rfl ?_
        refine z_aload_n 551 C dL_law_551 0 rfl ?_
        refine z_iload_n 552 C dL_law_552 3 rfl ?_
        refine z_iconst 553 C dL_law_553 (nI 1) rfl ?_
        refine z_iaddN 554 C (5 * k) 1 rfl rfl dL_law_554 ?_
        refine z_sld 555 C hX hbl hbA ((5 * k) + 1) (by omega) (by omega) dL_law_555 ?_
        refine z_callV 556 C 105 (⟨rfl, rfl⟩) rfl (As := [.int (xs ((5 * k) + 1))]) (rest := [.long xx]) (hm) k_X8_profile q1178 ⟨rfl, rfl⟩ ⟨Nat.le_of_ble_eq_true rfl, Nat.le_of_ble_eq_true rfl⟩ rfl (Nat.le_of_ble_eq_true rfl) hcs rfl dL_law_556 (fun v556 σ556 hv556 => ?_)
        rcases hv556 with ⟨rfl, hR2⟩
        · skip
          refine z_cv (st1 := [.long xx, .long xx]) rfl rfl rfl ?_
          refine z_lcmp_eq 559 C 1783 dL_law_559 dL_law_560 (by decide) (fun c559 => ?_) (fun c559 => ?_)
          · skip
            refine z_iinc 1783 C dL_law_1783 3 [(3, .int ((nI (5 * k)) + Int32.ofInt 5)), (0, .ref b), (1, .ref (z_ad G 0)), (2, .ref (z_ad G 105))] rfl (by decide) rfl ?_
            refine z_cv (lv1 := [(3, .int (nI (5 * (k + 1)))), (0, .ref b), (1, .ref (z_ad G 0)), (2, .ref (z_ad G 105))]) (st1 := []) (σ1 := σ556) (by rw [zl_inc (by omega)]) rfl rfl ?_
            refine z_goto 1786 C 18 dL_law_1786 (by decide) ?_
            refine z_sub [1, 2, 3, 0] (lv1 := [(0, .ref b), (1, .ref (z_ad G 0)), (2, .ref (z_ad G 105)), (3, .int (nI (5 * (k + 1))))]) rfl ?_
            refine z_cv (lv1 := [(0, .ref b), (1, .ref (z_ad G 0)), (2, .ref (z_ad G 105)), (3, .int (nI (5 * (k + 1))))]) (st1 := []) (σ1 := σ556) rfl rfl rfl ?_
            exact ih_18 (k + 1) σ556 (⟨by omega, by first | exact hR2 | exact z_R.up1 hRk⟩) (by omega)
          · skip
            exact absurd rfl c559
    by_cases e32_13 : ((xs (5 * k)) &&& (nI 63)) = (13 : Int32)
    · skip
      refine z_tabIn 32 C 565 dL_law_32 (by rw [e32_13]; decide) (by rw [e32_13]; decide) (by rw [e32_13]; rfl) (by decide) ?_
      refine z_aload_n 565 C dL_law_565 1 rfl ?_
      refine z_aload_n 566 C dL_law_566 0 rfl ?_
      refine z_iload_n 567 C dL_law_567 3 rfl ?_
      refine z_iconst 568 C dL_law_568 (nI 1) rfl ?_
      refine z_iaddN 569 C (5 * k) 1 rfl rfl dL_law_569 ?_
      refine z_sld 570 C hX hbl hbA ((5 * k) + 1) (by omega) (by omega) dL_law_570 ?_
      refine z_callV 571 C 0 (⟨rfl, rfl⟩) rfl (As := [.int (xs ((5 * k) + 1))]) (rest := []) (pr_rotate (l := l) (G := G) hRk (xs ((5 * k) + 1)) (by omega)) k_X7_rotate q559 ⟨rfl, rfl⟩ ⟨Nat.le_of_ble_eq_true rfl, Nat.le_of_ble_eq_true rfl⟩ rfl (Nat.le_of_ble_eq_true rfl) hcs rfl dL_law_571 (fun v571 σ571 hv571 => ?_)
      rcases hv571 with ⟨xx, rfl, hm⟩
      · skip
        refine z_cv (st1 := [.int xx]) rfl rfl rfl ?_
        refine z_aload_n 574 C dL_law_574 2 rfl ?_
        refine z_aload_n 575 C dL_law_575 0 rfl ?_
        refine z_iload_n 576 C dL_law_576 3 rfl ?_
        refine z_iconst 577 C dL_law_577 (nI 1) rfl ?_
        refine z_iaddN 578 C (5 * k) 1 rfl rfl dL_law_578 ?_
        refine z_sld 579 C hX hbl hbA ((5 * k) + 1) (by omega) (by omega) dL_law_579 ?_
        refine z_callV 580 C 105 (⟨rfl, rfl⟩) rfl (As := [.int (xs ((5 * k) + 1))]) (rest := [.int xx]) (hm) k_X8_rotate q1182 ⟨rfl, rfl⟩ ⟨Nat.le_of_ble_eq_true rfl, Nat.le_of_ble_eq_true rfl⟩ rfl (Nat.le_of_ble_eq_true rfl) hcs rfl dL_law_580 (fun v580 σ580 hv580 => ?_)
        rcases hv580 with ⟨rfl, hR2⟩
        · skip
          refine z_cv (st1 := [.int xx, .int xx]) rfl rfl rfl ?_
          refine z_icmp_eq 583 C 1783 dL_law_583 (by decide) (fun c583 => ?_) (fun c583 => ?_)
          · skip
            refine z_iinc 1783 C dL_law_1783 3 [(3, .int ((nI (5 * k)) + Int32.ofInt 5)), (0, .ref b), (1, .ref (z_ad G 0)), (2, .ref (z_ad G 105))] rfl (by decide) rfl ?_
            refine z_cv (lv1 := [(3, .int (nI (5 * (k + 1)))), (0, .ref b), (1, .ref (z_ad G 0)), (2, .ref (z_ad G 105))]) (st1 := []) (σ1 := σ580) (by rw [zl_inc (by omega)]) rfl rfl ?_
            refine z_goto 1786 C 18 dL_law_1786 (by decide) ?_
            refine z_sub [1, 2, 3, 0] (lv1 := [(0, .ref b), (1, .ref (z_ad G 0)), (2, .ref (z_ad G 105)), (3, .int (nI (5 * (k + 1))))]) rfl ?_
            refine z_cv (lv1 := [(0, .ref b), (1, .ref (z_ad G 0)), (2, .ref (z_ad G 105)), (3, .int (nI (5 * (k + 1))))]) (st1 := []) (σ1 := σ580) rfl rfl rfl ?_
            exact ih_18 (k + 1) σ580 (⟨by omega, by first | exact hR2 | exact z_R.up1 hRk⟩) (by omega)
          · skip
            exact absurd rfl c583
    by_cases e32_14 : ((xs (5 * k)) &&& (nI 63)) = (14 : Int32)
    · skip
      refine z_tabIn 32 C 588 dL_law_32 (by rw [e32_14]; decide) (by rw [e32_14]; decide) (by rw [e32_14]; rfl) (by decide) ?_
      refine z_aload_n 588 C dL_law_588 1 rfl ?_
      refine z_callV 589 C 0 (⟨rfl, rfl⟩) rfl (As := []) (rest := []) (pr_removeEccentricity (l := l) (G := G) hRk (by omega)) k_X7_removeEccentricity q564 ⟨rfl, rfl⟩ ⟨Nat.le_of_ble_eq_true rfl, Nat.le_of_ble_eq_true rfl⟩ rfl (Nat.le_of_ble_eq_true rfl) hcs rfl dL_law_589 (fun v589 σ589 hv589 => ?_)
      rcases hv589 with ⟨xx, rfl, hm⟩
      · skip
        refine z_cv (st1 := [.int xx]) rfl rfl rfl ?_
        refine z_aload_n 592 C dL_law_592 2 rfl ?_
        refine z_callV 593 C 105 (⟨rfl, rfl⟩) rfl (As := []) (rest := [.int xx]) (hm) k_X8_removeEccentricity q1187 ⟨rfl, rfl⟩ ⟨Nat.le_of_ble_eq_true rfl, Nat.le_of_ble_eq_true rfl⟩ rfl (Nat.le_of_ble_eq_true rfl) hcs rfl dL_law_593 (fun v593 σ593 hv593 => ?_)
        rcases hv593 with ⟨rfl, hR2⟩
        · skip
          refine z_cv (st1 := [.int xx, .int xx]) rfl rfl rfl ?_
          refine z_icmp_eq 596 C 1783 dL_law_596 (by decide) (fun c596 => ?_) (fun c596 => ?_)
          · skip
            refine z_iinc 1783 C dL_law_1783 3 [(3, .int ((nI (5 * k)) + Int32.ofInt 5)), (0, .ref b), (1, .ref (z_ad G 0)), (2, .ref (z_ad G 105))] rfl (by decide) rfl ?_
            refine z_cv (lv1 := [(3, .int (nI (5 * (k + 1)))), (0, .ref b), (1, .ref (z_ad G 0)), (2, .ref (z_ad G 105))]) (st1 := []) (σ1 := σ593) (by rw [zl_inc (by omega)]) rfl rfl ?_
            refine z_goto 1786 C 18 dL_law_1786 (by decide) ?_
            refine z_sub [1, 2, 3, 0] (lv1 := [(0, .ref b), (1, .ref (z_ad G 0)), (2, .ref (z_ad G 105)), (3, .int (nI (5 * (k + 1))))]) rfl ?_
            refine z_cv (lv1 := [(0, .ref b), (1, .ref (z_ad G 0)), (2, .ref (z_ad G 105)), (3, .int (nI (5 * (k + 1))))]) (st1 := []) (σ1 := σ593) rfl rfl rfl ?_
            exact ih_18 (k + 1) σ593 (⟨by omega, by first | exact hR2 | exact z_R.up1 hRk⟩) (by omega)
          · skip
            exact absurd rfl c596
    by_cases e32_15 : ((xs (5 * k)) &&& (nI 63)) = (15 : Int32)
    · skip
      refine z_tabIn 32 C 601 dL_law_32 (by rw [e32_15]; decide) (by rw [e32_15]; decide) (by rw [e32_15]; rfl) (by decide) ?_
      refine z_aload_n 601 C dL_law_601 1 rfl ?_
      refine z_aload_n 602 C dL_law_602 0 rfl ?_
      refine z_iload_n 603 C dL_law_603 3 rfl ?_
      refine z_iconst 604 C dL_law_604 (nI 1) rfl ?_
      refine z_iaddN 605 C (5 * k) 1 rfl rfl dL_law_605 ?_
      refine z_sld 606 C hX hbl hbA ((5 * k) + 1) (by omega) (by omega) dL_law_606 ?_
      refine z_aload_n 607 C dL_law_607 0 rfl ?_
      refine z_iload_n 608 C dL_law_608 3 rfl ?_
      refine z_iconst 609 C dL_law_609 (nI 2) rfl ?_
      refine z_iaddN 610 C (5 * k) 2 rfl rfl dL_law_610 ?_
      refine z_sld 611 C hX hbl hbA ((5 * k) + 2) (by omega) (by omega) dL_law_611 ?_
      refine z_callV 612 C 0 (⟨rfl, rfl⟩) rfl (As := [.int (xs ((5 * k) + 1)), .int (xs ((5 * k) + 2))]) (rest := []) (pr_keepLobes (l := l) (G := G) hRk (xs ((5 * k) + 1)) (xs ((5 * k) + 2)) (by omega)) k_X7_keepLobes q574 ⟨rfl, rfl⟩ ⟨Nat.le_of_ble_eq_true rfl, Nat.le_of_ble_eq_true rfl⟩ rfl (Nat.le_of_ble_eq_true rfl) hcs rfl dL_law_612 (fun v612 σ612 hv612 => ?_)
      rcases hv612 with ⟨xx, rfl, hm⟩
      · skip
        refine z_cv (st1 := [.int xx]) rfl rfl rfl ?_
        refine z_aload_n 615 C dL_law_615 2 rfl ?_
        refine z_aload_n 616 C dL_law_616 0 rfl ?_
        refine z_iload_n 617 C dL_law_617 3 rfl ?_
        refine z_iconst 618 C dL_law_618 (nI 1) rfl ?_
        refine z_iaddN 619 C (5 * k) 1 rfl rfl dL_law_619 ?_
        refine z_sld 620 C hX hbl hbA ((5 * k) + 1) (by omega) (by omega) dL_law_620 ?_
        refine z_aload_n 621 C dL_law_621 0 rfl ?_
        refine z_iload_n 622 C dL_law_622 3 rfl ?_
        refine z_iconst 623 C dL_law_623 (nI 2) rfl ?_
        refine z_iaddN 624 C (5 * k) 2 rfl rfl dL_law_624 ?_
        refine z_sld 625 C hX hbl hbA ((5 * k) + 2) (by omega) (by omega) dL_law_625 ?_
        refine z_callV 626 C 105 (⟨rfl, rfl⟩) rfl (As := [.int (xs ((5 * k) + 1)), .int (xs ((5 * k) + 2))]) (rest := [.int xx]) (hm) k_X8_keepLobes q1209 ⟨rfl, rfl⟩ ⟨Nat.le_of_ble_eq_true rfl, Nat.le_of_ble_eq_true rfl⟩ rfl (Nat.le_of_ble_eq_true rfl) hcs rfl dL_law_626 (fun v626 σ626 hv626 => ?_)
        rcases hv626 with ⟨rfl, hR2⟩
        · skip
          refine z_cv (st1 := [.int xx, .int xx]) rfl rfl rfl ?_
          refine z_icmp_eq 629 C 1783 dL_law_629 (by decide) (fun c629 => ?_) (fun c629 => ?_)
          · skip
            refine z_iinc 1783 C dL_law_1783 3 [(3, .int ((nI (5 * k)) + Int32.ofInt 5)), (0, .ref b), (1, .ref (z_ad G 0)), (2, .ref (z_ad G 105))] rfl (by decide) rfl ?_
            refine z_cv (lv1 := [(3, .int (nI (5 * (k + 1)))), (0, .ref b), (1, .ref (z_ad G 0)), (2, .ref (z_ad G 105))]) (st1 := []) (σ1 := σ626) (by rw [zl_inc (by omega)]) rfl rfl ?_
            refine z_goto 1786 C 18 dL_law_1786 (by decide) ?_
            refine z_sub [1, 2, 3, 0] (lv1 := [(0, .ref b), (1, .ref (z_ad G 0)), (2, .ref (z_ad G 105)), (3, .int (nI (5 * (k + 1))))]) rfl ?_
            refine z_cv (lv1 := [(0, .ref b), (1, .ref (z_ad G 0)), (2, .ref (z_ad G 105)), (3, .int (nI (5 * (k + 1))))]) (st1 := []) (σ1 := σ626) rfl rfl rfl ?_
            exact ih_18 (k + 1) σ626 (⟨by omega, by first | exact hR2 | exact z_R.up1 hRk⟩) (by omega)
          · skip
            exact absurd rfl c629
    by_cases e32_16 : ((xs (5 * k)) &&& (nI 63)) = (16 : Int32)
    · skip
      refine z_tabIn 32 C 634 dL_law_32 (by rw [e32_16]; decide) (by rw [e32_16]; decide) (by rw [e32_16]; rfl) (by decide) ?_
      refine z_aload_n 634 C dL_law_634 1 rfl ?_
      refine z_aload_n 635 C dL_law_635 0 rfl ?_
      refine z_iload_n 636 C dL_law_636 3 rfl ?_
      refine z_iconst 637 C dL_law_637 (nI 1) rfl ?_
      refine z_iaddN 638 C (5 * k) 1 rfl rfl dL_law_638 ?_
      refine z_sld 639 C hX hbl hbA ((5 * k) + 1) (by omega) (by omega) dL_law_639 ?_
      refine z_aload_n 640 C dL_law_640 0 rfl ?_
      refine z_iload_n 641 C dL_law_641 3 rfl ?_
      refine z_iconst 642 C dL_law_642 (nI 2) rfl ?_
      refine z_iaddN 643 C (5 * k) 2 rfl rfl dL_law_643 ?_
      refine z_sld 644 C hX hbl hbA ((5 * k) + 2) (by omega) (by omega) dL_law_644 ?_
      refine z_callV 645 C 0 (⟨rfl, rfl⟩) rfl (As := [.int (xs ((5 * k) + 1)), .int (xs ((5 * k) + 2))]) (rest := []) (pr_subtract (l := l) (G := G) hRk (xs ((5 * k) + 1)) (xs ((5 * k) + 2)) (by omega)) k_X7_subtract q584 ⟨rfl, rfl⟩ ⟨Nat.le_of_ble_eq_true rfl, Nat.le_of_ble_eq_true rfl⟩ rfl (Nat.le_of_ble_eq_true rfl) hcs rfl dL_law_645 (fun v645 σ645 hv645 => ?_)
      rcases hv645 with ⟨xx, rfl, hm⟩
      · skip
        refine z_cv (st1 := [.int xx]) rfl rfl rfl ?_
        refine z_aload_n 648 C dL_law_648 2 rfl ?_
        refine z_aload_n 649 C dL_law_649 0 rfl ?_
        refine z_iload_n 650 C dL_law_650 3 rfl ?_
        refine z_iconst 651 C dL_law_651 (nI 1) rfl ?_
        refine z_iaddN 652 C (5 * k) 1 rfl rfl dL_law_652 ?_
        refine z_sld 653 C hX hbl hbA ((5 * k) + 1) (by omega) (by omega) dL_law_653 ?_
        refine z_aload_n 654 C dL_law_654 0 rfl ?_
        refine z_iload_n 655 C dL_law_655 3 rfl ?_
        refine z_iconst 656 C dL_law_656 (nI 2) rfl ?_
        refine z_iaddN 657 C (5 * k) 2 rfl rfl dL_law_657 ?_
        refine z_sld 658 C hX hbl hbA ((5 * k) + 2) (by omega) (by omega) dL_law_658 ?_
        refine z_callV 659 C 105 (⟨rfl, rfl⟩) rfl (As := [.int (xs ((5 * k) + 1)), .int (xs ((5 * k) + 2))]) (rest := [.int xx]) (hm) k_X8_subtract q1220 ⟨rfl, rfl⟩ ⟨Nat.le_of_ble_eq_true rfl, Nat.le_of_ble_eq_true rfl⟩ rfl (Nat.le_of_ble_eq_true rfl) hcs rfl dL_law_659 (fun v659 σ659 hv659 => ?_)
        rcases hv659 with ⟨rfl, hR2⟩
        · skip
          refine z_cv (st1 := [.int xx, .int xx]) rfl rfl rfl ?_
          refine z_icmp_eq 662 C 1783 dL_law_662 (by decide) (fun c662 => ?_) (fun c662 => ?_)
          · skip
            refine z_iinc 1783 C dL_law_1783 3 [(3, .int ((nI (5 * k)) + Int32.ofInt 5)), (0, .ref b), (1, .ref (z_ad G 0)), (2, .ref (z_ad G 105))] rfl (by decide) rfl ?_
            refine z_cv (lv1 := [(3, .int (nI (5 * (k + 1)))), (0, .ref b), (1, .ref (z_ad G 0)), (2, .ref (z_ad G 105))]) (st1 := []) (σ1 := σ659) (by rw [zl_inc (by omega)]) rfl rfl ?_
            refine z_goto 1786 C 18 dL_law_1786 (by decide) ?_
            refine z_sub [1, 2, 3, 0] (lv1 := [(0, .ref b), (1, .ref (z_ad G 0)), (2, .ref (z_ad G 105)), (3, .int (nI (5 * (k + 1))))]) rfl ?_
            refine z_cv (lv1 := [(0, .ref b), (1, .ref (z_ad G 0)), (2, .ref (z_ad G 105)), (3, .int (nI (5 * (k + 1))))]) (st1 := []) (σ1 := σ659) rfl rfl rfl ?_
            exact ih_18 (k + 1) σ659 (⟨by omega, by first | exact hR2 | exact z_R.up1 hRk⟩) (by omega)
          · skip
            exact absurd rfl c662
    by_cases e32_17 : ((xs (5 * k)) &&& (nI 63)) = (17 : Int32)
    · skip
      refine z_tabIn 32 C 667 dL_law_32 (by rw [e32_17]; decide) (by rw [e32_17]; decide) (by rw [e32_17]; rfl) (by decide) ?_
      refine z_aload_n 667 C dL_law_667 1 rfl ?_
      refine z_aload_n 668 C dL_law_668 0 rfl ?_
      refine z_iload_n 669 C dL_law_669 3 rfl ?_
      refine z_iconst 670 C dL_law_670 (nI 1) rfl ?_
      refine z_iaddN 671 C (5 * k) 1 rfl rfl dL_law_671 ?_
      refine z_sld 672 C hX hbl hbA ((5 * k) + 1) (by omega) (by omega) dL_law_672 ?_
      refine z_callV 673 C 0 (⟨rfl, rfl⟩) rfl (As := [.int (xs ((5 * k) + 1))]) (rest := []) (pr_vBlock (l := l) (G := G) hRk (xs ((5 * k) + 1)) (by omega)) k_X7_vBlock q594 ⟨rfl, rfl⟩ ⟨Nat.le_of_ble_eq_true rfl, Nat.le_of_ble_eq_true rfl⟩ rfl (Nat.le_of_ble_eq_true rfl) hcs rfl dL_law_673 (fun v673 σ673 hv673 => ?_)
      rcases hv673 with ⟨xx, rfl, hm⟩
      · skip
        refine z_cv (st1 := [.int xx]) rfl rfl rfl ?_
        refine z_aload_n 676 C dL_law_676 2 rfl ?_
        refine z_aload_n 677 C dL_law_677 0 rfl ?_
        refine z_iload_n 678 C dL_law_678 3 rfl ?_
        refine z_iconst 679 C dL_law_679 (nI 1) rfl ?_
        refine z_iaddN 680 C (5 * k) 1 rfl rfl dL_law_680 ?_
        refine z_sld 681 C hX hbl hbA ((5 * k) + 1) (by omega) (by omega) dL_law_681 ?_
        refine z_callV 682 C 105 (⟨rfl, rfl⟩) rfl (As := [.int (xs ((5 * k) + 1))]) (rest := [.int xx]) (hm) k_X8_vBlock q1229 ⟨rfl, rfl⟩ ⟨Nat.le_of_ble_eq_true rfl, Nat.le_of_ble_eq_true rfl⟩ rfl (Nat.le_of_ble_eq_true rfl) hcs rfl dL_law_682 (fun v682 σ682 hv682 => ?_)
        rcases hv682 with ⟨rfl, hR2⟩
        · skip
          refine z_cv (st1 := [.int xx, .int xx]) rfl rfl rfl ?_
          refine z_icmp_eq 685 C 1783 dL_law_685 (by decide) (fun c685 => ?_) (fun c685 => ?_)
          · skip
            refine z_iinc 1783 C dL_law_1783 3 [(3, .int ((nI (5 * k)) + Int32.ofInt 5)), (0, .ref b), (1, .ref (z_ad G 0)), (2, .ref (z_ad G 105))] rfl (by decide) rfl ?_
            refine z_cv (lv1 := [(3, .int (nI (5 * (k + 1)))), (0, .ref b), (1, .ref (z_ad G 0)), (2, .ref (z_ad G 105))]) (st1 := []) (σ1 := σ682) (by rw [zl_inc (by omega)]) rfl rfl ?_
            refine z_goto 1786 C 18 dL_law_1786 (by decide) ?_
            refine z_sub [1, 2, 3, 0] (lv1 := [(0, .ref b), (1, .ref (z_ad G 0)), (2, .ref (z_ad G 105)), (3, .int (nI (5 * (k + 1))))]) rfl ?_
            refine z_cv (lv1 := [(0, .ref b), (1, .ref (z_ad G 0)), (2, .ref (z_ad G 105)), (3, .int (nI (5 * (k + 1))))]) (st1 := []) (σ1 := σ682) rfl rfl rfl ?_
            exact ih_18 (k + 1) σ682 (⟨by omega, by first | exact hR2 | exact z_R.up1 hRk⟩) (by omega)
          · skip
            exact absurd rfl c685
    by_cases e32_18 : ((xs (5 * k)) &&& (nI 63)) = (18 : Int32)
    · skip
      refine z_tabIn 32 C 690 dL_law_32 (by rw [e32_18]; decide) (by rw [e32_18]; decide) (by rw [e32_18]; rfl) (by decide) ?_
      refine z_aload_n 690 C dL_law_690 1 rfl ?_
      refine z_aload_n 691 C dL_law_691 0 rfl ?_
      refine z_iload_n 692 C dL_law_692 3 rfl ?_
      refine z_iconst 693 C dL_law_693 (nI 1) rfl ?_
      refine z_iaddN 694 C (5 * k) 1 rfl rfl dL_law_694 ?_
      refine z_sld 695 C hX hbl hbA ((5 * k) + 1) (by omega) (by omega) dL_law_695 ?_
      refine z_aload_n 696 C dL_law_696 0 rfl ?_
      refine z_iload_n 697 C dL_law_697 3 rfl ?_
      refine z_iconst 698 C dL_law_698 (nI 2) rfl ?_
      refine z_iaddN 699 C (5 * k) 2 rfl rfl dL_law_699 ?_
      refine z_sld 700 C hX hbl hbA ((5 * k) + 2) (by omega) (by omega) dL_law_700 ?_
      refine z_callV 701 C 0 (⟨rfl, rfl⟩) rfl (As := [.int (xs ((5 * k) + 1)), .int (xs ((5 * k) + 2))]) (rest := []) (pr_isBlindInVBlock (l := l) (G := G) hRk (xs ((5 * k) + 1)) (xs ((5 * k) + 2))) k_X7_isBlindInVBlock q603 ⟨rfl, rfl⟩ ⟨Nat.le_of_ble_eq_true rfl, Nat.le_of_ble_eq_true rfl⟩ rfl (Nat.le_of_ble_eq_true rfl) hcs rfl dL_law_701 (fun v701 σ701 hv701 => ?_)
      rcases hv701 with ⟨xx, rfl, hm⟩
      · skip
        refine z_cv (st1 := [.int xx]) rfl rfl rfl ?_
        refine z_aload_n 704 C dL_law_704 2 rfl ?_
        refine z_aload_n 705 C dL_law_705 0 rfl ?_
        refine z_iload_n 706 C dL_law_706 3 rfl ?_
        refine z_iconst 707 C dL_law_707 (nI 1) rfl ?_
        refine z_iaddN 708 C (5 * k) 1 rfl rfl dL_law_708 ?_
        refine z_sld 709 C hX hbl hbA ((5 * k) + 1) (by omega) (by omega) dL_law_709 ?_
        refine z_aload_n 710 C dL_law_710 0 rfl ?_
        refine z_iload_n 711 C dL_law_711 3 rfl ?_
        refine z_iconst 712 C dL_law_712 (nI 2) rfl ?_
        refine z_iaddN 713 C (5 * k) 2 rfl rfl dL_law_713 ?_
        refine z_sld 714 C hX hbl hbA ((5 * k) + 2) (by omega) (by omega) dL_law_714 ?_
        refine z_callV 715 C 105 (⟨rfl, rfl⟩) rfl (As := [.int (xs ((5 * k) + 1)), .int (xs ((5 * k) + 2))]) (rest := [.int xx]) (hm) k_X8_isBlindInVBlock q1235 ⟨rfl, rfl⟩ ⟨Nat.le_of_ble_eq_true rfl, Nat.le_of_ble_eq_true rfl⟩ rfl (Nat.le_of_ble_eq_true rfl) hcs rfl dL_law_715 (fun v715 σ715 hv715 => ?_)
        rcases hv715 with ⟨rfl, hR2⟩
        · skip
          refine z_cv (st1 := [.int xx, .int xx]) rfl rfl rfl ?_
          refine z_icmp_eq 718 C 1783 dL_law_718 (by decide) (fun c718 => ?_) (fun c718 => ?_)
          · skip
            refine z_iinc 1783 C dL_law_1783 3 [(3, .int ((nI (5 * k)) + Int32.ofInt 5)), (0, .ref b), (1, .ref (z_ad G 0)), (2, .ref (z_ad G 105))] rfl (by decide) rfl ?_
            refine z_cv (lv1 := [(3, .int (nI (5 * (k + 1)))), (0, .ref b), (1, .ref (z_ad G 0)), (2, .ref (z_ad G 105))]) (st1 := []) (σ1 := σ715) (by rw [zl_inc (by omega)]) rfl rfl ?_
            refine z_goto 1786 C 18 dL_law_1786 (by decide) ?_
            refine z_sub [1, 2, 3, 0] (lv1 := [(0, .ref b), (1, .ref (z_ad G 0)), (2, .ref (z_ad G 105)), (3, .int (nI (5 * (k + 1))))]) rfl ?_
            refine z_cv (lv1 := [(0, .ref b), (1, .ref (z_ad G 0)), (2, .ref (z_ad G 105)), (3, .int (nI (5 * (k + 1))))]) (st1 := []) (σ1 := σ715) rfl rfl rfl ?_
            exact ih_18 (k + 1) σ715 (⟨by omega, by first | exact hR2 | exact z_R.up1 hRk⟩) (by omega)
          · skip
            exact absurd rfl c718
    by_cases e32_19 : ((xs (5 * k)) &&& (nI 63)) = (19 : Int32)
    · skip
      refine z_tabIn 32 C 723 dL_law_32 (by rw [e32_19]; decide) (by rw [e32_19]; decide) (by rw [e32_19]; rfl) (by decide) ?_
      refine z_aload_n 723 C dL_law_723 1 rfl ?_
      refine z_callV 724 C 0 (⟨rfl, rfl⟩) rfl (As := []) (rest := []) (pr_undo (l := l) (G := G) hRk ) k_X7_undo q607 ⟨rfl, rfl⟩ ⟨Nat.le_of_ble_eq_true rfl, Nat.le_of_ble_eq_true rfl⟩ rfl (Nat.le_of_ble_eq_true rfl) hcs rfl dL_law_724 (fun v724 σ724 hv724 => ?_)
      rcases hv724 with ⟨xx, rfl, hm⟩
      · skip
        refine z_cv (st1 := [.int xx]) rfl rfl rfl ?_
        refine z_aload_n 727 C dL_law_727 2 rfl ?_
        refine z_callV 728 C 105 (⟨rfl, rfl⟩) rfl (As := []) (rest := [.int xx]) (hm) k_X8_undo q1157 ⟨rfl, rfl⟩ ⟨Nat.le_of_ble_eq_true rfl, Nat.le_of_ble_eq_true rfl⟩ rfl (Nat.le_of_ble_eq_true rfl) hcs rfl dL_law_728 (fun v728 σ728 hv728 => ?_)
        rcases hv728 with ⟨rfl, hR2⟩
        · skip
          refine z_cv (st1 := [.int xx, .int xx]) rfl rfl rfl ?_
          refine z_icmp_eq 731 C 1783 dL_law_731 (by decide) (fun c731 => ?_) (fun c731 => ?_)
          · skip
            refine z_iinc 1783 C dL_law_1783 3 [(3, .int ((nI (5 * k)) + Int32.ofInt 5)), (0, .ref b), (1, .ref (z_ad G 0)), (2, .ref (z_ad G 105))] rfl (by decide) rfl ?_
            refine z_cv (lv1 := [(3, .int (nI (5 * (k + 1)))), (0, .ref b), (1, .ref (z_ad G 0)), (2, .ref (z_ad G 105))]) (st1 := []) (σ1 := σ728) (by rw [zl_inc (by omega)]) rfl rfl ?_
            refine z_goto 1786 C 18 dL_law_1786 (by decide) ?_
            refine z_sub [1, 2, 3, 0] (lv1 := [(0, .ref b), (1, .ref (z_ad G 0)), (2, .ref (z_ad G 105)), (3, .int (nI (5 * (k + 1))))]) rfl ?_
            refine z_cv (lv1 := [(0, .ref b), (1, .ref (z_ad G 0)), (2, .ref (z_ad G 105)), (3, .int (nI (5 * (k + 1))))]) (st1 := []) (σ1 := σ728) rfl rfl rfl ?_
            exact ih_18 (k + 1) σ728 (⟨by omega, by first | exact hR2 | exact z_R.up1 hRk⟩) (by omega)
          · skip
            exact absurd rfl c731
    by_cases e32_20 : ((xs (5 * k)) &&& (nI 63)) = (20 : Int32)
    · skip
      refine z_tabIn 32 C 736 dL_law_32 (by rw [e32_20]; decide) (by rw [e32_20]; decide) (by rw [e32_20]; rfl) (by decide) ?_
      refine z_aload_n 736 C dL_law_736 1 rfl ?_
      refine z_callV 737 C 0 (⟨rfl, rfl⟩) rfl (As := []) (rest := []) (pr_redo (l := l) (G := G) hRk ) k_X7_redo q615 ⟨rfl, rfl⟩ ⟨Nat.le_of_ble_eq_true rfl, Nat.le_of_ble_eq_true rfl⟩ rfl (Nat.le_of_ble_eq_true rfl) hcs rfl dL_law_737 (fun v737 σ737 hv737 => ?_)
      rcases hv737 with ⟨xx, rfl, hm⟩
      · skip
        refine z_cv (st1 := [.int xx]) rfl rfl rfl ?_
        refine z_aload_n 740 C dL_law_740 2 rfl ?_
        refine z_callV 741 C 105 (⟨rfl, rfl⟩) rfl (As := []) (rest := [.int xx]) (hm) k_X8_redo q1161 ⟨rfl, rfl⟩ ⟨Nat.le_of_ble_eq_true rfl, Nat.le_of_ble_eq_true rfl⟩ rfl (Nat.le_of_ble_eq_true rfl) hcs rfl dL_law_741 (fun v741 σ741 hv741 => ?_)
        rcases hv741 with ⟨rfl, hR2⟩
        · skip
          refine z_cv (st1 := [.int xx, .int xx]) rfl rfl rfl ?_
          refine z_icmp_eq 744 C 1783 dL_law_744 (by decide) (fun c744 => ?_) (fun c744 => ?_)
          · skip
            refine z_iinc 1783 C dL_law_1783 3 [(3, .int ((nI (5 * k)) + Int32.ofInt 5)), (0, .ref b), (1, .ref (z_ad G 0)), (2, .ref (z_ad G 105))] rfl (by decide) rfl ?_
            refine z_cv (lv1 := [(3, .int (nI (5 * (k + 1)))), (0, .ref b), (1, .ref (z_ad G 0)), (2, .ref (z_ad G 105))]) (st1 := []) (σ1 := σ741) (by rw [zl_inc (by omega)]) rfl rfl ?_
            refine z_goto 1786 C 18 dL_law_1786 (by decide) ?_
            refine z_sub [1, 2, 3, 0] (lv1 := [(0, .ref b), (1, .ref (z_ad G 0)), (2, .ref (z_ad G 105)), (3, .int (nI (5 * (k + 1))))]) rfl ?_
            refine z_cv (lv1 := [(0, .ref b), (1, .ref (z_ad G 0)), (2, .ref (z_ad G 105)), (3, .int (nI (5 * (k + 1))))]) (st1 := []) (σ1 := σ741) rfl rfl rfl ?_
            exact ih_18 (k + 1) σ741 (⟨by omega, by first | exact hR2 | exact z_R.up1 hRk⟩) (by omega)
          · skip
            exact absurd rfl c744
    by_cases e32_21 : ((xs (5 * k)) &&& (nI 63)) = (21 : Int32)
    · skip
      refine z_tabIn 32 C 749 dL_law_32 (by rw [e32_21]; decide) (by rw [e32_21]; decide) (by rw [e32_21]; rfl) (by decide) ?_
      refine z_aload_n 749 C dL_law_749 1 rfl ?_
      refine z_aload_n 750 C dL_law_750 0 rfl ?_
      refine z_iload_n 751 C dL_law_751 3 rfl ?_
      refine z_iconst 752 C dL_law_752 (nI 1) rfl ?_
      refine z_iaddN 753 C (5 * k) 1 rfl rfl dL_law_753 ?_
      refine z_sld 754 C hX hbl hbA ((5 * k) + 1) (by omega) (by omega) dL_law_754 ?_
      refine z_aload_n 755 C dL_law_755 0 rfl ?_
      refine z_iload_n 756 C dL_law_756 3 rfl ?_
      refine z_iconst 757 C dL_law_757 (nI 2) rfl ?_
      refine z_iaddN 758 C (5 * k) 2 rfl rfl dL_law_758 ?_
      refine z_sld 759 C hX hbl hbA ((5 * k) + 2) (by omega) (by omega) dL_law_759 ?_
      refine z_if_eq 760 C 767 dL_law_760 (by decide) (fun c760 => ?_) (fun c760 => ?_)
      · skip
        refine z_iconst 767 C dL_law_767 (nI 0) rfl ?_
        refine z_callV 768 C 0 (⟨rfl, rfl⟩) rfl (As := [.int (xs ((5 * k) + 1)), .int (nI 0)]) (rest := []) (pr_harmonic (l := l) (G := G) hRk (xs ((5 * k) + 1)) 0 (by decide)) k_X7_harmonic q623 ⟨rfl, rfl⟩ ⟨Nat.le_of_ble_eq_true rfl, Nat.le_of_ble_eq_true rfl⟩ rfl (Nat.le_of_ble_eq_true rfl) hcs rfl dL_law_768 (fun v768 σ768 hv768 => ?_)
        rcases hv768 with ⟨xx, rfl, hm⟩
        · skip
          refine z_cv (st1 := [.long xx]) rfl rfl rfl ?_
          refine z_aload_n 771 C dL_law_771 2 rfl ?_
          refine z_aload_n 772 C dL_law_772 0 rfl ?_
          refine z_iload_n 773 C dL_law_773 3 rfl ?_
          refine z_iconst 774 C dL_law_774 (nI 1) rfl ?_
          refine z_iaddN 775 C (5 * k) 1 rfl rfl dL_law_775 ?_
          refine z_sld 776 C hX hbl hbA ((5 * k) + 1) (by omega) (by omega) dL_law_776 ?_
          refine z_aload_n 777 C dL_law_777 0 rfl ?_
          refine z_iload_n 778 C dL_law_778 3 rfl ?_
          refine z_iconst 779 C dL_law_779 (nI 2) rfl ?_
          refine z_iaddN 780 C (5 * k) 2 rfl rfl dL_law_780 ?_
          refine z_sld 781 C hX hbl hbA ((5 * k) + 2) (by omega) (by omega) dL_law_781 ?_
          refine z_if_eq 782 C 789 dL_law_782 (by decide) (fun c782 => ?_) (fun c782 => ?_)
          · skip
            refine z_iconst 789 C dL_law_789 (nI 0) rfl ?_
            refine z_callV 790 C 105 (⟨rfl, rfl⟩) rfl (As := [.int (xs ((5 * k) + 1)), .int (nI 0)]) (rest := [.long xx]) (hm) k_X8_harmonic q1239 ⟨rfl, rfl⟩ ⟨Nat.le_of_ble_eq_true rfl, Nat.le_of_ble_eq_true rfl⟩ rfl (Nat.le_of_ble_eq_true rfl) hcs rfl dL_law_790 (fun v790 σ790 hv790 => ?_)
            rcases hv790 with ⟨rfl, hR2⟩
            · skip
              refine z_cv (st1 := [.long xx, .long xx]) rfl rfl rfl ?_
              refine z_lcmp_eq 793 C 1783 dL_law_793 dL_law_794 (by decide) (fun c793 => ?_) (fun c793 => ?_)
              · skip
                refine z_iinc 1783 C dL_law_1783 3 [(3, .int ((nI (5 * k)) + Int32.ofInt 5)), (0, .ref b), (1, .ref (z_ad G 0)), (2, .ref (z_ad G 105))] rfl (by decide) rfl ?_
                refine z_cv (lv1 := [(3, .int (nI (5 * (k + 1)))), (0, .ref b), (1, .ref (z_ad G 0)), (2, .ref (z_ad G 105))]) (st1 := []) (σ1 := σ790) (by rw [zl_inc (by omega)]) rfl rfl ?_
                refine z_goto 1786 C 18 dL_law_1786 (by decide) ?_
                refine z_sub [1, 2, 3, 0] (lv1 := [(0, .ref b), (1, .ref (z_ad G 0)), (2, .ref (z_ad G 105)), (3, .int (nI (5 * (k + 1))))]) rfl ?_
                refine z_cv (lv1 := [(0, .ref b), (1, .ref (z_ad G 0)), (2, .ref (z_ad G 105)), (3, .int (nI (5 * (k + 1))))]) (st1 := []) (σ1 := σ790) rfl rfl rfl ?_
                exact ih_18 (k + 1) σ790 (⟨by omega, by first | exact hR2 | exact z_R.up1 hRk⟩) (by omega)
              · skip
                exact absurd rfl c793
          · skip
            exact absurd c760 c782
      · skip
        refine z_iconst 763 C dL_law_763 (nI 1) rfl ?_
        refine z_goto 764 C 768 dL_law_764 (by decide) ?_
        refine z_callV 768 C 0 (⟨rfl, rfl⟩) rfl (As := [.int (xs ((5 * k) + 1)), .int (nI 1)]) (rest := []) (pr_harmonic (l := l) (G := G) hRk (xs ((5 * k) + 1)) 1 (by decide)) k_X7_harmonic q623 ⟨rfl, rfl⟩ ⟨Nat.le_of_ble_eq_true rfl, Nat.le_of_ble_eq_true rfl⟩ rfl (Nat.le_of_ble_eq_true rfl) hcs rfl dL_law_768 (fun v768 σ768 hv768 => ?_)
        rcases hv768 with ⟨xx, rfl, hm⟩
        · skip
          refine z_cv (st1 := [.long xx]) rfl rfl rfl ?_
          refine z_aload_n 771 C dL_law_771 2 rfl ?_
          refine z_aload_n 772 C dL_law_772 0 rfl ?_
          refine z_iload_n 773 C dL_law_773 3 rfl ?_
          refine z_iconst 774 C dL_law_774 (nI 1) rfl ?_
          refine z_iaddN 775 C (5 * k) 1 rfl rfl dL_law_775 ?_
          refine z_sld 776 C hX hbl hbA ((5 * k) + 1) (by omega) (by omega) dL_law_776 ?_
          refine z_aload_n 777 C dL_law_777 0 rfl ?_
          refine z_iload_n 778 C dL_law_778 3 rfl ?_
          refine z_iconst 779 C dL_law_779 (nI 2) rfl ?_
          refine z_iaddN 780 C (5 * k) 2 rfl rfl dL_law_780 ?_
          refine z_sld 781 C hX hbl hbA ((5 * k) + 2) (by omega) (by omega) dL_law_781 ?_
          refine z_if_eq 782 C 789 dL_law_782 (by decide) (fun c782 => ?_) (fun c782 => ?_)
          · skip
            exact absurd c782 c760
          · skip
            refine z_iconst 785 C dL_law_785 (nI 1) rfl ?_
            refine z_goto 786 C 790 dL_law_786 (by decide) ?_
            refine z_callV 790 C 105 (⟨rfl, rfl⟩) rfl (As := [.int (xs ((5 * k) + 1)), .int (nI 1)]) (rest := [.long xx]) (hm) k_X8_harmonic q1239 ⟨rfl, rfl⟩ ⟨Nat.le_of_ble_eq_true rfl, Nat.le_of_ble_eq_true rfl⟩ rfl (Nat.le_of_ble_eq_true rfl) hcs rfl dL_law_790 (fun v790 σ790 hv790 => ?_)
            rcases hv790 with ⟨rfl, hR2⟩
            · skip
              refine z_cv (st1 := [.long xx, .long xx]) rfl rfl rfl ?_
              refine z_lcmp_eq 793 C 1783 dL_law_793 dL_law_794 (by decide) (fun c793 => ?_) (fun c793 => ?_)
              · skip
                refine z_iinc 1783 C dL_law_1783 3 [(3, .int ((nI (5 * k)) + Int32.ofInt 5)), (0, .ref b), (1, .ref (z_ad G 0)), (2, .ref (z_ad G 105))] rfl (by decide) rfl ?_
                refine z_cv (lv1 := [(3, .int (nI (5 * (k + 1)))), (0, .ref b), (1, .ref (z_ad G 0)), (2, .ref (z_ad G 105))]) (st1 := []) (σ1 := σ790) (by rw [zl_inc (by omega)]) rfl rfl ?_
                refine z_goto 1786 C 18 dL_law_1786 (by decide) ?_
                refine z_sub [1, 2, 3, 0] (lv1 := [(0, .ref b), (1, .ref (z_ad G 0)), (2, .ref (z_ad G 105)), (3, .int (nI (5 * (k + 1))))]) rfl ?_
                refine z_cv (lv1 := [(0, .ref b), (1, .ref (z_ad G 0)), (2, .ref (z_ad G 105)), (3, .int (nI (5 * (k + 1))))]) (st1 := []) (σ1 := σ790) rfl rfl rfl ?_
                exact ih_18 (k + 1) σ790 (⟨by omega, by first | exact hR2 | exact z_R.up1 hRk⟩) (by omega)
              · skip
                exact absurd rfl c793
    by_cases e32_22 : ((xs (5 * k)) &&& (nI 63)) = (22 : Int32)
    · skip
      refine z_tabIn 32 C 799 dL_law_32 (by rw [e32_22]; decide) (by rw [e32_22]; decide) (by rw [e32_22]; rfl) (by decide) ?_
      refine z_aload_n 799 C dL_law_799 1 rfl ?_
      refine z_aload_n 800 C dL_law_800 0 rfl ?_
      refine z_iload_n 801 C dL_law_801 3 rfl ?_
      refine z_iconst 802 C dL_law_802 (nI 1) rfl ?_
      refine z_iaddN 803 C (5 * k) 1 rfl rfl dL_law_803 ?_
      refine z_sld 804 C hX hbl hbA ((5 * k) + 1) (by omega) (by omega) dL_law_804 ?_
      refine z_callV 805 C 0 (⟨rfl, rfl⟩) rfl (As := [.int (xs ((5 * k) + 1))]) (rest := []) (pr_strength (l := l) (G := G) hRk (xs ((5 * k) + 1))) k_X7_strength q627 ⟨rfl, rfl⟩ ⟨Nat.le_of_ble_eq_true rfl, Nat.le_of_ble_eq_true rfl⟩ rfl (Nat.le_of_ble_eq_true rfl) hcs rfl dL_law_805 (fun v805 σ805 hv805 => ?_)
      rcases hv805 with ⟨xx, rfl, hm⟩
      · skip
        refine z_cv (st1 := [.long xx]) rfl rfl rfl ?_
        refine z_aload_n 808 C dL_law_808 2 rfl ?_
        refine z_aload_n 809 C dL_law_809 0 rfl ?_
        refine z_iload_n 810 C dL_law_810 3 rfl ?_
        refine z_iconst 811 C dL_law_811 (nI 1) rfl ?_
        refine z_iaddN 812 C (5 * k) 1 rfl rfl dL_law_812 ?_
        refine z_sld 813 C hX hbl hbA ((5 * k) + 1) (by omega) (by omega) dL_law_813 ?_
        refine z_callV 814 C 105 (⟨rfl, rfl⟩) rfl (As := [.int (xs ((5 * k) + 1))]) (rest := [.long xx]) (hm) k_X8_strength q1246 ⟨rfl, rfl⟩ ⟨Nat.le_of_ble_eq_true rfl, Nat.le_of_ble_eq_true rfl⟩ rfl (Nat.le_of_ble_eq_true rfl) hcs rfl dL_law_814 (fun v814 σ814 hv814 => ?_)
        rcases hv814 with ⟨rfl, hR2⟩
        · skip
          refine z_cv (st1 := [.long xx, .long xx]) rfl rfl rfl ?_
          refine z_lcmp_eq 817 C 1783 dL_law_817 dL_law_818 (by decide) (fun c817 => ?_) (fun c817 => ?_)
          · skip
            refine z_iinc 1783 C dL_law_1783 3 [(3, .int ((nI (5 * k)) + Int32.ofInt 5)), (0, .ref b), (1, .ref (z_ad G 0)), (2, .ref (z_ad G 105))] rfl (by decide) rfl ?_
            refine z_cv (lv1 := [(3, .int (nI (5 * (k + 1)))), (0, .ref b), (1, .ref (z_ad G 0)), (2, .ref (z_ad G 105))]) (st1 := []) (σ1 := σ814) (by rw [zl_inc (by omega)]) rfl rfl ?_
            refine z_goto 1786 C 18 dL_law_1786 (by decide) ?_
            refine z_sub [1, 2, 3, 0] (lv1 := [(0, .ref b), (1, .ref (z_ad G 0)), (2, .ref (z_ad G 105)), (3, .int (nI (5 * (k + 1))))]) rfl ?_
            refine z_cv (lv1 := [(0, .ref b), (1, .ref (z_ad G 0)), (2, .ref (z_ad G 105)), (3, .int (nI (5 * (k + 1))))]) (st1 := []) (σ1 := σ814) rfl rfl rfl ?_
            exact ih_18 (k + 1) σ814 (⟨by omega, by first | exact hR2 | exact z_R.up1 hRk⟩) (by omega)
          · skip
            exact absurd rfl c817
    by_cases e32_23 : ((xs (5 * k)) &&& (nI 63)) = (23 : Int32)
    · skip
      refine z_tabIn 32 C 823 dL_law_32 (by rw [e32_23]; decide) (by rw [e32_23]; decide) (by rw [e32_23]; rfl) (by decide) ?_
      refine z_aload_n 823 C dL_law_823 1 rfl ?_
      refine z_aload_n 824 C dL_law_824 0 rfl ?_
      refine z_iload_n 825 C dL_law_825 3 rfl ?_
      refine z_iconst 826 C dL_law_826 (nI 1) rfl ?_
      refine z_iaddN 827 C (5 * k) 1 rfl rfl dL_law_827 ?_
      refine z_sld 828 C hX hbl hbA ((5 * k) + 1) (by omega) (by omega) dL_law_828 ?_
      refine z_callV 829 C 0 (⟨rfl, rfl⟩) rfl (As := [.int (xs ((5 * k) + 1))]) (rest := []) (pr_dominant (l := l) (G := G) hRk (xs ((5 * k) + 1))) k_X7_dominant q634 ⟨rfl, rfl⟩ ⟨Nat.le_of_ble_eq_true rfl, Nat.le_of_ble_eq_true rfl⟩ rfl (Nat.le_of_ble_eq_true rfl) hcs rfl dL_law_829 (fun v829 σ829 hv829 => ?_)
      rcases hv829 with ⟨xx, rfl, hm⟩
      · skip
        refine z_cv (st1 := [.int xx]) rfl rfl rfl ?_
        refine z_aload_n 832 C dL_law_832 2 rfl ?_
        refine z_aload_n 833 C dL_law_833 0 rfl ?_
        refine z_iload_n 834 C dL_law_834 3 rfl ?_
        refine z_iconst 835 C dL_law_835 (nI 1) rfl ?_
        refine z_iaddN 836 C (5 * k) 1 rfl rfl dL_law_836 ?_
        refine z_sld 837 C hX hbl hbA ((5 * k) + 1) (by omega) (by omega) dL_law_837 ?_
        refine z_callV 838 C 105 (⟨rfl, rfl⟩) rfl (As := [.int (xs ((5 * k) + 1))]) (rest := [.int xx]) (hm) k_X8_dominant q1254 ⟨rfl, rfl⟩ ⟨Nat.le_of_ble_eq_true rfl, Nat.le_of_ble_eq_true rfl⟩ rfl (Nat.le_of_ble_eq_true rfl) hcs rfl dL_law_838 (fun v838 σ838 hv838 => ?_)
        rcases hv838 with ⟨rfl, hR2⟩
        · skip
          refine z_cv (st1 := [.int xx, .int xx]) rfl rfl rfl ?_
          refine z_icmp_eq 841 C 1783 dL_law_841 (by decide) (fun c841 => ?_) (fun c841 => ?_)
          · skip
            refine z_iinc 1783 C dL_law_1783 3 [(3, .int ((nI (5 * k)) + Int32.ofInt 5)), (0, .ref b), (1, .ref (z_ad G 0)), (2, .ref (z_ad G 105))] rfl (by decide) rfl ?_
            refine z_cv (lv1 := [(3, .int (nI (5 * (k + 1)))), (0, .ref b), (1, .ref (z_ad G 0)), (2, .ref (z_ad G 105))]) (st1 := []) (σ1 := σ838) (by rw [zl_inc (by omega)]) rfl rfl ?_
            refine z_goto 1786 C 18 dL_law_1786 (by decide) ?_
            refine z_sub [1, 2, 3, 0] (lv1 := [(0, .ref b), (1, .ref (z_ad G 0)), (2, .ref (z_ad G 105)), (3, .int (nI (5 * (k + 1))))]) rfl ?_
            refine z_cv (lv1 := [(0, .ref b), (1, .ref (z_ad G 0)), (2, .ref (z_ad G 105)), (3, .int (nI (5 * (k + 1))))]) (st1 := []) (σ1 := σ838) rfl rfl rfl ?_
            exact ih_18 (k + 1) σ838 (⟨by omega, by first | exact hR2 | exact z_R.up1 hRk⟩) (by omega)
          · skip
            exact absurd rfl c841
    by_cases e32_24 : ((xs (5 * k)) &&& (nI 63)) = (24 : Int32)
    · skip
      refine z_tabIn 32 C 846 dL_law_32 (by rw [e32_24]; decide) (by rw [e32_24]; decide) (by rw [e32_24]; rfl) (by decide) ?_
      refine z_aload_n 846 C dL_law_846 1 rfl ?_
      refine z_aload_n 847 C dL_law_847 0 rfl ?_
      refine z_iload_n 848 C dL_law_848 3 rfl ?_
      refine z_iconst 849 C dL_law_849 (nI 1) rfl ?_
      refine z_iaddN 850 C (5 * k) 1 rfl rfl dL_law_850 ?_
      refine z_sld 851 C hX hbl hbA ((5 * k) + 1) (by omega) (by omega) dL_law_851 ?_
      refine z_aload_n 852 C dL_law_852 0 rfl ?_
      refine z_iload_n 853 C dL_law_853 3 rfl ?_
      refine z_iconst 854 C dL_law_854 (nI 2) rfl ?_
      refine z_iaddN 855 C (5 * k) 2 rfl rfl dL_law_855 ?_
      refine z_sld 856 C hX hbl hbA ((5 * k) + 2) (by omega) (by omega) dL_law_856 ?_
      refine z_if_eq 857 C 864 dL_law_857 (by decide) (fun c857 => ?_) (fun c857 => ?_)
      · skip
        refine z_iconst 864 C dL_law_864 (nI 0) rfl ?_
        refine z_callV 865 C 0 (⟨rfl, rfl⟩) rfl (As := [.int (xs ((5 * k) + 1)), .int (nI 0)]) (rest := []) (pr_centre (l := l) (G := G) hRk (xs ((5 * k) + 1)) 0 (by decide) (by omega)) k_X7_centre q638 ⟨rfl, rfl⟩ ⟨Nat.le_of_ble_eq_true rfl, Nat.le_of_ble_eq_true rfl⟩ rfl (Nat.le_of_ble_eq_true rfl) hcs rfl dL_law_865 (fun v865 σ865 hv865 => ?_)
        rcases hv865 with ⟨xx, rfl, hm⟩
        · skip
          refine z_cv (st1 := [.long xx]) rfl rfl rfl ?_
          refine z_aload_n 868 C dL_law_868 2 rfl ?_
          refine z_aload_n 869 C dL_law_869 0 rfl ?_
          refine z_iload_n 870 C dL_law_870 3 rfl ?_
          refine z_iconst 871 C dL_law_871 (nI 1) rfl ?_
          refine z_iaddN 872 C (5 * k) 1 rfl rfl dL_law_872 ?_
          refine z_sld 873 C hX hbl hbA ((5 * k) + 1) (by omega) (by omega) dL_law_873 ?_
          refine z_aload_n 874 C dL_law_874 0 rfl ?_
          refine z_iload_n 875 C dL_law_875 3 rfl ?_
          refine z_iconst 876 C dL_law_876 (nI 2) rfl ?_
          refine z_iaddN 877 C (5 * k) 2 rfl rfl dL_law_877 ?_
          refine z_sld 878 C hX hbl hbA ((5 * k) + 2) (by omega) (by omega) dL_law_878 ?_
          refine z_if_eq 879 C 886 dL_law_879 (by decide) (fun c879 => ?_) (fun c879 => ?_)
          · skip
            refine z_iconst 886 C dL_law_886 (nI 0) rfl ?_
            refine z_callV 887 C 105 (⟨rfl, rfl⟩) rfl (As := [.int (xs ((5 * k) + 1)), .int (nI 0)]) (rest := [.long xx]) (hm) k_X8_centre q1258 ⟨rfl, rfl⟩ ⟨Nat.le_of_ble_eq_true rfl, Nat.le_of_ble_eq_true rfl⟩ rfl (Nat.le_of_ble_eq_true rfl) hcs rfl dL_law_887 (fun v887 σ887 hv887 => ?_)
            rcases hv887 with ⟨rfl, hR2⟩
            · skip
              refine z_cv (st1 := [.long xx, .long xx]) rfl rfl rfl ?_
              refine z_lcmp_eq 890 C 1783 dL_law_890 dL_law_891 (by decide) (fun c890 => ?_) (fun c890 => ?_)
              · skip
                refine z_iinc 1783 C dL_law_1783 3 [(3, .int ((nI (5 * k)) + Int32.ofInt 5)), (0, .ref b), (1, .ref (z_ad G 0)), (2, .ref (z_ad G 105))] rfl (by decide) rfl ?_
                refine z_cv (lv1 := [(3, .int (nI (5 * (k + 1)))), (0, .ref b), (1, .ref (z_ad G 0)), (2, .ref (z_ad G 105))]) (st1 := []) (σ1 := σ887) (by rw [zl_inc (by omega)]) rfl rfl ?_
                refine z_goto 1786 C 18 dL_law_1786 (by decide) ?_
                refine z_sub [1, 2, 3, 0] (lv1 := [(0, .ref b), (1, .ref (z_ad G 0)), (2, .ref (z_ad G 105)), (3, .int (nI (5 * (k + 1))))]) rfl ?_
                refine z_cv (lv1 := [(0, .ref b), (1, .ref (z_ad G 0)), (2, .ref (z_ad G 105)), (3, .int (nI (5 * (k + 1))))]) (st1 := []) (σ1 := σ887) rfl rfl rfl ?_
                exact ih_18 (k + 1) σ887 (⟨by omega, by first | exact hR2 | exact z_R.up1 hRk⟩) (by omega)
              · skip
                exact absurd rfl c890
          · skip
            exact absurd c857 c879
      · skip
        refine z_iconst 860 C dL_law_860 (nI 1) rfl ?_
        refine z_goto 861 C 865 dL_law_861 (by decide) ?_
        refine z_callV 865 C 0 (⟨rfl, rfl⟩) rfl (As := [.int (xs ((5 * k) + 1)), .int (nI 1)]) (rest := []) (pr_centre (l := l) (G := G) hRk (xs ((5 * k) + 1)) 1 (by decide) (by omega)) k_X7_centre q638 ⟨rfl, rfl⟩ ⟨Nat.le_of_ble_eq_true rfl, Nat.le_of_ble_eq_true rfl⟩ rfl (Nat.le_of_ble_eq_true rfl) hcs rfl dL_law_865 (fun v865 σ865 hv865 => ?_)
        rcases hv865 with ⟨xx, rfl, hm⟩
        · skip
          refine z_cv (st1 := [.long xx]) rfl rfl rfl ?_
          refine z_aload_n 868 C dL_law_868 2 rfl ?_
          refine z_aload_n 869 C dL_law_869 0 rfl ?_
          refine z_iload_n 870 C dL_law_870 3 rfl ?_
          refine z_iconst 871 C dL_law_871 (nI 1) rfl ?_
          refine z_iaddN 872 C (5 * k) 1 rfl rfl dL_law_872 ?_
          refine z_sld 873 C hX hbl hbA ((5 * k) + 1) (by omega) (by omega) dL_law_873 ?_
          refine z_aload_n 874 C dL_law_874 0 rfl ?_
          refine z_iload_n 875 C dL_law_875 3 rfl ?_
          refine z_iconst 876 C dL_law_876 (nI 2) rfl ?_
          refine z_iaddN 877 C (5 * k) 2 rfl rfl dL_law_877 ?_
          refine z_sld 878 C hX hbl hbA ((5 * k) + 2) (by omega) (by omega) dL_law_878 ?_
          refine z_if_eq 879 C 886 dL_law_879 (by decide) (fun c879 => ?_) (fun c879 => ?_)
          · skip
            exact absurd c879 c857
          · skip
            refine z_iconst 882 C dL_law_882 (nI 1) rfl ?_
            refine z_goto 883 C 887 dL_law_883 (by decide) ?_
            refine z_callV 887 C 105 (⟨rfl, rfl⟩) rfl (As := [.int (xs ((5 * k) + 1)), .int (nI 1)]) (rest := [.long xx]) (hm) k_X8_centre q1258 ⟨rfl, rfl⟩ ⟨Nat.le_of_ble_eq_true rfl, Nat.le_of_ble_eq_true rfl⟩ rfl (Nat.le_of_ble_eq_true rfl) hcs rfl dL_law_887 (fun v887 σ887 hv887 => ?_)
            rcases hv887 with ⟨rfl, hR2⟩
            · skip
              refine z_cv (st1 := [.long xx, .long xx]) rfl rfl rfl ?_
              refine z_lcmp_eq 890 C 1783 dL_law_890 dL_law_891 (by decide) (fun c890 => ?_) (fun c890 => ?_)
              · skip
                refine z_iinc 1783 C dL_law_1783 3 [(3, .int ((nI (5 * k)) + Int32.ofInt 5)), (0, .ref b), (1, .ref (z_ad G 0)), (2, .ref (z_ad G 105))] rfl (by decide) rfl ?_
                refine z_cv (lv1 := [(3, .int (nI (5 * (k + 1)))), (0, .ref b), (1, .ref (z_ad G 0)), (2, .ref (z_ad G 105))]) (st1 := []) (σ1 := σ887) (by rw [zl_inc (by omega)]) rfl rfl ?_
                refine z_goto 1786 C 18 dL_law_1786 (by decide) ?_
                refine z_sub [1, 2, 3, 0] (lv1 := [(0, .ref b), (1, .ref (z_ad G 0)), (2, .ref (z_ad G 105)), (3, .int (nI (5 * (k + 1))))]) rfl ?_
                refine z_cv (lv1 := [(0, .ref b), (1, .ref (z_ad G 0)), (2, .ref (z_ad G 105)), (3, .int (nI (5 * (k + 1))))]) (st1 := []) (σ1 := σ887) rfl rfl rfl ?_
                exact ih_18 (k + 1) σ887 (⟨by omega, by first | exact hR2 | exact z_R.up1 hRk⟩) (by omega)
              · skip
                exact absurd rfl c890
    by_cases e32_25 : ((xs (5 * k)) &&& (nI 63)) = (25 : Int32)
    · skip
      refine z_tabIn 32 C 896 dL_law_32 (by rw [e32_25]; decide) (by rw [e32_25]; decide) (by rw [e32_25]; rfl) (by decide) ?_
      refine z_aload_n 896 C dL_law_896 1 rfl ?_
      refine z_aload_n 897 C dL_law_897 0 rfl ?_
      refine z_iload_n 898 C dL_law_898 3 rfl ?_
      refine z_iconst 899 C dL_law_899 (nI 1) rfl ?_
      refine z_iaddN 900 C (5 * k) 1 rfl rfl dL_law_900 ?_
      refine z_sld 901 C hX hbl hbA ((5 * k) + 1) (by omega) (by omega) dL_law_901 ?_
      refine z_aload_n 902 C dL_law_902 0 rfl ?_
      refine z_iload_n 903 C dL_law_903 3 rfl ?_
      refine z_iconst 904 C dL_law_904 (nI 2) rfl ?_
      refine z_iaddN 905 C (5 * k) 2 rfl rfl dL_law_905 ?_
      refine z_sld 906 C hX hbl hbA ((5 * k) + 2) (by omega) (by omega) dL_law_906 ?_
      refine z_callV 907 C 0 (⟨rfl, rfl⟩) rfl (As := [.int (xs ((5 * k) + 1)), .int (xs ((5 * k) + 2))]) (rest := []) (pr_deviation (l := l) (G := G) hRk (xs ((5 * k) + 1)) (xs ((5 * k) + 2)) (by omega)) k_X7_deviation q695 ⟨rfl, rfl⟩ ⟨Nat.le_of_ble_eq_true rfl, Nat.le_of_ble_eq_true rfl⟩ rfl (Nat.le_of_ble_eq_true rfl) hcs rfl dL_law_907 (fun v907 σ907 hv907 => ?_)
      rcases hv907 with ⟨xx, rfl, hm⟩
      · skip
        refine z_cv (st1 := [.long xx]) rfl rfl rfl ?_
        refine z_aload_n 910 C dL_law_910 2 rfl ?_
        refine z_aload_n 911 C dL_law_911 0 rfl ?_
        refine z_iload_n 912 C dL_law_912 3 rfl ?_
        refine z_iconst 913 C dL_law_913 (nI 1) rfl ?_
        refine z_iaddN 914 C (5 * k) 1 rfl rfl dL_law_914 ?_
        refine z_sld 915 C hX hbl hbA ((5 * k) + 1) (by omega) (by omega) dL_law_915 ?_
        refine z_aload_n 916 C dL_law_916 0 rfl ?_
        refine z_iload_n 917 C dL_law_917 3 rfl ?_
        refine z_iconst 918 C dL_law_918 (nI 2) rfl ?_
        refine z_iaddN 919 C (5 * k) 2 rfl rfl dL_law_919 ?_
        refine z_sld 920 C hX hbl hbA ((5 * k) + 2) (by omega) (by omega) dL_law_920 ?_
        refine z_callV 921 C 105 (⟨rfl, rfl⟩) rfl (As := [.int (xs ((5 * k) + 1)), .int (xs ((5 * k) + 2))]) (rest := [.long xx]) (hm) k_X8_deviation q1286 ⟨rfl, rfl⟩ ⟨Nat.le_of_ble_eq_true rfl, Nat.le_of_ble_eq_true rfl⟩ rfl (Nat.le_of_ble_eq_true rfl) hcs rfl dL_law_921 (fun v921 σ921 hv921 => ?_)
        rcases hv921 with ⟨rfl, hR2⟩
        · skip
          refine z_cv (st1 := [.long xx, .long xx]) rfl rfl rfl ?_
          refine z_lcmp_eq 924 C 1783 dL_law_924 dL_law_925 (by decide) (fun c924 => ?_) (fun c924 => ?_)
          · skip
            refine z_iinc 1783 C dL_law_1783 3 [(3, .int ((nI (5 * k)) + Int32.ofInt 5)), (0, .ref b), (1, .ref (z_ad G 0)), (2, .ref (z_ad G 105))] rfl (by decide) rfl ?_
            refine z_cv (lv1 := [(3, .int (nI (5 * (k + 1)))), (0, .ref b), (1, .ref (z_ad G 0)), (2, .ref (z_ad G 105))]) (st1 := []) (σ1 := σ921) (by rw [zl_inc (by omega)]) rfl rfl ?_
            refine z_goto 1786 C 18 dL_law_1786 (by decide) ?_
            refine z_sub [1, 2, 3, 0] (lv1 := [(0, .ref b), (1, .ref (z_ad G 0)), (2, .ref (z_ad G 105)), (3, .int (nI (5 * (k + 1))))]) rfl ?_
            refine z_cv (lv1 := [(0, .ref b), (1, .ref (z_ad G 0)), (2, .ref (z_ad G 105)), (3, .int (nI (5 * (k + 1))))]) (st1 := []) (σ1 := σ921) rfl rfl rfl ?_
            exact ih_18 (k + 1) σ921 (⟨by omega, by first | exact hR2 | exact z_R.up1 hRk⟩) (by omega)
          · skip
            exact absurd rfl c924
    by_cases e32_26 : ((xs (5 * k)) &&& (nI 63)) = (26 : Int32)
    · skip
      refine z_tabIn 32 C 930 dL_law_32 (by rw [e32_26]; decide) (by rw [e32_26]; decide) (by rw [e32_26]; rfl) (by decide) ?_
      refine z_aload_n 930 C dL_law_930 1 rfl ?_
      refine z_aload_n 931 C dL_law_931 0 rfl ?_
      refine z_iload_n 932 C dL_law_932 3 rfl ?_
      refine z_iconst 933 C dL_law_933 (nI 1) rfl ?_
      refine z_iaddN 934 C (5 * k) 1 rfl rfl dL_law_934 ?_
      refine z_sld 935 C hX hbl hbA ((5 * k) + 1) (by omega) (by omega) dL_law_935 ?_
      refine z_callV 936 C 0 (⟨rfl, rfl⟩) rfl (As := [.int (xs ((5 * k) + 1))]) (rest := []) (pr_roundness (l := l) (G := G) hRk (xs ((5 * k) + 1)) (by omega)) k_X7_roundness q699 ⟨rfl, rfl⟩ ⟨Nat.le_of_ble_eq_true rfl, Nat.le_of_ble_eq_true rfl⟩ rfl (Nat.le_of_ble_eq_true rfl) hcs rfl dL_law_936 (fun v936 σ936 hv936 => ?_)
      rcases hv936 with ⟨xx, rfl, hm⟩
      · skip
        refine z_cv (st1 := [.double xx]) rfl rfl rfl ?_
        refine z_dstore 939 C dL_law_939 [(4, .double xx), (0, .ref b), (1, .ref (z_ad G 0)), (2, .ref (z_ad G 105)), (3, .int (nI (5 * k)))] (by decide) rfl ?_
        refine z_aload_n 941 C dL_law_941 3 rfl ?_
        refine z_aload_n 942 C dL_law_942 1 rfl ?_
        refine z_iload_n 943 C dL_law_943 4 rfl ?_
        refine z_iconst 944 C dL_law_944 (nI 1) rfl ?_
        refine z_iaddN 945 C (5 * k) 1 rfl rfl dL_law_945 ?_
        refine z_sld 946 C hX hbl hbA ((5 * k) + 1) (by omega) (by omega) dL_law_946 ?_
        refine z_callV 947 C 105 (⟨rfl, rfl⟩) rfl (As := [.int (xs ((5 * k) + 1))]) (rest := []) (hm) k_X8_roundness q1294 ⟨rfl, rfl⟩ ⟨Nat.le_of_ble_eq_true rfl, Nat.le_of_ble_eq_true rfl⟩ rfl (Nat.le_of_ble_eq_true rfl) hcs rfl dL_law_947 (fun v947 σ947 hv947 => ?_)
        rcases hv947 with ⟨rfl, hR2⟩
        · skip
          refine z_cv (st1 := [.double xx]) rfl rfl rfl ?_
          refine z_dstore 950 C dL_law_950 [(6, .double xx), (4, .double xx), (0, .ref b), (1, .ref (z_ad G 0)), (2, .ref (z_ad G 105)), (3, .int (nI (5 * k)))] (by decide) rfl ?_
          refine z_dload 952 C dL_law_952 1 rfl ?_
          refine z_dload 954 C dL_law_954 0 rfl ?_
          refine z_dcmp 956 C dL_law_956 ?_
          refine z_if_eq 957 C 978 dL_law_957 (by decide) (fun c957 => ?_) (fun c957 => ?_)
          · skip
            refine z_goto 978 C 1783 dL_law_978 (by decide) ?_
            refine z_iinc 1783 C dL_law_1783 5 [(3, .int ((nI (5 * k)) + Int32.ofInt 5)), (6, .double xx), (4, .double xx), (0, .ref b), (1, .ref (z_ad G 0)), (2, .ref (z_ad G 105))] rfl (by decide) rfl ?_
            refine z_cv (lv1 := [(3, .int (nI (5 * (k + 1)))), (6, .double xx), (4, .double xx), (0, .ref b), (1, .ref (z_ad G 0)), (2, .ref (z_ad G 105))]) (st1 := []) (σ1 := σ947) (by rw [zl_inc (by omega)]) rfl rfl ?_
            refine z_goto 1786 C 18 dL_law_1786 (by decide) ?_
            refine z_sub [3, 4, 5, 0] (lv1 := [(0, .ref b), (1, .ref (z_ad G 0)), (2, .ref (z_ad G 105)), (3, .int (nI (5 * (k + 1))))]) rfl ?_
            refine z_cv (lv1 := [(0, .ref b), (1, .ref (z_ad G 0)), (2, .ref (z_ad G 105)), (3, .int (nI (5 * (k + 1))))]) (st1 := []) (σ1 := σ947) rfl rfl rfl ?_
            exact ih_18 (k + 1) σ947 (⟨by omega, by first | exact hR2 | exact z_R.up1 hRk⟩) (by omega)
          · skip
            refine z_dload 960 C dL_law_960 1 rfl ?_
            refine z_dload 962 C dL_law_962 1 rfl ?_
            refine z_dcmp 964 C dL_law_964 ?_
            refine z_if_eq 965 C 976 dL_law_965 (by decide) (fun c965 => ?_) (fun c965 => ?_)
            · skip
              exact absurd c965 c957
            · skip
              refine z_dload 968 C dL_law_968 0 rfl ?_
              refine z_dload 970 C dL_law_970 0 rfl ?_
              refine z_dcmp 972 C dL_law_972 ?_
              refine z_if_ne 973 C 978 dL_law_973 (by decide) (fun c973 => ?_) (fun c973 => ?_)
              · skip
                refine z_goto 978 C 1783 dL_law_978 (by decide) ?_
                refine z_iinc 1783 C dL_law_1783 5 [(3, .int ((nI (5 * k)) + Int32.ofInt 5)), (6, .double xx), (4, .double xx), (0, .ref b), (1, .ref (z_ad G 0)), (2, .ref (z_ad G 105))] rfl (by decide) rfl ?_
                refine z_cv (lv1 := [(3, .int (nI (5 * (k + 1)))), (6, .double xx), (4, .double xx), (0, .ref b), (1, .ref (z_ad G 0)), (2, .ref (z_ad G 105))]) (st1 := []) (σ1 := σ947) (by rw [zl_inc (by omega)]) rfl rfl ?_
                refine z_goto 1786 C 18 dL_law_1786 (by decide) ?_
                refine z_sub [3, 4, 5, 0] (lv1 := [(0, .ref b), (1, .ref (z_ad G 0)), (2, .ref (z_ad G 105)), (3, .int (nI (5 * (k + 1))))]) rfl ?_
                refine z_cv (lv1 := [(0, .ref b), (1, .ref (z_ad G 0)), (2, .ref (z_ad G 105)), (3, .int (nI (5 * (k + 1))))]) (st1 := []) (σ1 := σ947) rfl rfl rfl ?_
                exact ih_18 (k + 1) σ947 (⟨by omega, by first | exact hR2 | exact z_R.up1 hRk⟩) (by omega)
              · skip
                exact absurd c973 c957
    by_cases e32_27 : ((xs (5 * k)) &&& (nI 63)) = (27 : Int32)
    · skip
      refine z_tabIn 32 C 981 dL_law_32 (by rw [e32_27]; decide) (by rw [e32_27]; decide) (by rw [e32_27]; rfl) (by decide) ?_
      refine z_aload_n 981 C dL_law_981 1 rfl ?_
      refine z_aload_n 982 C dL_law_982 0 rfl ?_
      refine z_iload_n 983 C dL_law_983 3 rfl ?_
      refine z_iconst 984 C dL_law_984 (nI 1) rfl ?_
      refine z_iaddN 985 C (5 * k) 1 rfl rfl dL_law_985 ?_
      refine z_sld 986 C hX hbl hbA ((5 * k) + 1) (by omega) (by omega) dL_law_986 ?_
      refine z_aload_n 987 C dL_law_987 0 rfl ?_
      refine z_iload_n 988 C dL_law_988 3 rfl ?_
      refine z_iconst 989 C dL_law_989 (nI 2) rfl ?_
      refine z_iaddN 990 C (5 * k) 2 rfl rfl dL_law_990 ?_
      refine z_sld 991 C hX hbl hbA ((5 * k) + 2) (by omega) (by omega) dL_law_991 ?_
      refine z_if_eq 992 C 999 dL_law_992 (by decide) (fun c992 => ?_) (fun c992 => ?_)
      · skip
        refine z_iconst 999 C dL_law_999 (nI 0) rfl ?_
        refine z_callV 1000 C 0 (⟨rfl, rfl⟩) rfl (As := [.int (xs ((5 * k) + 1)), .int (nI 0)]) (rest := []) (pr_extreme (l := l) (G := G) hRk (xs ((5 * k) + 1)) 0 (by decide) (by omega)) k_X7_extreme q709 ⟨rfl, rfl⟩ ⟨Nat.le_of_ble_eq_true rfl, Nat.le_of_ble_eq_true rfl⟩ rfl (Nat.le_of_ble_eq_true rfl) hcs rfl dL_law_1000 (fun v1000 σ1000 hv1000 => ?_)
        rcases hv1000 with ⟨xx, rfl, hm⟩
        · skip
          refine z_cv (st1 := [.int xx]) rfl rfl rfl ?_
          refine z_aload_n 1003 C dL_law_1003 2 rfl ?_
          refine z_aload_n 1004 C dL_law_1004 0 rfl ?_
          refine z_iload_n 1005 C dL_law_1005 3 rfl ?_
          refine z_iconst 1006 C dL_law_1006 (nI 1) rfl ?_
          refine z_iaddN 1007 C (5 * k) 1 rfl rfl dL_law_1007 ?_
          refine z_sld 1008 C hX hbl hbA ((5 * k) + 1) (by omega) (by omega) dL_law_1008 ?_
          refine z_aload_n 1009 C dL_law_1009 0 rfl ?_
          refine z_iload_n 1010 C dL_law_1010 3 rfl ?_
          refine z_iconst 1011 C dL_law_1011 (nI 2) rfl ?_
          refine z_iaddN 1012 C (5 * k) 2 rfl rfl dL_law_1012 ?_
          refine z_sld 1013 C hX hbl hbA ((5 * k) + 2) (by omega) (by omega) dL_law_1013 ?_
          refine z_if_eq 1014 C 1021 dL_law_1014 (by decide) (fun c1014 => ?_) (fun c1014 => ?_)
          · skip
            refine z_iconst 1021 C dL_law_1021 (nI 0) rfl ?_
            refine z_callV 1022 C 105 (⟨rfl, rfl⟩) rfl (As := [.int (xs ((5 * k) + 1)), .int (nI 0)]) (rest := [.int xx]) (hm) k_X8_extreme q1304 ⟨rfl, rfl⟩ ⟨Nat.le_of_ble_eq_true rfl, Nat.le_of_ble_eq_true rfl⟩ rfl (Nat.le_of_ble_eq_true rfl) hcs rfl dL_law_1022 (fun v1022 σ1022 hv1022 => ?_)
            rcases hv1022 with ⟨rfl, hR2⟩
            · skip
              refine z_cv (st1 := [.int xx, .int xx]) rfl rfl rfl ?_
              refine z_icmp_eq 1025 C 1783 dL_law_1025 (by decide) (fun c1025 => ?_) (fun c1025 => ?_)
              · skip
                refine z_iinc 1783 C dL_law_1783 3 [(3, .int ((nI (5 * k)) + Int32.ofInt 5)), (0, .ref b), (1, .ref (z_ad G 0)), (2, .ref (z_ad G 105))] rfl (by decide) rfl ?_
                refine z_cv (lv1 := [(3, .int (nI (5 * (k + 1)))), (0, .ref b), (1, .ref (z_ad G 0)), (2, .ref (z_ad G 105))]) (st1 := []) (σ1 := σ1022) (by rw [zl_inc (by omega)]) rfl rfl ?_
                refine z_goto 1786 C 18 dL_law_1786 (by decide) ?_
                refine z_sub [1, 2, 3, 0] (lv1 := [(0, .ref b), (1, .ref (z_ad G 0)), (2, .ref (z_ad G 105)), (3, .int (nI (5 * (k + 1))))]) rfl ?_
                refine z_cv (lv1 := [(0, .ref b), (1, .ref (z_ad G 0)), (2, .ref (z_ad G 105)), (3, .int (nI (5 * (k + 1))))]) (st1 := []) (σ1 := σ1022) rfl rfl rfl ?_
                exact ih_18 (k + 1) σ1022 (⟨by omega, by first | exact hR2 | exact z_R.up1 hRk⟩) (by omega)
              · skip
                exact absurd rfl c1025
          · skip
            exact absurd c992 c1014
      · skip
        refine z_iconst 995 C dL_law_995 (nI 1) rfl ?_
        refine z_goto 996 C 1000 dL_law_996 (by decide) ?_
        refine z_callV 1000 C 0 (⟨rfl, rfl⟩) rfl (As := [.int (xs ((5 * k) + 1)), .int (nI 1)]) (rest := []) (pr_extreme (l := l) (G := G) hRk (xs ((5 * k) + 1)) 1 (by decide) (by omega)) k_X7_extreme q709 ⟨rfl, rfl⟩ ⟨Nat.le_of_ble_eq_true rfl, Nat.le_of_ble_eq_true rfl⟩ rfl (Nat.le_of_ble_eq_true rfl) hcs rfl dL_law_1000 (fun v1000 σ1000 hv1000 => ?_)
        rcases hv1000 with ⟨xx, rfl, hm⟩
        · skip
          refine z_cv (st1 := [.int xx]) rfl rfl rfl ?_
          refine z_aload_n 1003 C dL_law_1003 2 rfl ?_
          refine z_aload_n 1004 C dL_law_1004 0 rfl ?_
          refine z_iload_n 1005 C dL_law_1005 3 rfl ?_
          refine z_iconst 1006 C dL_law_1006 (nI 1) rfl ?_
          refine z_iaddN 1007 C (5 * k) 1 rfl rfl dL_law_1007 ?_
          refine z_sld 1008 C hX hbl hbA ((5 * k) + 1) (by omega) (by omega) dL_law_1008 ?_
          refine z_aload_n 1009 C dL_law_1009 0 rfl ?_
          refine z_iload_n 1010 C dL_law_1010 3 rfl ?_
          refine z_iconst 1011 C dL_law_1011 (nI 2) rfl ?_
          refine z_iaddN 1012 C (5 * k) 2 rfl rfl dL_law_1012 ?_
          refine z_sld 1013 C hX hbl hbA ((5 * k) + 2) (by omega) (by omega) dL_law_1013 ?_
          refine z_if_eq 1014 C 1021 dL_law_1014 (by decide) (fun c1014 => ?_) (fun c1014 => ?_)
          · skip
            exact absurd c1014 c992
          · skip
            refine z_iconst 1017 C dL_law_1017 (nI 1) rfl ?_
            refine z_goto 1018 C 1022 dL_law_1018 (by decide) ?_
            refine z_callV 1022 C 105 (⟨rfl, rfl⟩) rfl (As := [.int (xs ((5 * k) + 1)), .int (nI 1)]) (rest := [.int xx]) (hm) k_X8_extreme q1304 ⟨rfl, rfl⟩ ⟨Nat.le_of_ble_eq_true rfl, Nat.le_of_ble_eq_true rfl⟩ rfl (Nat.le_of_ble_eq_true rfl) hcs rfl dL_law_1022 (fun v1022 σ1022 hv1022 => ?_)
            rcases hv1022 with ⟨rfl, hR2⟩
            · skip
              refine z_cv (st1 := [.int xx, .int xx]) rfl rfl rfl ?_
              refine z_icmp_eq 1025 C 1783 dL_law_1025 (by decide) (fun c1025 => ?_) (fun c1025 => ?_)
              · skip
                refine z_iinc 1783 C dL_law_1783 3 [(3, .int ((nI (5 * k)) + Int32.ofInt 5)), (0, .ref b), (1, .ref (z_ad G 0)), (2, .ref (z_ad G 105))] rfl (by decide) rfl ?_
                refine z_cv (lv1 := [(3, .int (nI (5 * (k + 1)))), (0, .ref b), (1, .ref (z_ad G 0)), (2, .ref (z_ad G 105))]) (st1 := []) (σ1 := σ1022) (by rw [zl_inc (by omega)]) rfl rfl ?_
                refine z_goto 1786 C 18 dL_law_1786 (by decide) ?_
                refine z_sub [1, 2, 3, 0] (lv1 := [(0, .ref b), (1, .ref (z_ad G 0)), (2, .ref (z_ad G 105)), (3, .int (nI (5 * (k + 1))))]) rfl ?_
                refine z_cv (lv1 := [(0, .ref b), (1, .ref (z_ad G 0)), (2, .ref (z_ad G 105)), (3, .int (nI (5 * (k + 1))))]) (st1 := []) (σ1 := σ1022) rfl rfl rfl ?_
                exact ih_18 (k + 1) σ1022 (⟨by omega, by first | exact hR2 | exact z_R.up1 hRk⟩) (by omega)
              · skip
                exact absurd rfl c1025
    by_cases e32_28 : ((xs (5 * k)) &&& (nI 63)) = (28 : Int32)
    · skip
      refine z_tabIn 32 C 1030 dL_law_32 (by rw [e32_28]; decide) (by rw [e32_28]; decide) (by rw [e32_28]; rfl) (by decide) ?_
      refine z_aload_n 1030 C dL_law_1030 1 rfl ?_
      refine z_callV 1031 C 0 (⟨rfl, rfl⟩) rfl (As := []) (rest := []) (pr_meanSquare (l := l) (G := G) hRk (by omega)) k_X7_meanSquare q717 ⟨rfl, rfl⟩ ⟨Nat.le_of_ble_eq_true rfl, Nat.le_of_ble_eq_true rfl⟩ rfl (Nat.le_of_ble_eq_true rfl) hcs rfl dL_law_1031 (fun v1031 σ1031 hv1031 => ?_)
      rcases hv1031 with ⟨xx, rfl, hn, hm⟩
      · skip
        refine z_cv (st1 := [.float xx]) rfl rfl rfl ?_
        refine z_f2d 1034 C dL_law_1034 (hn) ?_
        refine z_dstore 1035 C dL_law_1035 [(4, .double (FP.f2d xx)), (0, .ref b), (1, .ref (z_ad G 0)), (2, .ref (z_ad G 105)), (3, .int (nI (5 * k)))] (by decide) rfl ?_
        refine z_aload_n 1037 C dL_law_1037 3 rfl ?_
        refine z_callV 1038 C 105 (⟨rfl, rfl⟩) rfl (As := []) (rest := []) (hm) k_X8_meanSquare q1312 ⟨rfl, rfl⟩ ⟨Nat.le_of_ble_eq_true rfl, Nat.le_of_ble_eq_true rfl⟩ rfl (Nat.le_of_ble_eq_true rfl) hcs rfl dL_law_1038 (fun v1038 σ1038 hv1038 => ?_)
        rcases hv1038 with ⟨rfl, hR2⟩
        · skip
          refine z_cv (st1 := [.float xx]) rfl rfl rfl ?_
          refine z_f2d 1041 C dL_law_1041 (hn) ?_
          refine z_dstore 1042 C dL_law_1042 [(6, .double (FP.f2d xx)), (4, .double (FP.f2d xx)), (0, .ref b), (1, .ref (z_ad G 0)), (2, .ref (z_ad G 105)), (3, .int (nI (5 * k)))] (by decide) rfl ?_
          refine z_dload 1044 C dL_law_1044 1 rfl ?_
          refine z_dload 1046 C dL_law_1046 0 rfl ?_
          refine z_dcmp 1048 C dL_law_1048 ?_
          refine z_if_eq 1049 C 1070 dL_law_1049 (by decide) (fun c1049 => ?_) (fun c1049 => ?_)
          · skip
            refine z_goto 1070 C 1783 dL_law_1070 (by decide) ?_
            refine z_iinc 1783 C dL_law_1783 5 [(3, .int ((nI (5 * k)) + Int32.ofInt 5)), (6, .double (FP.f2d xx)), (4, .double (FP.f2d xx)), (0, .ref b), (1, .ref (z_ad G 0)), (2, .ref (z_ad G 105))] rfl (by decide) rfl ?_
            refine z_cv (lv1 := [(3, .int (nI (5 * (k + 1)))), (6, .double (FP.f2d xx)), (4, .double (FP.f2d xx)), (0, .ref b), (1, .ref (z_ad G 0)), (2, .ref (z_ad G 105))]) (st1 := []) (σ1 := σ1038) (by rw [zl_inc (by omega)]) rfl rfl ?_
            refine z_goto 1786 C 18 dL_law_1786 (by decide) ?_
            refine z_sub [3, 4, 5, 0] (lv1 := [(0, .ref b), (1, .ref (z_ad G 0)), (2, .ref (z_ad G 105)), (3, .int (nI (5 * (k + 1))))]) rfl ?_
            refine z_cv (lv1 := [(0, .ref b), (1, .ref (z_ad G 0)), (2, .ref (z_ad G 105)), (3, .int (nI (5 * (k + 1))))]) (st1 := []) (σ1 := σ1038) rfl rfl rfl ?_
            exact ih_18 (k + 1) σ1038 (⟨by omega, by first | exact hR2 | exact z_R.up1 hRk⟩) (by omega)
          · skip
            refine z_dload 1052 C dL_law_1052 1 rfl ?_
            refine z_dload 1054 C dL_law_1054 1 rfl ?_
            refine z_dcmp 1056 C dL_law_1056 ?_
            refine z_if_eq 1057 C 1068 dL_law_1057 (by decide) (fun c1057 => ?_) (fun c1057 => ?_)
            · skip
              exact absurd c1057 c1049
            · skip
              refine z_dload 1060 C dL_law_1060 0 rfl ?_
              refine z_dload 1062 C dL_law_1062 0 rfl ?_
              refine z_dcmp 1064 C dL_law_1064 ?_
              refine z_if_ne 1065 C 1070 dL_law_1065 (by decide) (fun c1065 => ?_) (fun c1065 => ?_)
              · skip
                refine z_goto 1070 C 1783 dL_law_1070 (by decide) ?_
                refine z_iinc 1783 C dL_law_1783 5 [(3, .int ((nI (5 * k)) + Int32.ofInt 5)), (6, .double (FP.f2d xx)), (4, .double (FP.f2d xx)), (0, .ref b), (1, .ref (z_ad G 0)), (2, .ref (z_ad G 105))] rfl (by decide) rfl ?_
                refine z_cv (lv1 := [(3, .int (nI (5 * (k + 1)))), (6, .double (FP.f2d xx)), (4, .double (FP.f2d xx)), (0, .ref b), (1, .ref (z_ad G 0)), (2, .ref (z_ad G 105))]) (st1 := []) (σ1 := σ1038) (by rw [zl_inc (by omega)]) rfl rfl ?_
                refine z_goto 1786 C 18 dL_law_1786 (by decide) ?_
                refine z_sub [3, 4, 5, 0] (lv1 := [(0, .ref b), (1, .ref (z_ad G 0)), (2, .ref (z_ad G 105)), (3, .int (nI (5 * (k + 1))))]) rfl ?_
                refine z_cv (lv1 := [(0, .ref b), (1, .ref (z_ad G 0)), (2, .ref (z_ad G 105)), (3, .int (nI (5 * (k + 1))))]) (st1 := []) (σ1 := σ1038) rfl rfl rfl ?_
                exact ih_18 (k + 1) σ1038 (⟨by omega, by first | exact hR2 | exact z_R.up1 hRk⟩) (by omega)
              · skip
                exact absurd c1065 c1049
    by_cases e32_29 : ((xs (5 * k)) &&& (nI 63)) = (29 : Int32)
    · skip
      refine z_tabIn 32 C 1073 dL_law_32 (by rw [e32_29]; decide) (by rw [e32_29]; decide) (by rw [e32_29]; rfl) (by decide) ?_
      refine z_aload_n 1073 C dL_law_1073 1 rfl ?_
      refine z_aload_n 1074 C dL_law_1074 0 rfl ?_
      refine z_iload_n 1075 C dL_law_1075 3 rfl ?_
      refine z_iconst 1076 C dL_law_1076 (nI 1) rfl ?_
      refine z_iaddN 1077 C (5 * k) 1 rfl rfl dL_law_1077 ?_
      refine z_sld 1078 C hX hbl hbA ((5 * k) + 1) (by omega) (by omega) dL_law_1078 ?_
      refine z_aload_n 1079 C dL_law_1079 0 rfl ?_
      refine z_iload_n 1080 C dL_law_1080 3 rfl ?_
      refine z_iconst 1081 C dL_law_1081 (nI 2) rfl ?_
      refine z_iaddN 1082 C (5 * k) 2 rfl rfl dL_law_1082 ?_
      refine z_sld 1083 C hX hbl hbA ((5 * k) + 2) (by omega) (by omega) dL_law_1083 ?_
      refine z_i2l 1084 C dL_law_1084 ?_
      refine z_bipush 1085 C dL_law_1085 (nI 32) rfl ?_
      refine z_lshl 1087 C dL_law_1087 ?_
      refine z_aload_n 1088 C dL_law_1088 0 rfl ?_
      refine z_iload_n 1089 C dL_law_1089 3 rfl ?_
      refine z_iconst 1090 C dL_law_1090 (nI 3) rfl ?_
      refine z_iaddN 1091 C (5 * k) 3 rfl rfl dL_law_1091 ?_
      refine z_sld 1092 C hX hbl hbA ((5 * k) + 3) (by omega) (by omega) dL_law_1092 ?_
      refine z_i2l 1093 C dL_law_1093 ?_
      refine z_ldc2 1094 C dL_law_1094 q1487 ?_
      refine z_land 1097 C dL_law_1097 ?_
      refine z_lor 1098 C dL_law_1098 ?_
      refine z_callV 1099 C 0 (⟨rfl, rfl⟩) rfl (As := [.int (xs ((5 * k) + 1)), .long (((Int32.toInt64 (xs ((5 * k) + 2))) <<< (Int32.toInt64 (nI 32) &&& 63)) ||| ((Int32.toInt64 (xs ((5 * k) + 3))) &&& 4294967295))]) (rest := []) (pr_materialAt (l := l) (G := G) hRk (xs ((5 * k) + 1)) (((Int32.toInt64 (xs ((5 * k) + 2))) <<< (Int32.toInt64 (nI 32) &&& 63)) ||| ((Int32.toInt64 (xs ((5 * k) + 3))) &&& 4294967295)) (by omega)) k_X7_materialAt q722 ⟨rfl, rfl⟩ ⟨Nat.le_of_ble_eq_true rfl, Nat.le_of_ble_eq_true rfl⟩ rfl (Nat.le_of_ble_eq_true rfl) hcs rfl dL_law_1099 (fun v1099 σ1099 hv1099 => ?_)
      rcases hv1099 with ⟨xx, rfl, hm⟩
      · skip
        refine z_cv (st1 := [.int xx]) rfl rfl rfl ?_
        refine z_aload_n 1102 C dL_law_1102 2 rfl ?_
        refine z_aload_n 1103 C dL_law_1103 0 rfl ?_
        refine z_iload_n 1104 C dL_law_1104 3 rfl ?_
        refine z_iconst 1105 C dL_law_1105 (nI 1) rfl ?_
        refine z_iaddN 1106 C (5 * k) 1 rfl rfl dL_law_1106 ?_
        refine z_sld 1107 C hX hbl hbA ((5 * k) + 1) (by omega) (by omega) dL_law_1107 ?_
        refine z_aload_n 1108 C dL_law_1108 0 rfl ?_
        refine z_iload_n 1109 C dL_law_1109 3 rfl ?_
        refine z_iconst 1110 C dL_law_1110 (nI 2) rfl ?_
        refine z_iaddN 1111 C (5 * k) 2 rfl rfl dL_law_1111 ?_
        refine z_sld 1112 C hX hbl hbA ((5 * k) + 2) (by omega) (by omega) dL_law_1112 ?_
        refine z_i2l 1113 C dL_law_1113 ?_
        refine z_bipush 1114 C dL_law_1114 (nI 32) rfl ?_
        refine z_lshl 1116 C dL_law_1116 ?_
        refine z_aload_n 1117 C dL_law_1117 0 rfl ?_
        refine z_iload_n 1118 C dL_law_1118 3 rfl ?_
        refine z_iconst 1119 C dL_law_1119 (nI 3) rfl ?_
        refine z_iaddN 1120 C (5 * k) 3 rfl rfl dL_law_1120 ?_
        refine z_sld 1121 C hX hbl hbA ((5 * k) + 3) (by omega) (by omega) dL_law_1121 ?_
        refine z_i2l 1122 C dL_law_1122 ?_
        refine z_ldc2 1123 C dL_law_1123 q1487 ?_
        refine z_land 1126 C dL_law_1126 ?_
        refine z_lor 1127 C dL_law_1127 ?_
        refine z_callV 1128 C 105 (⟨rfl, rfl⟩) rfl (As := [.int (xs ((5 * k) + 1)), .long (((Int32.toInt64 (xs ((5 * k) + 2))) <<< (Int32.toInt64 (nI 32) &&& 63)) ||| ((Int32.toInt64 (xs ((5 * k) + 3))) &&& 4294967295))]) (rest := [.int xx]) (hm) k_X8_materialAt q1317 ⟨rfl, rfl⟩ ⟨Nat.le_of_ble_eq_true rfl, Nat.le_of_ble_eq_true rfl⟩ rfl (Nat.le_of_ble_eq_true rfl) hcs rfl dL_law_1128 (fun v1128 σ1128 hv1128 => ?_)
        rcases hv1128 with ⟨rfl, hR2⟩
        · skip
          refine z_cv (st1 := [.int xx, .int xx]) rfl rfl rfl ?_
          refine z_icmp_eq 1131 C 1783 dL_law_1131 (by decide) (fun c1131 => ?_) (fun c1131 => ?_)
          · skip
            refine z_iinc 1783 C dL_law_1783 3 [(3, .int ((nI (5 * k)) + Int32.ofInt 5)), (0, .ref b), (1, .ref (z_ad G 0)), (2, .ref (z_ad G 105))] rfl (by decide) rfl ?_
            refine z_cv (lv1 := [(3, .int (nI (5 * (k + 1)))), (0, .ref b), (1, .ref (z_ad G 0)), (2, .ref (z_ad G 105))]) (st1 := []) (σ1 := σ1128) (by rw [zl_inc (by omega)]) rfl rfl ?_
            refine z_goto 1786 C 18 dL_law_1786 (by decide) ?_
            refine z_sub [1, 2, 3, 0] (lv1 := [(0, .ref b), (1, .ref (z_ad G 0)), (2, .ref (z_ad G 105)), (3, .int (nI (5 * (k + 1))))]) rfl ?_
            refine z_cv (lv1 := [(0, .ref b), (1, .ref (z_ad G 0)), (2, .ref (z_ad G 105)), (3, .int (nI (5 * (k + 1))))]) (st1 := []) (σ1 := σ1128) rfl rfl rfl ?_
            exact ih_18 (k + 1) σ1128 (⟨by omega, by first | exact hR2 | exact z_R.up1 hRk⟩) (by omega)
          · skip
            exact absurd rfl c1131
    by_cases e32_30 : ((xs (5 * k)) &&& (nI 63)) = (30 : Int32)
    · skip
      refine z_tabIn 32 C 1136 dL_law_32 (by rw [e32_30]; decide) (by rw [e32_30]; decide) (by rw [e32_30]; rfl) (by decide) ?_
      refine z_aload_n 1136 C dL_law_1136 1 rfl ?_
      refine z_aload_n 1137 C dL_law_1137 0 rfl ?_
      refine z_iload_n 1138 C dL_law_1138 3 rfl ?_
      refine z_iconst 1139 C dL_law_1139 (nI 1) rfl ?_
      refine z_iaddN 1140 C (5 * k) 1 rfl rfl dL_law_1140 ?_
      refine z_sld 1141 C hX hbl hbA ((5 * k) + 1) (by omega) (by omega) dL_law_1141 ?_
      refine z_aload_n 1142 C dL_law_1142 0 rfl ?_
      refine z_iload_n 1143 C dL_law_1143 3 rfl ?_
      refine z_iconst 1144 C dL_law_1144 (nI 2) rfl ?_
      refine z_iaddN 1145 C (5 * k) 2 rfl rfl dL_law_1145 ?_
      refine z_sld 1146 C hX hbl hbA ((5 * k) + 2) (by omega) (by omega) dL_law_1146 ?_
      refine z_callV 1147 C 0 (⟨rfl, rfl⟩) rfl (As := [.int (xs ((5 * k) + 1)), .int (xs ((5 * k) + 2))]) (rest := []) (pr_depthFor (l := l) (G := G) hRk (xs ((5 * k) + 1)) (xs ((5 * k) + 2)) (by omega)) k_X7_depthFor q730 ⟨rfl, rfl⟩ ⟨Nat.le_of_ble_eq_true rfl, Nat.le_of_ble_eq_true rfl⟩ rfl (Nat.le_of_ble_eq_true rfl) hcs rfl dL_law_1147 (fun v1147 σ1147 hv1147 => ?_)
      rcases hv1147 with ⟨xx, rfl, hm⟩
      · skip
        refine z_cv (st1 := [.long xx]) rfl rfl rfl ?_
        refine z_aload_n 1150 C dL_law_1150 2 rfl ?_
        refine z_aload_n 1151 C dL_law_1151 0 rfl ?_
        refine z_iload_n 1152 C dL_law_1152 3 rfl ?_
        refine z_iconst 1153 C dL_law_1153 (nI 1) rfl ?_
        refine z_iaddN 1154 C (5 * k) 1 rfl rfl dL_law_1154 ?_
        refine z_sld 1155 C hX hbl hbA ((5 * k) + 1) (by omega) (by omega) dL_law_1155 ?_
        refine z_aload_n 1156 C dL_law_1156 0 rfl ?_
        refine z_iload_n 1157 C dL_law_1157 3 rfl ?_
        refine z_iconst 1158 C dL_law_1158 (nI 2) rfl ?_
        refine z_iaddN 1159 C (5 * k) 2 rfl rfl dL_law_1159 ?_
        refine z_sld 1160 C hX hbl hbA ((5 * k) + 2) (by omega) (by omega) dL_law_1160 ?_
        refine z_callV 1161 C 105 (⟨rfl, rfl⟩) rfl (As := [.int (xs ((5 * k) + 1)), .int (xs ((5 * k) + 2))]) (rest := [.long xx]) (hm) k_X8_depthFor q1325 ⟨rfl, rfl⟩ ⟨Nat.le_of_ble_eq_true rfl, Nat.le_of_ble_eq_true rfl⟩ rfl (Nat.le_of_ble_eq_true rfl) hcs rfl dL_law_1161 (fun v1161 σ1161 hv1161 => ?_)
        rcases hv1161 with ⟨rfl, hR2⟩
        · skip
          refine z_cv (st1 := [.long xx, .long xx]) rfl rfl rfl ?_
          refine z_lcmp_eq 1164 C 1783 dL_law_1164 dL_law_1165 (by decide) (fun c1164 => ?_) (fun c1164 => ?_)
          · skip
            refine z_iinc 1783 C dL_law_1783 3 [(3, .int ((nI (5 * k)) + Int32.ofInt 5)), (0, .ref b), (1, .ref (z_ad G 0)), (2, .ref (z_ad G 105))] rfl (by decide) rfl ?_
            refine z_cv (lv1 := [(3, .int (nI (5 * (k + 1)))), (0, .ref b), (1, .ref (z_ad G 0)), (2, .ref (z_ad G 105))]) (st1 := []) (σ1 := σ1161) (by rw [zl_inc (by omega)]) rfl rfl ?_
            refine z_goto 1786 C 18 dL_law_1786 (by decide) ?_
            refine z_sub [1, 2, 3, 0] (lv1 := [(0, .ref b), (1, .ref (z_ad G 0)), (2, .ref (z_ad G 105)), (3, .int (nI (5 * (k + 1))))]) rfl ?_
            refine z_cv (lv1 := [(0, .ref b), (1, .ref (z_ad G 0)), (2, .ref (z_ad G 105)), (3, .int (nI (5 * (k + 1))))]) (st1 := []) (σ1 := σ1161) rfl rfl rfl ?_
            exact ih_18 (k + 1) σ1161 (⟨by omega, by first | exact hR2 | exact z_R.up1 hRk⟩) (by omega)
          · skip
            exact absurd rfl c1164
    by_cases e32_31 : ((xs (5 * k)) &&& (nI 63)) = (31 : Int32)
    · skip
      refine z_tabIn 32 C 1170 dL_law_32 (by rw [e32_31]; decide) (by rw [e32_31]; decide) (by rw [e32_31]; rfl) (by decide) ?_
      refine z_aload_n 1170 C dL_law_1170 1 rfl ?_
      refine z_aload_n 1171 C dL_law_1171 0 rfl ?_
      refine z_iload_n 1172 C dL_law_1172 3 rfl ?_
      refine z_iconst 1173 C dL_law_1173 (nI 1) rfl ?_
      refine z_iaddN 1174 C (5 * k) 1 rfl rfl dL_law_1174 ?_
      refine z_sld 1175 C hX hbl hbA ((5 * k) + 1) (by omega) (by omega) dL_law_1175 ?_
      refine z_callV 1176 C 0 (⟨rfl, rfl⟩) rfl (As := [.int (xs ((5 * k) + 1))]) (rest := []) (pr_storeTrace (l := l) (G := G) hRk (xs ((5 * k) + 1))) k_X7_storeTrace q740 ⟨rfl, rfl⟩ ⟨Nat.le_of_ble_eq_true rfl, Nat.le_of_ble_eq_true rfl⟩ rfl (Nat.le_of_ble_eq_true rfl) hcs rfl dL_law_1176 (fun v1176 σ1176 hv1176 => ?_)
      rcases hv1176 with ⟨xx, rfl, hm⟩
      · skip
        refine z_cv (st1 := [.int xx]) rfl rfl rfl ?_
        refine z_aload_n 1179 C dL_law_1179 2 rfl ?_
        refine z_aload_n 1180 C dL_law_1180 0 rfl ?_
        refine z_iload_n 1181 C dL_law_1181 3 rfl ?_
        refine z_iconst 1182 C dL_law_1182 (nI 1) rfl ?_
        refine z_iaddN 1183 C (5 * k) 1 rfl rfl dL_law_1183 ?_
        refine z_sld 1184 C hX hbl hbA ((5 * k) + 1) (by omega) (by omega) dL_law_1184 ?_
        refine z_callV 1185 C 105 (⟨rfl, rfl⟩) rfl (As := [.int (xs ((5 * k) + 1))]) (rest := [.int xx]) (hm) k_X8_storeTrace q1331 ⟨rfl, rfl⟩ ⟨Nat.le_of_ble_eq_true rfl, Nat.le_of_ble_eq_true rfl⟩ rfl (Nat.le_of_ble_eq_true rfl) hcs rfl dL_law_1185 (fun v1185 σ1185 hv1185 => ?_)
        rcases hv1185 with ⟨rfl, hR2⟩
        · skip
          refine z_cv (st1 := [.int xx, .int xx]) rfl rfl rfl ?_
          refine z_icmp_eq 1188 C 1783 dL_law_1188 (by decide) (fun c1188 => ?_) (fun c1188 => ?_)
          · skip
            refine z_iinc 1783 C dL_law_1783 3 [(3, .int ((nI (5 * k)) + Int32.ofInt 5)), (0, .ref b), (1, .ref (z_ad G 0)), (2, .ref (z_ad G 105))] rfl (by decide) rfl ?_
            refine z_cv (lv1 := [(3, .int (nI (5 * (k + 1)))), (0, .ref b), (1, .ref (z_ad G 0)), (2, .ref (z_ad G 105))]) (st1 := []) (σ1 := σ1185) (by rw [zl_inc (by omega)]) rfl rfl ?_
            refine z_goto 1786 C 18 dL_law_1786 (by decide) ?_
            refine z_sub [1, 2, 3, 0] (lv1 := [(0, .ref b), (1, .ref (z_ad G 0)), (2, .ref (z_ad G 105)), (3, .int (nI (5 * (k + 1))))]) rfl ?_
            refine z_cv (lv1 := [(0, .ref b), (1, .ref (z_ad G 0)), (2, .ref (z_ad G 105)), (3, .int (nI (5 * (k + 1))))]) (st1 := []) (σ1 := σ1185) rfl rfl rfl ?_
            exact ih_18 (k + 1) σ1185 (⟨by omega, by first | exact hR2 | exact z_R.up1 hRk⟩) (by omega)
          · skip
            exact absurd rfl c1188
    by_cases e32_32 : ((xs (5 * k)) &&& (nI 63)) = (32 : Int32)
    · skip
      refine z_tabIn 32 C 1193 dL_law_32 (by rw [e32_32]; decide) (by rw [e32_32]; decide) (by rw [e32_32]; rfl) (by decide) ?_
      refine z_aload_n 1193 C dL_law_1193 1 rfl ?_
      refine z_aload_n 1194 C dL_law_1194 0 rfl ?_
      refine z_iload_n 1195 C dL_law_1195 3 rfl ?_
      refine z_iconst 1196 C dL_law_1196 (nI 1) rfl ?_
      refine z_iaddN 1197 C (5 * k) 1 rfl rfl dL_law_1197 ?_
      refine z_sld 1198 C hX hbl hbA ((5 * k) + 1) (by omega) (by omega) dL_law_1198 ?_
      refine z_callV 1199 C 0 (⟨rfl, rfl⟩) rfl (As := [.int (xs ((5 * k) + 1))]) (rest := []) (pr_removeTraces (l := l) (G := G) hRk (xs ((5 * k) + 1))) k_X7_removeTraces q755 ⟨rfl, rfl⟩ ⟨Nat.le_of_ble_eq_true rfl, Nat.le_of_ble_eq_true rfl⟩ rfl (Nat.le_of_ble_eq_true rfl) hcs rfl dL_law_1199 (fun v1199 σ1199 hv1199 => ?_)
      rcases hv1199 with ⟨xx, rfl, hm⟩
      · skip
        refine z_cv (st1 := [.int xx]) rfl rfl rfl ?_
        refine z_aload_n 1202 C dL_law_1202 2 rfl ?_
        refine z_aload_n 1203 C dL_law_1203 0 rfl ?_
        refine z_iload_n 1204 C dL_law_1204 3 rfl ?_
        refine z_iconst 1205 C dL_law_1205 (nI 1) rfl ?_
        refine z_iaddN 1206 C (5 * k) 1 rfl rfl dL_law_1206 ?_
        refine z_sld 1207 C hX hbl hbA ((5 * k) + 1) (by omega) (by omega) dL_law_1207 ?_
        refine z_callV 1208 C 105 (⟨rfl, rfl⟩) rfl (As := [.int (xs ((5 * k) + 1))]) (rest := [.int xx]) (hm) k_X8_removeTraces q1337 ⟨rfl, rfl⟩ ⟨Nat.le_of_ble_eq_true rfl, Nat.le_of_ble_eq_true rfl⟩ rfl (Nat.le_of_ble_eq_true rfl) hcs rfl dL_law_1208 (fun v1208 σ1208 hv1208 => ?_)
        rcases hv1208 with ⟨rfl, hR2⟩
        · skip
          refine z_cv (st1 := [.int xx, .int xx]) rfl rfl rfl ?_
          refine z_icmp_eq 1211 C 1783 dL_law_1211 (by decide) (fun c1211 => ?_) (fun c1211 => ?_)
          · skip
            refine z_iinc 1783 C dL_law_1783 3 [(3, .int ((nI (5 * k)) + Int32.ofInt 5)), (0, .ref b), (1, .ref (z_ad G 0)), (2, .ref (z_ad G 105))] rfl (by decide) rfl ?_
            refine z_cv (lv1 := [(3, .int (nI (5 * (k + 1)))), (0, .ref b), (1, .ref (z_ad G 0)), (2, .ref (z_ad G 105))]) (st1 := []) (σ1 := σ1208) (by rw [zl_inc (by omega)]) rfl rfl ?_
            refine z_goto 1786 C 18 dL_law_1786 (by decide) ?_
            refine z_sub [1, 2, 3, 0] (lv1 := [(0, .ref b), (1, .ref (z_ad G 0)), (2, .ref (z_ad G 105)), (3, .int (nI (5 * (k + 1))))]) rfl ?_
            refine z_cv (lv1 := [(0, .ref b), (1, .ref (z_ad G 0)), (2, .ref (z_ad G 105)), (3, .int (nI (5 * (k + 1))))]) (st1 := []) (σ1 := σ1208) rfl rfl rfl ?_
            exact ih_18 (k + 1) σ1208 (⟨by omega, by first | exact hR2 | exact z_R.up1 hRk⟩) (by omega)
          · skip
            exact absurd rfl c1211
    by_cases e32_33 : ((xs (5 * k)) &&& (nI 63)) = (33 : Int32)
    · skip
      refine z_tabIn 32 C 1216 dL_law_32 (by rw [e32_33]; decide) (by rw [e32_33]; decide) (by rw [e32_33]; rfl) (by decide) ?_
      refine z_aload_n 1216 C dL_law_1216 1 rfl ?_
      refine z_aload_n 1217 C dL_law_1217 0 rfl ?_
      refine z_iload_n 1218 C dL_law_1218 3 rfl ?_
      refine z_iconst 1219 C dL_law_1219 (nI 1) rfl ?_
      refine z_iaddN 1220 C (5 * k) 1 rfl rfl dL_law_1220 ?_
      refine z_sld 1221 C hX hbl hbA ((5 * k) + 1) (by omega) (by omega) dL_law_1221 ?_
      refine z_callV 1222 C 0 (⟨rfl, rfl⟩) rfl (As := [.int (xs ((5 * k) + 1))]) (rest := []) (pr_recall (l := l) (G := G) hRk (xs ((5 * k) + 1)) (by omega)) k_X7_recall q759 ⟨rfl, rfl⟩ ⟨Nat.le_of_ble_eq_true rfl, Nat.le_of_ble_eq_true rfl⟩ rfl (Nat.le_of_ble_eq_true rfl) hcs rfl dL_law_1222 (fun v1222 σ1222 hv1222 => ?_)
      rcases hv1222 with ⟨xx, rfl, hm⟩
      · skip
        refine z_cv (st1 := [.int xx]) rfl rfl rfl ?_
        refine z_aload_n 1225 C dL_law_1225 2 rfl ?_
        refine z_aload_n 1226 C dL_law_1226 0 rfl ?_
        refine z_iload_n 1227 C dL_law_1227 3 rfl ?_
        refine z_iconst 1228 C dL_law_1228 (nI 1) rfl ?_
        refine z_iaddN 1229 C (5 * k) 1 rfl rfl dL_law_1229 ?_
        refine z_sld 1230 C hX hbl hbA ((5 * k) + 1) (by omega) (by omega) dL_law_1230 ?_
        refine z_callV 1231 C 105 (⟨rfl, rfl⟩) rfl (As := [.int (xs ((5 * k) + 1))]) (rest := [.int xx]) (hm) k_X8_recall q1341 ⟨rfl, rfl⟩ ⟨Nat.le_of_ble_eq_true rfl, Nat.le_of_ble_eq_true rfl⟩ rfl (Nat.le_of_ble_eq_true rfl) hcs rfl dL_law_1231 (fun v1231 σ1231 hv1231 => ?_)
        rcases hv1231 with ⟨rfl, hR2⟩
        · skip
          refine z_cv (st1 := [.int xx, .int xx]) rfl rfl rfl ?_
          refine z_icmp_eq 1234 C 1783 dL_law_1234 (by decide) (fun c1234 => ?_) (fun c1234 => ?_)
          · skip
            refine z_iinc 1783 C dL_law_1783 3 [(3, .int ((nI (5 * k)) + Int32.ofInt 5)), (0, .ref b), (1, .ref (z_ad G 0)), (2, .ref (z_ad G 105))] rfl (by decide) rfl ?_
            refine z_cv (lv1 := [(3, .int (nI (5 * (k + 1)))), (0, .ref b), (1, .ref (z_ad G 0)), (2, .ref (z_ad G 105))]) (st1 := []) (σ1 := σ1231) (by rw [zl_inc (by omega)]) rfl rfl ?_
            refine z_goto 1786 C 18 dL_law_1786 (by decide) ?_
            refine z_sub [1, 2, 3, 0] (lv1 := [(0, .ref b), (1, .ref (z_ad G 0)), (2, .ref (z_ad G 105)), (3, .int (nI (5 * (k + 1))))]) rfl ?_
            refine z_cv (lv1 := [(0, .ref b), (1, .ref (z_ad G 0)), (2, .ref (z_ad G 105)), (3, .int (nI (5 * (k + 1))))]) (st1 := []) (σ1 := σ1231) rfl rfl rfl ?_
            exact ih_18 (k + 1) σ1231 (⟨by omega, by first | exact hR2 | exact z_R.up1 hRk⟩) (by omega)
          · skip
            exact absurd rfl c1234
    by_cases e32_34 : ((xs (5 * k)) &&& (nI 63)) = (34 : Int32)
    · skip
      refine z_tabIn 32 C 1239 dL_law_32 (by rw [e32_34]; decide) (by rw [e32_34]; decide) (by rw [e32_34]; rfl) (by decide) ?_
      refine z_aload_n 1239 C dL_law_1239 1 rfl ?_
      refine z_aload_n 1240 C dL_law_1240 0 rfl ?_
      refine z_iload_n 1241 C dL_law_1241 3 rfl ?_
      refine z_iconst 1242 C dL_law_1242 (nI 1) rfl ?_
      refine z_iaddN 1243 C (5 * k) 1 rfl rfl dL_law_1243 ?_
      refine z_sld 1244 C hX hbl hbA ((5 * k) + 1) (by omega) (by omega) dL_law_1244 ?_
      refine z_aload_n 1245 C dL_law_1245 0 rfl ?_
      refine z_iload_n 1246 C dL_law_1246 3 rfl ?_
      refine z_iconst 1247 C dL_law_1247 (nI 2) rfl ?_
      refine z_iaddN 1248 C (5 * k) 2 rfl rfl dL_law_1248 ?_
      refine z_sld 1249 C hX hbl hbA ((5 * k) + 2) (by omega) (by omega) dL_law_1249 ?_
      refine z_callV 1250 C 0 (⟨rfl, rfl⟩) rfl (As := [.int (xs ((5 * k) + 1)), .int (xs ((5 * k) + 2))]) (rest := []) (pr_traceValue (l := l) (G := G) hRk (xs ((5 * k) + 1)) (xs ((5 * k) + 2))) k_X7_traceValue q769 ⟨rfl, rfl⟩ ⟨Nat.le_of_ble_eq_true rfl, Nat.le_of_ble_eq_true rfl⟩ rfl (Nat.le_of_ble_eq_true rfl) hcs rfl dL_law_1250 (fun v1250 σ1250 hv1250 => ?_)
      rcases hv1250 with ⟨xx, rfl, hm⟩
      · skip
        refine z_cv (st1 := [.long xx]) rfl rfl rfl ?_
        refine z_aload_n 1253 C dL_law_1253 2 rfl ?_
        refine z_aload_n 1254 C dL_law_1254 0 rfl ?_
        refine z_iload_n 1255 C dL_law_1255 3 rfl ?_
        refine z_iconst 1256 C dL_law_1256 (nI 1) rfl ?_
        refine z_iaddN 1257 C (5 * k) 1 rfl rfl dL_law_1257 ?_
        refine z_sld 1258 C hX hbl hbA ((5 * k) + 1) (by omega) (by omega) dL_law_1258 ?_
        refine z_aload_n 1259 C dL_law_1259 0 rfl ?_
        refine z_iload_n 1260 C dL_law_1260 3 rfl ?_
        refine z_iconst 1261 C dL_law_1261 (nI 2) rfl ?_
        refine z_iaddN 1262 C (5 * k) 2 rfl rfl dL_law_1262 ?_
        refine z_sld 1263 C hX hbl hbA ((5 * k) + 2) (by omega) (by omega) dL_law_1263 ?_
        refine z_callV 1264 C 105 (⟨rfl, rfl⟩) rfl (As := [.int (xs ((5 * k) + 1)), .int (xs ((5 * k) + 2))]) (rest := [.long xx]) (hm) k_X8_traceValue q1349 ⟨rfl, rfl⟩ ⟨Nat.le_of_ble_eq_true rfl, Nat.le_of_ble_eq_true rfl⟩ rfl (Nat.le_of_ble_eq_true rfl) hcs rfl dL_law_1264 (fun v1264 σ1264 hv1264 => ?_)
        rcases hv1264 with ⟨rfl, hR2⟩
        · skip
          refine z_cv (st1 := [.long xx, .long xx]) rfl rfl rfl ?_
          refine z_lcmp_eq 1267 C 1783 dL_law_1267 dL_law_1268 (by decide) (fun c1267 => ?_) (fun c1267 => ?_)
          · skip
            refine z_iinc 1783 C dL_law_1783 3 [(3, .int ((nI (5 * k)) + Int32.ofInt 5)), (0, .ref b), (1, .ref (z_ad G 0)), (2, .ref (z_ad G 105))] rfl (by decide) rfl ?_
            refine z_cv (lv1 := [(3, .int (nI (5 * (k + 1)))), (0, .ref b), (1, .ref (z_ad G 0)), (2, .ref (z_ad G 105))]) (st1 := []) (σ1 := σ1264) (by rw [zl_inc (by omega)]) rfl rfl ?_
            refine z_goto 1786 C 18 dL_law_1786 (by decide) ?_
            refine z_sub [1, 2, 3, 0] (lv1 := [(0, .ref b), (1, .ref (z_ad G 0)), (2, .ref (z_ad G 105)), (3, .int (nI (5 * (k + 1))))]) rfl ?_
            refine z_cv (lv1 := [(0, .ref b), (1, .ref (z_ad G 0)), (2, .ref (z_ad G 105)), (3, .int (nI (5 * (k + 1))))]) (st1 := []) (σ1 := σ1264) rfl rfl rfl ?_
            exact ih_18 (k + 1) σ1264 (⟨by omega, by first | exact hR2 | exact z_R.up1 hRk⟩) (by omega)
          · skip
            exact absurd rfl c1267
    by_cases e32_35 : ((xs (5 * k)) &&& (nI 63)) = (35 : Int32)
    · skip
      refine z_tabIn 32 C 1273 dL_law_32 (by rw [e32_35]; decide) (by rw [e32_35]; decide) (by rw [e32_35]; rfl) (by decide) ?_
      refine z_aload_n 1273 C dL_law_1273 1 rfl ?_
      refine z_aload_n 1274 C dL_law_1274 0 rfl ?_
      refine z_iload_n 1275 C dL_law_1275 3 rfl ?_
      refine z_iconst 1276 C dL_law_1276 (nI 1) rfl ?_
      refine z_iaddN 1277 C (5 * k) 1 rfl rfl dL_law_1277 ?_
      refine z_sld 1278 C hX hbl hbA ((5 * k) + 1) (by omega) (by omega) dL_law_1278 ?_
      refine z_aload_n 1279 C dL_law_1279 0 rfl ?_
      refine z_iload_n 1280 C dL_law_1280 3 rfl ?_
      refine z_iconst 1281 C dL_law_1281 (nI 2) rfl ?_
      refine z_iaddN 1282 C (5 * k) 2 rfl rfl dL_law_1282 ?_
      refine z_sld 1283 C hX hbl hbA ((5 * k) + 2) (by omega) (by omega) dL_law_1283 ?_
      refine z_if_eq 1284 C 1291 dL_law_1284 (by decide) (fun c1284 => ?_) (fun c1284 => ?_)
      · skip
        refine z_iconst 1291 C dL_law_1291 (nI 0) rfl ?_
        refine z_callV 1292 C 0 (⟨rfl, rfl⟩) rfl (As := [.int (xs ((5 * k) + 1)), .int (nI 0)]) (rest := []) (pr_axis (l := l) (G := G) hRk (xs ((5 * k) + 1)) 0 (by decide)) k_X7_axis q773 ⟨rfl, rfl⟩ ⟨Nat.le_of_ble_eq_true rfl, Nat.le_of_ble_eq_true rfl⟩ rfl (Nat.le_of_ble_eq_true rfl) hcs rfl dL_law_1292 (fun v1292 σ1292 hv1292 => ?_)
        rcases hv1292 with ⟨xx, rfl, hm⟩
        · skip
          refine z_cv (st1 := [.long xx]) rfl rfl rfl ?_
          refine z_aload_n 1295 C dL_law_1295 2 rfl ?_
          refine z_aload_n 1296 C dL_law_1296 0 rfl ?_
          refine z_iload_n 1297 C dL_law_1297 3 rfl ?_
          refine z_iconst 1298 C dL_law_1298 (nI 1) rfl ?_
          refine z_iaddN 1299 C (5 * k) 1 rfl rfl dL_law_1299 ?_
          refine z_sld 1300 C hX hbl hbA ((5 * k) + 1) (by omega) (by omega) dL_law_1300 ?_
          refine z_aload_n 1301 C dL_law_1301 0 rfl ?_
          refine z_iload_n 1302 C dL_law_1302 3 rfl ?_
          refine z_iconst 1303 C dL_law_1303 (nI 2) rfl ?_
          refine z_iaddN 1304 C (5 * k) 2 rfl rfl dL_law_1304 ?_
          refine z_sld 1305 C hX hbl hbA ((5 * k) + 2) (by omega) (by omega) dL_law_1305 ?_
          refine z_if_eq 1306 C 1313 dL_law_1306 (by decide) (fun c1306 => ?_) (fun c1306 => ?_)
          · skip
            refine z_iconst 1313 C dL_law_1313 (nI 0) rfl ?_
            refine z_callV 1314 C 105 (⟨rfl, rfl⟩) rfl (As := [.int (xs ((5 * k) + 1)), .int (nI 0)]) (rest := [.long xx]) (hm) k_X8_axis q1357 ⟨rfl, rfl⟩ ⟨Nat.le_of_ble_eq_true rfl, Nat.le_of_ble_eq_true rfl⟩ rfl (Nat.le_of_ble_eq_true rfl) hcs rfl dL_law_1314 (fun v1314 σ1314 hv1314 => ?_)
            rcases hv1314 with ⟨rfl, hR2⟩
            · skip
              refine z_cv (st1 := [.long xx, .long xx]) rfl rfl rfl ?_
              refine z_lcmp_eq 1317 C 1783 dL_law_1317 dL_law_1318 (by decide) (fun c1317 => ?_) (fun c1317 => ?_)
              · skip
                refine z_iinc 1783 C dL_law_1783 3 [(3, .int ((nI (5 * k)) + Int32.ofInt 5)), (0, .ref b), (1, .ref (z_ad G 0)), (2, .ref (z_ad G 105))] rfl (by decide) rfl ?_
                refine z_cv (lv1 := [(3, .int (nI (5 * (k + 1)))), (0, .ref b), (1, .ref (z_ad G 0)), (2, .ref (z_ad G 105))]) (st1 := []) (σ1 := σ1314) (by rw [zl_inc (by omega)]) rfl rfl ?_
                refine z_goto 1786 C 18 dL_law_1786 (by decide) ?_
                refine z_sub [1, 2, 3, 0] (lv1 := [(0, .ref b), (1, .ref (z_ad G 0)), (2, .ref (z_ad G 105)), (3, .int (nI (5 * (k + 1))))]) rfl ?_
                refine z_cv (lv1 := [(0, .ref b), (1, .ref (z_ad G 0)), (2, .ref (z_ad G 105)), (3, .int (nI (5 * (k + 1))))]) (st1 := []) (σ1 := σ1314) rfl rfl rfl ?_
                exact ih_18 (k + 1) σ1314 (⟨by omega, by first | exact hR2 | exact z_R.up1 hRk⟩) (by omega)
              · skip
                exact absurd rfl c1317
          · skip
            exact absurd c1284 c1306
      · skip
        refine z_iconst 1287 C dL_law_1287 (nI 1) rfl ?_
        refine z_goto 1288 C 1292 dL_law_1288 (by decide) ?_
        refine z_callV 1292 C 0 (⟨rfl, rfl⟩) rfl (As := [.int (xs ((5 * k) + 1)), .int (nI 1)]) (rest := []) (pr_axis (l := l) (G := G) hRk (xs ((5 * k) + 1)) 1 (by decide)) k_X7_axis q773 ⟨rfl, rfl⟩ ⟨Nat.le_of_ble_eq_true rfl, Nat.le_of_ble_eq_true rfl⟩ rfl (Nat.le_of_ble_eq_true rfl) hcs rfl dL_law_1292 (fun v1292 σ1292 hv1292 => ?_)
        rcases hv1292 with ⟨xx, rfl, hm⟩
        · skip
          refine z_cv (st1 := [.long xx]) rfl rfl rfl ?_
          refine z_aload_n 1295 C dL_law_1295 2 rfl ?_
          refine z_aload_n 1296 C dL_law_1296 0 rfl ?_
          refine z_iload_n 1297 C dL_law_1297 3 rfl ?_
          refine z_iconst 1298 C dL_law_1298 (nI 1) rfl ?_
          refine z_iaddN 1299 C (5 * k) 1 rfl rfl dL_law_1299 ?_
          refine z_sld 1300 C hX hbl hbA ((5 * k) + 1) (by omega) (by omega) dL_law_1300 ?_
          refine z_aload_n 1301 C dL_law_1301 0 rfl ?_
          refine z_iload_n 1302 C dL_law_1302 3 rfl ?_
          refine z_iconst 1303 C dL_law_1303 (nI 2) rfl ?_
          refine z_iaddN 1304 C (5 * k) 2 rfl rfl dL_law_1304 ?_
          refine z_sld 1305 C hX hbl hbA ((5 * k) + 2) (by omega) (by omega) dL_law_1305 ?_
          refine z_if_eq 1306 C 1313 dL_law_1306 (by decide) (fun c1306 => ?_) (fun c1306 => ?_)
          · skip
            exact absurd c1306 c1284
          · skip
            refine z_iconst 1309 C dL_law_1309 (nI 1) rfl ?_
            refine z_goto 1310 C 1314 dL_law_1310 (by decide) ?_
            refine z_callV 1314 C 105 (⟨rfl, rfl⟩) rfl (As := [.int (xs ((5 * k) + 1)), .int (nI 1)]) (rest := [.long xx]) (hm) k_X8_axis q1357 ⟨rfl, rfl⟩ ⟨Nat.le_of_ble_eq_true rfl, Nat.le_of_ble_eq_true rfl⟩ rfl (Nat.le_of_ble_eq_true rfl) hcs rfl dL_law_1314 (fun v1314 σ1314 hv1314 => ?_)
            rcases hv1314 with ⟨rfl, hR2⟩
            · skip
              refine z_cv (st1 := [.long xx, .long xx]) rfl rfl rfl ?_
              refine z_lcmp_eq 1317 C 1783 dL_law_1317 dL_law_1318 (by decide) (fun c1317 => ?_) (fun c1317 => ?_)
              · skip
                refine z_iinc 1783 C dL_law_1783 3 [(3, .int ((nI (5 * k)) + Int32.ofInt 5)), (0, .ref b), (1, .ref (z_ad G 0)), (2, .ref (z_ad G 105))] rfl (by decide) rfl ?_
                refine z_cv (lv1 := [(3, .int (nI (5 * (k + 1)))), (0, .ref b), (1, .ref (z_ad G 0)), (2, .ref (z_ad G 105))]) (st1 := []) (σ1 := σ1314) (by rw [zl_inc (by omega)]) rfl rfl ?_
                refine z_goto 1786 C 18 dL_law_1786 (by decide) ?_
                refine z_sub [1, 2, 3, 0] (lv1 := [(0, .ref b), (1, .ref (z_ad G 0)), (2, .ref (z_ad G 105)), (3, .int (nI (5 * (k + 1))))]) rfl ?_
                refine z_cv (lv1 := [(0, .ref b), (1, .ref (z_ad G 0)), (2, .ref (z_ad G 105)), (3, .int (nI (5 * (k + 1))))]) (st1 := []) (σ1 := σ1314) rfl rfl rfl ?_
                exact ih_18 (k + 1) σ1314 (⟨by omega, by first | exact hR2 | exact z_R.up1 hRk⟩) (by omega)
              · skip
                exact absurd rfl c1317
    by_cases e32_36 : ((xs (5 * k)) &&& (nI 63)) = (36 : Int32)
    · skip
      refine z_tabIn 32 C 1323 dL_law_32 (by rw [e32_36]; decide) (by rw [e32_36]; decide) (by rw [e32_36]; rfl) (by decide) ?_
      refine z_aload_n 1323 C dL_law_1323 1 rfl ?_
      refine z_callV 1324 C 0 (⟨rfl, rfl⟩) rfl (As := []) (rest := []) (pr_cylindricity (l := l) (G := G) hRk ) k_X7_cylindricity q782 ⟨rfl, rfl⟩ ⟨Nat.le_of_ble_eq_true rfl, Nat.le_of_ble_eq_true rfl⟩ rfl (Nat.le_of_ble_eq_true rfl) hcs rfl dL_law_1324 (fun v1324 σ1324 hv1324 => ?_)
      rcases hv1324 with ⟨xx, rfl, hm⟩
      · skip
        refine z_cv (st1 := [.double xx]) rfl rfl rfl ?_
        refine z_dstore 1327 C dL_law_1327 [(4, .double xx), (0, .ref b), (1, .ref (z_ad G 0)), (2, .ref (z_ad G 105)), (3, .int (nI (5 * k)))] (by decide) rfl ?_
        refine z_aload_n 1329 C dL_law_1329 3 rfl ?_
        refine z_callV 1330 C 105 (⟨rfl, rfl⟩) rfl (As := []) (rest := []) (hm) k_X8_cylindricity q1365 ⟨rfl, rfl⟩ ⟨Nat.le_of_ble_eq_true rfl, Nat.le_of_ble_eq_true rfl⟩ rfl (Nat.le_of_ble_eq_true rfl) hcs rfl dL_law_1330 (fun v1330 σ1330 hv1330 => ?_)
        rcases hv1330 with ⟨rfl, hR2⟩
        · skip
          refine z_cv (st1 := [.double xx]) rfl rfl rfl ?_
          refine z_dstore 1333 C dL_law_1333 [(6, .double xx), (4, .double xx), (0, .ref b), (1, .ref (z_ad G 0)), (2, .ref (z_ad G 105)), (3, .int (nI (5 * k)))] (by decide) rfl ?_
          refine z_dload 1335 C dL_law_1335 1 rfl ?_
          refine z_dload 1337 C dL_law_1337 0 rfl ?_
          refine z_dcmp 1339 C dL_law_1339 ?_
          refine z_if_eq 1340 C 1361 dL_law_1340 (by decide) (fun c1340 => ?_) (fun c1340 => ?_)
          · skip
            refine z_goto 1361 C 1783 dL_law_1361 (by decide) ?_
            refine z_iinc 1783 C dL_law_1783 5 [(3, .int ((nI (5 * k)) + Int32.ofInt 5)), (6, .double xx), (4, .double xx), (0, .ref b), (1, .ref (z_ad G 0)), (2, .ref (z_ad G 105))] rfl (by decide) rfl ?_
            refine z_cv (lv1 := [(3, .int (nI (5 * (k + 1)))), (6, .double xx), (4, .double xx), (0, .ref b), (1, .ref (z_ad G 0)), (2, .ref (z_ad G 105))]) (st1 := []) (σ1 := σ1330) (by rw [zl_inc (by omega)]) rfl rfl ?_
            refine z_goto 1786 C 18 dL_law_1786 (by decide) ?_
            refine z_sub [3, 4, 5, 0] (lv1 := [(0, .ref b), (1, .ref (z_ad G 0)), (2, .ref (z_ad G 105)), (3, .int (nI (5 * (k + 1))))]) rfl ?_
            refine z_cv (lv1 := [(0, .ref b), (1, .ref (z_ad G 0)), (2, .ref (z_ad G 105)), (3, .int (nI (5 * (k + 1))))]) (st1 := []) (σ1 := σ1330) rfl rfl rfl ?_
            exact ih_18 (k + 1) σ1330 (⟨by omega, by first | exact hR2 | exact z_R.up1 hRk⟩) (by omega)
          · skip
            refine z_dload 1343 C dL_law_1343 1 rfl ?_
            refine z_dload 1345 C dL_law_1345 1 rfl ?_
            refine z_dcmp 1347 C dL_law_1347 ?_
            refine z_if_eq 1348 C 1359 dL_law_1348 (by decide) (fun c1348 => ?_) (fun c1348 => ?_)
            · skip
              exact absurd c1348 c1340
            · skip
              refine z_dload 1351 C dL_law_1351 0 rfl ?_
              refine z_dload 1353 C dL_law_1353 0 rfl ?_
              refine z_dcmp 1355 C dL_law_1355 ?_
              refine z_if_ne 1356 C 1361 dL_law_1356 (by decide) (fun c1356 => ?_) (fun c1356 => ?_)
              · skip
                refine z_goto 1361 C 1783 dL_law_1361 (by decide) ?_
                refine z_iinc 1783 C dL_law_1783 5 [(3, .int ((nI (5 * k)) + Int32.ofInt 5)), (6, .double xx), (4, .double xx), (0, .ref b), (1, .ref (z_ad G 0)), (2, .ref (z_ad G 105))] rfl (by decide) rfl ?_
                refine z_cv (lv1 := [(3, .int (nI (5 * (k + 1)))), (6, .double xx), (4, .double xx), (0, .ref b), (1, .ref (z_ad G 0)), (2, .ref (z_ad G 105))]) (st1 := []) (σ1 := σ1330) (by rw [zl_inc (by omega)]) rfl rfl ?_
                refine z_goto 1786 C 18 dL_law_1786 (by decide) ?_
                refine z_sub [3, 4, 5, 0] (lv1 := [(0, .ref b), (1, .ref (z_ad G 0)), (2, .ref (z_ad G 105)), (3, .int (nI (5 * (k + 1))))]) rfl ?_
                refine z_cv (lv1 := [(0, .ref b), (1, .ref (z_ad G 0)), (2, .ref (z_ad G 105)), (3, .int (nI (5 * (k + 1))))]) (st1 := []) (σ1 := σ1330) rfl rfl rfl ?_
                exact ih_18 (k + 1) σ1330 (⟨by omega, by first | exact hR2 | exact z_R.up1 hRk⟩) (by omega)
              · skip
                exact absurd c1356 c1340
    by_cases e32_37 : ((xs (5 * k)) &&& (nI 63)) = (37 : Int32)
    · skip
      refine z_tabIn 32 C 1364 dL_law_32 (by rw [e32_37]; decide) (by rw [e32_37]; decide) (by rw [e32_37]; rfl) (by decide) ?_
      refine z_aload_n 1364 C dL_law_1364 1 rfl ?_
      refine z_callV 1365 C 0 (⟨rfl, rfl⟩) rfl (As := []) (rest := []) (pr_farthestTrace (l := l) (G := G) hRk ) k_X7_farthestTrace q796 ⟨rfl, rfl⟩ ⟨Nat.le_of_ble_eq_true rfl, Nat.le_of_ble_eq_true rfl⟩ rfl (Nat.le_of_ble_eq_true rfl) hcs rfl dL_law_1365 (fun v1365 σ1365 hv1365 => ?_)
      rcases hv1365 with ⟨xx, rfl, hm⟩
      · skip
        refine z_cv (st1 := [.int xx]) rfl rfl rfl ?_
        refine z_aload_n 1368 C dL_law_1368 2 rfl ?_
        refine z_callV 1369 C 105 (⟨rfl, rfl⟩) rfl (As := []) (rest := [.int xx]) (hm) k_X8_farthestTrace q1369 ⟨rfl, rfl⟩ ⟨Nat.le_of_ble_eq_true rfl, Nat.le_of_ble_eq_true rfl⟩ rfl (Nat.le_of_ble_eq_true rfl) hcs rfl dL_law_1369 (fun v1369 σ1369 hv1369 => ?_)
        rcases hv1369 with ⟨rfl, hR2⟩
        · skip
          refine z_cv (st1 := [.int xx, .int xx]) rfl rfl rfl ?_
          refine z_icmp_eq 1372 C 1783 dL_law_1372 (by decide) (fun c1372 => ?_) (fun c1372 => ?_)
          · skip
            refine z_iinc 1783 C dL_law_1783 3 [(3, .int ((nI (5 * k)) + Int32.ofInt 5)), (0, .ref b), (1, .ref (z_ad G 0)), (2, .ref (z_ad G 105))] rfl (by decide) rfl ?_
            refine z_cv (lv1 := [(3, .int (nI (5 * (k + 1)))), (0, .ref b), (1, .ref (z_ad G 0)), (2, .ref (z_ad G 105))]) (st1 := []) (σ1 := σ1369) (by rw [zl_inc (by omega)]) rfl rfl ?_
            refine z_goto 1786 C 18 dL_law_1786 (by decide) ?_
            refine z_sub [1, 2, 3, 0] (lv1 := [(0, .ref b), (1, .ref (z_ad G 0)), (2, .ref (z_ad G 105)), (3, .int (nI (5 * (k + 1))))]) rfl ?_
            refine z_cv (lv1 := [(0, .ref b), (1, .ref (z_ad G 0)), (2, .ref (z_ad G 105)), (3, .int (nI (5 * (k + 1))))]) (st1 := []) (σ1 := σ1369) rfl rfl rfl ?_
            exact ih_18 (k + 1) σ1369 (⟨by omega, by first | exact hR2 | exact z_R.up1 hRk⟩) (by omega)
          · skip
            exact absurd rfl c1372
    by_cases e32_38 : ((xs (5 * k)) &&& (nI 63)) = (38 : Int32)
    · skip
      refine z_tabIn 32 C 1377 dL_law_32 (by rw [e32_38]; decide) (by rw [e32_38]; decide) (by rw [e32_38]; rfl) (by decide) ?_
      refine z_aload_n 1377 C dL_law_1377 1 rfl ?_
      refine z_callV 1378 C 0 (⟨rfl, rfl⟩) rfl (As := []) (rest := []) (pr_taper (l := l) (G := G) hRk ) k_X7_taper q809 ⟨rfl, rfl⟩ ⟨Nat.le_of_ble_eq_true rfl, Nat.le_of_ble_eq_true rfl⟩ rfl (Nat.le_of_ble_eq_true rfl) hcs rfl dL_law_1378 (fun v1378 σ1378 hv1378 => ?_)
      rcases hv1378 with ⟨xx, rfl, hm⟩
      · skip
        refine z_cv (st1 := [.long xx]) rfl rfl rfl ?_
        refine z_aload_n 1381 C dL_law_1381 2 rfl ?_
        refine z_callV 1382 C 105 (⟨rfl, rfl⟩) rfl (As := []) (rest := [.long xx]) (hm) k_X8_taper q1377 ⟨rfl, rfl⟩ ⟨Nat.le_of_ble_eq_true rfl, Nat.le_of_ble_eq_true rfl⟩ rfl (Nat.le_of_ble_eq_true rfl) hcs rfl dL_law_1382 (fun v1382 σ1382 hv1382 => ?_)
        rcases hv1382 with ⟨rfl, hR2⟩
        · skip
          refine z_cv (st1 := [.long xx, .long xx]) rfl rfl rfl ?_
          refine z_lcmp_eq 1385 C 1783 dL_law_1385 dL_law_1386 (by decide) (fun c1385 => ?_) (fun c1385 => ?_)
          · skip
            refine z_iinc 1783 C dL_law_1783 3 [(3, .int ((nI (5 * k)) + Int32.ofInt 5)), (0, .ref b), (1, .ref (z_ad G 0)), (2, .ref (z_ad G 105))] rfl (by decide) rfl ?_
            refine z_cv (lv1 := [(3, .int (nI (5 * (k + 1)))), (0, .ref b), (1, .ref (z_ad G 0)), (2, .ref (z_ad G 105))]) (st1 := []) (σ1 := σ1382) (by rw [zl_inc (by omega)]) rfl rfl ?_
            refine z_goto 1786 C 18 dL_law_1786 (by decide) ?_
            refine z_sub [1, 2, 3, 0] (lv1 := [(0, .ref b), (1, .ref (z_ad G 0)), (2, .ref (z_ad G 105)), (3, .int (nI (5 * (k + 1))))]) rfl ?_
            refine z_cv (lv1 := [(0, .ref b), (1, .ref (z_ad G 0)), (2, .ref (z_ad G 105)), (3, .int (nI (5 * (k + 1))))]) (st1 := []) (σ1 := σ1382) rfl rfl rfl ?_
            exact ih_18 (k + 1) σ1382 (⟨by omega, by first | exact hR2 | exact z_R.up1 hRk⟩) (by omega)
          · skip
            exact absurd rfl c1385
    by_cases e32_39 : ((xs (5 * k)) &&& (nI 63)) = (39 : Int32)
    · skip
      refine z_tabIn 32 C 1391 dL_law_32 (by rw [e32_39]; decide) (by rw [e32_39]; decide) (by rw [e32_39]; rfl) (by decide) ?_
      refine z_aload_n 1391 C dL_law_1391 1 rfl ?_
      refine z_aload_n 1392 C dL_law_1392 0 rfl ?_
      refine z_iload_n 1393 C dL_law_1393 3 rfl ?_
      refine z_iconst 1394 C dL_law_1394 (nI 1) rfl ?_
      refine z_iaddN 1395 C (5 * k) 1 rfl rfl dL_law_1395 ?_
      refine z_sld 1396 C hX hbl hbA ((5 * k) + 1) (by omega) (by omega) dL_law_1396 ?_
      refine z_aload_n 1397 C dL_law_1397 0 rfl ?_
      refine z_iload_n 1398 C dL_law_1398 3 rfl ?_
      refine z_iconst 1399 C dL_law_1399 (nI 2) rfl ?_
      refine z_iaddN 1400 C (5 * k) 2 rfl rfl dL_law_1400 ?_
      refine z_sld 1401 C hX hbl hbA ((5 * k) + 2) (by omega) (by omega) dL_law_1401 ?_
      refine z_aload_n 1402 C dL_law_1402 0 rfl ?_
      refine z_iload_n 1403 C dL_law_1403 3 rfl ?_
      refine z_iconst 1404 C dL_law_1404 (nI 3) rfl ?_
      refine z_iaddN 1405 C (5 * k) 3 rfl rfl dL_law_1405 ?_
      refine z_sld 1406 C hX hbl hbA ((5 * k) + 3) (by omega) (by omega) dL_law_1406 ?_
      refine z_callV 1407 C 0 (⟨rfl, rfl⟩) rfl (As := [.int (xs ((5 * k) + 1)), .int (xs ((5 * k) + 2)), .int (xs ((5 * k) + 3))]) (rest := []) (pr_difference (l := l) (G := G) hRk (xs ((5 * k) + 1)) (xs ((5 * k) + 2)) (xs ((5 * k) + 3))) k_X7_difference q817 ⟨rfl, rfl⟩ ⟨Nat.le_of_ble_eq_true rfl, Nat.le_of_ble_eq_true rfl⟩ rfl (Nat.le_of_ble_eq_true rfl) hcs rfl dL_law_1407 (fun v1407 σ1407 hv1407 => ?_)
      rcases hv1407 with ⟨xx, rfl, hm⟩
      · skip
        refine z_cv (st1 := [.long xx]) rfl rfl rfl ?_
        refine z_aload_n 1410 C dL_law_1410 2 rfl ?_
        refine z_aload_n 1411 C dL_law_1411 0 rfl ?_
        refine z_iload_n 1412 C dL_law_1412 3 rfl ?_
        refine z_iconst 1413 C dL_law_1413 (nI 1) rfl ?_
        refine z_iaddN 1414 C (5 * k) 1 rfl rfl dL_law_1414 ?_
        refine z_sld 1415 C hX hbl hbA ((5 * k) + 1) (by omega) (by omega) dL_law_1415 ?_
        refine z_aload_n 1416 C dL_law_1416 0 rfl ?_
        refine z_iload_n 1417 C dL_law_1417 3 rfl ?_
        refine z_iconst 1418 C dL_law_1418 (nI 2) rfl ?_
        refine z_iaddN 1419 C (5 * k) 2 rfl rfl dL_law_1419 ?_
        refine z_sld 1420 C hX hbl hbA ((5 * k) + 2) (by omega) (by omega) dL_law_1420 ?_
        refine z_aload_n 1421 C dL_law_1421 0 rfl ?_
        refine z_iload_n 1422 C dL_law_1422 3 rfl ?_
        refine z_iconst 1423 C dL_law_1423 (nI 3) rfl ?_
        refine z_iaddN 1424 C (5 * k) 3 rfl rfl dL_law_1424 ?_
        refine z_sld 1425 C hX hbl hbA ((5 * k) + 3) (by omega) (by omega) dL_law_1425 ?_
        refine z_callV 1426 C 105 (⟨rfl, rfl⟩) rfl (As := [.int (xs ((5 * k) + 1)), .int (xs ((5 * k) + 2)), .int (xs ((5 * k) + 3))]) (rest := [.long xx]) (hm) k_X8_difference q1381 ⟨rfl, rfl⟩ ⟨Nat.le_of_ble_eq_true rfl, Nat.le_of_ble_eq_true rfl⟩ rfl (Nat.le_of_ble_eq_true rfl) hcs rfl dL_law_1426 (fun v1426 σ1426 hv1426 => ?_)
        rcases hv1426 with ⟨rfl, hR2⟩
        · skip
          refine z_cv (st1 := [.long xx, .long xx]) rfl rfl rfl ?_
          refine z_lcmp_eq 1429 C 1783 dL_law_1429 dL_law_1430 (by decide) (fun c1429 => ?_) (fun c1429 => ?_)
          · skip
            refine z_iinc 1783 C dL_law_1783 3 [(3, .int ((nI (5 * k)) + Int32.ofInt 5)), (0, .ref b), (1, .ref (z_ad G 0)), (2, .ref (z_ad G 105))] rfl (by decide) rfl ?_
            refine z_cv (lv1 := [(3, .int (nI (5 * (k + 1)))), (0, .ref b), (1, .ref (z_ad G 0)), (2, .ref (z_ad G 105))]) (st1 := []) (σ1 := σ1426) (by rw [zl_inc (by omega)]) rfl rfl ?_
            refine z_goto 1786 C 18 dL_law_1786 (by decide) ?_
            refine z_sub [1, 2, 3, 0] (lv1 := [(0, .ref b), (1, .ref (z_ad G 0)), (2, .ref (z_ad G 105)), (3, .int (nI (5 * (k + 1))))]) rfl ?_
            refine z_cv (lv1 := [(0, .ref b), (1, .ref (z_ad G 0)), (2, .ref (z_ad G 105)), (3, .int (nI (5 * (k + 1))))]) (st1 := []) (σ1 := σ1426) rfl rfl rfl ?_
            exact ih_18 (k + 1) σ1426 (⟨by omega, by first | exact hR2 | exact z_R.up1 hRk⟩) (by omega)
          · skip
            exact absurd rfl c1429
    by_cases e32_40 : ((xs (5 * k)) &&& (nI 63)) = (40 : Int32)
    · skip
      refine z_tabIn 32 C 1435 dL_law_32 (by rw [e32_40]; decide) (by rw [e32_40]; decide) (by rw [e32_40]; rfl) (by decide) ?_
      refine z_aload_n 1435 C dL_law_1435 1 rfl ?_
      refine z_aload_n 1436 C dL_law_1436 0 rfl ?_
      refine z_iload_n 1437 C dL_law_1437 3 rfl ?_
      refine z_iconst 1438 C dL_law_1438 (nI 1) rfl ?_
      refine z_iaddN 1439 C (5 * k) 1 rfl rfl dL_law_1439 ?_
      refine z_sld 1440 C hX hbl hbA ((5 * k) + 1) (by omega) (by omega) dL_law_1440 ?_
      refine z_aload_n 1441 C dL_law_1441 0 rfl ?_
      refine z_iload_n 1442 C dL_law_1442 3 rfl ?_
      refine z_iconst 1443 C dL_law_1443 (nI 2) rfl ?_
      refine z_iaddN 1444 C (5 * k) 2 rfl rfl dL_law_1444 ?_
      refine z_sld 1445 C hX hbl hbA ((5 * k) + 2) (by omega) (by omega) dL_law_1445 ?_
      refine z_callV 1446 C 0 (⟨rfl, rfl⟩) rfl (As := [.int (xs ((5 * k) + 1)), .int (xs ((5 * k) + 2))]) (rest := []) (pr_bestRotation (l := l) (G := G) hRk (xs ((5 * k) + 1)) (xs ((5 * k) + 2))) k_X7_bestRotation q826 ⟨rfl, rfl⟩ ⟨Nat.le_of_ble_eq_true rfl, Nat.le_of_ble_eq_true rfl⟩ rfl (Nat.le_of_ble_eq_true rfl) hcs rfl dL_law_1446 (fun v1446 σ1446 hv1446 => ?_)
      rcases hv1446 with ⟨xx, rfl, hm⟩
      · skip
        refine z_cv (st1 := [.int xx]) rfl rfl rfl ?_
        refine z_aload_n 1449 C dL_law_1449 2 rfl ?_
        refine z_aload_n 1450 C dL_law_1450 0 rfl ?_
        refine z_iload_n 1451 C dL_law_1451 3 rfl ?_
        refine z_iconst 1452 C dL_law_1452 (nI 1) rfl ?_
        refine z_iaddN 1453 C (5 * k) 1 rfl rfl dL_law_1453 ?_
        refine z_sld 1454 C hX hbl hbA ((5 * k) + 1) (by omega) (by omega) dL_law_1454 ?_
        refine z_aload_n 1455 C dL_law_1455 0 rfl ?_
        refine z_iload_n 1456 C dL_law_1456 3 rfl ?_
        refine z_iconst 1457 C dL_law_1457 (nI 2) rfl ?_
        refine z_iaddN 1458 C (5 * k) 2 rfl rfl dL_law_1458 ?_
        refine z_sld 1459 C hX hbl hbA ((5 * k) + 2) (by omega) (by omega) dL_law_1459 ?_
        refine z_callV 1460 C 105 (⟨rfl, rfl⟩) rfl (As := [.int (xs ((5 * k) + 1)), .int (xs ((5 * k) + 2))]) (rest := [.int xx]) (hm) k_X8_bestRotation q1389 ⟨rfl, rfl⟩ ⟨Nat.le_of_ble_eq_true rfl, Nat.le_of_ble_eq_true rfl⟩ rfl (Nat.le_of_ble_eq_true rfl) hcs rfl dL_law_1460 (fun v1460 σ1460 hv1460 => ?_)
        rcases hv1460 with ⟨rfl, hR2⟩
        · skip
          refine z_cv (st1 := [.int xx, .int xx]) rfl rfl rfl ?_
          refine z_icmp_eq 1463 C 1783 dL_law_1463 (by decide) (fun c1463 => ?_) (fun c1463 => ?_)
          · skip
            refine z_iinc 1783 C dL_law_1783 3 [(3, .int ((nI (5 * k)) + Int32.ofInt 5)), (0, .ref b), (1, .ref (z_ad G 0)), (2, .ref (z_ad G 105))] rfl (by decide) rfl ?_
            refine z_cv (lv1 := [(3, .int (nI (5 * (k + 1)))), (0, .ref b), (1, .ref (z_ad G 0)), (2, .ref (z_ad G 105))]) (st1 := []) (σ1 := σ1460) (by rw [zl_inc (by omega)]) rfl rfl ?_
            refine z_goto 1786 C 18 dL_law_1786 (by decide) ?_
            refine z_sub [1, 2, 3, 0] (lv1 := [(0, .ref b), (1, .ref (z_ad G 0)), (2, .ref (z_ad G 105)), (3, .int (nI (5 * (k + 1))))]) rfl ?_
            refine z_cv (lv1 := [(0, .ref b), (1, .ref (z_ad G 0)), (2, .ref (z_ad G 105)), (3, .int (nI (5 * (k + 1))))]) (st1 := []) (σ1 := σ1460) rfl rfl rfl ?_
            exact ih_18 (k + 1) σ1460 (⟨by omega, by first | exact hR2 | exact z_R.up1 hRk⟩) (by omega)
          · skip
            exact absurd rfl c1463
    by_cases e32_41 : ((xs (5 * k)) &&& (nI 63)) = (41 : Int32)
    · skip
      refine z_tabIn 32 C 1468 dL_law_32 (by rw [e32_41]; decide) (by rw [e32_41]; decide) (by rw [e32_41]; rfl) (by decide) ?_
      refine z_aload_n 1468 C dL_law_1468 1 rfl ?_
      refine z_aload_n 1469 C dL_law_1469 0 rfl ?_
      refine z_iload_n 1470 C dL_law_1470 3 rfl ?_
      refine z_iconst 1471 C dL_law_1471 (nI 1) rfl ?_
      refine z_iaddN 1472 C (5 * k) 1 rfl rfl dL_law_1472 ?_
      refine z_sld 1473 C hX hbl hbA ((5 * k) + 1) (by omega) (by omega) dL_law_1473 ?_
      refine z_aload_n 1474 C dL_law_1474 0 rfl ?_
      refine z_iload_n 1475 C dL_law_1475 3 rfl ?_
      refine z_iconst 1476 C dL_law_1476 (nI 2) rfl ?_
      refine z_iaddN 1477 C (5 * k) 2 rfl rfl dL_law_1477 ?_
      refine z_sld 1478 C hX hbl hbA ((5 * k) + 2) (by omega) (by omega) dL_law_1478 ?_
      refine z_aload_n 1479 C dL_law_1479 0 rfl ?_
      refine z_iload_n 1480 C dL_law_1480 3 rfl ?_
      refine z_iconst 1481 C dL_law_1481 (nI 3) rfl ?_
      refine z_iaddN 1482 C (5 * k) 3 rfl rfl dL_law_1482 ?_
      refine z_sld 1483 C hX hbl hbA ((5 * k) + 3) (by omega) (by omega) dL_law_1483 ?_
      refine z_aload_n 1484 C dL_law_1484 0 rfl ?_
      refine z_iload_n 1485 C dL_law_1485 3 rfl ?_
      refine z_iconst 1486 C dL_law_1486 (nI 4) rfl ?_
      refine z_iaddN 1487 C (5 * k) 4 rfl rfl dL_law_1487 ?_
      refine z_sld 1488 C hX hbl hbA ((5 * k) + 4) (by omega) (by omega) dL_law_1488 ?_
      refine z_callV 1489 C 0 (⟨rfl, rfl⟩) rfl (As := [.int (xs ((5 * k) + 1)), .int (xs ((5 * k) + 2)), .int (xs ((5 * k) + 3)), .int (xs ((5 * k) + 4))]) (rest := []) (pr_addRule (l := l) (G := G) hRk (xs ((5 * k) + 1)) (xs ((5 * k) + 2)) (xs ((5 * k) + 3)) (xs ((5 * k) + 4))) k_X7_addRule q835 ⟨rfl, rfl⟩ ⟨Nat.le_of_ble_eq_true rfl, Nat.le_of_ble_eq_true rfl⟩ rfl (Nat.le_of_ble_eq_true rfl) hcs rfl dL_law_1489 (fun v1489 σ1489 hv1489 => ?_)
      rcases hv1489 with ⟨xx, rfl, hm⟩
      · skip
        refine z_cv (st1 := [.int xx]) rfl rfl rfl ?_
        refine z_aload_n 1492 C dL_law_1492 2 rfl ?_
        refine z_aload_n 1493 C dL_law_1493 0 rfl ?_
        refine z_iload_n 1494 C dL_law_1494 3 rfl ?_
        refine z_iconst 1495 C dL_law_1495 (nI 1) rfl ?_
        refine z_iaddN 1496 C (5 * k) 1 rfl rfl dL_law_1496 ?_
        refine z_sld 1497 C hX hbl hbA ((5 * k) + 1) (by omega) (by omega) dL_law_1497 ?_
        refine z_aload_n 1498 C dL_law_1498 0 rfl ?_
        refine z_iload_n 1499 C dL_law_1499 3 rfl ?_
        refine z_iconst 1500 C dL_law_1500 (nI 2) rfl ?_
        refine z_iaddN 1501 C (5 * k) 2 rfl rfl dL_law_1501 ?_
        refine z_sld 1502 C hX hbl hbA ((5 * k) + 2) (by omega) (by omega) dL_law_1502 ?_
        refine z_aload_n 1503 C dL_law_1503 0 rfl ?_
        refine z_iload_n 1504 C dL_law_1504 3 rfl ?_
        refine z_iconst 1505 C dL_law_1505 (nI 3) rfl ?_
        refine z_iaddN 1506 C (5 * k) 3 rfl rfl dL_law_1506 ?_
        refine z_sld 1507 C hX hbl hbA ((5 * k) + 3) (by omega) (by omega) dL_law_1507 ?_
        refine z_aload_n 1508 C dL_law_1508 0 rfl ?_
        refine z_iload_n 1509 C dL_law_1509 3 rfl ?_
        refine z_iconst 1510 C dL_law_1510 (nI 4) rfl ?_
        refine z_iaddN 1511 C (5 * k) 4 rfl rfl dL_law_1511 ?_
        refine z_sld 1512 C hX hbl hbA ((5 * k) + 4) (by omega) (by omega) dL_law_1512 ?_
        refine z_callV 1513 C 105 (⟨rfl, rfl⟩) rfl (As := [.int (xs ((5 * k) + 1)), .int (xs ((5 * k) + 2)), .int (xs ((5 * k) + 3)), .int (xs ((5 * k) + 4))]) (rest := [.int xx]) (hm) k_X8_addRule q1393 ⟨rfl, rfl⟩ ⟨Nat.le_of_ble_eq_true rfl, Nat.le_of_ble_eq_true rfl⟩ rfl (Nat.le_of_ble_eq_true rfl) hcs rfl dL_law_1513 (fun v1513 σ1513 hv1513 => ?_)
        rcases hv1513 with ⟨rfl, hR2⟩
        · skip
          refine z_cv (st1 := [.int xx, .int xx]) rfl rfl rfl ?_
          refine z_icmp_eq 1516 C 1783 dL_law_1516 (by decide) (fun c1516 => ?_) (fun c1516 => ?_)
          · skip
            refine z_iinc 1783 C dL_law_1783 3 [(3, .int ((nI (5 * k)) + Int32.ofInt 5)), (0, .ref b), (1, .ref (z_ad G 0)), (2, .ref (z_ad G 105))] rfl (by decide) rfl ?_
            refine z_cv (lv1 := [(3, .int (nI (5 * (k + 1)))), (0, .ref b), (1, .ref (z_ad G 0)), (2, .ref (z_ad G 105))]) (st1 := []) (σ1 := σ1513) (by rw [zl_inc (by omega)]) rfl rfl ?_
            refine z_goto 1786 C 18 dL_law_1786 (by decide) ?_
            refine z_sub [1, 2, 3, 0] (lv1 := [(0, .ref b), (1, .ref (z_ad G 0)), (2, .ref (z_ad G 105)), (3, .int (nI (5 * (k + 1))))]) rfl ?_
            refine z_cv (lv1 := [(0, .ref b), (1, .ref (z_ad G 0)), (2, .ref (z_ad G 105)), (3, .int (nI (5 * (k + 1))))]) (st1 := []) (σ1 := σ1513) rfl rfl rfl ?_
            exact ih_18 (k + 1) σ1513 (⟨by omega, by first | exact hR2 | exact z_R.up1 hRk⟩) (by omega)
          · skip
            exact absurd rfl c1516
    by_cases e32_42 : ((xs (5 * k)) &&& (nI 63)) = (42 : Int32)
    · skip
      refine z_tabIn 32 C 1521 dL_law_32 (by rw [e32_42]; decide) (by rw [e32_42]; decide) (by rw [e32_42]; rfl) (by decide) ?_
      refine z_aload_n 1521 C dL_law_1521 1 rfl ?_
      refine z_callV 1522 C 0 (⟨rfl, rfl⟩) rfl (As := []) (rest := []) (pr_clearRules (l := l) (G := G) hRk ) k_X7_clearRules q843 ⟨rfl, rfl⟩ ⟨Nat.le_of_ble_eq_true rfl, Nat.le_of_ble_eq_true rfl⟩ rfl (Nat.le_of_ble_eq_true rfl) hcs rfl dL_law_1522 (fun v1522 σ1522 hv1522 => ?_)
      rcases hv1522 with ⟨xx, rfl, hm⟩
      · skip
        refine z_cv (st1 := [.int xx]) rfl rfl rfl ?_
        refine z_aload_n 1525 C dL_law_1525 2 rfl ?_
        refine z_callV 1526 C 105 (⟨rfl, rfl⟩) rfl (As := []) (rest := [.int xx]) (hm) k_X8_clearRules q1397 ⟨rfl, rfl⟩ ⟨Nat.le_of_ble_eq_true rfl, Nat.le_of_ble_eq_true rfl⟩ rfl (Nat.le_of_ble_eq_true rfl) hcs rfl dL_law_1526 (fun v1526 σ1526 hv1526 => ?_)
        rcases hv1526 with ⟨rfl, hR2⟩
        · skip
          refine z_cv (st1 := [.int xx, .int xx]) rfl rfl rfl ?_
          refine z_icmp_eq 1529 C 1783 dL_law_1529 (by decide) (fun c1529 => ?_) (fun c1529 => ?_)
          · skip
            refine z_iinc 1783 C dL_law_1783 3 [(3, .int ((nI (5 * k)) + Int32.ofInt 5)), (0, .ref b), (1, .ref (z_ad G 0)), (2, .ref (z_ad G 105))] rfl (by decide) rfl ?_
            refine z_cv (lv1 := [(3, .int (nI (5 * (k + 1)))), (0, .ref b), (1, .ref (z_ad G 0)), (2, .ref (z_ad G 105))]) (st1 := []) (σ1 := σ1526) (by rw [zl_inc (by omega)]) rfl rfl ?_
            refine z_goto 1786 C 18 dL_law_1786 (by decide) ?_
            refine z_sub [1, 2, 3, 0] (lv1 := [(0, .ref b), (1, .ref (z_ad G 0)), (2, .ref (z_ad G 105)), (3, .int (nI (5 * (k + 1))))]) rfl ?_
            refine z_cv (lv1 := [(0, .ref b), (1, .ref (z_ad G 0)), (2, .ref (z_ad G 105)), (3, .int (nI (5 * (k + 1))))]) (st1 := []) (σ1 := σ1526) rfl rfl rfl ?_
            exact ih_18 (k + 1) σ1526 (⟨by omega, by first | exact hR2 | exact z_R.up1 hRk⟩) (by omega)
          · skip
            exact absurd rfl c1529
    by_cases e32_43 : ((xs (5 * k)) &&& (nI 63)) = (43 : Int32)
    · skip
      refine z_tabIn 32 C 1534 dL_law_32 (by rw [e32_43]; decide) (by rw [e32_43]; decide) (by rw [e32_43]; rfl) (by decide) ?_
      refine z_aload_n 1534 C dL_law_1534 1 rfl ?_
      refine z_aload_n 1535 C dL_law_1535 0 rfl ?_
      refine z_iload_n 1536 C dL_law_1536 3 rfl ?_
      refine z_iconst 1537 C dL_law_1537 (nI 1) rfl ?_
      refine z_iaddN 1538 C (5 * k) 1 rfl rfl dL_law_1538 ?_
      refine z_sld 1539 C hX hbl hbA ((5 * k) + 1) (by omega) (by omega) dL_law_1539 ?_
      refine z_callV 1540 C 0 (⟨rfl, rfl⟩) rfl (As := [.int (xs ((5 * k) + 1))]) (rest := []) (pr_ruleValue (l := l) (G := G) hRk (xs ((5 * k) + 1)) (by omega)) k_X7_ruleValue q847 ⟨rfl, rfl⟩ ⟨Nat.le_of_ble_eq_true rfl, Nat.le_of_ble_eq_true rfl⟩ rfl (Nat.le_of_ble_eq_true rfl) hcs rfl dL_law_1540 (fun v1540 σ1540 hv1540 => ?_)
      rcases hv1540 with ⟨xx, rfl, hm⟩
      · skip
        refine z_cv (st1 := [.long xx]) rfl rfl rfl ?_
        refine z_aload_n 1543 C dL_law_1543 2 rfl ?_
        refine z_aload_n 1544 C dL_law_1544 0 rfl ?_
        refine z_iload_n 1545 C dL_law_1545 3 rfl ?_
        refine z_iconst 1546 C dL_law_1546 (nI 1) rfl ?_
        refine z_iaddN 1547 C (5 * k) 1 rfl rfl dL_law_1547 ?_
        refine z_sld 1548 C hX hbl hbA ((5 * k) + 1) (by omega) (by omega) dL_law_1548 ?_
        refine z_callV 1549 C 105 (⟨rfl, rfl⟩) rfl (As := [.int (xs ((5 * k) + 1))]) (rest := [.long xx]) (hm) k_X8_ruleValue q1401 ⟨rfl, rfl⟩ ⟨Nat.le_of_ble_eq_true rfl, Nat.le_of_ble_eq_true rfl⟩ rfl (Nat.le_of_ble_eq_true rfl) hcs rfl dL_law_1549 (fun v1549 σ1549 hv1549 => ?_)
        rcases hv1549 with ⟨rfl, hR2⟩
        · skip
          refine z_cv (st1 := [.long xx, .long xx]) rfl rfl rfl ?_
          refine z_lcmp_eq 1552 C 1783 dL_law_1552 dL_law_1553 (by decide) (fun c1552 => ?_) (fun c1552 => ?_)
          · skip
            refine z_iinc 1783 C dL_law_1783 3 [(3, .int ((nI (5 * k)) + Int32.ofInt 5)), (0, .ref b), (1, .ref (z_ad G 0)), (2, .ref (z_ad G 105))] rfl (by decide) rfl ?_
            refine z_cv (lv1 := [(3, .int (nI (5 * (k + 1)))), (0, .ref b), (1, .ref (z_ad G 0)), (2, .ref (z_ad G 105))]) (st1 := []) (σ1 := σ1549) (by rw [zl_inc (by omega)]) rfl rfl ?_
            refine z_goto 1786 C 18 dL_law_1786 (by decide) ?_
            refine z_sub [1, 2, 3, 0] (lv1 := [(0, .ref b), (1, .ref (z_ad G 0)), (2, .ref (z_ad G 105)), (3, .int (nI (5 * (k + 1))))]) rfl ?_
            refine z_cv (lv1 := [(0, .ref b), (1, .ref (z_ad G 0)), (2, .ref (z_ad G 105)), (3, .int (nI (5 * (k + 1))))]) (st1 := []) (σ1 := σ1549) rfl rfl rfl ?_
            exact ih_18 (k + 1) σ1549 (⟨by omega, by first | exact hR2 | exact z_R.up1 hRk⟩) (by omega)
          · skip
            exact absurd rfl c1552
    by_cases e32_44 : ((xs (5 * k)) &&& (nI 63)) = (44 : Int32)
    · skip
      refine z_tabIn 32 C 1558 dL_law_32 (by rw [e32_44]; decide) (by rw [e32_44]; decide) (by rw [e32_44]; rfl) (by decide) ?_
      refine z_aload_n 1558 C dL_law_1558 1 rfl ?_
      refine z_callV 1559 C 0 (⟨rfl, rfl⟩) rfl (As := []) (rest := []) (pr_violated (l := l) (G := G) hRk (by omega)) k_X7_violated q855 ⟨rfl, rfl⟩ ⟨Nat.le_of_ble_eq_true rfl, Nat.le_of_ble_eq_true rfl⟩ rfl (Nat.le_of_ble_eq_true rfl) hcs rfl dL_law_1559 (fun v1559 σ1559 hv1559 => ?_)
      rcases hv1559 with ⟨xx, rfl, hm⟩
      · skip
        refine z_cv (st1 := [.int xx]) rfl rfl rfl ?_
        refine z_aload_n 1562 C dL_law_1562 2 rfl ?_
        refine z_callV 1563 C 105 (⟨rfl, rfl⟩) rfl (As := []) (rest := [.int xx]) (hm) k_X8_violated q1409 ⟨rfl, rfl⟩ ⟨Nat.le_of_ble_eq_true rfl, Nat.le_of_ble_eq_true rfl⟩ rfl (Nat.le_of_ble_eq_true rfl) hcs rfl dL_law_1563 (fun v1563 σ1563 hv1563 => ?_)
        rcases hv1563 with ⟨rfl, hR2⟩
        · skip
          refine z_cv (st1 := [.int xx, .int xx]) rfl rfl rfl ?_
          refine z_icmp_eq 1566 C 1783 dL_law_1566 (by decide) (fun c1566 => ?_) (fun c1566 => ?_)
          · skip
            refine z_iinc 1783 C dL_law_1783 3 [(3, .int ((nI (5 * k)) + Int32.ofInt 5)), (0, .ref b), (1, .ref (z_ad G 0)), (2, .ref (z_ad G 105))] rfl (by decide) rfl ?_
            refine z_cv (lv1 := [(3, .int (nI (5 * (k + 1)))), (0, .ref b), (1, .ref (z_ad G 0)), (2, .ref (z_ad G 105))]) (st1 := []) (σ1 := σ1563) (by rw [zl_inc (by omega)]) rfl rfl ?_
            refine z_goto 1786 C 18 dL_law_1786 (by decide) ?_
            refine z_sub [1, 2, 3, 0] (lv1 := [(0, .ref b), (1, .ref (z_ad G 0)), (2, .ref (z_ad G 105)), (3, .int (nI (5 * (k + 1))))]) rfl ?_
            refine z_cv (lv1 := [(0, .ref b), (1, .ref (z_ad G 0)), (2, .ref (z_ad G 105)), (3, .int (nI (5 * (k + 1))))]) (st1 := []) (σ1 := σ1563) rfl rfl rfl ?_
            exact ih_18 (k + 1) σ1563 (⟨by omega, by first | exact hR2 | exact z_R.up1 hRk⟩) (by omega)
          · skip
            exact absurd rfl c1566
    by_cases e32_45 : ((xs (5 * k)) &&& (nI 63)) = (45 : Int32)
    · skip
      refine z_tabIn 32 C 1571 dL_law_32 (by rw [e32_45]; decide) (by rw [e32_45]; decide) (by rw [e32_45]; rfl) (by decide) ?_
      refine z_aload_n 1571 C dL_law_1571 1 rfl ?_
      refine z_aload_n 1572 C dL_law_1572 0 rfl ?_
      refine z_iload_n 1573 C dL_law_1573 3 rfl ?_
      refine z_iconst 1574 C dL_law_1574 (nI 1) rfl ?_
      refine z_iaddN 1575 C (5 * k) 1 rfl rfl dL_law_1575 ?_
      refine z_sld 1576 C hX hbl hbA ((5 * k) + 1) (by omega) (by omega) dL_law_1576 ?_
      refine z_i2c 1577 C dL_law_1577 ?_
      refine z_callV 1578 C 0 (⟨rfl, rfl⟩) rfl (As := [.int (((xs ((5 * k) + 1)).toUInt32 % 65536).toInt32)]) (rest := []) (pr_type (l := l) (G := G) hRk (((xs ((5 * k) + 1)).toUInt32 % 65536).toInt32)) k_X7_type q859 ⟨rfl, rfl⟩ ⟨Nat.le_of_ble_eq_true rfl, Nat.le_of_ble_eq_true rfl⟩ rfl (Nat.le_of_ble_eq_true rfl) hcs rfl dL_law_1578 (fun v1578 σ1578 hv1578 => ?_)
      rcases hv1578 with ⟨xx, rfl, hm⟩
      · skip
        refine z_cv (st1 := [.int xx]) rfl rfl rfl ?_
        refine z_aload_n 1581 C dL_law_1581 2 rfl ?_
        refine z_aload_n 1582 C dL_law_1582 0 rfl ?_
        refine z_iload_n 1583 C dL_law_1583 3 rfl ?_
        refine z_iconst 1584 C dL_law_1584 (nI 1) rfl ?_
        refine z_iaddN 1585 C (5 * k) 1 rfl rfl dL_law_1585 ?_
        refine z_sld 1586 C hX hbl hbA ((5 * k) + 1) (by omega) (by omega) dL_law_1586 ?_
        refine z_i2c 1587 C dL_law_1587 ?_
        refine z_callV 1588 C 105 (⟨rfl, rfl⟩) rfl (As := [.int (((xs ((5 * k) + 1)).toUInt32 % 65536).toInt32)]) (rest := [.int xx]) (hm) k_X8_type q1413 ⟨rfl, rfl⟩ ⟨Nat.le_of_ble_eq_true rfl, Nat.le_of_ble_eq_true rfl⟩ rfl (Nat.le_of_ble_eq_true rfl) hcs rfl dL_law_1588 (fun v1588 σ1588 hv1588 => ?_)
        rcases hv1588 with ⟨rfl, hR2⟩
        · skip
          refine z_cv (st1 := [.int xx, .int xx]) rfl rfl rfl ?_
          refine z_icmp_eq 1591 C 1783 dL_law_1591 (by decide) (fun c1591 => ?_) (fun c1591 => ?_)
          · skip
            refine z_iinc 1783 C dL_law_1783 3 [(3, .int ((nI (5 * k)) + Int32.ofInt 5)), (0, .ref b), (1, .ref (z_ad G 0)), (2, .ref (z_ad G 105))] rfl (by decide) rfl ?_
            refine z_cv (lv1 := [(3, .int (nI (5 * (k + 1)))), (0, .ref b), (1, .ref (z_ad G 0)), (2, .ref (z_ad G 105))]) (st1 := []) (σ1 := σ1588) (by rw [zl_inc (by omega)]) rfl rfl ?_
            refine z_goto 1786 C 18 dL_law_1786 (by decide) ?_
            refine z_sub [1, 2, 3, 0] (lv1 := [(0, .ref b), (1, .ref (z_ad G 0)), (2, .ref (z_ad G 105)), (3, .int (nI (5 * (k + 1))))]) rfl ?_
            refine z_cv (lv1 := [(0, .ref b), (1, .ref (z_ad G 0)), (2, .ref (z_ad G 105)), (3, .int (nI (5 * (k + 1))))]) (st1 := []) (σ1 := σ1588) rfl rfl rfl ?_
            exact ih_18 (k + 1) σ1588 (⟨by omega, by first | exact hR2 | exact z_R.up1 hRk⟩) (by omega)
          · skip
            exact absurd rfl c1591
    by_cases e32_46 : ((xs (5 * k)) &&& (nI 63)) = (46 : Int32)
    · skip
      refine z_tabIn 32 C 1596 dL_law_32 (by rw [e32_46]; decide) (by rw [e32_46]; decide) (by rw [e32_46]; rfl) (by decide) ?_
      refine z_aload_n 1596 C dL_law_1596 1 rfl ?_
      refine z_callV 1597 C 0 (⟨rfl, rfl⟩) rfl (As := []) (rest := []) (pr_clearText (l := l) (G := G) hRk ) k_X7_clearText q867 ⟨rfl, rfl⟩ ⟨Nat.le_of_ble_eq_true rfl, Nat.le_of_ble_eq_true rfl⟩ rfl (Nat.le_of_ble_eq_true rfl) hcs rfl dL_law_1597 (fun v1597 σ1597 hv1597 => ?_)
      rcases hv1597 with ⟨xx, rfl, hm⟩
      · skip
        refine z_cv (st1 := [.int xx]) rfl rfl rfl ?_
        refine z_aload_n 1600 C dL_law_1600 2 rfl ?_
        refine z_callV 1601 C 105 (⟨rfl, rfl⟩) rfl (As := []) (rest := [.int xx]) (hm) k_X8_clearText q1417 ⟨rfl, rfl⟩ ⟨Nat.le_of_ble_eq_true rfl, Nat.le_of_ble_eq_true rfl⟩ rfl (Nat.le_of_ble_eq_true rfl) hcs rfl dL_law_1601 (fun v1601 σ1601 hv1601 => ?_)
        rcases hv1601 with ⟨rfl, hR2⟩
        · skip
          refine z_cv (st1 := [.int xx, .int xx]) rfl rfl rfl ?_
          refine z_icmp_eq 1604 C 1783 dL_law_1604 (by decide) (fun c1604 => ?_) (fun c1604 => ?_)
          · skip
            refine z_iinc 1783 C dL_law_1783 3 [(3, .int ((nI (5 * k)) + Int32.ofInt 5)), (0, .ref b), (1, .ref (z_ad G 0)), (2, .ref (z_ad G 105))] rfl (by decide) rfl ?_
            refine z_cv (lv1 := [(3, .int (nI (5 * (k + 1)))), (0, .ref b), (1, .ref (z_ad G 0)), (2, .ref (z_ad G 105))]) (st1 := []) (σ1 := σ1601) (by rw [zl_inc (by omega)]) rfl rfl ?_
            refine z_goto 1786 C 18 dL_law_1786 (by decide) ?_
            refine z_sub [1, 2, 3, 0] (lv1 := [(0, .ref b), (1, .ref (z_ad G 0)), (2, .ref (z_ad G 105)), (3, .int (nI (5 * (k + 1))))]) rfl ?_
            refine z_cv (lv1 := [(0, .ref b), (1, .ref (z_ad G 0)), (2, .ref (z_ad G 105)), (3, .int (nI (5 * (k + 1))))]) (st1 := []) (σ1 := σ1601) rfl rfl rfl ?_
            exact ih_18 (k + 1) σ1601 (⟨by omega, by first | exact hR2 | exact z_R.up1 hRk⟩) (by omega)
          · skip
            exact absurd rfl c1604
    by_cases e32_47 : ((xs (5 * k)) &&& (nI 63)) = (47 : Int32)
    · skip
      refine z_tabIn 32 C 1609 dL_law_32 (by rw [e32_47]; decide) (by rw [e32_47]; decide) (by rw [e32_47]; rfl) (by decide) ?_
      refine z_aload_n 1609 C dL_law_1609 1 rfl ?_
      refine z_callV 1610 C 0 (⟨rfl, rfl⟩) rfl (As := []) (rest := []) (pr_readText (l := l) (G := G) hRk ) k_X7_readText q871 ⟨rfl, rfl⟩ ⟨Nat.le_of_ble_eq_true rfl, Nat.le_of_ble_eq_true rfl⟩ rfl (Nat.le_of_ble_eq_true rfl) hcs rfl dL_law_1610 (fun v1610 σ1610 hv1610 => ?_)
      rcases hv1610 with ⟨xx, rfl, hm⟩
      · skip
        refine z_cv (st1 := [.int xx]) rfl rfl rfl ?_
        refine z_aload_n 1613 C dL_law_1613 2 rfl ?_
        refine z_callV 1614 C 105 (⟨rfl, rfl⟩) rfl (As := []) (rest := [.int xx]) (hm) k_X8_readText q1421 ⟨rfl, rfl⟩ ⟨Nat.le_of_ble_eq_true rfl, Nat.le_of_ble_eq_true rfl⟩ rfl (Nat.le_of_ble_eq_true rfl) hcs rfl dL_law_1614 (fun v1614 σ1614 hv1614 => ?_)
        rcases hv1614 with ⟨rfl, hR2⟩
        · skip
          refine z_cv (st1 := [.int xx, .int xx]) rfl rfl rfl ?_
          refine z_icmp_eq 1617 C 1783 dL_law_1617 (by decide) (fun c1617 => ?_) (fun c1617 => ?_)
          · skip
            refine z_iinc 1783 C dL_law_1783 3 [(3, .int ((nI (5 * k)) + Int32.ofInt 5)), (0, .ref b), (1, .ref (z_ad G 0)), (2, .ref (z_ad G 105))] rfl (by decide) rfl ?_
            refine z_cv (lv1 := [(3, .int (nI (5 * (k + 1)))), (0, .ref b), (1, .ref (z_ad G 0)), (2, .ref (z_ad G 105))]) (st1 := []) (σ1 := σ1614) (by rw [zl_inc (by omega)]) rfl rfl ?_
            refine z_goto 1786 C 18 dL_law_1786 (by decide) ?_
            refine z_sub [1, 2, 3, 0] (lv1 := [(0, .ref b), (1, .ref (z_ad G 0)), (2, .ref (z_ad G 105)), (3, .int (nI (5 * (k + 1))))]) rfl ?_
            refine z_cv (lv1 := [(0, .ref b), (1, .ref (z_ad G 0)), (2, .ref (z_ad G 105)), (3, .int (nI (5 * (k + 1))))]) (st1 := []) (σ1 := σ1614) rfl rfl rfl ?_
            exact ih_18 (k + 1) σ1614 (⟨by omega, by first | exact hR2 | exact z_R.up1 hRk⟩) (by omega)
          · skip
            exact absurd rfl c1617
    by_cases e32_48 : ((xs (5 * k)) &&& (nI 63)) = (48 : Int32)
    · skip
      refine z_tabIn 32 C 1622 dL_law_32 (by rw [e32_48]; decide) (by rw [e32_48]; decide) (by rw [e32_48]; rfl) (by decide) ?_
      refine z_aload_n 1622 C dL_law_1622 1 rfl ?_
      refine z_aload_n 1623 C dL_law_1623 0 rfl ?_
      refine z_iload_n 1624 C dL_law_1624 3 rfl ?_
      refine z_iconst 1625 C dL_law_1625 (nI 1) rfl ?_
      refine z_iaddN 1626 C (5 * k) 1 rfl rfl dL_law_1626 ?_
      refine z_sld 1627 C hX hbl hbA ((5 * k) + 1) (by omega) (by omega) dL_law_1627 ?_
      refine z_if_eq 1628 C 1635 dL_law_1628 (by decide) (fun c1628 => ?_) (fun c1628 => ?_)
      · skip
        refine z_iconst 1635 C dL_law_1635 (nI 0) rfl ?_
        refine z_aload_n 1636 C dL_law_1636 0 rfl ?_
        refine z_iload_n 1637 C dL_law_1637 3 rfl ?_
        refine z_iconst 1638 C dL_law_1638 (nI 2) rfl ?_
        refine z_iaddN 1639 C (5 * k) 2 rfl rfl dL_law_1639 ?_
        refine z_sld 1640 C hX hbl hbA ((5 * k) + 2) (by omega) (by omega) dL_law_1640 ?_
        refine z_aload_n 1641 C dL_law_1641 0 rfl ?_
        refine z_iload_n 1642 C dL_law_1642 3 rfl ?_
        refine z_iconst 1643 C dL_law_1643 (nI 3) rfl ?_
        refine z_iaddN 1644 C (5 * k) 3 rfl rfl dL_law_1644 ?_
        refine z_sld 1645 C hX hbl hbA ((5 * k) + 3) (by omega) (by omega) dL_law_1645 ?_
        refine z_callV 1646 C 0 (⟨rfl, rfl⟩) rfl (As := [.int (nI 0), .int (xs ((5 * k) + 2)), .int (xs ((5 * k) + 3))]) (rest := []) (pr_setTrue (l := l) (G := G) hRk 0 (xs ((5 * k) + 2)) (xs ((5 * k) + 3)) (by decide)) k_X7_setTrue q942 ⟨rfl, rfl⟩ ⟨Nat.le_of_ble_eq_true rfl, Nat.le_of_ble_eq_true rfl⟩ rfl (Nat.le_of_ble_eq_true rfl) hcs rfl dL_law_1646 (fun v1646 σ1646 hv1646 => ?_)
        rcases hv1646 with ⟨xx, rfl, hm⟩
        · skip
          refine z_cv (st1 := [.int xx]) rfl rfl rfl ?_
          refine z_aload_n 1649 C dL_law_1649 2 rfl ?_
          refine z_aload_n 1650 C dL_law_1650 0 rfl ?_
          refine z_iload_n 1651 C dL_law_1651 3 rfl ?_
          refine z_iconst 1652 C dL_law_1652 (nI 1) rfl ?_
          refine z_iaddN 1653 C (5 * k) 1 rfl rfl dL_law_1653 ?_
          refine z_sld 1654 C hX hbl hbA ((5 * k) + 1) (by omega) (by omega) dL_law_1654 ?_
          refine z_if_eq 1655 C 1662 dL_law_1655 (by decide) (fun c1655 => ?_) (fun c1655 => ?_)
          · skip
            refine z_iconst 1662 C dL_law_1662 (nI 0) rfl ?_
            refine z_aload_n 1663 C dL_law_1663 0 rfl ?_
            refine z_iload_n 1664 C dL_law_1664 3 rfl ?_
            refine z_iconst 1665 C dL_law_1665 (nI 2) rfl ?_
            refine z_iaddN 1666 C (5 * k) 2 rfl rfl dL_law_1666 ?_
            refine z_sld 1667 C hX hbl hbA ((5 * k) + 2) (by omega) (by omega) dL_law_1667 ?_
            refine z_aload_n 1668 C dL_law_1668 0 rfl ?_
            refine z_iload_n 1669 C dL_law_1669 3 rfl ?_
            refine z_iconst 1670 C dL_law_1670 (nI 3) rfl ?_
            refine z_iaddN 1671 C (5 * k) 3 rfl rfl dL_law_1671 ?_
            refine z_sld 1672 C hX hbl hbA ((5 * k) + 3) (by omega) (by omega) dL_law_1672 ?_
            refine z_callV 1673 C 105 (⟨rfl, rfl⟩) rfl (As := [.int (nI 0), .int (xs ((5 * k) + 2)), .int (xs ((5 * k) + 3))]) (rest := [.int xx]) (hm) k_X8_setTrue q1477 ⟨rfl, rfl⟩ ⟨Nat.le_of_ble_eq_true rfl, Nat.le_of_ble_eq_true rfl⟩ rfl (Nat.le_of_ble_eq_true rfl) hcs rfl dL_law_1673 (fun v1673 σ1673 hv1673 => ?_)
            rcases hv1673 with ⟨rfl, hR2⟩
            · skip
              refine z_cv (st1 := [.int xx, .int xx]) rfl rfl rfl ?_
              refine z_icmp_eq 1676 C 1783 dL_law_1676 (by decide) (fun c1676 => ?_) (fun c1676 => ?_)
              · skip
                refine z_iinc 1783 C dL_law_1783 3 [(3, .int ((nI (5 * k)) + Int32.ofInt 5)), (0, .ref b), (1, .ref (z_ad G 0)), (2, .ref (z_ad G 105))] rfl (by decide) rfl ?_
                refine z_cv (lv1 := [(3, .int (nI (5 * (k + 1)))), (0, .ref b), (1, .ref (z_ad G 0)), (2, .ref (z_ad G 105))]) (st1 := []) (σ1 := σ1673) (by rw [zl_inc (by omega)]) rfl rfl ?_
                refine z_goto 1786 C 18 dL_law_1786 (by decide) ?_
                refine z_sub [1, 2, 3, 0] (lv1 := [(0, .ref b), (1, .ref (z_ad G 0)), (2, .ref (z_ad G 105)), (3, .int (nI (5 * (k + 1))))]) rfl ?_
                refine z_cv (lv1 := [(0, .ref b), (1, .ref (z_ad G 0)), (2, .ref (z_ad G 105)), (3, .int (nI (5 * (k + 1))))]) (st1 := []) (σ1 := σ1673) rfl rfl rfl ?_
                exact ih_18 (k + 1) σ1673 (⟨by omega, by first | exact hR2 | exact z_R.up1 hRk⟩) (by omega)
              · skip
                exact absurd rfl c1676
          · skip
            exact absurd c1628 c1655
      · skip
        refine z_iconst 1631 C dL_law_1631 (nI 1) rfl ?_
        refine z_goto 1632 C 1636 dL_law_1632 (by decide) ?_
        refine z_aload_n 1636 C dL_law_1636 0 rfl ?_
        refine z_iload_n 1637 C dL_law_1637 3 rfl ?_
        refine z_iconst 1638 C dL_law_1638 (nI 2) rfl ?_
        refine z_iaddN 1639 C (5 * k) 2 rfl rfl dL_law_1639 ?_
        refine z_sld 1640 C hX hbl hbA ((5 * k) + 2) (by omega) (by omega) dL_law_1640 ?_
        refine z_aload_n 1641 C dL_law_1641 0 rfl ?_
        refine z_iload_n 1642 C dL_law_1642 3 rfl ?_
        refine z_iconst 1643 C dL_law_1643 (nI 3) rfl ?_
        refine z_iaddN 1644 C (5 * k) 3 rfl rfl dL_law_1644 ?_
        refine z_sld 1645 C hX hbl hbA ((5 * k) + 3) (by omega) (by omega) dL_law_1645 ?_
        refine z_callV 1646 C 0 (⟨rfl, rfl⟩) rfl (As := [.int (nI 1), .int (xs ((5 * k) + 2)), .int (xs ((5 * k) + 3))]) (rest := []) (pr_setTrue (l := l) (G := G) hRk 1 (xs ((5 * k) + 2)) (xs ((5 * k) + 3)) (by decide)) k_X7_setTrue q942 ⟨rfl, rfl⟩ ⟨Nat.le_of_ble_eq_true rfl, Nat.le_of_ble_eq_true rfl⟩ rfl (Nat.le_of_ble_eq_true rfl) hcs rfl dL_law_1646 (fun v1646 σ1646 hv1646 => ?_)
        rcases hv1646 with ⟨xx, rfl, hm⟩
        · skip
          refine z_cv (st1 := [.int xx]) rfl rfl rfl ?_
          refine z_aload_n 1649 C dL_law_1649 2 rfl ?_
          refine z_aload_n 1650 C dL_law_1650 0 rfl ?_
          refine z_iload_n 1651 C dL_law_1651 3 rfl ?_
          refine z_iconst 1652 C dL_law_1652 (nI 1) rfl ?_
          refine z_iaddN 1653 C (5 * k) 1 rfl rfl dL_law_1653 ?_
          refine z_sld 1654 C hX hbl hbA ((5 * k) + 1) (by omega) (by omega) dL_law_1654 ?_
          refine z_if_eq 1655 C 1662 dL_law_1655 (by decide) (fun c1655 => ?_) (fun c1655 => ?_)
          · skip
            exact absurd c1655 c1628
          · skip
            refine z_iconst 1658 C dL_law_1658 (nI 1) rfl ?_
            refine z_goto 1659 C 1663 dL_law_1659 (by decide) ?_
            refine z_aload_n 1663 C dL_law_1663 0 rfl ?_
            refine z_iload_n 1664 C dL_law_1664 3 rfl ?_
            refine z_iconst 1665 C dL_law_1665 (nI 2) rfl ?_
            refine z_iaddN 1666 C (5 * k) 2 rfl rfl dL_law_1666 ?_
            refine z_sld 1667 C hX hbl hbA ((5 * k) + 2) (by omega) (by omega) dL_law_1667 ?_
            refine z_aload_n 1668 C dL_law_1668 0 rfl ?_
            refine z_iload_n 1669 C dL_law_1669 3 rfl ?_
            refine z_iconst 1670 C dL_law_1670 (nI 3) rfl ?_
            refine z_iaddN 1671 C (5 * k) 3 rfl rfl dL_law_1671 ?_
            refine z_sld 1672 C hX hbl hbA ((5 * k) + 3) (by omega) (by omega) dL_law_1672 ?_
            refine z_callV 1673 C 105 (⟨rfl, rfl⟩) rfl (As := [.int (nI 1), .int (xs ((5 * k) + 2)), .int (xs ((5 * k) + 3))]) (rest := [.int xx]) (hm) k_X8_setTrue q1477 ⟨rfl, rfl⟩ ⟨Nat.le_of_ble_eq_true rfl, Nat.le_of_ble_eq_true rfl⟩ rfl (Nat.le_of_ble_eq_true rfl) hcs rfl dL_law_1673 (fun v1673 σ1673 hv1673 => ?_)
            rcases hv1673 with ⟨rfl, hR2⟩
            · skip
              refine z_cv (st1 := [.int xx, .int xx]) rfl rfl rfl ?_
              refine z_icmp_eq 1676 C 1783 dL_law_1676 (by decide) (fun c1676 => ?_) (fun c1676 => ?_)
              · skip
                refine z_iinc 1783 C dL_law_1783 3 [(3, .int ((nI (5 * k)) + Int32.ofInt 5)), (0, .ref b), (1, .ref (z_ad G 0)), (2, .ref (z_ad G 105))] rfl (by decide) rfl ?_
                refine z_cv (lv1 := [(3, .int (nI (5 * (k + 1)))), (0, .ref b), (1, .ref (z_ad G 0)), (2, .ref (z_ad G 105))]) (st1 := []) (σ1 := σ1673) (by rw [zl_inc (by omega)]) rfl rfl ?_
                refine z_goto 1786 C 18 dL_law_1786 (by decide) ?_
                refine z_sub [1, 2, 3, 0] (lv1 := [(0, .ref b), (1, .ref (z_ad G 0)), (2, .ref (z_ad G 105)), (3, .int (nI (5 * (k + 1))))]) rfl ?_
                refine z_cv (lv1 := [(0, .ref b), (1, .ref (z_ad G 0)), (2, .ref (z_ad G 105)), (3, .int (nI (5 * (k + 1))))]) (st1 := []) (σ1 := σ1673) rfl rfl rfl ?_
                exact ih_18 (k + 1) σ1673 (⟨by omega, by first | exact hR2 | exact z_R.up1 hRk⟩) (by omega)
              · skip
                exact absurd rfl c1676
    by_cases e32_49 : ((xs (5 * k)) &&& (nI 63)) = (49 : Int32)
    · skip
      refine z_tabIn 32 C 1681 dL_law_32 (by rw [e32_49]; decide) (by rw [e32_49]; decide) (by rw [e32_49]; rfl) (by decide) ?_
      refine z_aload_n 1681 C dL_law_1681 1 rfl ?_
      refine z_aload_n 1682 C dL_law_1682 0 rfl ?_
      refine z_iload_n 1683 C dL_law_1683 3 rfl ?_
      refine z_iconst 1684 C dL_law_1684 (nI 1) rfl ?_
      refine z_iaddN 1685 C (5 * k) 1 rfl rfl dL_law_1685 ?_
      refine z_sld 1686 C hX hbl hbA ((5 * k) + 1) (by omega) (by omega) dL_law_1686 ?_
      refine z_if_eq 1687 C 1694 dL_law_1687 (by decide) (fun c1687 => ?_) (fun c1687 => ?_)
      · skip
        refine z_iconst 1694 C dL_law_1694 (nI 0) rfl ?_
        refine z_aload_n 1695 C dL_law_1695 0 rfl ?_
        refine z_iload_n 1696 C dL_law_1696 3 rfl ?_
        refine z_iconst 1697 C dL_law_1697 (nI 2) rfl ?_
        refine z_iaddN 1698 C (5 * k) 2 rfl rfl dL_law_1698 ?_
        refine z_sld 1699 C hX hbl hbA ((5 * k) + 2) (by omega) (by omega) dL_law_1699 ?_
        refine z_aload_n 1700 C dL_law_1700 0 rfl ?_
        refine z_iload_n 1701 C dL_law_1701 3 rfl ?_
        refine z_iconst 1702 C dL_law_1702 (nI 3) rfl ?_
        refine z_iaddN 1703 C (5 * k) 3 rfl rfl dL_law_1703 ?_
        refine z_sld 1704 C hX hbl hbA ((5 * k) + 3) (by omega) (by omega) dL_law_1704 ?_
        refine z_aload_n 1705 C dL_law_1705 0 rfl ?_
        refine z_iload_n 1706 C dL_law_1706 3 rfl ?_
        refine z_iconst 1707 C dL_law_1707 (nI 4) rfl ?_
        refine z_iaddN 1708 C (5 * k) 4 rfl rfl dL_law_1708 ?_
        refine z_sld 1709 C hX hbl hbA ((5 * k) + 4) (by omega) (by omega) dL_law_1709 ?_
        refine z_callV 1710 C 0 (⟨rfl, rfl⟩) rfl (As := [.int (nI 0), .int (xs ((5 * k) + 2)), .int (xs ((5 * k) + 3)), .int (xs ((5 * k) + 4))]) (rest := []) (pr_addLobes (l := l) (G := G) hRk 0 (xs ((5 * k) + 2)) (xs ((5 * k) + 3)) (xs ((5 * k) + 4)) (by decide)) k_X7_addLobes q946 ⟨rfl, rfl⟩ ⟨Nat.le_of_ble_eq_true rfl, Nat.le_of_ble_eq_true rfl⟩ rfl (Nat.le_of_ble_eq_true rfl) hcs rfl dL_law_1710 (fun v1710 σ1710 hv1710 => ?_)
        rcases hv1710 with ⟨xx, rfl, hm⟩
        · skip
          refine z_cv (st1 := [.int xx]) rfl rfl rfl ?_
          refine z_aload_n 1713 C dL_law_1713 2 rfl ?_
          refine z_aload_n 1714 C dL_law_1714 0 rfl ?_
          refine z_iload_n 1715 C dL_law_1715 3 rfl ?_
          refine z_iconst 1716 C dL_law_1716 (nI 1) rfl ?_
          refine z_iaddN 1717 C (5 * k) 1 rfl rfl dL_law_1717 ?_
          refine z_sld 1718 C hX hbl hbA ((5 * k) + 1) (by omega) (by omega) dL_law_1718 ?_
          refine z_if_eq 1719 C 1726 dL_law_1719 (by decide) (fun c1719 => ?_) (fun c1719 => ?_)
          · skip
            refine z_iconst 1726 C dL_law_1726 (nI 0) rfl ?_
            refine z_aload_n 1727 C dL_law_1727 0 rfl ?_
            refine z_iload_n 1728 C dL_law_1728 3 rfl ?_
            refine z_iconst 1729 C dL_law_1729 (nI 2) rfl ?_
            refine z_iaddN 1730 C (5 * k) 2 rfl rfl dL_law_1730 ?_
            refine z_sld 1731 C hX hbl hbA ((5 * k) + 2) (by omega) (by omega) dL_law_1731 ?_
            refine z_aload_n 1732 C dL_law_1732 0 rfl ?_
            refine z_iload_n 1733 C dL_law_1733 3 rfl ?_
            refine z_iconst 1734 C dL_law_1734 (nI 3) rfl ?_
            refine z_iaddN 1735 C (5 * k) 3 rfl rfl dL_law_1735 ?_
            refine z_sld 1736 C hX hbl hbA ((5 * k) + 3) (by omega) (by omega) dL_law_1736 ?_
            refine z_aload_n 1737 C dL_law_1737 0 rfl ?_
            refine z_iload_n 1738 C dL_law_1738 3 rfl ?_
            refine z_iconst 1739 C dL_law_1739 (nI 4) rfl ?_
            refine z_iaddN 1740 C (5 * k) 4 rfl rfl dL_law_1740 ?_
            refine z_sld 1741 C hX hbl hbA ((5 * k) + 4) (by omega) (by omega) dL_law_1741 ?_
            refine z_callV 1742 C 105 (⟨rfl, rfl⟩) rfl (As := [.int (nI 0), .int (xs ((5 * k) + 2)), .int (xs ((5 * k) + 3)), .int (xs ((5 * k) + 4))]) (rest := [.int xx]) (hm) k_X8_addLobes q1481 ⟨rfl, rfl⟩ ⟨Nat.le_of_ble_eq_true rfl, Nat.le_of_ble_eq_true rfl⟩ rfl (Nat.le_of_ble_eq_true rfl) hcs rfl dL_law_1742 (fun v1742 σ1742 hv1742 => ?_)
            rcases hv1742 with ⟨rfl, hR2⟩
            · skip
              refine z_cv (st1 := [.int xx, .int xx]) rfl rfl rfl ?_
              refine z_icmp_eq 1745 C 1783 dL_law_1745 (by decide) (fun c1745 => ?_) (fun c1745 => ?_)
              · skip
                refine z_iinc 1783 C dL_law_1783 3 [(3, .int ((nI (5 * k)) + Int32.ofInt 5)), (0, .ref b), (1, .ref (z_ad G 0)), (2, .ref (z_ad G 105))] rfl (by decide) rfl ?_
                refine z_cv (lv1 := [(3, .int (nI (5 * (k + 1)))), (0, .ref b), (1, .ref (z_ad G 0)), (2, .ref (z_ad G 105))]) (st1 := []) (σ1 := σ1742) (by rw [zl_inc (by omega)]) rfl rfl ?_
                refine z_goto 1786 C 18 dL_law_1786 (by decide) ?_
                refine z_sub [1, 2, 3, 0] (lv1 := [(0, .ref b), (1, .ref (z_ad G 0)), (2, .ref (z_ad G 105)), (3, .int (nI (5 * (k + 1))))]) rfl ?_
                refine z_cv (lv1 := [(0, .ref b), (1, .ref (z_ad G 0)), (2, .ref (z_ad G 105)), (3, .int (nI (5 * (k + 1))))]) (st1 := []) (σ1 := σ1742) rfl rfl rfl ?_
                exact ih_18 (k + 1) σ1742 (⟨by omega, by first | exact hR2 | exact z_R.up1 hRk⟩) (by omega)
              · skip
                exact absurd rfl c1745
          · skip
            exact absurd c1687 c1719
      · skip
        refine z_iconst 1690 C dL_law_1690 (nI 1) rfl ?_
        refine z_goto 1691 C 1695 dL_law_1691 (by decide) ?_
        refine z_aload_n 1695 C dL_law_1695 0 rfl ?_
        refine z_iload_n 1696 C dL_law_1696 3 rfl ?_
        refine z_iconst 1697 C dL_law_1697 (nI 2) rfl ?_
        refine z_iaddN 1698 C (5 * k) 2 rfl rfl dL_law_1698 ?_
        refine z_sld 1699 C hX hbl hbA ((5 * k) + 2) (by omega) (by omega) dL_law_1699 ?_
        refine z_aload_n 1700 C dL_law_1700 0 rfl ?_
        refine z_iload_n 1701 C dL_law_1701 3 rfl ?_
        refine z_iconst 1702 C dL_law_1702 (nI 3) rfl ?_
        refine z_iaddN 1703 C (5 * k) 3 rfl rfl dL_law_1703 ?_
        refine z_sld 1704 C hX hbl hbA ((5 * k) + 3) (by omega) (by omega) dL_law_1704 ?_
        refine z_aload_n 1705 C dL_law_1705 0 rfl ?_
        refine z_iload_n 1706 C dL_law_1706 3 rfl ?_
        refine z_iconst 1707 C dL_law_1707 (nI 4) rfl ?_
        refine z_iaddN 1708 C (5 * k) 4 rfl rfl dL_law_1708 ?_
        refine z_sld 1709 C hX hbl hbA ((5 * k) + 4) (by omega) (by omega) dL_law_1709 ?_
        refine z_callV 1710 C 0 (⟨rfl, rfl⟩) rfl (As := [.int (nI 1), .int (xs ((5 * k) + 2)), .int (xs ((5 * k) + 3)), .int (xs ((5 * k) + 4))]) (rest := []) (pr_addLobes (l := l) (G := G) hRk 1 (xs ((5 * k) + 2)) (xs ((5 * k) + 3)) (xs ((5 * k) + 4)) (by decide)) k_X7_addLobes q946 ⟨rfl, rfl⟩ ⟨Nat.le_of_ble_eq_true rfl, Nat.le_of_ble_eq_true rfl⟩ rfl (Nat.le_of_ble_eq_true rfl) hcs rfl dL_law_1710 (fun v1710 σ1710 hv1710 => ?_)
        rcases hv1710 with ⟨xx, rfl, hm⟩
        · skip
          refine z_cv (st1 := [.int xx]) rfl rfl rfl ?_
          refine z_aload_n 1713 C dL_law_1713 2 rfl ?_
          refine z_aload_n 1714 C dL_law_1714 0 rfl ?_
          refine z_iload_n 1715 C dL_law_1715 3 rfl ?_
          refine z_iconst 1716 C dL_law_1716 (nI 1) rfl ?_
          refine z_iaddN 1717 C (5 * k) 1 rfl rfl dL_law_1717 ?_
          refine z_sld 1718 C hX hbl hbA ((5 * k) + 1) (by omega) (by omega) dL_law_1718 ?_
          refine z_if_eq 1719 C 1726 dL_law_1719 (by decide) (fun c1719 => ?_) (fun c1719 => ?_)
          · skip
            exact absurd c1719 c1687
          · skip
            refine z_iconst 1722 C dL_law_1722 (nI 1) rfl ?_
            refine z_goto 1723 C 1727 dL_law_1723 (by decide) ?_
            refine z_aload_n 1727 C dL_law_1727 0 rfl ?_
            refine z_iload_n 1728 C dL_law_1728 3 rfl ?_
            refine z_iconst 1729 C dL_law_1729 (nI 2) rfl ?_
            refine z_iaddN 1730 C (5 * k) 2 rfl rfl dL_law_1730 ?_
            refine z_sld 1731 C hX hbl hbA ((5 * k) + 2) (by omega) (by omega) dL_law_1731 ?_
            refine z_aload_n 1732 C dL_law_1732 0 rfl ?_
            refine z_iload_n 1733 C dL_law_1733 3 rfl ?_
            refine z_iconst 1734 C dL_law_1734 (nI 3) rfl ?_
            refine z_iaddN 1735 C (5 * k) 3 rfl rfl dL_law_1735 ?_
            refine z_sld 1736 C hX hbl hbA ((5 * k) + 3) (by omega) (by omega) dL_law_1736 ?_
            refine z_aload_n 1737 C dL_law_1737 0 rfl ?_
            refine z_iload_n 1738 C dL_law_1738 3 rfl ?_
            refine z_iconst 1739 C dL_law_1739 (nI 4) rfl ?_
            refine z_iaddN 1740 C (5 * k) 4 rfl rfl dL_law_1740 ?_
            refine z_sld 1741 C hX hbl hbA ((5 * k) + 4) (by omega) (by omega) dL_law_1741 ?_
            refine z_callV 1742 C 105 (⟨rfl, rfl⟩) rfl (As := [.int (nI 1), .int (xs ((5 * k) + 2)), .int (xs ((5 * k) + 3)), .int (xs ((5 * k) + 4))]) (rest := [.int xx]) (hm) k_X8_addLobes q1481 ⟨rfl, rfl⟩ ⟨Nat.le_of_ble_eq_true rfl, Nat.le_of_ble_eq_true rfl⟩ rfl (Nat.le_of_ble_eq_true rfl) hcs rfl dL_law_1742 (fun v1742 σ1742 hv1742 => ?_)
            rcases hv1742 with ⟨rfl, hR2⟩
            · skip
              refine z_cv (st1 := [.int xx, .int xx]) rfl rfl rfl ?_
              refine z_icmp_eq 1745 C 1783 dL_law_1745 (by decide) (fun c1745 => ?_) (fun c1745 => ?_)
              · skip
                refine z_iinc 1783 C dL_law_1783 3 [(3, .int ((nI (5 * k)) + Int32.ofInt 5)), (0, .ref b), (1, .ref (z_ad G 0)), (2, .ref (z_ad G 105))] rfl (by decide) rfl ?_
                refine z_cv (lv1 := [(3, .int (nI (5 * (k + 1)))), (0, .ref b), (1, .ref (z_ad G 0)), (2, .ref (z_ad G 105))]) (st1 := []) (σ1 := σ1742) (by rw [zl_inc (by omega)]) rfl rfl ?_
                refine z_goto 1786 C 18 dL_law_1786 (by decide) ?_
                refine z_sub [1, 2, 3, 0] (lv1 := [(0, .ref b), (1, .ref (z_ad G 0)), (2, .ref (z_ad G 105)), (3, .int (nI (5 * (k + 1))))]) rfl ?_
                refine z_cv (lv1 := [(0, .ref b), (1, .ref (z_ad G 0)), (2, .ref (z_ad G 105)), (3, .int (nI (5 * (k + 1))))]) (st1 := []) (σ1 := σ1742) rfl rfl rfl ?_
                exact ih_18 (k + 1) σ1742 (⟨by omega, by first | exact hR2 | exact z_R.up1 hRk⟩) (by omega)
              · skip
                exact absurd rfl c1745
    by_cases e32_50 : ((xs (5 * k)) &&& (nI 63)) = (50 : Int32)
    · skip
      refine z_tabIn 32 C 1750 dL_law_32 (by rw [e32_50]; decide) (by rw [e32_50]; decide) (by rw [e32_50]; rfl) (by decide) ?_
      refine z_aload_n 1750 C dL_law_1750 1 rfl ?_
      refine z_aload_n 1751 C dL_law_1751 0 rfl ?_
      refine z_iload_n 1752 C dL_law_1752 3 rfl ?_
      refine z_iconst 1753 C dL_law_1753 (nI 1) rfl ?_
      refine z_iaddN 1754 C (5 * k) 1 rfl rfl dL_law_1754 ?_
      refine z_sld 1755 C hX hbl hbA ((5 * k) + 1) (by omega) (by omega) dL_law_1755 ?_
      refine z_aload_n 1756 C dL_law_1756 0 rfl ?_
      refine z_iload_n 1757 C dL_law_1757 3 rfl ?_
      refine z_iconst 1758 C dL_law_1758 (nI 2) rfl ?_
      refine z_iaddN 1759 C (5 * k) 2 rfl rfl dL_law_1759 ?_
      refine z_sld 1760 C hX hbl hbA ((5 * k) + 2) (by omega) (by omega) dL_law_1760 ?_
      refine z_callV 1761 C 0 (⟨rfl, rfl⟩) rfl (As := [.int (xs ((5 * k) + 1)), .int (xs ((5 * k) + 2))]) (rest := []) (pr_setEccentricity (l := l) (G := G) hRk (xs ((5 * k) + 1)) (xs ((5 * k) + 2))) k_X7_setEccentricity q950 ⟨rfl, rfl⟩ ⟨Nat.le_of_ble_eq_true rfl, Nat.le_of_ble_eq_true rfl⟩ rfl (Nat.le_of_ble_eq_true rfl) hcs rfl dL_law_1761 (fun v1761 σ1761 hv1761 => ?_)
      rcases hv1761 with ⟨xx, rfl, hm⟩
      · skip
        refine z_cv (st1 := [.int xx]) rfl rfl rfl ?_
        refine z_aload_n 1764 C dL_law_1764 2 rfl ?_
        refine z_aload_n 1765 C dL_law_1765 0 rfl ?_
        refine z_iload_n 1766 C dL_law_1766 3 rfl ?_
        refine z_iconst 1767 C dL_law_1767 (nI 1) rfl ?_
        refine z_iaddN 1768 C (5 * k) 1 rfl rfl dL_law_1768 ?_
        refine z_sld 1769 C hX hbl hbA ((5 * k) + 1) (by omega) (by omega) dL_law_1769 ?_
        refine z_aload_n 1770 C dL_law_1770 0 rfl ?_
        refine z_iload_n 1771 C dL_law_1771 3 rfl ?_
        refine z_iconst 1772 C dL_law_1772 (nI 2) rfl ?_
        refine z_iaddN 1773 C (5 * k) 2 rfl rfl dL_law_1773 ?_
        refine z_sld 1774 C hX hbl hbA ((5 * k) + 2) (by omega) (by omega) dL_law_1774 ?_
        refine z_callV 1775 C 105 (⟨rfl, rfl⟩) rfl (As := [.int (xs ((5 * k) + 1)), .int (xs ((5 * k) + 2))]) (rest := [.int xx]) (hm) k_X8_setEccentricity q1482 ⟨rfl, rfl⟩ ⟨Nat.le_of_ble_eq_true rfl, Nat.le_of_ble_eq_true rfl⟩ rfl (Nat.le_of_ble_eq_true rfl) hcs rfl dL_law_1775 (fun v1775 σ1775 hv1775 => ?_)
        rcases hv1775 with ⟨rfl, hR2⟩
        · skip
          refine z_cv (st1 := [.int xx, .int xx]) rfl rfl rfl ?_
          refine z_icmp_eq 1778 C 1783 dL_law_1778 (by decide) (fun c1778 => ?_) (fun c1778 => ?_)
          · skip
            refine z_iinc 1783 C dL_law_1783 3 [(3, .int ((nI (5 * k)) + Int32.ofInt 5)), (0, .ref b), (1, .ref (z_ad G 0)), (2, .ref (z_ad G 105))] rfl (by decide) rfl ?_
            refine z_cv (lv1 := [(3, .int (nI (5 * (k + 1)))), (0, .ref b), (1, .ref (z_ad G 0)), (2, .ref (z_ad G 105))]) (st1 := []) (σ1 := σ1775) (by rw [zl_inc (by omega)]) rfl rfl ?_
            refine z_goto 1786 C 18 dL_law_1786 (by decide) ?_
            refine z_sub [1, 2, 3, 0] (lv1 := [(0, .ref b), (1, .ref (z_ad G 0)), (2, .ref (z_ad G 105)), (3, .int (nI (5 * (k + 1))))]) rfl ?_
            refine z_cv (lv1 := [(0, .ref b), (1, .ref (z_ad G 0)), (2, .ref (z_ad G 105)), (3, .int (nI (5 * (k + 1))))]) (st1 := []) (σ1 := σ1775) rfl rfl rfl ?_
            exact ih_18 (k + 1) σ1775 (⟨by omega, by first | exact hR2 | exact z_R.up1 hRk⟩) (by omega)
          · skip
            exact absurd rfl c1778
    refine z_tabOut 32 C 1783 dL_law_32 (zl_tab e32_0 e32_1 e32_2 e32_3 e32_4 e32_5 e32_6 e32_7 e32_8 e32_9 e32_10 e32_11 e32_12 e32_13 e32_14 e32_15 e32_16 e32_17 e32_18 e32_19 e32_20 e32_21 e32_22 e32_23 e32_24 e32_25 e32_26 e32_27 e32_28 e32_29 e32_30 e32_31 e32_32 e32_33 e32_34 e32_35 e32_36 e32_37 e32_38 e32_39 e32_40 e32_41 e32_42 e32_43 e32_44 e32_45 e32_46 e32_47 e32_48 e32_49 e32_50) (by decide) ?_
    refine z_iinc 1783 C dL_law_1783 3 [(3, .int ((nI (5 * k)) + Int32.ofInt 5)), (0, .ref b), (1, .ref (z_ad G 0)), (2, .ref (z_ad G 105))] rfl (by decide) rfl ?_
    refine z_cv (lv1 := [(3, .int (nI (5 * (k + 1)))), (0, .ref b), (1, .ref (z_ad G 0)), (2, .ref (z_ad G 105))]) (st1 := []) (σ1 := τ) (by rw [zl_inc (by omega)]) rfl rfl ?_
    refine z_goto 1786 C 18 dL_law_1786 (by decide) ?_
    refine z_sub [1, 2, 3, 0] (lv1 := [(0, .ref b), (1, .ref (z_ad G 0)), (2, .ref (z_ad G 105)), (3, .int (nI (5 * (k + 1))))]) rfl ?_
    refine z_cv (lv1 := [(0, .ref b), (1, .ref (z_ad G 0)), (2, .ref (z_ad G 105)), (3, .int (nI (5 * (k + 1))))]) (st1 := []) (σ1 := τ) rfl rfl rfl ?_
    exact ih_18 (k + 1) τ (⟨by omega, by first | exact hR2 | exact z_R.up1 hRk⟩) (by omega)
