/-- a boolean answer -/
def z_bo (P : Prop) [Decidable P] : Int32 := if P then 1 else 0
theorem z_bo_t {P : Prop} [Decidable P] (h : P) : (1 : Int32) = z_bo P := (if_pos h).symm
theorem z_bo_f {P : Prop} [Decidable P] (h : ¬ P) : (0 : Int32) = z_bo P := (if_neg h).symm
theorem z_bo_0 {P : Prop} [Decidable P] : z_bo P = 0 ↔ ¬ P := by unfold z_bo; by_cases h : P <;> simp [h]
theorem z_bo_nar {P : Prop} [Decidable P] : narrow .boolean (.int (z_bo P)) = .int (z_bo P) := by unfold z_bo; by_cases h : P <;> simp [h] <;> rfl
theorem z_bo_c {P P2 : Prop} [Decidable P] [Decidable P2] (h : P ↔ P2) : z_bo P = z_bo P2 := by unfold z_bo; by_cases h1 : P <;> simp [h1, ← h]
abbrev z_p1 (x : Value) (σ1 : z_St) : Option Value → z_St → Prop := fun v σ => v = some x ∧ σ = σ1
abbrev z_p0 (σ1 : z_St) : Option Value → z_St → Prop := fun v σ => v = none ∧ σ = σ1
abbrev z_rm (f n : Nat) : Room := { frames := f, cells := 0, slots := 0, locals := n }
section ZR
variable {p : Program} {l : Launch} {e : Env} {R : Room} {s : State} {m : MethodId} {args : Array Value} {below : List Frame} {meth : Method} {c : Code} {G : z_Gl} {ce sl : Nat} {Q : State → Prop} {nL : Nat} {lv : List (Nat × Value)} {st : List Value} {σ : z_St} {cc : ByteArray} {own : String} {ret : Option FieldType}
theorem z_k1 {pc : Nat} {x : Value} {σ1 : z_St} (k : z_V p l e R s m args below meth c G ce sl Q nL pc lv (x :: st) σ1) : ∀ (v : Option Value) (σ2 : z_St), z_p1 x σ1 v σ2 → z_V p l e R s m args below meth c G ce sl Q nL pc lv (v.toList ++ st) σ2 := by rintro _ _ ⟨rfl, rfl⟩; exact k
theorem z_k0 {pc : Nat} {σ1 : z_St} (k : z_V p l e R s m args below meth c G ce sl Q nL pc lv st σ1) : ∀ (v : Option Value) (σ2 : z_St), z_p0 σ1 v σ2 → z_V p l e R s m args below meth c G ce sl Q nL pc lv (v.toList ++ st) σ2 := by rintro _ _ ⟨rfl, rfl⟩; exact k
theorem z_iaddN (pc : Nat) (C : z_C p s m args meth c G cc nL own ret) {x y : Int32} (a b : Nat) (hx : x = nI a) (hy : y = nI b) (hd : decode cc pc = .ok (.iadd, 1)) (k : z_V p l e R s m args below meth c G ce sl Q nL (pc + 1) lv (.int (nI (a + b)) :: st) σ) : z_V p l e R s m args below meth c G ce sl Q nL pc lv (.int y :: .int x :: st) σ := z_iadd pc C hd (by rw [hx, hy, nI_add]; exact k)
theorem z_imulN (pc : Nat) (C : z_C p s m args meth c G cc nL own ret) {x y : Int32} (a b : Nat) (hx : x = nI a) (hy : y = nI b) (hd : decode cc pc = .ok (.imul, 1)) (k : z_V p l e R s m args below meth c G ce sl Q nL (pc + 1) lv (.int (nI (a * b)) :: st) σ) : z_V p l e R s m args below meth c G ce sl Q nL pc lv (.int y :: .int x :: st) σ := z_imul pc C hd (by rw [hx, hy, pk_mul]; exact k)
theorem z_isubN (pc : Nat) (C : z_C p s m args meth c G cc nL own ret) {x y : Int32} (a b : Nat) (hx : x = nI a) (hy : y = nI b) (hba : b ≤ a) (hd : decode cc pc = .ok (.isub, 1)) (k : z_V p l e R s m args below meth c G ce sl Q nL (pc + 1) lv (.int (nI (a - b)) :: st) σ) : z_V p l e R s m args below meth c G ce sl Q nL pc lv (.int y :: .int x :: st) σ := z_isub pc C hd (by rw [hx, hy, pk_sub hba]; exact k)
theorem z_idivN (pc : Nat) (C : z_C p s m args meth c G cc nL own ret) {x y : Int32} (a b : Nat) (hx : x = nI a) (hy : y = nI b) (ha : a < 2 ^ 31) (h0 : 0 < b) (hb : b < 2 ^ 31) (hd : decode cc pc = .ok (.idiv, 1)) (k : z_V p l e R s m args below meth c G ce sl Q nL (pc + 1) lv (.int (nI (a / b)) :: st) σ) : z_V p l e R s m args below meth c G ce sl Q nL pc lv (.int y :: .int x :: st) σ := z_idiv pc C hd (by rw [hy]; exact nI_ne0 h0 hb) (by rw [hx, hy, pk_div ha h0 hb]; exact k)
theorem z_iremN (pc : Nat) (C : z_C p s m args meth c G cc nL own ret) {x y : Int32} (a b : Nat) (hx : x = nI a) (hy : y = nI b) (ha : a < 2 ^ 31) (h0 : 0 < b) (hb : b < 2 ^ 31) (hd : decode cc pc = .ok (.irem, 1)) (k : z_V p l e R s m args below meth c G ce sl Q nL (pc + 1) lv (.int (nI (a % b)) :: st) σ) : z_V p l e R s m args below meth c G ce sl Q nL pc lv (.int y :: .int x :: st) σ := z_irem pc C hd (by rw [hy]; exact nI_ne0 h0 hb) (by rw [hx, hy, pk_rem ha h0 hb]; exact k)
theorem z_iincN (pc : Nat) (C : z_C p s m args meth c G cc nL own ret) (j : Nat) (a : Nat) (lv1 : List (Nat × Value)) {i : Nat} {x : Int32} (hj : lv[j]? = some (i, .int x)) (hx : x = nI a) (hn : i < nL) (hl : (i, Value.int (nI (a + 1))) :: lv.filter (fun q => !(q.1 == i) && !(q.1 + 1 == i && q.2.category == 2)) = lv1) (hd : decode cc pc = .ok (.iinc i 1, 3)) (k : z_V p l e R s m args below meth c G ce sl Q nL (pc + 3) lv1 st σ) : z_V p l e R s m args below meth c G ce sl Q nL pc lv st σ := z_iinc pc C hd j lv1 hj hn (by rw [hx, ← hl]; show (i, Value.int (nI a + 1)) :: _ = _; rw [nI_1]) k
theorem z_icmp_eqN (pc : Nat) (C : z_C p s m args meth c G cc nL own ret) {x y : Int32} (a b : Nat) (hx : x = nI a) (hy : y = nI b) (ha : a < 2 ^ 31) (hb : b < 2 ^ 31) (tgt : Nat) {off : Int} (hd : decode cc pc = .ok (.if_icmp .eq off, 3)) (ht : (pc : Int) + off = (tgt : Int)) (kt : (a = b) → z_V p l e R s m args below meth c G ce sl Q nL tgt lv st σ) (kf : (a ≠ b) → z_V p l e R s m args below meth c G ce sl Q nL (pc + 3) lv st σ) : z_V p l e R s m args below meth c G ce sl Q nL pc lv (.int y :: .int x :: st) σ := by
  subst hx; subst hy
  exact z_icmp_eq pc C tgt hd ht (fun q => kt ((nI_eq ha hb).mp q)) (fun q => kf (fun z => q ((nI_eq ha hb).mpr z)))
theorem z_icmp_ltN (pc : Nat) (C : z_C p s m args meth c G cc nL own ret) {x y : Int32} (a b : Nat) (hx : x = nI a) (hy : y = nI b) (ha : a < 2 ^ 31) (hb : b < 2 ^ 31) (tgt : Nat) {off : Int} (hd : decode cc pc = .ok (.if_icmp .lt off, 3)) (ht : (pc : Int) + off = (tgt : Int)) (kt : (a < b) → z_V p l e R s m args below meth c G ce sl Q nL tgt lv st σ) (kf : (b ≤ a) → z_V p l e R s m args below meth c G ce sl Q nL (pc + 3) lv st σ) : z_V p l e R s m args below meth c G ce sl Q nL pc lv (.int y :: .int x :: st) σ := by
  subst hx; subst hy
  exact z_icmp_lt pc C tgt hd ht (fun q => kt ((nI_ltI ha hb).mp q)) (fun q => kf (Nat.not_lt.mp (fun z => q ((nI_ltI ha hb).mpr z))))
theorem z_icmp_geN (pc : Nat) (C : z_C p s m args meth c G cc nL own ret) {x y : Int32} (a b : Nat) (hx : x = nI a) (hy : y = nI b) (ha : a < 2 ^ 31) (hb : b < 2 ^ 31) (tgt : Nat) {off : Int} (hd : decode cc pc = .ok (.if_icmp .ge off, 3)) (ht : (pc : Int) + off = (tgt : Int)) (kt : (b ≤ a) → z_V p l e R s m args below meth c G ce sl Q nL tgt lv st σ) (kf : (a < b) → z_V p l e R s m args below meth c G ce sl Q nL (pc + 3) lv st σ) : z_V p l e R s m args below meth c G ce sl Q nL pc lv (.int y :: .int x :: st) σ := by
  subst hx; subst hy
  exact z_icmp_ge pc C tgt hd ht (fun q => kt ((nI_leI hb ha).mp q)) (fun q => kf (Nat.not_le.mp (fun z => q ((nI_leI hb ha).mpr z))))
theorem z_icmp_gtN (pc : Nat) (C : z_C p s m args meth c G cc nL own ret) {x y : Int32} (a b : Nat) (hx : x = nI a) (hy : y = nI b) (ha : a < 2 ^ 31) (hb : b < 2 ^ 31) (tgt : Nat) {off : Int} (hd : decode cc pc = .ok (.if_icmp .gt off, 3)) (ht : (pc : Int) + off = (tgt : Int)) (kt : (b < a) → z_V p l e R s m args below meth c G ce sl Q nL tgt lv st σ) (kf : (a ≤ b) → z_V p l e R s m args below meth c G ce sl Q nL (pc + 3) lv st σ) : z_V p l e R s m args below meth c G ce sl Q nL pc lv (.int y :: .int x :: st) σ := by
  subst hx; subst hy
  exact z_icmp_gt pc C tgt hd ht (fun q => kt ((nI_ltI hb ha).mp q)) (fun q => kf (Nat.not_lt.mp (fun z => q ((nI_ltI hb ha).mpr z))))
theorem z_icmp_leN (pc : Nat) (C : z_C p s m args meth c G cc nL own ret) {x y : Int32} (a b : Nat) (hx : x = nI a) (hy : y = nI b) (ha : a < 2 ^ 31) (hb : b < 2 ^ 31) (tgt : Nat) {off : Int} (hd : decode cc pc = .ok (.if_icmp .le off, 3)) (ht : (pc : Int) + off = (tgt : Int)) (kt : (a ≤ b) → z_V p l e R s m args below meth c G ce sl Q nL tgt lv st σ) (kf : (b < a) → z_V p l e R s m args below meth c G ce sl Q nL (pc + 3) lv st σ) : z_V p l e R s m args below meth c G ce sl Q nL pc lv (.int y :: .int x :: st) σ := by
  subst hx; subst hy
  exact z_icmp_le pc C tgt hd ht (fun q => kt ((nI_leI ha hb).mp q)) (fun q => kf (Nat.not_le.mp (fun z => q ((nI_leI ha hb).mpr z))))
theorem z_icmp_neN (pc : Nat) (C : z_C p s m args meth c G cc nL own ret) {x y : Int32} (a b : Nat) (hx : x = nI a) (hy : y = nI b) (ha : a < 2 ^ 31) (hb : b < 2 ^ 31) (tgt : Nat) {off : Int} (hd : decode cc pc = .ok (.if_icmp .ne off, 3)) (ht : (pc : Int) + off = (tgt : Int)) (kt : (a ≠ b) → z_V p l e R s m args below meth c G ce sl Q nL tgt lv st σ) (kf : (a = b) → z_V p l e R s m args below meth c G ce sl Q nL (pc + 3) lv st σ) : z_V p l e R s m args below meth c G ce sl Q nL pc lv (.int y :: .int x :: st) σ := by
  subst hx; subst hy
  exact z_icmp_ne pc C tgt hd ht (fun q => kt (fun z => q ((nI_eq ha hb).mpr z))) (fun q => kf ((nI_eq ha hb).mp q))
theorem z_if_eqb (pc : Nat) (C : z_C p s m args meth c G cc nL own ret) {P : Prop} [Decidable P] (tgt : Nat) {off : Int} (hd : decode cc pc = .ok (.ifCond .eq off, 3)) (ht : (pc : Int) + off = (tgt : Int)) (kt : ¬ (P) → z_V p l e R s m args below meth c G ce sl Q nL tgt lv st σ) (kf : (P) → z_V p l e R s m args below meth c G ce sl Q nL (pc + 3) lv st σ) : z_V p l e R s m args below meth c G ce sl Q nL pc lv (.int (z_bo P) :: st) σ := z_if_eq pc C tgt hd ht (fun q => kt (z_bo_0.mp q)) (fun q => kf (Decidable.not_not.mp (fun z => q (z_bo_0.mpr z))))
theorem z_if_neb (pc : Nat) (C : z_C p s m args meth c G cc nL own ret) {P : Prop} [Decidable P] (tgt : Nat) {off : Int} (hd : decode cc pc = .ok (.ifCond .ne off, 3)) (ht : (pc : Int) + off = (tgt : Int)) (kt : (P) → z_V p l e R s m args below meth c G ce sl Q nL tgt lv st σ) (kf : ¬ (P) → z_V p l e R s m args below meth c G ce sl Q nL (pc + 3) lv st σ) : z_V p l e R s m args below meth c G ce sl Q nL pc lv (.int (z_bo P) :: st) σ := z_if_ne pc C tgt hd ht (fun q => kt (Decidable.not_not.mp (fun z => q (z_bo_0.mpr z)))) (fun q => kf (z_bo_0.mp q))
theorem z_ialdN (pc : Nat) (C : z_C p s m args meth c G cc nL own ret) (i : Nat) {n : Nat} (hi : z_kd i = 1 ∧ z_sz i = n) {x : Int32} (j : Nat) (hx : x = nI j) (hj : j < n) (hn : n < 2 ^ 31) (hd : decode cc pc = .ok (.iaload, 1)) (k : z_V p l e R s m args below meth c G ce sl Q nL (pc + 1) lv (.int (σ.1 i j) :: st) σ) : z_V p l e R s m args below meth c G ce sl Q nL pc lv (.int x :: .ref (z_ad G i) :: st) σ := by
  subst hx
  refine z_iald pc C i hi (vp_in_nI hj hn) hd ?_
  rw [nI_clamp (Nat.lt_trans hj hn)]
  exact k
theorem z_laldN (pc : Nat) (C : z_C p s m args meth c G cc nL own ret) (i : Nat) {n : Nat} (hi : z_kd i = 2 ∧ z_sz i = n) {x : Int32} (j : Nat) (hx : x = nI j) (hj : j < n) (hn : n < 2 ^ 31) (hd : decode cc pc = .ok (.laload, 1)) (k : z_V p l e R s m args below meth c G ce sl Q nL (pc + 1) lv (.long (σ.2 i j) :: st) σ) : z_V p l e R s m args below meth c G ce sl Q nL pc lv (.int x :: .ref (z_ad G i) :: st) σ := by
  subst hx
  refine z_lald pc C i hi (vp_in_nI hj hn) hd ?_
  rw [nI_clamp (Nat.lt_trans hj hn)]
  exact k
theorem z_caldN (pc : Nat) (C : z_C p s m args meth c G cc nL own ret) (i : Nat) {n : Nat} (hi : z_kd i = 3 ∧ z_sz i = n) {x : Int32} (j : Nat) (hx : x = nI j) (hj : j < n) (hn : n < 2 ^ 31) (hd : decode cc pc = .ok (.caload, 1)) (k : z_V p l e R s m args below meth c G ce sl Q nL (pc + 1) lv (.int (σ.1 i j) :: st) σ) : z_V p l e R s m args below meth c G ce sl Q nL pc lv (.int x :: .ref (z_ad G i) :: st) σ := by
  subst hx
  refine z_cald pc C i hi (vp_in_nI hj hn) hd ?_
  rw [nI_clamp (Nat.lt_trans hj hn)]
  exact k
theorem z_aaldN (pc : Nat) (C : z_C p s m args meth c G cc nL own ret) (i : Nat) {n : Nat} (hi : (z_kd i = 4 ∨ z_kd i = 5) ∧ z_sz i = n) {x : Int32} (j r : Nat) (hx : x = nI j) (hj : j < n) (hn : n < 2 ^ 31) (hr : z_rf i j = r) (hd : decode cc pc = .ok (.aaload, 1)) (k : z_V p l e R s m args below meth c G ce sl Q nL (pc + 1) lv (.ref (z_ad G r) :: st) σ) : z_V p l e R s m args below meth c G ce sl Q nL pc lv (.int x :: .ref (z_ad G i) :: st) σ := by
  subst hx
  refine z_aald pc C i hi (vp_in_nI hj hn) hd ?_
  rw [nI_clamp (Nat.lt_trans hj hn), hr]
  exact k
theorem z_iastN (pc : Nat) (C : z_C p s m args meth c G cc nL own ret) (i : Nat) {n : Nat} (hi : z_kd i = 1 ∧ z_sz i = n) {x v : Int32} (j : Nat) (hx : x = nI j) (hj : j < n) (hn : n < 2 ^ 31) (hd : decode cc pc = .ok (.iastore, 1)) (k : z_V p l e R s m args below meth c G ce sl Q nL (pc + 1) lv st (z_ui σ i j v)) : z_V p l e R s m args below meth c G ce sl Q nL pc lv (.int v :: .int x :: .ref (z_ad G i) :: st) σ := by
  subst hx
  refine z_iast pc C i hi (vp_in_nI hj hn) hd ?_
  rw [nI_clamp (Nat.lt_trans hj hn)]
  exact k
theorem z_lastN (pc : Nat) (C : z_C p s m args meth c G cc nL own ret) (i : Nat) {n : Nat} (hi : z_kd i = 2 ∧ z_sz i = n) {x : Int32} {v : Int64} (j : Nat) (hx : x = nI j) (hj : j < n) (hn : n < 2 ^ 31) (hd : decode cc pc = .ok (.lastore, 1)) (k : z_V p l e R s m args below meth c G ce sl Q nL (pc + 1) lv st (z_ul σ i j v)) : z_V p l e R s m args below meth c G ce sl Q nL pc lv (.long v :: .int x :: .ref (z_ad G i) :: st) σ := by
  subst hx
  refine z_last pc C i hi (vp_in_nI hj hn) hd ?_
  rw [nI_clamp (Nat.lt_trans hj hn)]
  exact k
theorem z_castN (pc : Nat) (C : z_C p s m args meth c G cc nL own ret) (i : Nat) {n : Nat} (hi : z_kd i = 3 ∧ z_sz i = n) {x v : Int32} (j : Nat) (hx : x = nI j) (hj : j < n) (hn : n < 2 ^ 31) (hd : decode cc pc = .ok (.castore, 1)) (k : z_V p l e R s m args below meth c G ce sl Q nL (pc + 1) lv st (z_ui σ i j (vp_nar .char v))) : z_V p l e R s m args below meth c G ce sl Q nL pc lv (.int v :: .int x :: .ref (z_ad G i) :: st) σ := by
  subst hx
  refine z_cast pc C i hi (vp_in_nI hj hn) hd ?_
  rw [nI_clamp (Nat.lt_trans hj hn)]
  exact k
theorem z_taldN (pc : Nat) (C : z_C p s m args meth c G cc nL own ret) (t : Nat) (ht : t < 4) {x : Int32} (j : Nat) (hx : x = nI j) (hj : j < z_tN t) (hd : decode cc pc = .ok (.iaload, 1)) (k : z_V p l e R s m args below meth c G ce sl Q nL (pc + 1) lv (.int (z_tv t j) :: st) σ) : z_V p l e R s m args below meth c G ce sl Q nL pc lv (.int x :: .ref (z_ta G t) :: st) σ := by
  subst hx
  have hb : z_tN t < 2 ^ 31 := by unfold z_tN; split <;> decide
  refine z_tald pc C t ht (vp_in_nI hj hb) hd ?_
  rw [nI_clamp (Nat.lt_trans hj hb)]
  exact k
end ZR
theorem z_dX0 : z_D 0 RX0 TX0 9 tyX0 := ⟨rfl, igX0, tyX0_ok, nmX0⟩
theorem z_dX1 : z_D 1 RX1 TX1 4 tyX1 := ⟨rfl, igX1, tyX1_ok, nmX1⟩
theorem z_dX2 : z_D 2 RX2 TX2 5 tyX2 := ⟨rfl, igX2, tyX2_ok, nmX2⟩
theorem z_dX3 : z_D 3 RX3 TX3 6 tyX3 := ⟨rfl, igX3, tyX3_ok, nmX3⟩
theorem z_dX4 : z_D 4 RX4 TX4 10 tyX4 := ⟨rfl, igX4, tyX4_ok, nmX4⟩
theorem z_dX5 : z_D 5 RX5 TX5 4 tyX5 := ⟨rfl, igX5, tyX5_ok, nmX5⟩
theorem z_dX6 : z_D 6 RX6 TX6 6 tyX6 := ⟨rfl, igX6, tyX6_ok, nmX6⟩
theorem z_dX7 : z_D 7 RX7 TX7 8 tyX7 := ⟨rfl, igX7, tyX7_ok, nmX7⟩
theorem z_dX8 : z_D 8 RX8 TX8 30 tyX8 := ⟨rfl, igX8, tyX8_ok, nmX8⟩
/-- the cells of the circles -/
def z_cs : List Nat := [50, 54, 58, 62, 66, 70, 74, 78, 89, 93, 97, 101]
def z_iC (b : Nat) : Prop := b ∈ z_cs
theorem z_iC_all : ∀ b ∈ z_cs, (z_kd b = 0 ∧ z_sz b = 0) ∧ (z_kd (b + 1) = 2 ∧ z_sz (b + 1) = 24) ∧ (z_kd (b + 2) = 2 ∧ z_sz (b + 2) = 24) ∧ (z_kd (b + 3) = 1 ∧ z_sz (b + 3) = 24) := by decide
theorem z_cC {b : Nat} (h : z_iC b) : z_kd b = 0 ∧ z_sz b = 0 := (z_iC_all b h).1
theorem z_cP {b : Nat} (h : z_iC b) : z_kd (b + 1) = 2 ∧ z_sz (b + 1) = 24 := (z_iC_all b h).2.1
theorem z_cV {b : Nat} (h : z_iC b) : z_kd (b + 2) = 2 ∧ z_sz (b + 2) = 24 := (z_iC_all b h).2.2.1
theorem z_cN {b : Nat} (h : z_iC b) : z_kd (b + 3) = 1 ∧ z_sz (b + 3) = 24 := (z_iC_all b h).2.2.2
theorem z_iC_m : ∀ k, k < 4 → z_iC (89 + 4 * k) := by unfold z_iC; decide
theorem z_iC_r : ∀ k, k < 8 → z_iC (50 + 4 * k) := by unfold z_iC; decide
theorem z_rgK : ∀ k, k < 21 → z_kd (10 + k) = 2 ∧ z_sz (10 + k) = 24 := by decide
theorem z_trK : ∀ k, k < 6 → z_kd (34 + k) = 2 ∧ z_sz (34 + k) = 24 := by decide
theorem k_X7_setSteps : z_KV yX7_setSteps cX7_setSteps 3 (some FieldType.int) 1 := ⟨⟨q365, q366⟩, q102, q367, ⟨by decide +kernel, by decide +kernel, by decide +kernel⟩⟩
theorem k_X7_isStepCount : z_KS yX7_isStepCount cX7_isStepCount 1 (some FieldType.boolean) 1 := ⟨q369, q102, q370, ⟨by decide +kernel, by decide +kernel, by decide +kernel⟩⟩
theorem k_X2_begin : z_KV yX2_begin cX2_begin 2 none 1 := ⟨⟨q374, q0⟩, q103, q375, ⟨by decide +kernel, by decide +kernel, by decide +kernel⟩⟩
theorem k_X7_read : z_KV yX7_read cX7_read 2 (some FieldType.int) 1 := ⟨⟨q377, q378⟩, q102, q379, ⟨by decide +kernel, by decide +kernel, by decide +kernel⟩⟩
theorem k_X7_isOutside : z_KS yX7_isOutside cX7_isOutside 3 (some FieldType.boolean) 3 := ⟨q381, q102, q382, ⟨by decide +kernel, by decide +kernel, by decide +kernel⟩⟩
theorem k_X2_isComplete : z_KV yX2_isComplete cX2_isComplete 1 (some FieldType.boolean) 0 := ⟨⟨q385, q1⟩, q103, q386, ⟨by decide +kernel, by decide +kernel, by decide +kernel⟩⟩
theorem k_X2_append : z_KV yX2_append cX2_append 2 none 1 := ⟨⟨q390, q2⟩, q103, q391, ⟨by decide +kernel, by decide +kernel, by decide +kernel⟩⟩
theorem k_X7_simulateStep : z_KV yX7_simulateStep cX7_simulateStep 3 (some FieldType.int) 0 := ⟨⟨q393, q394⟩, q102, q395, ⟨by decide +kernel, by decide +kernel, by decide +kernel⟩⟩
theorem k_X2_nextPosition : z_KV yX2_nextPosition cX2_nextPosition 1 (some FieldType.int) 0 := ⟨⟨q398, q3⟩, q103, q399, ⟨by decide +kernel, by decide +kernel, by decide +kernel⟩⟩
theorem k_X2_finishedSteps : z_KV yX2_finishedSteps cX2_finishedSteps 1 (some FieldType.int) 0 := ⟨⟨q402, q4⟩, q103, q403, ⟨by decide +kernel, by decide +kernel, by decide +kernel⟩⟩
theorem k_X2_turnOf : z_KV yX2_turnOf cX2_turnOf 2 (some FieldType.int) 1 := ⟨⟨q406, q5⟩, q103, q407, ⟨by decide +kernel, by decide +kernel, by decide +kernel⟩⟩
theorem k_X5_readingAt : z_KV yX5_readingAt cX5_readingAt 6 (some FieldType.int) 2 := ⟨⟨q410, q6⟩, q104, q411, ⟨by decide +kernel, by decide +kernel, by decide +kernel⟩⟩
theorem k_X7_place : z_KS yX7_place cX7_place 1 (some FieldType.int) 1 := ⟨q413, q102, q414, ⟨by decide +kernel, by decide +kernel, by decide +kernel⟩⟩
theorem k_J9_floorMod_7cf53 : z_KS yJ9_floorMod_7cf53 cJ9_floorMod_7cf53 3 (some FieldType.int) 2 := ⟨q416, q111, q417, ⟨by decide +kernel, by decide +kernel, by decide +kernel⟩⟩
theorem k_X7_wave : z_KS yX7_wave cX7_wave 6 (some FieldType.long) 3 := ⟨q419, q102, q420, ⟨by decide +kernel, by decide +kernel, by decide +kernel⟩⟩
theorem k_J9_floorDiv_f86c9 : z_KS yJ9_floorDiv_f86c9 cJ9_floorDiv_f86c9 6 (some FieldType.long) 2 := ⟨q427, q111, q428, ⟨by decide +kernel, by decide +kernel, by decide +kernel⟩⟩
theorem k_X7_clamp : z_KS yX7_clamp cX7_clamp 3 (some FieldType.int) 2 := ⟨q430, q102, q431, ⟨by decide +kernel, by decide +kernel, by decide +kernel⟩⟩
theorem k_X7_removeReadings : z_KV yX7_removeReadings cX7_removeReadings 2 (some FieldType.int) 1 := ⟨⟨q433, q434⟩, q102, q435, ⟨by decide +kernel, by decide +kernel, by decide +kernel⟩⟩
theorem k_X7_progress : z_KV yX7_progress cX7_progress 2 (some FieldType.int) 1 := ⟨⟨q437, q438⟩, q102, q439, ⟨by decide +kernel, by decide +kernel, by decide +kernel⟩⟩
theorem k_X7_reading : z_KV yX7_reading cX7_reading 3 (some FieldType.int) 2 := ⟨⟨q442, q443⟩, q102, q444, ⟨by decide +kernel, by decide +kernel, by decide +kernel⟩⟩
theorem k_X7_isNoPosition : z_KS yX7_isNoPosition cX7_isNoPosition 1 (some FieldType.boolean) 1 := ⟨q446, q102, q447, ⟨by decide +kernel, by decide +kernel, by decide +kernel⟩⟩
theorem k_X2_at : z_KV yX2_at cX2_at 3 (some FieldType.int) 2 := ⟨⟨q450, q7⟩, q103, q451, ⟨by decide +kernel, by decide +kernel, by decide +kernel⟩⟩
theorem k_X7_despike : z_KV yX7_despike cX7_despike 3 (some FieldType.int) 2 := ⟨⟨q454, q455⟩, q102, q456, ⟨by decide +kernel, by decide +kernel, by decide +kernel⟩⟩
theorem k_X2_replaceSpikes : z_KV yX2_replaceSpikes cX2_replaceSpikes 7 (some FieldType.int) 2 := ⟨⟨q459, q8⟩, q103, q460, ⟨by decide +kernel, by decide +kernel, by decide +kernel⟩⟩
theorem k_J9_abs_0f7a4 : z_KS yJ9_abs_0f7a4 cJ9_abs_0f7a4 1 (some FieldType.int) 1 := ⟨q466, q111, q467, ⟨by decide +kernel, by decide +kernel, by decide +kernel⟩⟩
theorem k_J9_floorDiv_7cf53 : z_KS yJ9_floorDiv_7cf53 cJ9_floorDiv_7cf53 3 (some FieldType.int) 2 := ⟨q469, q111, q470, ⟨by decide +kernel, by decide +kernel, by decide +kernel⟩⟩
theorem k_X7_part : z_KV yX7_part cX7_part 2 (some FieldType.long) 1 := ⟨⟨q472, q473⟩, q102, q474, ⟨by decide +kernel, by decide +kernel, by decide +kernel⟩⟩
theorem k_X2_partAt : z_KV yX2_partAt cX2_partAt 6 (some FieldType.long) 1 := ⟨⟨q478, q9⟩, q103, q479, ⟨by decide +kernel, by decide +kernel, by decide +kernel⟩⟩
theorem k_X2_sumAt : z_KV yX2_sumAt cX2_sumAt 5 (some FieldType.long) 1 := ⟨⟨q484, q10⟩, q103, q485, ⟨by decide +kernel, by decide +kernel, by decide +kernel⟩⟩
theorem k_X7_divide : z_KS yX7_divide cX7_divide 4 (some FieldType.long) 2 := ⟨q488, q102, q489, ⟨by decide +kernel, by decide +kernel, by decide +kernel⟩⟩
theorem k_X7_spindle : z_KV yX7_spindle cX7_spindle 2 (some FieldType.long) 1 := ⟨⟨q491, q492⟩, q102, q493, ⟨by decide +kernel, by decide +kernel, by decide +kernel⟩⟩
theorem k_X2_spindleAt : z_KV yX2_spindleAt cX2_spindleAt 2 (some FieldType.long) 1 := ⟨⟨q496, q11⟩, q103, q497, ⟨by decide +kernel, by decide +kernel, by decide +kernel⟩⟩
theorem k_X7_isBlind : z_KV yX7_isBlind cX7_isBlind 3 (some FieldType.int) 1 := ⟨⟨q499, q500⟩, q102, q501, ⟨by decide +kernel, by decide +kernel, by decide +kernel⟩⟩
theorem k_X7_residual : z_KV yX7_residual cX7_residual 1 (some FieldType.long) 0 := ⟨⟨q503, q504⟩, q102, q505, ⟨by decide +kernel, by decide +kernel, by decide +kernel⟩⟩
theorem k_X2_greatestResidual : z_KV yX2_greatestResidual cX2_greatestResidual 9 (some FieldType.long) 0 := ⟨⟨q508, q12⟩, q103, q509, ⟨by decide +kernel, by decide +kernel, by decide +kernel⟩⟩
theorem k_J9_abs_067f4 : z_KS yJ9_abs_067f4 cJ9_abs_067f4 2 (some FieldType.long) 1 := ⟨q513, q111, q514, ⟨by decide +kernel, by decide +kernel, by decide +kernel⟩⟩
theorem k_J9_max_f86c9 : z_KS yJ9_max_f86c9 cJ9_max_f86c9 4 (some FieldType.long) 2 := ⟨q516, q111, q517, ⟨by decide +kernel, by decide +kernel, by decide +kernel⟩⟩
theorem k_X7_load : z_KV yX7_load cX7_load 4 (some FieldType.int) 2 := ⟨⟨q519, q520⟩, q102, q521, ⟨by decide +kernel, by decide +kernel, by decide +kernel⟩⟩
theorem k_X7_sourceError : z_KV yX7_sourceError cX7_sourceError 3 (some FieldType.int) 2 := ⟨⟨q524, q13⟩, q102, q525, ⟨by decide +kernel, by decide +kernel, by decide +kernel⟩⟩
theorem k_X7_fillNext : z_KV yX7_fillNext cX7_fillNext 4 none 2 := ⟨⟨q528, q14⟩, q102, q529, ⟨by decide +kernel, by decide +kernel, by decide +kernel⟩⟩
theorem k_X7_sourceAt : z_KV yX7_sourceAt cX7_sourceAt 4 (some FieldType.long) 3 := ⟨⟨q532, q15⟩, q102, q533, ⟨by decide +kernel, by decide +kernel, by decide +kernel⟩⟩
theorem k_X5_profileOf : z_KV yX5_profileOf cX5_profileOf 2 (some (FieldType.array FieldType.int)) 1 := ⟨⟨q536, q16⟩, q104, q537, ⟨by decide +kernel, by decide +kernel, by decide +kernel⟩⟩
theorem k_X7_makeNextPresent : z_KV yX7_makeNextPresent cX7_makeNextPresent 1 (some FieldType.int) 0 := ⟨⟨q540, q17⟩, q102, q541, ⟨by decide +kernel, by decide +kernel, by decide +kernel⟩⟩
theorem k_X1_append : z_KV yX1_append cX1_append 3 (some FieldType.boolean) 1 := ⟨⟨q544, q18⟩, q105, q545, ⟨by decide +kernel, by decide +kernel, by decide +kernel⟩⟩
theorem k_X1_present : z_KV yX1_present cX1_present 1 (some (FieldType.array FieldType.long)) 0 := ⟨⟨q548, q19⟩, q105, q549, ⟨by decide +kernel, by decide +kernel, by decide +kernel⟩⟩
theorem k_X7_isSame : z_KS yX7_isSame cX7_isSame 3 (some FieldType.boolean) 2 := ⟨q551, q102, q552, ⟨by decide +kernel, by decide +kernel, by decide +kernel⟩⟩
theorem k_X7_profile : z_KV yX7_profile cX7_profile 2 (some FieldType.long) 1 := ⟨⟨q555, q556⟩, q102, q557, ⟨by decide +kernel, by decide +kernel, by decide +kernel⟩⟩
theorem k_X7_rotate : z_KV yX7_rotate cX7_rotate 4 (some FieldType.int) 1 := ⟨⟨q560, q561⟩, q102, q562, ⟨by decide +kernel, by decide +kernel, by decide +kernel⟩⟩
theorem k_X7_removeEccentricity : z_KV yX7_removeEccentricity cX7_removeEccentricity 9 (some FieldType.int) 0 := ⟨⟨q565, q566⟩, q102, q567, ⟨by decide +kernel, by decide +kernel, by decide +kernel⟩⟩
theorem k_X7_coefficient : z_KS yX7_coefficient cX7_coefficient 7 (some FieldType.long) 3 := ⟨q569, q102, q570, ⟨by decide +kernel, by decide +kernel, by decide +kernel⟩⟩
theorem k_X7_keepLobes : z_KV yX7_keepLobes cX7_keepLobes 3 (some FieldType.int) 2 := ⟨⟨q575, q576⟩, q102, q577, ⟨by decide +kernel, by decide +kernel, by decide +kernel⟩⟩
theorem k_X7_isNoRange : z_KS yX7_isNoRange cX7_isNoRange 2 (some FieldType.boolean) 2 := ⟨q579, q102, q580, ⟨by decide +kernel, by decide +kernel, by decide +kernel⟩⟩
theorem k_X7_copyLobes : z_KS yX7_copyLobes cX7_copyLobes 10 none 4 := ⟨q582, q102, q583, ⟨by decide +kernel, by decide +kernel, by decide +kernel⟩⟩
theorem k_X7_subtract : z_KV yX7_subtract cX7_subtract 6 (some FieldType.int) 2 := ⟨⟨q585, q586⟩, q102, q587, ⟨by decide +kernel, by decide +kernel, by decide +kernel⟩⟩
theorem k_X7_isNextTooGreat : z_KV yX7_isNextTooGreat cX7_isNextTooGreat 2 (some FieldType.boolean) 0 := ⟨⟨q590, q20⟩, q102, q591, ⟨by decide +kernel, by decide +kernel, by decide +kernel⟩⟩
theorem k_X7_vBlock : z_KV yX7_vBlock cX7_vBlock 6 (some FieldType.int) 1 := ⟨⟨q595, q596⟩, q102, q597, ⟨by decide +kernel, by decide +kernel, by decide +kernel⟩⟩
theorem k_X7_cosine : z_KS yX7_cosine cX7_cosine 1 (some FieldType.int) 1 := ⟨q600, q102, q601, ⟨by decide +kernel, by decide +kernel, by decide +kernel⟩⟩
theorem k_X7_isBlindInVBlock : z_KV yX7_isBlindInVBlock cX7_isBlindInVBlock 4 (some FieldType.int) 2 := ⟨⟨q604, q605⟩, q102, q606, ⟨by decide +kernel, by decide +kernel, by decide +kernel⟩⟩
theorem k_X7_undo : z_KV yX7_undo cX7_undo 1 (some FieldType.int) 0 := ⟨⟨q608, q609⟩, q102, q610, ⟨by decide +kernel, by decide +kernel, by decide +kernel⟩⟩
theorem k_X1_stepBack : z_KV yX1_stepBack cX1_stepBack 1 (some FieldType.boolean) 0 := ⟨⟨q613, q21⟩, q105, q614, ⟨by decide +kernel, by decide +kernel, by decide +kernel⟩⟩
theorem k_X7_redo : z_KV yX7_redo cX7_redo 1 (some FieldType.int) 0 := ⟨⟨q616, q617⟩, q102, q618, ⟨by decide +kernel, by decide +kernel, by decide +kernel⟩⟩
theorem k_X1_stepForward : z_KV yX1_stepForward cX1_stepForward 1 (some FieldType.boolean) 0 := ⟨⟨q621, q22⟩, q105, q622, ⟨by decide +kernel, by decide +kernel, by decide +kernel⟩⟩
theorem k_X7_harmonic : z_KV yX7_harmonic cX7_harmonic 3 (some FieldType.long) 2 := ⟨⟨q624, q625⟩, q102, q626, ⟨by decide +kernel, by decide +kernel, by decide +kernel⟩⟩
theorem k_X7_strength : z_KV yX7_strength cX7_strength 2 (some FieldType.long) 1 := ⟨⟨q628, q629⟩, q102, q630, ⟨by decide +kernel, by decide +kernel, by decide +kernel⟩⟩
theorem k_X7_strengthOf : z_KS yX7_strengthOf cX7_strengthOf 2 (some FieldType.long) 2 := ⟨q632, q102, q633, ⟨by decide +kernel, by decide +kernel, by decide +kernel⟩⟩
theorem k_X7_dominant : z_KV yX7_dominant cX7_dominant 9 (some FieldType.int) 1 := ⟨⟨q635, q636⟩, q102, q637, ⟨by decide +kernel, by decide +kernel, by decide +kernel⟩⟩
theorem k_X7_centre : z_KV yX7_centre cX7_centre 4 (some FieldType.long) 2 := ⟨⟨q639, q640⟩, q102, q641, ⟨by decide +kernel, by decide +kernel, by decide +kernel⟩⟩
theorem k_X7_isNoMethod : z_KS yX7_isNoMethod cX7_isNoMethod 1 (some FieldType.boolean) 1 := ⟨q643, q102, q644, ⟨by decide +kernel, by decide +kernel, by decide +kernel⟩⟩
theorem k_X7_circleBy : z_KV yX7_circleBy cX7_circleBy 3 (some (FieldType.object "RoundnessInstrument$Circle")) 1 := ⟨⟨q647, q23⟩, q102, q648, ⟨by decide +kernel, by decide +kernel, by decide +kernel⟩⟩
theorem k_X0_fit : z_KV yX0_fit cX0_fit 3 none 2 := ⟨⟨q651, q24⟩, q108, q652, ⟨by decide +kernel, by decide +kernel, by decide +kernel⟩⟩
theorem k_X0_search : z_KV yX0_search cX0_search 12 none 0 := ⟨⟨q658, q25⟩, q108, q659, ⟨by decide +kernel, by decide +kernel, by decide +kernel⟩⟩
theorem k_X0_measure : z_KV yX0_measure cX0_measure 4 none 0 := ⟨⟨q662, q26⟩, q108, q663, ⟨by decide +kernel, by decide +kernel, by decide +kernel⟩⟩
theorem k_J9_min_f86c9 : z_KS yJ9_min_f86c9 cJ9_min_f86c9 4 (some FieldType.long) 2 := ⟨q669, q111, q670, ⟨by decide +kernel, by decide +kernel, by decide +kernel⟩⟩
theorem k_X0_valueOf : z_KV yX0_valueOf cX0_valueOf 5 (some FieldType.long) 2 := ⟨⟨q673, q27⟩, q108, q674, ⟨by decide +kernel, by decide +kernel, by decide +kernel⟩⟩
theorem k_X0_pickNear : z_KV yX0_pickNear cX0_pickNear 6 none 1 := ⟨⟨q680, q28⟩, q108, q681, ⟨by decide +kernel, by decide +kernel, by decide +kernel⟩⟩
theorem k_X0_valueAt : z_KV yX0_valueAt cX0_valueAt 13 (some FieldType.long) 2 := ⟨⟨q689, q29⟩, q108, q690, ⟨by decide +kernel, by decide +kernel, by decide +kernel⟩⟩
theorem k_X7_deviation : z_KV yX7_deviation cX7_deviation 3 (some FieldType.long) 2 := ⟨⟨q696, q697⟩, q102, q698, ⟨by decide +kernel, by decide +kernel, by decide +kernel⟩⟩
theorem k_X7_roundness : z_KV yX7_roundness cX7_roundness 2 (some FieldType.double) 1 := ⟨⟨q700, q701⟩, q102, q702, ⟨by decide +kernel, by decide +kernel, by decide +kernel⟩⟩
theorem k_X0_width : z_KV yX0_width cX0_width 1 (some FieldType.long) 0 := ⟨⟨q706, q30⟩, q108, q707, ⟨by decide +kernel, by decide +kernel, by decide +kernel⟩⟩
theorem k_X7_extreme : z_KV yX7_extreme cX7_extreme 4 (some FieldType.int) 2 := ⟨⟨q710, q711⟩, q102, q712, ⟨by decide +kernel, by decide +kernel, by decide +kernel⟩⟩
theorem k_X0_firstWith : z_KV yX0_firstWith cX0_firstWith 4 (some FieldType.int) 1 := ⟨⟨q715, q31⟩, q108, q716, ⟨by decide +kernel, by decide +kernel, by decide +kernel⟩⟩
theorem k_X7_meanSquare : z_KV yX7_meanSquare cX7_meanSquare 7 (some FieldType.float) 0 := ⟨⟨q718, q719⟩, q102, q720, ⟨by decide +kernel, by decide +kernel, by decide +kernel⟩⟩
theorem k_X7_materialAt : z_KV yX7_materialAt cX7_materialAt 4 (some FieldType.int) 2 := ⟨⟨q723, q724⟩, q102, q725, ⟨by decide +kernel, by decide +kernel, by decide +kernel⟩⟩
theorem k_X0_countDownTo : z_KV yX0_countDownTo cX0_countDownTo 5 (some FieldType.int) 1 := ⟨⟨q728, q32⟩, q108, q729, ⟨by decide +kernel, by decide +kernel, by decide +kernel⟩⟩
theorem k_X7_depthFor : z_KV yX7_depthFor cX7_depthFor 3 (some FieldType.long) 2 := ⟨⟨q731, q732⟩, q102, q733, ⟨by decide +kernel, by decide +kernel, by decide +kernel⟩⟩
theorem k_X0_leastDepth : z_KV yX0_leastDepth cX0_leastDepth 7 (some FieldType.long) 1 := ⟨⟨q736, q33⟩, q108, q737, ⟨by decide +kernel, by decide +kernel, by decide +kernel⟩⟩
theorem k_X7_storeTrace : z_KV yX7_storeTrace cX7_storeTrace 2 (some FieldType.int) 1 := ⟨⟨q741, q742⟩, q102, q743, ⟨by decide +kernel, by decide +kernel, by decide +kernel⟩⟩
theorem k_X6_hasHeight : z_KV yX6_hasHeight cX6_hasHeight 3 (some FieldType.boolean) 1 := ⟨⟨q746, q34⟩, q106, q747, ⟨by decide +kernel, by decide +kernel, by decide +kernel⟩⟩
theorem k_X6_append : z_KV yX6_append cX6_append 3 none 2 := ⟨⟨q751, q35⟩, q106, q752, ⟨by decide +kernel, by decide +kernel, by decide +kernel⟩⟩
theorem k_X7_removeTraces : z_KV yX7_removeTraces cX7_removeTraces 2 (some FieldType.int) 1 := ⟨⟨q756, q757⟩, q102, q758, ⟨by decide +kernel, by decide +kernel, by decide +kernel⟩⟩
theorem k_X7_recall : z_KV yX7_recall cX7_recall 2 (some FieldType.int) 1 := ⟨⟨q760, q761⟩, q102, q762, ⟨by decide +kernel, by decide +kernel, by decide +kernel⟩⟩
theorem k_X6_lacks : z_KV yX6_lacks cX6_lacks 2 (some FieldType.boolean) 1 := ⟨⟨q765, q36⟩, q106, q766, ⟨by decide +kernel, by decide +kernel, by decide +kernel⟩⟩
theorem k_X7_traceValue : z_KV yX7_traceValue cX7_traceValue 3 (some FieldType.long) 2 := ⟨⟨q770, q771⟩, q102, q772, ⟨by decide +kernel, by decide +kernel, by decide +kernel⟩⟩
theorem k_X7_axis : z_KV yX7_axis cX7_axis 3 (some FieldType.long) 2 := ⟨⟨q774, q775⟩, q102, q776, ⟨by decide +kernel, by decide +kernel, by decide +kernel⟩⟩
theorem k_X6_axisAt : z_KV yX6_axisAt cX6_axisAt 15 (some FieldType.long) 2 := ⟨⟨q779, q37⟩, q106, q780, ⟨by decide +kernel, by decide +kernel, by decide +kernel⟩⟩
theorem k_X7_cylindricity : z_KV yX7_cylindricity cX7_cylindricity 1 (some FieldType.double) 0 := ⟨⟨q783, q784⟩, q102, q785, ⟨by decide +kernel, by decide +kernel, by decide +kernel⟩⟩
theorem k_X6_cylinderWidth : z_KV yX6_cylinderWidth cX6_cylinderWidth 13 (some FieldType.long) 0 := ⟨⟨q788, q38⟩, q106, q789, ⟨by decide +kernel, by decide +kernel, by decide +kernel⟩⟩
theorem k_X7_farthestTrace : z_KV yX7_farthestTrace cX7_farthestTrace 1 (some FieldType.int) 0 := ⟨⟨q797, q798⟩, q102, q799, ⟨by decide +kernel, by decide +kernel, by decide +kernel⟩⟩
theorem k_X6_farthest : z_KV yX6_farthest cX6_farthest 7 (some FieldType.int) 0 := ⟨⟨q802, q39⟩, q106, q803, ⟨by decide +kernel, by decide +kernel, by decide +kernel⟩⟩
theorem k_X6_distanceFromAxis : z_KV yX6_distanceFromAxis cX6_distanceFromAxis 3 (some FieldType.long) 1 := ⟨⟨q806, q40⟩, q106, q807, ⟨by decide +kernel, by decide +kernel, by decide +kernel⟩⟩
theorem k_X7_taper : z_KV yX7_taper cX7_taper 1 (some FieldType.long) 0 := ⟨⟨q810, q811⟩, q102, q812, ⟨by decide +kernel, by decide +kernel, by decide +kernel⟩⟩
theorem k_X6_spreadOfMeans : z_KV yX6_spreadOfMeans cX6_spreadOfMeans 6 (some FieldType.long) 0 := ⟨⟨q815, q41⟩, q106, q816, ⟨by decide +kernel, by decide +kernel, by decide +kernel⟩⟩
theorem k_X7_difference : z_KV yX7_difference cX7_difference 4 (some FieldType.long) 3 := ⟨⟨q818, q819⟩, q102, q820, ⟨by decide +kernel, by decide +kernel, by decide +kernel⟩⟩
theorem k_X6_mismatch : z_KV yX6_mismatch cX6_mismatch 7 (some FieldType.long) 3 := ⟨⟨q823, q42⟩, q106, q824, ⟨by decide +kernel, by decide +kernel, by decide +kernel⟩⟩
theorem k_X7_bestRotation : z_KV yX7_bestRotation cX7_bestRotation 3 (some FieldType.int) 2 := ⟨⟨q827, q828⟩, q102, q829, ⟨by decide +kernel, by decide +kernel, by decide +kernel⟩⟩
theorem k_X6_bestMatch : z_KV yX6_bestMatch cX6_bestMatch 9 (some FieldType.int) 2 := ⟨⟨q832, q43⟩, q106, q833, ⟨by decide +kernel, by decide +kernel, by decide +kernel⟩⟩
theorem k_X7_addRule : z_KV yX7_addRule cX7_addRule 5 (some FieldType.int) 4 := ⟨⟨q836, q837⟩, q102, q838, ⟨by decide +kernel, by decide +kernel, by decide +kernel⟩⟩
theorem k_X3_append : z_KV yX3_append cX3_append 5 none 4 := ⟨⟨q841, q44⟩, q107, q842, ⟨by decide +kernel, by decide +kernel, by decide +kernel⟩⟩
theorem k_X7_clearRules : z_KV yX7_clearRules cX7_clearRules 2 (some FieldType.int) 0 := ⟨⟨q844, q845⟩, q102, q846, ⟨by decide +kernel, by decide +kernel, by decide +kernel⟩⟩
theorem k_X7_ruleValue : z_KV yX7_ruleValue cX7_ruleValue 2 (some FieldType.long) 1 := ⟨⟨q848, q849⟩, q102, q850, ⟨by decide +kernel, by decide +kernel, by decide +kernel⟩⟩
theorem k_X7_valueOfRule : z_KV yX7_valueOfRule cX7_valueOfRule 3 (some FieldType.long) 1 := ⟨⟨q853, q45⟩, q102, q854, ⟨by decide +kernel, by decide +kernel, by decide +kernel⟩⟩
theorem k_X7_violated : z_KV yX7_violated cX7_violated 3 (some FieldType.int) 0 := ⟨⟨q856, q857⟩, q102, q858, ⟨by decide +kernel, by decide +kernel, by decide +kernel⟩⟩
theorem k_X7_type : z_KV yX7_type cX7_type 2 (some FieldType.int) 1 := ⟨⟨q860, q861⟩, q102, q862, ⟨by decide +kernel, by decide +kernel, by decide +kernel⟩⟩
theorem k_X4_append : z_KV yX4_append cX4_append 2 none 1 := ⟨⟨q865, q46⟩, q109, q866, ⟨by decide +kernel, by decide +kernel, by decide +kernel⟩⟩
theorem k_X7_clearText : z_KV yX7_clearText cX7_clearText 2 (some FieldType.int) 0 := ⟨⟨q868, q869⟩, q102, q870, ⟨by decide +kernel, by decide +kernel, by decide +kernel⟩⟩
theorem k_X7_readText : z_KV yX7_readText cX7_readText 2 (some FieldType.int) 0 := ⟨⟨q872, q873⟩, q102, q874, ⟨by decide +kernel, by decide +kernel, by decide +kernel⟩⟩
theorem k_X4_parse : z_KV yX4_parse cX4_parse 2 (some FieldType.boolean) 0 := ⟨⟨q877, q47⟩, q109, q878, ⟨by decide +kernel, by decide +kernel, by decide +kernel⟩⟩
theorem k_X4_parseItem : z_KV yX4_parseItem cX4_parseItem 2 (some FieldType.boolean) 0 := ⟨⟨q881, q48⟩, q109, q882, ⟨by decide +kernel, by decide +kernel, by decide +kernel⟩⟩
theorem k_X4_current : z_KV yX4_current cX4_current 1 (some FieldType.int) 0 := ⟨⟨q885, q49⟩, q109, q886, ⟨by decide +kernel, by decide +kernel, by decide +kernel⟩⟩
theorem k_X4_parseLobes : z_KV yX4_parseLobes cX4_parseLobes 5 (some FieldType.boolean) 1 := ⟨⟨q889, q50⟩, q109, q890, ⟨by decide +kernel, by decide +kernel, by decide +kernel⟩⟩
theorem k_X4_takeNumber : z_KV yX4_takeNumber cX4_takeNumber 7 (some FieldType.boolean) 2 := ⟨⟨q893, q51⟩, q109, q894, ⟨by decide +kernel, by decide +kernel, by decide +kernel⟩⟩
theorem k_X4_isAtDigit : z_KV yX4_isAtDigit cX4_isAtDigit 1 (some FieldType.boolean) 0 := ⟨⟨q897, q52⟩, q109, q898, ⟨by decide +kernel, by decide +kernel, by decide +kernel⟩⟩
theorem k_X4_fail : z_KV yX4_fail cX4_fail 2 (some FieldType.boolean) 1 := ⟨⟨q902, q53⟩, q109, q903, ⟨by decide +kernel, by decide +kernel, by decide +kernel⟩⟩
theorem k_X4_take : z_KV yX4_take cX4_take 2 (some FieldType.boolean) 1 := ⟨⟨q906, q54⟩, q109, q907, ⟨by decide +kernel, by decide +kernel, by decide +kernel⟩⟩
theorem k_X4_note : z_KV yX4_note cX4_note 5 none 4 := ⟨⟨q910, q55⟩, q109, q911, ⟨by decide +kernel, by decide +kernel, by decide +kernel⟩⟩
theorem k_X4_parseEccentricity : z_KV yX4_parseEccentricity cX4_parseEccentricity 2 (some FieldType.boolean) 0 := ⟨⟨q914, q56⟩, q109, q915, ⟨by decide +kernel, by decide +kernel, by decide +kernel⟩⟩
theorem k_X4_parseSteps : z_KV yX4_parseSteps cX4_parseSteps 2 (some FieldType.boolean) 0 := ⟨⟨q918, q57⟩, q109, q919, ⟨by decide +kernel, by decide +kernel, by decide +kernel⟩⟩
theorem k_X5_reset : z_KV yX5_reset cX5_reset 2 none 0 := ⟨⟨q923, q58⟩, q104, q924, ⟨by decide +kernel, by decide +kernel, by decide +kernel⟩⟩
theorem k_X5_shiftTo : z_KV yX5_shiftTo cX5_shiftTo 4 (some FieldType.boolean) 2 := ⟨⟨q927, q59⟩, q104, q928, ⟨by decide +kernel, by decide +kernel, by decide +kernel⟩⟩
theorem k_X7_obey : z_KV yX7_obey cX7_obey 4 none 1 := ⟨⟨q931, q60⟩, q102, q932, ⟨by decide +kernel, by decide +kernel, by decide +kernel⟩⟩
theorem k_X5_superpose : z_KV yX5_superpose cX5_superpose 11 (some FieldType.boolean) 4 := ⟨⟨q936, q61⟩, q104, q937, ⟨by decide +kernel, by decide +kernel, by decide +kernel⟩⟩
theorem k_X7_setTrue : z_KV yX7_setTrue cX7_setTrue 6 (some FieldType.int) 3 := ⟨⟨q943, q944⟩, q102, q945, ⟨by decide +kernel, by decide +kernel, by decide +kernel⟩⟩
theorem k_X7_addLobes : z_KV yX7_addLobes cX7_addLobes 5 (some FieldType.int) 4 := ⟨⟨q947, q948⟩, q102, q949, ⟨by decide +kernel, by decide +kernel, by decide +kernel⟩⟩
theorem k_X7_setEccentricity : z_KV yX7_setEccentricity cX7_setEccentricity 3 (some FieldType.int) 2 := ⟨⟨q951, q952⟩, q102, q953, ⟨by decide +kernel, by decide +kernel, by decide +kernel⟩⟩
theorem k_X8_setSteps : z_KV yX8_setSteps cX8_setSteps 3 (some FieldType.int) 1 := ⟨⟨q1058, q1059⟩, q110, q1060, ⟨by decide +kernel, by decide +kernel, by decide +kernel⟩⟩
theorem k_X8_isSteps : z_KS yX8_isSteps cX8_isSteps 1 (some FieldType.boolean) 1 := ⟨q1062, q110, q1063, ⟨by decide +kernel, by decide +kernel, by decide +kernel⟩⟩
theorem k_X8_read : z_KV yX8_read cX8_read 2 (some FieldType.int) 1 := ⟨⟨q1066, q1067⟩, q110, q1068, ⟨by decide +kernel, by decide +kernel, by decide +kernel⟩⟩
theorem k_X8_in : z_KS yX8_in cX8_in 6 (some FieldType.boolean) 3 := ⟨q1072, q110, q1073, ⟨by decide +kernel, by decide +kernel, by decide +kernel⟩⟩
theorem k_X8_isComplete : z_KV yX8_isComplete cX8_isComplete 1 (some FieldType.boolean) 0 := ⟨⟨q1076, q62⟩, q110, q1077, ⟨by decide +kernel, by decide +kernel, by decide +kernel⟩⟩
theorem k_X8_removeReadings : z_KV yX8_removeReadings cX8_removeReadings 2 (some FieldType.int) 1 := ⟨⟨q1080, q1081⟩, q110, q1082, ⟨by decide +kernel, by decide +kernel, by decide +kernel⟩⟩
theorem k_X8_progress : z_KV yX8_progress cX8_progress 2 (some FieldType.int) 1 := ⟨⟨q1084, q1085⟩, q110, q1086, ⟨by decide +kernel, by decide +kernel, by decide +kernel⟩⟩
theorem k_X8_reading : z_KV yX8_reading cX8_reading 4 (some FieldType.int) 2 := ⟨⟨q1089, q1090⟩, q110, q1091, ⟨by decide +kernel, by decide +kernel, by decide +kernel⟩⟩
theorem k_X8_noStep : z_KV yX8_noStep cX8_noStep 2 (some FieldType.boolean) 1 := ⟨⟨q1094, q63⟩, q110, q1095, ⟨by decide +kernel, by decide +kernel, by decide +kernel⟩⟩
theorem k_X8_noPlace : z_KS yX8_noPlace cX8_noPlace 1 (some FieldType.boolean) 1 := ⟨q1097, q110, q1098, ⟨by decide +kernel, by decide +kernel, by decide +kernel⟩⟩
theorem k_X8_despike : z_KV yX8_despike cX8_despike 7 (some FieldType.int) 2 := ⟨⟨q1101, q1102⟩, q110, q1103, ⟨by decide +kernel, by decide +kernel, by decide +kernel⟩⟩
theorem k_X8_isFinished : z_KV yX8_isFinished cX8_isFinished 2 (some FieldType.boolean) 1 := ⟨⟨q1106, q64⟩, q110, q1107, ⟨by decide +kernel, by decide +kernel, by decide +kernel⟩⟩
theorem k_X8_around : z_KS yX8_around cX8_around 2 (some FieldType.int) 1 := ⟨q1110, q110, q1111, ⟨by decide +kernel, by decide +kernel, by decide +kernel⟩⟩
theorem k_X8_size : z_KS yX8_size cX8_size 2 (some FieldType.long) 1 := ⟨q1114, q110, q1115, ⟨by decide +kernel, by decide +kernel, by decide +kernel⟩⟩
theorem k_X8_down : z_KS yX8_down cX8_down 6 (some FieldType.long) 2 := ⟨q1117, q110, q1118, ⟨by decide +kernel, by decide +kernel, by decide +kernel⟩⟩
theorem k_X8_part : z_KV yX8_part cX8_part 2 (some FieldType.long) 1 := ⟨⟨q1120, q1121⟩, q110, q1122, ⟨by decide +kernel, by decide +kernel, by decide +kernel⟩⟩
theorem k_X8_lost : z_KS yX8_lost cX8_lost 0 (some FieldType.long) 0 := ⟨q1124, q110, q1125, ⟨by decide +kernel, by decide +kernel, by decide +kernel⟩⟩
theorem k_X8_partAt : z_KV yX8_partAt cX8_partAt 6 (some FieldType.long) 1 := ⟨⟨q1129, q65⟩, q110, q1130, ⟨by decide +kernel, by decide +kernel, by decide +kernel⟩⟩
theorem k_X8_turned : z_KV yX8_turned cX8_turned 2 (some FieldType.int) 1 := ⟨⟨q1133, q66⟩, q110, q1134, ⟨by decide +kernel, by decide +kernel, by decide +kernel⟩⟩
theorem k_X8_sumAt : z_KV yX8_sumAt cX8_sumAt 5 (some FieldType.long) 1 := ⟨⟨q1137, q67⟩, q110, q1138, ⟨by decide +kernel, by decide +kernel, by decide +kernel⟩⟩
theorem k_X8_spindle : z_KV yX8_spindle cX8_spindle 2 (some FieldType.long) 1 := ⟨⟨q1141, q1142⟩, q110, q1143, ⟨by decide +kernel, by decide +kernel, by decide +kernel⟩⟩
theorem k_X8_spindleAt : z_KV yX8_spindleAt cX8_spindleAt 2 (some FieldType.long) 1 := ⟨⟨q1146, q68⟩, q110, q1147, ⟨by decide +kernel, by decide +kernel, by decide +kernel⟩⟩
theorem k_X8_isBlind : z_KV yX8_isBlind cX8_isBlind 2 (some FieldType.int) 1 := ⟨⟨q1149, q1150⟩, q110, q1151, ⟨by decide +kernel, by decide +kernel, by decide +kernel⟩⟩
theorem k_X8_residual : z_KV yX8_residual cX8_residual 7 (some FieldType.long) 0 := ⟨⟨q1154, q1155⟩, q110, q1156, ⟨by decide +kernel, by decide +kernel, by decide +kernel⟩⟩
theorem k_X8_undo : z_KV yX8_undo cX8_undo 2 (some FieldType.int) 0 := ⟨⟨q1158, q1159⟩, q110, q1160, ⟨by decide +kernel, by decide +kernel, by decide +kernel⟩⟩
theorem k_X8_redo : z_KV yX8_redo cX8_redo 2 (some FieldType.int) 0 := ⟨⟨q1162, q1163⟩, q110, q1164, ⟨by decide +kernel, by decide +kernel, by decide +kernel⟩⟩
theorem k_X8_load : z_KV yX8_load cX8_load 4 (some FieldType.int) 2 := ⟨⟨q1166, q1167⟩, q110, q1168, ⟨by decide +kernel, by decide +kernel, by decide +kernel⟩⟩
theorem k_X8_fetches : z_KV yX8_fetches cX8_fetches 4 (some FieldType.int) 2 := ⟨⟨q1171, q69⟩, q110, q1172, ⟨by decide +kernel, by decide +kernel, by decide +kernel⟩⟩
theorem k_X8_takes : z_KV yX8_takes cX8_takes 3 (some FieldType.int) 0 := ⟨⟨q1176, q70⟩, q110, q1177, ⟨by decide +kernel, by decide +kernel, by decide +kernel⟩⟩
theorem k_X8_profile : z_KV yX8_profile cX8_profile 2 (some FieldType.long) 1 := ⟨⟨q1179, q1180⟩, q110, q1181, ⟨by decide +kernel, by decide +kernel, by decide +kernel⟩⟩
theorem k_X8_rotate : z_KV yX8_rotate cX8_rotate 3 (some FieldType.int) 1 := ⟨⟨q1183, q1184⟩, q110, q1185, ⟨by decide +kernel, by decide +kernel, by decide +kernel⟩⟩
theorem k_X8_removeEccentricity : z_KV yX8_removeEccentricity cX8_removeEccentricity 8 (some FieldType.int) 0 := ⟨⟨q1188, q1189⟩, q110, q1190, ⟨by decide +kernel, by decide +kernel, by decide +kernel⟩⟩
theorem k_X8_harmonicOf : z_KV yX8_harmonicOf cX8_harmonicOf 3 (some FieldType.long) 2 := ⟨⟨q1193, q71⟩, q110, q1194, ⟨by decide +kernel, by decide +kernel, by decide +kernel⟩⟩
theorem k_X8_harmonicIn : z_KV yX8_harmonicIn cX8_harmonicIn 8 (some FieldType.long) 4 := ⟨⟨q1197, q72⟩, q110, q1198, ⟨by decide +kernel, by decide +kernel, by decide +kernel⟩⟩
theorem k_X8_sine : z_KV yX8_sine cX8_sine 2 (some FieldType.long) 1 := ⟨⟨q1201, q73⟩, q110, q1202, ⟨by decide +kernel, by decide +kernel, by decide +kernel⟩⟩
theorem k_X8_cosine : z_KV yX8_cosine cX8_cosine 3 (some FieldType.long) 1 := ⟨⟨q1205, q74⟩, q110, q1206, ⟨by decide +kernel, by decide +kernel, by decide +kernel⟩⟩
theorem k_X8_keepLobes : z_KV yX8_keepLobes cX8_keepLobes 3 (some FieldType.int) 2 := ⟨⟨q1210, q1211⟩, q110, q1212, ⟨by decide +kernel, by decide +kernel, by decide +kernel⟩⟩
theorem k_X8_areLobes : z_KS yX8_areLobes cX8_areLobes 2 (some FieldType.boolean) 2 := ⟨q1214, q110, q1215, ⟨by decide +kernel, by decide +kernel, by decide +kernel⟩⟩
theorem k_X8_keeps : z_KV yX8_keeps cX8_keeps 9 none 2 := ⟨⟨q1218, q75⟩, q110, q1219, ⟨by decide +kernel, by decide +kernel, by decide +kernel⟩⟩
theorem k_X8_subtract : z_KV yX8_subtract cX8_subtract 5 (some FieldType.int) 2 := ⟨⟨q1221, q1222⟩, q110, q1223, ⟨by decide +kernel, by decide +kernel, by decide +kernel⟩⟩
theorem k_X8_isTooFar : z_KV yX8_isTooFar cX8_isTooFar 2 (some FieldType.boolean) 0 := ⟨⟨q1226, q76⟩, q110, q1227, ⟨by decide +kernel, by decide +kernel, by decide +kernel⟩⟩
theorem k_X8_vBlock : z_KV yX8_vBlock cX8_vBlock 3 (some FieldType.int) 1 := ⟨⟨q1230, q1231⟩, q110, q1232, ⟨by decide +kernel, by decide +kernel, by decide +kernel⟩⟩
theorem k_X8_isBlindInVBlock : z_KV yX8_isBlindInVBlock cX8_isBlindInVBlock 5 (some FieldType.int) 2 := ⟨⟨q1236, q1237⟩, q110, q1238, ⟨by decide +kernel, by decide +kernel, by decide +kernel⟩⟩
theorem k_X8_harmonic : z_KV yX8_harmonic cX8_harmonic 3 (some FieldType.long) 2 := ⟨⟨q1240, q1241⟩, q110, q1242, ⟨by decide +kernel, by decide +kernel, by decide +kernel⟩⟩
theorem k_X8_noLobes : z_KS yX8_noLobes cX8_noLobes 1 (some FieldType.boolean) 1 := ⟨q1244, q110, q1245, ⟨by decide +kernel, by decide +kernel, by decide +kernel⟩⟩
theorem k_X8_strength : z_KV yX8_strength cX8_strength 2 (some FieldType.long) 1 := ⟨⟨q1247, q1248⟩, q110, q1249, ⟨by decide +kernel, by decide +kernel, by decide +kernel⟩⟩
theorem k_X8_strengthOf : z_KV yX8_strengthOf cX8_strengthOf 2 (some FieldType.long) 1 := ⟨⟨q1252, q77⟩, q110, q1253, ⟨by decide +kernel, by decide +kernel, by decide +kernel⟩⟩
theorem k_X8_dominant : z_KV yX8_dominant cX8_dominant 4 (some FieldType.int) 1 := ⟨⟨q1255, q1256⟩, q110, q1257, ⟨by decide +kernel, by decide +kernel, by decide +kernel⟩⟩
theorem k_X8_centre : z_KV yX8_centre cX8_centre 3 (some FieldType.long) 2 := ⟨⟨q1259, q1260⟩, q110, q1261, ⟨by decide +kernel, by decide +kernel, by decide +kernel⟩⟩
theorem k_X8_noMethod : z_KS yX8_noMethod cX8_noMethod 1 (some FieldType.boolean) 1 := ⟨q1263, q110, q1264, ⟨by decide +kernel, by decide +kernel, by decide +kernel⟩⟩
theorem k_X8_findCentre : z_KV yX8_findCentre cX8_findCentre 13 none 2 := ⟨⟨q1268, q78⟩, q110, q1269, ⟨by decide +kernel, by decide +kernel, by decide +kernel⟩⟩
theorem k_X8_valueBy : z_KV yX8_valueBy cX8_valueBy 7 (some FieldType.long) 4 := ⟨⟨q1272, q79⟩, q110, q1273, ⟨by decide +kernel, by decide +kernel, by decide +kernel⟩⟩
theorem k_X8_findEnds : z_KV yX8_findEnds cX8_findEnds 10 none 4 := ⟨⟨q1276, q80⟩, q110, q1277, ⟨by decide +kernel, by decide +kernel, by decide +kernel⟩⟩
theorem k_X8_offAt : z_KV yX8_offAt cX8_offAt 8 (some FieldType.long) 5 := ⟨⟨q1280, q81⟩, q110, q1281, ⟨by decide +kernel, by decide +kernel, by decide +kernel⟩⟩
theorem k_X8_off : z_KS yX8_off cX8_off 10 (some FieldType.long) 5 := ⟨q1283, q110, q1284, ⟨by decide +kernel, by decide +kernel, by decide +kernel⟩⟩
theorem k_X8_deviation : z_KV yX8_deviation cX8_deviation 3 (some FieldType.long) 2 := ⟨⟨q1287, q1288⟩, q110, q1289, ⟨by decide +kernel, by decide +kernel, by decide +kernel⟩⟩
theorem k_X8_layOff : z_KV yX8_layOff cX8_layOff 3 none 1 := ⟨⟨q1292, q82⟩, q110, q1293, ⟨by decide +kernel, by decide +kernel, by decide +kernel⟩⟩
theorem k_X8_roundness : z_KV yX8_roundness cX8_roundness 2 (some FieldType.double) 1 := ⟨⟨q1295, q1296⟩, q110, q1297, ⟨by decide +kernel, by decide +kernel, by decide +kernel⟩⟩
theorem k_X8_roundnessOf : z_KV yX8_roundnessOf cX8_roundnessOf 3 (some FieldType.long) 2 := ⟨⟨q1301, q83⟩, q110, q1302, ⟨by decide +kernel, by decide +kernel, by decide +kernel⟩⟩
theorem k_X8_extreme : z_KV yX8_extreme cX8_extreme 3 (some FieldType.int) 2 := ⟨⟨q1305, q1306⟩, q110, q1307, ⟨by decide +kernel, by decide +kernel, by decide +kernel⟩⟩
theorem k_X8_extremeAt : z_KV yX8_extremeAt cX8_extremeAt 4 (some FieldType.int) 1 := ⟨⟨q1310, q84⟩, q110, q1311, ⟨by decide +kernel, by decide +kernel, by decide +kernel⟩⟩
theorem k_X8_meanSquare : z_KV yX8_meanSquare cX8_meanSquare 6 (some FieldType.float) 0 := ⟨⟨q1313, q1314⟩, q110, q1315, ⟨by decide +kernel, by decide +kernel, by decide +kernel⟩⟩
theorem k_X8_materialAt : z_KV yX8_materialAt cX8_materialAt 4 (some FieldType.int) 2 := ⟨⟨q1318, q1319⟩, q110, q1320, ⟨by decide +kernel, by decide +kernel, by decide +kernel⟩⟩
theorem k_X8_countTo : z_KV yX8_countTo cX8_countTo 7 (some FieldType.int) 1 := ⟨⟨q1323, q85⟩, q110, q1324, ⟨by decide +kernel, by decide +kernel, by decide +kernel⟩⟩
theorem k_X8_depthFor : z_KV yX8_depthFor cX8_depthFor 10 (some FieldType.long) 2 := ⟨⟨q1326, q1327⟩, q110, q1328, ⟨by decide +kernel, by decide +kernel, by decide +kernel⟩⟩
theorem k_X8_storeTrace : z_KV yX8_storeTrace cX8_storeTrace 3 (some FieldType.int) 1 := ⟨⟨q1332, q1333⟩, q110, q1334, ⟨by decide +kernel, by decide +kernel, by decide +kernel⟩⟩
theorem k_X8_removeTraces : z_KV yX8_removeTraces cX8_removeTraces 2 (some FieldType.int) 1 := ⟨⟨q1338, q1339⟩, q110, q1340, ⟨by decide +kernel, by decide +kernel, by decide +kernel⟩⟩
theorem k_X8_recall : z_KV yX8_recall cX8_recall 3 (some FieldType.int) 1 := ⟨⟨q1342, q1343⟩, q110, q1344, ⟨by decide +kernel, by decide +kernel, by decide +kernel⟩⟩
theorem k_X8_noTrace : z_KV yX8_noTrace cX8_noTrace 2 (some FieldType.boolean) 1 := ⟨⟨q1347, q86⟩, q110, q1348, ⟨by decide +kernel, by decide +kernel, by decide +kernel⟩⟩
theorem k_X8_traceValue : z_KV yX8_traceValue cX8_traceValue 3 (some FieldType.long) 2 := ⟨⟨q1350, q1351⟩, q110, q1352, ⟨by decide +kernel, by decide +kernel, by decide +kernel⟩⟩
theorem k_X8_traceHarmonic : z_KV yX8_traceHarmonic cX8_traceHarmonic 4 (some FieldType.long) 3 := ⟨⟨q1355, q87⟩, q110, q1356, ⟨by decide +kernel, by decide +kernel, by decide +kernel⟩⟩
theorem k_X8_axis : z_KV yX8_axis cX8_axis 3 (some FieldType.long) 2 := ⟨⟨q1358, q1359⟩, q110, q1360, ⟨by decide +kernel, by decide +kernel, by decide +kernel⟩⟩
theorem k_X8_axisAt : z_KV yX8_axisAt cX8_axisAt 14 (some FieldType.long) 2 := ⟨⟨q1363, q88⟩, q110, q1364, ⟨by decide +kernel, by decide +kernel, by decide +kernel⟩⟩
theorem k_X8_cylindricity : z_KV yX8_cylindricity cX8_cylindricity 6 (some FieldType.double) 0 := ⟨⟨q1366, q1367⟩, q110, q1368, ⟨by decide +kernel, by decide +kernel, by decide +kernel⟩⟩
theorem k_X8_farthestTrace : z_KV yX8_farthestTrace cX8_farthestTrace 3 (some FieldType.int) 0 := ⟨⟨q1370, q1371⟩, q110, q1372, ⟨by decide +kernel, by decide +kernel, by decide +kernel⟩⟩
theorem k_X8_farOf : z_KV yX8_farOf cX8_farOf 2 (some FieldType.long) 1 := ⟨⟨q1375, q89⟩, q110, q1376, ⟨by decide +kernel, by decide +kernel, by decide +kernel⟩⟩
theorem k_X8_taper : z_KV yX8_taper cX8_taper 8 (some FieldType.long) 0 := ⟨⟨q1378, q1379⟩, q110, q1380, ⟨by decide +kernel, by decide +kernel, by decide +kernel⟩⟩
theorem k_X8_difference : z_KV yX8_difference cX8_difference 4 (some FieldType.long) 3 := ⟨⟨q1382, q1383⟩, q110, q1384, ⟨by decide +kernel, by decide +kernel, by decide +kernel⟩⟩
theorem k_X8_unlike : z_KV yX8_unlike cX8_unlike 7 (some FieldType.long) 3 := ⟨⟨q1387, q90⟩, q110, q1388, ⟨by decide +kernel, by decide +kernel, by decide +kernel⟩⟩
theorem k_X8_bestRotation : z_KV yX8_bestRotation cX8_bestRotation 5 (some FieldType.int) 2 := ⟨⟨q1390, q1391⟩, q110, q1392, ⟨by decide +kernel, by decide +kernel, by decide +kernel⟩⟩
theorem k_X8_addRule : z_KV yX8_addRule cX8_addRule 5 (some FieldType.int) 4 := ⟨⟨q1394, q1395⟩, q110, q1396, ⟨by decide +kernel, by decide +kernel, by decide +kernel⟩⟩
theorem k_X8_clearRules : z_KV yX8_clearRules cX8_clearRules 2 (some FieldType.int) 0 := ⟨⟨q1398, q1399⟩, q110, q1400, ⟨by decide +kernel, by decide +kernel, by decide +kernel⟩⟩
theorem k_X8_ruleValue : z_KV yX8_ruleValue cX8_ruleValue 2 (some FieldType.long) 1 := ⟨⟨q1402, q1403⟩, q110, q1404, ⟨by decide +kernel, by decide +kernel, by decide +kernel⟩⟩
theorem k_X8_ruleNow : z_KV yX8_ruleNow cX8_ruleNow 2 (some FieldType.long) 1 := ⟨⟨q1407, q91⟩, q110, q1408, ⟨by decide +kernel, by decide +kernel, by decide +kernel⟩⟩
theorem k_X8_violated : z_KV yX8_violated cX8_violated 3 (some FieldType.int) 0 := ⟨⟨q1410, q1411⟩, q110, q1412, ⟨by decide +kernel, by decide +kernel, by decide +kernel⟩⟩
theorem k_X8_type : z_KV yX8_type cX8_type 2 (some FieldType.int) 1 := ⟨⟨q1414, q1415⟩, q110, q1416, ⟨by decide +kernel, by decide +kernel, by decide +kernel⟩⟩
theorem k_X8_clearText : z_KV yX8_clearText cX8_clearText 2 (some FieldType.int) 0 := ⟨⟨q1418, q1419⟩, q110, q1420, ⟨by decide +kernel, by decide +kernel, by decide +kernel⟩⟩
theorem k_X8_readText : z_KV yX8_readText cX8_readText 2 (some FieldType.int) 0 := ⟨⟨q1422, q1423⟩, q110, q1424, ⟨by decide +kernel, by decide +kernel, by decide +kernel⟩⟩
theorem k_X8_readAll : z_KV yX8_readAll cX8_readAll 4 (some FieldType.int) 1 := ⟨⟨q1427, q92⟩, q110, q1428, ⟨by decide +kernel, by decide +kernel, by decide +kernel⟩⟩
theorem k_X8_readItem : z_KV yX8_readItem cX8_readItem 6 none 0 := ⟨⟨q1431, q93⟩, q110, q1432, ⟨by decide +kernel, by decide +kernel, by decide +kernel⟩⟩
theorem k_X8_isAt : z_KV yX8_isAt cX8_isAt 2 (some FieldType.boolean) 1 := ⟨⟨q1435, q94⟩, q110, q1436, ⟨by decide +kernel, by decide +kernel, by decide +kernel⟩⟩
theorem k_X8_fail : z_KV yX8_fail cX8_fail 2 none 1 := ⟨⟨q1439, q95⟩, q110, q1440, ⟨by decide +kernel, by decide +kernel, by decide +kernel⟩⟩
theorem k_X8_number : z_KV yX8_number cX8_number 8 (some FieldType.int) 3 := ⟨⟨q1443, q96⟩, q110, q1444, ⟨by decide +kernel, by decide +kernel, by decide +kernel⟩⟩
theorem k_X8_isDigit : z_KV yX8_isDigit cX8_isDigit 1 (some FieldType.boolean) 0 := ⟨⟨q1447, q97⟩, q110, q1448, ⟨by decide +kernel, by decide +kernel, by decide +kernel⟩⟩
theorem k_X8_readPlace : z_KV yX8_readPlace cX8_readPlace 3 none 0 := ⟨⟨q1452, q98⟩, q110, q1453, ⟨by decide +kernel, by decide +kernel, by decide +kernel⟩⟩
theorem k_X8_expect : z_KV yX8_expect cX8_expect 2 none 1 := ⟨⟨q1456, q99⟩, q110, q1457, ⟨by decide +kernel, by decide +kernel, by decide +kernel⟩⟩
theorem k_X8_setEccentricity : z_KV yX8_setEccentricity cX8_setEccentricity 4 (some FieldType.int) 2 := ⟨⟨q1459, q1460⟩, q110, q1461, ⟨by decide +kernel, by decide +kernel, by decide +kernel⟩⟩
theorem k_X8_readLobes : z_KV yX8_readLobes cX8_readLobes 5 none 1 := ⟨⟨q1466, q100⟩, q110, q1467, ⟨by decide +kernel, by decide +kernel, by decide +kernel⟩⟩
theorem k_X8_addLobes : z_KV yX8_addLobes cX8_addLobes 9 (some FieldType.int) 4 := ⟨⟨q1469, q1470⟩, q110, q1471, ⟨by decide +kernel, by decide +kernel, by decide +kernel⟩⟩
theorem k_X8_kept : z_KS yX8_kept cX8_kept 3 (some FieldType.int) 2 := ⟨q1475, q110, q1476, ⟨by decide +kernel, by decide +kernel, by decide +kernel⟩⟩
theorem k_X8_setTrue : z_KV yX8_setTrue cX8_setTrue 6 (some FieldType.int) 3 := ⟨⟨q1478, q1479⟩, q110, q1480, ⟨by decide +kernel, by decide +kernel, by decide +kernel⟩⟩
theorem k_X8_simulateStep : z_KV yX8_simulateStep cX8_simulateStep 6 (some FieldType.int) 0 := ⟨⟨q1484, q1485⟩, q110, q1486, ⟨by decide +kernel, by decide +kernel, by decide +kernel⟩⟩
