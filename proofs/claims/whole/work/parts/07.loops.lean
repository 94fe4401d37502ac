theorem q461 : Cond.methodLink RX2 35 arraycopyName ∈ z_tb := z_tb_in (i := 461) (by decide +kernel) rfl
theorem q553 : Cond.methodLink RX1 34 arraycopyName ∈ z_tb := z_tb_in (i := 553) (by decide +kernel) rfl
theorem q654 : Cond.methodLink RX0 46 arraycopyName ∈ z_tb := z_tb_in (i := 654) (by decide +kernel) rfl
theorem q753 : Cond.methodLink RX6 38 arraycopyName ∈ z_tb := z_tb_in (i := 753) (by decide +kernel) rfl
theorem q768 : Cond.methodLink RX7 248 arraycopyName ∈ z_tb := z_tb_in (i := 768) (by decide +kernel) rfl
theorem q462 : Cond.static arraycopyName ∈ z_tb := z_tb_in (i := 462) (by decide +kernel) rfl
theorem q463 : Cond.native arraycopyName ∈ z_tb := z_tb_in (i := 463) (by decide +kernel) rfl
theorem z_q112 : Cond.initialized "java/lang/System" ∈ z_tb := z_tb_in (i := 112) (by decide +kernel) rfl
section ZR
variable {p : Program} {l : Launch} {e : Env} {R : Room} {s : State} {m : MethodId} {args : Array Value} {below : List Frame} {meth : Method} {c : Code} {G : z_Gl} {ce sl : Nat} {Q : State → Prop} {nL : Nat} {lv : List (Nat × Value)} {st : List Value} {σ : z_St} {cc : ByteArray} {own : String} {ret : Option FieldType}
/-- System.arraycopy between rows of longs (i to j) -/
theorem z_cpyl (pc : Nat) (C : z_C p s m args meth c G cc nL own ret) (i j : Nat) {n0 n1 : Nat} (hi : z_kd i = 2 ∧ z_sz i = n0) (hj : z_kd j = 2 ∧ z_sz j = n1) {idx : Nat} (hl : Cond.methodLink own idx arraycopyName ∈ z_tb) {sp dp n : Int32} (a b w : Nat) (h1 : sp = nI a) (h2 : dp = nI b) (h3 : n = nI w) (h4 : a + w ≤ n0) (h5 : b + w ≤ n1) (hb0 : n0 < 2 ^ 31) (hb1 : n1 < 2 ^ 31) (hfr : 1 ≤ R.frames) (hlo : (st.map fun v => v.category).sum + 30 ≤ R.locals) (hd : decode cc pc = .ok (.invokestatic idx, 3)) (k : z_V p l e R s m args below meth c G ce sl Q nL (pc + 3) lv st (z_uL σ j (va_cpy (σ.2 i) (σ.2 j) a b w))) : z_V p l e R s m args below meth c G ce sl Q nL pc lv (.int n :: .int dp :: .ref (z_ad G j) :: .int sp :: .ref (z_ad G i) :: st) σ := fun H locs ls g1 g2 g3 => by
  subst h1; subst h2; subst h3
  have ht := C.2.2.2.2.1
  have e1 : (nI a).toNatClampNeg = a := nI_clamp (by omega)
  have e2 : (nI b).toNatClampNeg = b := nI_clamp (by omega)
  have e3 : (nI w).toNatClampNeg = w := nI_clamp (by omega)
  refine va_copyl C.1 C.2.1 (by rw [C.2.2.1, g3.1]) C.2.2.2.1 (ht _ hl) (ht _ q463) (ht _ q462) (ht _ z_q112) C.2.2.2.2.2.1.1 g1 (C.2.2.2.2.2.1.2.1.D σ) g2 i j 1 1 ((z_W_at (z_kd_lt hi.1 (by decide))).trans (by rw [z_E2 hi.1 hi.2])) ((z_W_at (z_kd_lt hj.1 (by decide))).trans (by rw [z_E2 hj.1 hj.2])) rfl rfl rfl (nI_pos (by omega)) (nI_pos (by omega)) (nI_pos (by omega)) (by rw [e1, e3]; exact h4) (by rw [e2, e3]; exact h5) (fun _ _ => rfl) hfr (Nat.le_trans (Nat.add_le_add_left (show nativeFrameWords "java/lang/System" "arraycopy" 5 + 11 ≤ 30 by decide) _) hlo) hd (fun H1 locs1 f1 f2 f3 => ?_)
  rw [e1, e2, e3] at f1
  have hw : (z_W G σ).set j (z_ad G j, .inl (z_ca G 1, n1, .inr (.inl (va_cpy (σ.2 i) (σ.2 j) a b w)))) = z_W G (z_uL σ j (va_cpy (σ.2 i) (σ.2 j) a b w)) := by
    refine z_W_set ?_ (fun _ _ => rfl) (fun x hx => if_neg hx)
    rw [z_E2 hj.1 hj.2]
    show Sum.inl (_, n1, Sum.inr (Sum.inl (if j = j then va_cpy (σ.2 i) (σ.2 j) a b w else σ.2 j))) = _
    rw [if_pos rfl]
  rw [hw] at f1
  exact k H1 locs1 ls f1 f3 g3
theorem z_cpyi (pc : Nat) (C : z_C p s m args meth c G cc nL own ret) (i j : Nat) {n0 n1 : Nat} (hi : z_kd i = 1 ∧ z_sz i = n0) (hj : z_kd j = 1 ∧ z_sz j = n1) {idx : Nat} (hl : Cond.methodLink own idx arraycopyName ∈ z_tb) {sp dp n : Int32} (a b w : Nat) (h1 : sp = nI a) (h2 : dp = nI b) (h3 : n = nI w) (h4 : a + w ≤ n0) (h5 : b + w ≤ n1) (hb0 : n0 < 2 ^ 31) (hb1 : n1 < 2 ^ 31) (hfr : 1 ≤ R.frames) (hlo : (st.map fun v => v.category).sum + 30 ≤ R.locals) (hd : decode cc pc = .ok (.invokestatic idx, 3)) (k : z_V p l e R s m args below meth c G ce sl Q nL (pc + 3) lv st (z_uI σ j (va_cpy (σ.1 i) (σ.1 j) a b w))) : z_V p l e R s m args below meth c G ce sl Q nL pc lv (.int n :: .int dp :: .ref (z_ad G j) :: .int sp :: .ref (z_ad G i) :: st) σ := fun H locs ls g1 g2 g3 => by
  subst h1; subst h2; subst h3
  have ht := C.2.2.2.2.1
  have e1 : (nI a).toNatClampNeg = a := nI_clamp (by omega)
  have e2 : (nI b).toNatClampNeg = b := nI_clamp (by omega)
  have e3 : (nI w).toNatClampNeg = w := nI_clamp (by omega)
  refine va_copyi C.1 C.2.1 (by rw [C.2.2.1, g3.1]) C.2.2.2.1 (ht _ hl) (ht _ q463) (ht _ q462) (ht _ z_q112) C.2.2.2.2.2.1.1 g1 (C.2.2.2.2.2.1.2.1.D σ) g2 i j 0 0 ((z_W_at (z_kd_lt hi.1 (by decide))).trans (by rw [z_E1 hi.1 hi.2])) ((z_W_at (z_kd_lt hj.1 (by decide))).trans (by rw [z_E1 hj.1 hj.2])) rfl rfl rfl (nI_pos (by omega)) (nI_pos (by omega)) (nI_pos (by omega)) (by rw [e1, e3]; exact h4) (by rw [e2, e3]; exact h5) (fun _ _ => rfl) hfr (Nat.le_trans (Nat.add_le_add_left (show nativeFrameWords "java/lang/System" "arraycopy" 5 + 11 ≤ 30 by decide) _) hlo) hd (fun H1 locs1 f1 f2 f3 => ?_)
  rw [e1, e2, e3] at f1
  have hw : (z_W G σ).set j (z_ad G j, .inl (z_ca G 0, n1, .inl (va_cpy (σ.1 i) (σ.1 j) a b w))) = z_W G (z_uI σ j (va_cpy (σ.1 i) (σ.1 j) a b w)) := by
    refine z_W_set ?_ (fun x hx => if_neg hx) (fun _ _ => rfl)
    rw [z_E1 hj.1 hj.2]
    show Sum.inl (_, n1, Sum.inl (if j = j then va_cpy (σ.1 i) (σ.1 j) a b w else σ.1 j)) = _
    rw [if_pos rfl]
  rw [hw] at f1
  exact k H1 locs1 ls f1 f3 g3
/-- loops -/
theorem z_lp1 {A : Type} {pc : Nat} (I : A → Prop) (μ : A → Nat) (LV : A → List (Nat × Value)) (S : A → z_St) (body : ∀ a, I a → (∀ b, I b → μ b < μ a → z_V p l e R s m args below meth c G ce sl Q nL pc (LV b) st (S b)) → z_V p l e R s m args below meth c G ce sl Q nL pc (LV a) st (S a)) (a : A) (h : I a) : z_V p l e R s m args below meth c G ce sl Q nL pc (LV a) st (S a) := by
  have key : ∀ n a, μ a < n → I a → z_V p l e R s m args below meth c G ce sl Q nL pc (LV a) st (S a) := by
    intro n
    induction n with
    | zero => intro a h1; exact absurd h1 (Nat.not_lt_zero _)
    | succ n ih => exact fun a h1 h2 => body a h2 (fun b h3 h4 => ih b (by omega) h3)
  exact key (μ a + 1) a (Nat.lt_succ_self _) h
theorem z_lp2 {A B : Type} {pc : Nat} (I : A → B → Prop) (μ : A → B → Nat) (LV : A → B → List (Nat × Value)) (S : A → B → z_St) (body : ∀ a b, I a b → (∀ a1 b1, I a1 b1 → μ a1 b1 < μ a b → z_V p l e R s m args below meth c G ce sl Q nL pc (LV a1 b1) st (S a1 b1)) → z_V p l e R s m args below meth c G ce sl Q nL pc (LV a b) st (S a b)) (a : A) (b : B) (h : I a b) : z_V p l e R s m args below meth c G ce sl Q nL pc (LV a b) st (S a b) :=
  z_lp1 (A := A × B) (fun q => I q.1 q.2) (fun q => μ q.1 q.2) (fun q => LV q.1 q.2) (fun q => S q.1 q.2) (fun q hq ih => body q.1 q.2 hq (fun a1 b1 => ih (a1, b1))) (a, b) h
theorem z_lp3 {A B D : Type} {pc : Nat} (I : A → B → D → Prop) (μ : A → B → D → Nat) (LV : A → B → D → List (Nat × Value)) (S : A → B → D → z_St) (body : ∀ a b d, I a b d → (∀ a1 b1 d1, I a1 b1 d1 → μ a1 b1 d1 < μ a b d → z_V p l e R s m args below meth c G ce sl Q nL pc (LV a1 b1 d1) st (S a1 b1 d1)) → z_V p l e R s m args below meth c G ce sl Q nL pc (LV a b d) st (S a b d)) (a : A) (b : B) (d : D) (h : I a b d) : z_V p l e R s m args below meth c G ce sl Q nL pc (LV a b d) st (S a b d) :=
  z_lp1 (A := A × B × D) (fun q => I q.1 q.2.1 q.2.2) (fun q => μ q.1 q.2.1 q.2.2) (fun q => LV q.1 q.2.1 q.2.2) (fun q => S q.1 q.2.1 q.2.2) (fun q hq ih => body q.1 q.2.1 q.2.2 hq (fun a1 b1 d1 => ih (a1, b1, d1))) (a, b, d) h
theorem z_lp4 {A B D E2 : Type} {pc : Nat} (I : A → B → D → E2 → Prop) (μ : A → B → D → E2 → Nat) (LV : A → B → D → E2 → List (Nat × Value)) (S : A → B → D → E2 → z_St) (body : ∀ a b d e2, I a b d e2 → (∀ a1 b1 d1 e1, I a1 b1 d1 e1 → μ a1 b1 d1 e1 < μ a b d e2 → z_V p l e R s m args below meth c G ce sl Q nL pc (LV a1 b1 d1 e1) st (S a1 b1 d1 e1)) → z_V p l e R s m args below meth c G ce sl Q nL pc (LV a b d e2) st (S a b d e2)) (a : A) (b : B) (d : D) (e2 : E2) (h : I a b d e2) : z_V p l e R s m args below meth c G ce sl Q nL pc (LV a b d e2) st (S a b d e2) :=
  z_lp1 (A := A × B × D × E2) (fun q => I q.1 q.2.1 q.2.2.1 q.2.2.2) (fun q => μ q.1 q.2.1 q.2.2.1 q.2.2.2) (fun q => LV q.1 q.2.1 q.2.2.1 q.2.2.2) (fun q => S q.1 q.2.1 q.2.2.1 q.2.2.2) (fun q hq ih => body q.1 q.2.1 q.2.2.1 q.2.2.2 hq (fun a1 b1 d1 e1 => ih (a1, b1, d1, e1))) (a, b, d, e2) h
end ZR
/-- the first k places of F, behind them f -/
def z_fil {α : Type} (F f : Nat → α) (k : Nat) : Nat → α := fun j => if j < k then F j else f j
theorem z_fil_0 {α : Type} (F f : Nat → α) : z_fil F f 0 = f := by funext j; simp [z_fil]
theorem z_uL_same (σ : z_St) (i : Nat) : z_uL σ i (σ.2 i) = σ := by
  unfold z_uL
  refine Prod.ext rfl ?_
  funext a
  by_cases h : a = i
  · subst h; simp
  · simp [h]
theorem z_uI_same (σ : z_St) (i : Nat) : z_uI σ i (σ.1 i) = σ := by
  unfold z_uI
  refine Prod.ext ?_ rfl
  funext a
  by_cases h : a = i
  · subst h; simp
  · simp [h]
theorem z_fil0L (σ : z_St) (i : Nat) (F : Nat → Int64) : σ = z_uL σ i (z_fil F (σ.2 i) 0) := by rw [z_fil_0, z_uL_same]
theorem z_fil0I (σ : z_St) (i : Nat) (F : Nat → Int32) : σ = z_uI σ i (z_fil F (σ.1 i) 0) := by rw [z_fil_0, z_uI_same]
theorem z_filSL (σ : z_St) (i k : Nat) (F f : Nat → Int64) {x : Int64} (hx : x = F k) : z_ul (z_uL σ i (z_fil F f k)) i k x = z_uL σ i (z_fil F f (k + 1)) := by
  unfold z_ul z_uL
  refine Prod.ext rfl ?_
  funext a
  by_cases h : a = i
  · subst h
    simp only [if_true]
    funext j
    unfold vp_updL z_fil
    by_cases hj : j = k
    · subst hj; simp [hx]
    · by_cases h2 : j < k
      · simp [hj, h2, Nat.lt_succ_of_lt h2]
      · simp [hj, h2, show ¬ j < k + 1 by omega]
  · simp [h]
theorem z_filSI (σ : z_St) (i k : Nat) (F f : Nat → Int32) {x : Int32} (hx : x = F k) : z_ui (z_uI σ i (z_fil F f k)) i k x = z_uI σ i (z_fil F f (k + 1)) := by
  unfold z_ui z_uI
  refine Prod.ext ?_ rfl
  funext a
  by_cases h : a = i
  · subst h
    simp only [if_true]
    funext j
    unfold upd z_fil
    by_cases hj : j = k
    · subst hj; simp [hx]
    · by_cases h2 : j < k
      · simp [hj, h2, Nat.lt_succ_of_lt h2]
      · simp [hj, h2, show ¬ j < k + 1 by omega]
  · simp [h]
theorem z_fil_lt {α : Type} {F f : Nat → α} {k j : Nat} (h : j < k) : z_fil F f k j = F j := if_pos h
theorem z_fil_ge {α : Type} {F f : Nat → α} {k j : Nat} (h : k ≤ j) : z_fil F f k j = f j := if_neg (Nat.not_lt.mpr h)
/-- reading back -/
theorem z_ul2 {σ : z_St} {i j : Nat} {x : Int64} {a b : Nat} : (z_ul σ i j x).2 a b = if a = i then (if b = j then x else σ.2 i b) else σ.2 a b := by
  unfold z_ul vp_updL
  by_cases h : a = i
  · subst h; simp
  · simp [h]
theorem z_ui1 {σ : z_St} {i j : Nat} {x : Int32} {a b : Nat} : (z_ui σ i j x).1 a b = if a = i then (if b = j then x else σ.1 i b) else σ.1 a b := by
  unfold z_ui upd
  by_cases h : a = i
  · subst h; simp
  · simp [h]
theorem z_ul1 {σ : z_St} {i j : Nat} {x : Int64} : (z_ul σ i j x).1 = σ.1 := rfl
theorem z_ui2 {σ : z_St} {i j : Nat} {x : Int32} : (z_ui σ i j x).2 = σ.2 := rfl
theorem z_uL1 {σ : z_St} {i : Nat} {f : Nat → Int64} : (z_uL σ i f).1 = σ.1 := rfl
theorem z_uI2 {σ : z_St} {i : Nat} {f : Nat → Int32} : (z_uI σ i f).2 = σ.2 := rfl
theorem z_uL2 {σ : z_St} {i : Nat} {f : Nat → Int64} {a : Nat} : (z_uL σ i f).2 a = if a = i then f else σ.2 a := rfl
theorem z_uI1 {σ : z_St} {i : Nat} {f : Nat → Int32} {a : Nat} : (z_uI σ i f).1 a = if a = i then f else σ.1 a := rfl
