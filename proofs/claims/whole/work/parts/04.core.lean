/-! THE STORE: the system's cells, numbered; two functions hold the ints and the longs of each cell. -/
/-- ints (and chars), longs: cell, slot -/
abbrev z_St : Type := (Nat → Nat → Int32) × (Nat → Nat → Int64)
/-- addresses of the cells; numbers of the classes and slots; classes of arrays; addresses of the tables; the first address of ours -/
abbrev z_Gl : Type := (Nat → Nat) × (Nat → ClassId) × (Nat → Nat → Nat) × (Nat → ClassId) × (Nat → Nat) × Nat
def z_ad (G : z_Gl) : Nat → Nat := G.1
def z_dd (G : z_Gl) : va_G := (G.2.1, G.2.2.1)
def z_ca (G : z_Gl) : Nat → ClassId := G.2.2.2.1
def z_ta (G : z_Gl) : Nat → Nat := G.2.2.2.2.1
def z_lo (G : z_Gl) : Nat := G.2.2.2.2.2
def z_A (G : z_Gl) : Nat → Prop := fun q => z_lo G ≤ q
abbrev z_tys (G : z_Gl) : List (ClassId × FieldType) := [(z_ca G 0, .int), (z_ca G 1, .long), (z_ca G 2, .char), (z_ca G 3, .object RX0), (z_ca G 4, .array .long)]
/-- kind (0 object, 1 int[], 2 long[], 3 char[], 4 Circle[], 5 long[][]) and class or length of each cell -/
def z_lay : List (Nat × Nat) := [
  (0, 7),
  (0, 2), (1, 288), (1, 24), (2, 24),
  (0, 5), (1, 24), (1, 24),
  (0, 1), (5, 21),
  (2, 24), (2, 24), (2, 24), (2, 24), (2, 24), (2, 24), (2, 24), (2, 24), (2, 24), (2, 24), (2, 24), (2, 24), (2, 24), (2, 24), (2, 24), (2, 24), (2, 24), (2, 24), (2, 24), (2, 24), (2, 24),
  (4, 4),
  (0, 6), (5, 6), (2, 24), (2, 24), (2, 24), (2, 24), (2, 24), (2, 24), (1, 6), (2, 6), (2, 6), (2, 6),
  (0, 3), (1, 8), (1, 8), (1, 8), (1, 8), (4, 8),
  (0, 0), (2, 24), (2, 24), (1, 24), (0, 0), (2, 24), (2, 24), (1, 24), (0, 0), (2, 24), (2, 24), (1, 24), (0, 0), (2, 24), (2, 24), (1, 24),
  (0, 0), (2, 24), (2, 24), (1, 24), (0, 0), (2, 24), (2, 24), (1, 24), (0, 0), (2, 24), (2, 24), (1, 24), (0, 0), (2, 24), (2, 24), (1, 24),
  (0, 4), (3, 200), (1, 67), (1, 67), (1, 67), (1, 67),
  (2, 24),
  (0, 0), (2, 24), (2, 24), (1, 24), (0, 0), (2, 24), (2, 24), (1, 24), (0, 0), (2, 24), (2, 24), (1, 24), (0, 0), (2, 24), (2, 24), (1, 24),
  (0, 8), (1, 7), (1, 288), (2, 24), (2, 24), (2, 480), (2, 480), (1, 8), (1, 8), (2, 24), (2, 144), (1, 6), (1, 32), (3, 200), (1, 48)]
def z_kd (i : Nat) : Nat := (z_lay.getD i (9, 0)).1
def z_sz (i : Nat) : Nat := (z_lay.getD i (9, 0)).2
/-- the cell that place j of a cell of references holds -/
def z_rf (i j : Nat) : Nat := if i = 9 then 10 + j else if i = 31 then 89 + 4 * j else if i = 33 then 34 + j else 50 + 4 * j
/-- the values of an object's fields -/
def z_fl (G : z_Gl) (i : Nat) (f : Nat → Int32) (g : Nat → Int64) (c : Nat) : List Value := match c with
  | 0 => [.ref (z_ad G (i + 1)), .ref (z_ad G (i + 2)), .ref (z_ad G (i + 3)), .int (f 3), .int (f 4), .long (g 5), .long (g 6), .long (g 7), .long (g 8)]
  | 1 => [.ref (z_ad G 9), .int (f 1), .int (f 2), .int (f 3)]
  | 2 => [.ref (z_ad G 2), .ref (z_ad G 3), .ref (z_ad G 4), .int (f 3), .int (f 4)]
  | 3 => [.ref (z_ad G 45), .ref (z_ad G 46), .ref (z_ad G 47), .ref (z_ad G 48), .ref (z_ad G 49), .int (f 5)]
  | 4 => [.ref (z_ad G 83), .ref (z_ad G 84), .ref (z_ad G 85), .ref (z_ad G 86), .ref (z_ad G 87), .int (f 5), .int (f 6), .int (f 7), .int (f 8), .int (f 9)]
  | 5 => [.ref (z_ad G 6), .ref (z_ad G 7), .int (f 2), .int (f 3)]
  | 6 => [.ref (z_ad G 33), .ref (z_ad G 40), .ref (z_ad G 41), .ref (z_ad G 42), .ref (z_ad G 43), .int (f 5)]
  | 7 => [.ref (z_ad G 1), .ref (z_ad G 5), .ref (z_ad G 8), .ref (z_ad G 31), .ref (z_ad G 32), .ref (z_ad G 44), .ref (z_ad G 82), .ref (z_ad G 88)]
  | _ => [.ref (z_ad G 106), .int (f 1), .int (f 2), .ref (z_ad G 107), .ref (z_ad G 108), .ref (z_ad G 109), .ref (z_ad G 110), .ref (z_ad G 111), .int (f 8), .int (f 9), .long (g 10), .long (g 11), .long (g 12), .long (g 13), .ref (z_ad G 112), .ref (z_ad G 113), .ref (z_ad G 114), .int (f 17), .ref (z_ad G 115), .ref (z_ad G 116), .int (f 20), .ref (z_ad G 117), .int (f 22), .ref (z_ad G 118), .int (f 24), .int (f 25), .int (f 26), .ref (z_ad G 119), .int (f 28), .int (f 29)]
/-- what a cell holds, given its ints and longs -/
def z_E (G : z_Gl) (i : Nat) (f : Nat → Int32) (g : Nat → Int64) : va_E := match z_kd i with
  | 0 => .inr (z_sz i, z_fl G i f g (z_sz i))
  | 1 => .inl (z_ca G 0, z_sz i, .inl f)
  | 2 => .inl (z_ca G 1, z_sz i, .inr (.inl g))
  | 3 => .inl (z_ca G 2, z_sz i, .inl f)
  | 4 => .inl (z_ca G 3, z_sz i, .inr (.inr (.inr (.inr (fun j => some (z_ad G (z_rf i j)))))))
  | _ => .inl (z_ca G 4, z_sz i, .inr (.inr (.inr (.inr (fun j => some (z_ad G (z_rf i j)))))))
theorem z_E0 {G : z_Gl} {i c : Nat} {f : Nat → Int32} {g : Nat → Int64} (h : z_kd i = 0) (hc : z_sz i = c) : z_E G i f g = .inr (c, z_fl G i f g c) := by unfold z_E; rw [h, hc]; rfl
theorem z_E1 {G : z_Gl} {i n : Nat} {f : Nat → Int32} {g : Nat → Int64} (h : z_kd i = 1) (hc : z_sz i = n) : z_E G i f g = .inl (z_ca G 0, n, .inl f) := by unfold z_E; rw [h, hc]; rfl
theorem z_E2 {G : z_Gl} {i n : Nat} {f : Nat → Int32} {g : Nat → Int64} (h : z_kd i = 2) (hc : z_sz i = n) : z_E G i f g = .inl (z_ca G 1, n, .inr (.inl g)) := by unfold z_E; rw [h, hc]; rfl
theorem z_E3 {G : z_Gl} {i n : Nat} {f : Nat → Int32} {g : Nat → Int64} (h : z_kd i = 3) (hc : z_sz i = n) : z_E G i f g = .inl (z_ca G 2, n, .inl f) := by unfold z_E; rw [h, hc]; rfl
theorem z_E4 {G : z_Gl} {i n : Nat} {f : Nat → Int32} {g : Nat → Int64} (h : z_kd i = 4) (hc : z_sz i = n) : z_E G i f g = .inl (z_ca G 3, n, .inr (.inr (.inr (.inr (fun j => some (z_ad G (z_rf i j))))))) := by unfold z_E; rw [h, hc]; rfl
theorem z_E5 {G : z_Gl} {i n : Nat} {f : Nat → Int32} {g : Nat → Int64} (h : z_kd i = 5) (hc : z_sz i = n) : z_E G i f g = .inl (z_ca G 4, n, .inr (.inr (.inr (.inr (fun j => some (z_ad G (z_rf i j))))))) := by unfold z_E; rw [h, hc]; rfl
theorem z_kd_lt {i k : Nat} (h : z_kd i = k) (hk : k < 9) : i < 120 := by
  rcases Nat.lt_or_ge i 120 with q | q
  · exact q
  · have : z_kd i = 9 := by
      unfold z_kd
      rw [List.getD_eq_getElem?_getD, List.getElem?_eq_none (by show 120 ≤ i; exact q)]
      rfl
    omega
/-- the world -/
def z_W (G : z_Gl) (σ : z_St) : va_W := (List.range 120).map (fun i => (z_ad G i, z_E G i (σ.1 i) (σ.2 i)))
theorem z_W_at {G : z_Gl} {σ : z_St} {i : Nat} (h : i < 120) : (z_W G σ)[i]? = some (z_ad G i, z_E G i (σ.1 i) (σ.2 i)) := by
  unfold z_W
  rw [List.getElem?_map, List.getElem?_range h]
  rfl
/-- a place of a cell of ints, of longs, a whole cell -/
def z_ui (σ : z_St) (i j : Nat) (x : Int32) : z_St := (fun a => if a = i then upd (σ.1 a) j x else σ.1 a, σ.2)
def z_ul (σ : z_St) (i j : Nat) (x : Int64) : z_St := (σ.1, fun a => if a = i then vp_updL (σ.2 a) j x else σ.2 a)
def z_uI (σ : z_St) (i : Nat) (f : Nat → Int32) : z_St := (fun a => if a = i then f else σ.1 a, σ.2)
def z_uL (σ : z_St) (i : Nat) (f : Nat → Int64) : z_St := (σ.1, fun a => if a = i then f else σ.2 a)
theorem z_W_set {G : z_Gl} {σ σ' : z_St} {i : Nat} {e : va_E} (he : z_E G i (σ'.1 i) (σ'.2 i) = e) (h1 : ∀ a, a ≠ i → σ'.1 a = σ.1 a) (h2 : ∀ a, a ≠ i → σ'.2 a = σ.2 a) : (z_W G σ).set i (z_ad G i, e) = z_W G σ' := by
  subst he
  apply List.ext_getElem?
  intro k
  rw [List.getElem?_set]
  unfold z_W
  rw [List.getElem?_map, List.getElem?_map, List.length_map, List.length_range]
  by_cases hk : k < 120
  · rw [List.getElem?_range hk]
    by_cases e : i = k
    · subst e
      simp [hk]
    · have e' : k ≠ i := fun z => e z.symm
      simp [e, h1 k e', h2 k e']
  · have hn : (List.range 120)[k]? = none := List.getElem?_eq_none (by rw [List.length_range]; omega)
    rw [hn]
    by_cases e : i = k
    · subst e
      simp [hk]
    · simp [e]
/-- the cells are apart, and ours -/
def z_wf (G : z_Gl) : Prop := (∀ i j, i < 120 → j < 120 → z_ad G i = z_ad G j → i = j) ∧ ∀ i, i < 120 → z_lo G ≤ z_ad G i
theorem z_wf.D {G : z_Gl} (h : z_wf G) (σ : z_St) : va_D (z_A G) (z_W G σ) := by
  have key : ∀ (k : Nat) (q : Nat × va_E), (z_W G σ)[k]? = some q → k < 120 ∧ q.1 = z_ad G k := by
    intro k q hq
    by_cases hk : k < 120
    · rw [z_W_at hk] at hq
      cases hq
      exact ⟨hk, rfl⟩
    · unfold z_W at hq
      rw [List.getElem?_map, List.getElem?_eq_none (by rw [List.length_range]; omega)] at hq
      cases hq
  refine ⟨fun i j p q hi hj hpq => ?_, fun k q hq => ?_⟩
  · obtain ⟨a1, a2⟩ := key i p hi
    obtain ⟨b1, b2⟩ := key j q hj
    exact h.1 i j a1 b1 (by rw [← a2, ← b2]; exact hpq)
  · obtain ⟨a1, a2⟩ := key k q hq
    show z_lo G ≤ q.1
    rw [a2]
    exact h.2 k a1
/-- the tables of the class: cosines, sines, and the eight ways -/
def z_cosL : List Int32 := [1000000, 965926, 866025, 707107, 500000, 258819, 0, -258819, -500000, -707107, -866025, -965926, -1000000, -965926, -866025, -707107, -500000, -258819, 0, 258819, 500000, 707107, 866025, 965926]
def z_sinL : List Int32 := [0, 258819, 500000, 707107, 866025, 965926, 1000000, 965926, 866025, 707107, 500000, 258819, 0, -258819, -500000, -707107, -866025, -965926, -1000000, -965926, -866025, -707107, -500000, -258819]
def z_toxL : List Int32 := [1, 1, 0, -1, -1, -1, 0, 1]
def z_toyL : List Int32 := [0, 1, 1, 1, 0, -1, -1, -1]
def z_cos (k : Nat) : Int32 := z_cosL.getD k 0
def z_sin (k : Nat) : Int32 := z_sinL.getD k 0
def z_tox (k : Nat) : Int32 := z_toxL.getD k 0
def z_toy (k : Nat) : Int32 := z_toyL.getD k 0
def z_tv (t : Nat) : Nat → Int32 := match t with
  | 0 => z_cos
  | 1 => z_sin
  | 2 => z_tox
  | _ => z_toy
def z_tN (t : Nat) : Nat := if t < 2 then 24 else 8
def z_tC (t : Nat) : String := if t < 2 then RX7 else RX0
def z_tn (t : Nat) : String := match t with
  | 0 => "COSINES"
  | 1 => "SINES"
  | 2 => "TO_X"
  | _ => "TO_Y"
/-- links of nest mates -/
def z_nm : List (String × Nat × MethodName) := [(RX7, 11, yX2_init), (RX7, 20, yX5_init), (RX7, 27, yX1_init), (RX7, 40, yX6_init), (RX7, 47, yX3_init), (RX3, 32, yX0_init), (RX7, 54, yX4_init), (RX7, 63, yX0_init), (RX7, 73, yX2_begin), (RX7, 81, yX2_isComplete), (RX7, 86, yX2_append), (RX7, 89, yX2_nextPosition), (RX7, 93, yX2_finishedSteps), (RX7, 96, yX2_turnOf), (RX7, 100, yX5_readingAt), (RX5, 49, yX7_place), (RX5, 52, yX7_wave), (RX5, 45, yX7_clamp), (RX7, 111, yX2_at), (RX7, 114, yX2_replaceSpikes), (RX2, 41, yX7_place), (RX7, 119, yX2_partAt), (RX2, 60, yX7_divide), (RX7, 123, yX2_spindleAt), (RX7, 126, yX2_greatestResidual), (RX7, 320, yX5_profileOf), (RX7, 342, yX1_append), (RX1, 30, yX7_isSame), (RX7, 140, yX1_present), (RX7, 175, yX1_stepBack), (RX7, 181, yX1_stepForward), (RX7, 345, yX0_fit), (RX0, 42, yX7_isSame), (RX0, 52, yX7_coefficient), (RX0, 112, yX7_wave), (RX7, 210, yX0_width), (RX7, 221, yX0_firstWith), (RX7, 227, yX0_countDownTo), (RX7, 230, yX0_leastDepth), (RX7, 233, yX6_hasHeight), (RX7, 238, yX6_append), (RX6, 44, yX7_coefficient), (RX7, 241, yX6_lacks), (RX6, 34, yX7_isOutside), (RX7, 267, yX6_axisAt), (RX6, 48, yX7_divide), (RX7, 271, yX6_cylinderWidth), (RX6, 62, yX7_wave), (RX7, 274, yX6_farthest), (RX7, 277, yX6_spreadOfMeans), (RX7, 280, yX6_mismatch), (RX6, 82, yX7_place), (RX7, 284, yX6_bestMatch), (RX7, 288, yX3_append), (RX7, 302, yX4_append), (RX7, 305, yX4_parse), (RX4, 83, yX7_isOutside), (RX4, 77, yX7_isStepCount), (RX7, 311, yX5_reset), (RX7, 328, yX5_shiftTo), (RX7, 324, yX5_superpose), (RX5, 33, yX7_cosine)]
def z_nf : List (String × Nat × String × String × String) := [(RX7, 104, "RoundnessInstrument$Measurement", "steps", "I"), (RX7, 69, "RoundnessInstrument$Measurement", "count", "I"), (RX7, 178, "RoundnessInstrument$History", "undoable", "I"), (RX7, 184, "RoundnessInstrument$History", "redoable", "I"), (RX7, 244, "RoundnessInstrument$Traces", "profiles", "[[J"), (RX7, 254, "RoundnessInstrument$Traces", "heights", "[I"), (RX7, 258, "RoundnessInstrument$Traces", "xs", "[J"), (RX7, 261, "RoundnessInstrument$Traces", "ys", "[J"), (RX7, 264, "RoundnessInstrument$Traces", "means", "[J"), (RX7, 236, "RoundnessInstrument$Traces", "count", "I"), (RX7, 205, "RoundnessInstrument$Circle", "deviations", "[J"), (RX7, 202, "RoundnessInstrument$Circle", "x", "J"), (RX7, 198, "RoundnessInstrument$Circle", "y", "J"), (RX7, 215, "RoundnessInstrument$Circle", "greatest", "J"), (RX7, 218, "RoundnessInstrument$Circle", "least", "J"), (RX7, 348, "RoundnessInstrument$Rules", "firsts", "[I"), (RX7, 351, "RoundnessInstrument$Rules", "lasts", "[I"), (RX7, 355, "RoundnessInstrument$Rules", "methods", "[I"), (RX7, 294, "RoundnessInstrument$Rules", "limits", "[I"), (RX7, 354, "RoundnessInstrument$Rules", "circles", "[LRoundnessInstrument$Circle;"), (RX7, 287, "RoundnessInstrument$Rules", "count", "I"), (RX7, 362, "RoundnessInstrument$Script", "kinds", "[I"), (RX7, 358, "RoundnessInstrument$Script", "firsts", "[I"), (RX7, 359, "RoundnessInstrument$Script", "seconds", "[I"), (RX7, 365, "RoundnessInstrument$Script", "thirds", "[I"), (RX7, 299, "RoundnessInstrument$Script", "length", "I"), (RX7, 314, "RoundnessInstrument$Script", "items", "I"), (RX7, 308, "RoundnessInstrument$Script", "fault", "I"), (RX0, 93, "RoundnessInstrument", "COSINES", "[I"), (RX0, 96, "RoundnessInstrument", "SINES", "[I")]
def z_N (U : State) : Prop := (∀ q ∈ z_nm, va_Nw (.methodLinkNest q.1 q.2.1 q.2.2 RX7) U) ∧ ∀ q ∈ z_nf, va_Nw (.fieldLinkNest q.1 q.2.1 q.2.2.1 q.2.2.2.1 q.2.2.2.2 RX7) U
theorem z_N.warm {s U : State} (h : z_N s) (hW : s.WarmedH U.vm) : z_N U := ⟨fun q hq => va_Nw.warmM hW (h.1 q hq), fun q hq => va_Nw.warmF hW (h.2 q hq)⟩
theorem z_N.same {s U : State} (h : z_N s) (hv : s.vm = U.vm) : z_N U := ⟨fun q hq => va_Nw.same rfl hv (h.1 q hq), fun q hq => va_Nw.same rfl hv (h.2 q hq)⟩
/-- what is known of a state beside the store -/
def z_U (G : z_Gl) (U : State) : Prop := va_K (z_dd G) vwCl (z_tys G) U ∧ z_wf G ∧ (∀ t, t < 4 → va_Z (z_tC t) (z_tn t) "[I" (.ref (z_ta G t)) (z_A G) U U.heap ∧ va_T .int (z_ta G t) (z_tN t) (fun j => .int (z_tv t j)) (z_A G) U U.heap) ∧ z_N U
theorem z_U.go {G : z_Gl} {s U : State} {H : Heap} {locs : List Loc} (h : z_U G s) (hS : va_S (z_A G) s.heap H locs) (hU : U.heap = H) (hW : s.WarmedH U.vm) : z_U G U := by
  obtain ⟨h1, h2, h3, h4⟩ := h
  have hk : ∀ a : Nat, a < s.heap.size → ¬ z_A G a → U.heap[a]? = s.heap[a]? := fun a ha hn => by rw [hU]; exact hS.2.1 a ha hn
  exact ⟨va_K.moved hW.alike h1, h2, fun t ht => ⟨((h3 t ht).1.moved hW.alike).kept hk, ((h3 t ht).2.moved hW.alike).kept hk⟩, h4.warm hW⟩
def z_P (G : z_Gl) (σ : z_St) (H : Heap) : Prop := va_P (z_dd G) vwCl (z_W G σ) H
def z_PW (G : z_Gl) (av : List Value) (σ : z_St) : Array Value → State → Prop := fun v U => v = av.toArray ∧ z_P G σ U.heap ∧ z_U G U
def z_QW (G : z_Gl) (post : Option Value → z_St → Prop) : Array Value → State → Outcome → State → Prop := fun _ st oc t => (∃ (v : Option Value) (σ : z_St), oc = .returned v ∧ post v σ ∧ z_P G σ t.heap) ∧ va_F (z_A G) st t
theorem z_PW.blind {G : z_Gl} {av : List Value} {σ : z_St} : FrameBlind (z_PW G av σ) := fun a U g mk q => by
  obtain ⟨q0, q1, q2, q3, q4, q5⟩ := q
  exact ⟨q0, q1, va_K.moved (u := U) (U := U.calling g mk a) (Vm.Alike.refl U.vm) q2, q3, fun t ht => ⟨(q4 t ht).1.moved (u := U) (U := U.calling g mk a) (Vm.Alike.refl U.vm), (q4 t ht).2.moved (u := U) (U := U.calling g mk a) (Vm.Alike.refl U.vm)⟩, q5.same rfl⟩
/-- A METHOD'S CONTRACT over the store -/
def z_M (l : Launch) (G : z_Gl) (y : MethodName) (cc : ByteArray) (n : Nat) (ret : Option FieldType) (rm : Room) (av : List Value) (σ : z_St) (post : Option Value → z_St → Prop) : Prop := Met l y (.code y cc n ret :: z_tb) rm (z_PW G av σ) (z_QW G post) 0 0 (z_A G)
/-- THE JUDGEMENT: from here, with this store, these locals, this stack, the machine comes to Q -/
def z_V (p : Program) (l : Launch) (e : Env) (R : Room) (s : State) (m : MethodId) (args : Array Value) (below : List Frame) (meth : Method) (c : Code) (G : z_Gl) (ce sl : Nat) (Q : State → Prop) (nL pc : Nat) (lv : List (Nat × Value)) (st : List Value) (σ : z_St) : Prop :=
  ∀ (H : Heap) (locs : List Loc) (ls : Array Slot), z_P G σ H → va_S (z_A G) s.heap H locs → lv_has ls nL lv → W p l e R s m args below meth c H locs ce sl Q (F0 m pc ls st)
/-- what holds in a method's body -/
def z_C (p : Program) (s : State) (m : MethodId) (args : Array Value) (meth : Method) (c : Code) (G : z_Gl) (cc : ByteArray) (nL : Nat) (own : String) (ret : Option FieldType) : Prop :=
  p.tables.exec = Jvm.exec ∧ c.code = cc ∧ c.maxLocals = nL ∧ s.vm.findClass own = some m.cls ∧ (∀ w ∈ z_tb, w.before args s = true) ∧ z_U G s ∧ meth.sig.returnType = ret ∧ meth.locks = false
/-- a contract out of its body -/
theorem z_M.of {l : Launch} {G : z_Gl} {y : MethodName} {cc : ByteArray} {n : Nat} {ret : Option FieldType} {rm : Room} {av : List Value} {σ : z_St} {post : Option Value → z_St → Prop} (hy : plainName y.cls = true) (hn : (lg_sl av).length ≤ n)
    (body : ∀ (p : Program) (e : Env) (s : State) (m : MethodId) (below : List Frame) (meth : Method) (c : Code), z_C p s m av.toArray meth c G cc n y.cls ret → z_V p l e rm s m av.toArray below meth c G 0 0 (MQ below (z_QW G post) av.toArray s 0 0 (z_A G)) n 0 (lv_args 0 av) [] σ) : z_M l G y cc n ret rm av σ post := by
  refine Met.ofW (cc := cc) (maxL := n) (ret := ret) hy rfl ?_
  intro p e s m args below meth c s₁ B hml hv
  obtain ⟨rfl, hP, hU⟩ := hv
  have hts := atoms_spec (ws := .code y cc n ret :: z_tb) B.pre
  have hown : s.vm.findClass y.cls = some m.cls := findClass_of_methodNamed B.named
  rw [lg_entry_eq]
  exact body p e s m below meth c ⟨B.exec, B.bytes, hml, hown, fun w h => hts w (List.mem_cons_of_mem _ h), hU, B.returns, B.notSynchronized⟩ s.heap [] _ hP va_S.rf (lv_entry av hn)
