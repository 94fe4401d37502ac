/-! THE BUILDER: cells one behind another, from the first address of ours -/
def y_W : Nat → List va_E → va_W
  | _, [] => []
  | a, e :: l => (a, e) :: y_W (a + 1) l
theorem y_W_at (a : Nat) (l : List va_E) (k : Nat) : (y_W a l)[k]? = (l[k]?).map (fun e => (a + k, e)) := by
  induction l generalizing a k with
  | nil => simp [y_W]
  | cons e l ih =>
    cases k with
    | zero => simp [y_W]
    | succ k =>
      simp only [y_W, List.getElem?_cons_succ]
      rw [ih, show a + 1 + k = a + (k + 1) by omega]
theorem y_W_set (a : Nat) (l : List va_E) (k : Nat) (e : va_E) : (y_W a l).set k (a + k, e) = y_W a (l.set k e) := by
  induction l generalizing a k with
  | nil => rfl
  | cons x l ih =>
    cases k with
    | zero => rfl
    | succ k =>
      show (a, x) :: (y_W (a + 1) l).set k (a + (k + 1), e) = (a, x) :: y_W (a + 1) (l.set k e)
      rw [← ih, show a + 1 + k = a + (k + 1) by omega]
def y_P (G : z_Gl) (l : List va_E) (H : Heap) : Prop := H.size = z_lo G + l.length ∧ va_P (z_dd G) vwCl (y_W (z_lo G) l) H
theorem y_P.at {G : z_Gl} {l : List va_E} {H : Heap} (h : y_P G l H) {k : Nat} {e : va_E} (he : l[k]? = some e) : va_at (z_dd G) vwCl (z_lo G + k, e) H := h.2 k _ (by rw [y_W_at, he]; rfl)
theorem y_P.of {G : z_Gl} {l : List va_E} {H : Heap} (h0 : H.size = z_lo G + l.length) (h : ∀ (k : Nat) (e : va_E), l[k]? = some e → va_at (z_dd G) vwCl (z_lo G + k, e) H) : y_P G l H := by
  refine ⟨h0, fun k q hq => ?_⟩
  rw [y_W_at, Option.map_eq_some_iff] at hq
  obtain ⟨e, h1, rfl⟩ := hq
  exact h k e h1
theorem y_D (G : z_Gl) (l : List va_E) : va_D (z_A G) (y_W (z_lo G) l) := by
  refine ⟨fun i j p q hi hj hpq => ?_, fun k q hq => ?_⟩
  · rw [y_W_at, Option.map_eq_some_iff] at hi hj
    obtain ⟨e, -, rfl⟩ := hi
    obtain ⟨e', -, rfl⟩ := hj
    have hpq : z_lo G + i = z_lo G + j := hpq
    omega
  · rw [y_W_at, Option.map_eq_some_iff] at hq
    obtain ⟨e, -, rfl⟩ := hq
    exact Nat.le_add_right _ _
/-- behind what is new: the old cells stand, the new ones are as they are said -/
theorem y_P.push {G : z_Gl} {l r : List va_E} {H H1 : Heap} (h : y_P G l H) (h0 : H1.size = H.size + r.length) (h1 : ∀ q, q < H.size → H1[q]? = H[q]?) (h2 : ∀ (k : Nat) (e : va_E), r[k]? = some e → va_at (z_dd G) vwCl (H.size + k, e) H1) : y_P G (l ++ r) H1 := by
  refine y_P.of (by rw [h0, h.1, List.length_append]; omega) (fun k e he => ?_)
  by_cases hk : k < l.length
  · rw [List.getElem?_append_left hk] at he
    exact (h.at he).kept (h1 _ (by show z_lo G + k < _; rw [h.1]; omega))
  · rw [List.getElem?_append_right (by omega)] at he
    have := h2 _ e he
    rw [h.1, show z_lo G + l.length + (k - l.length) = z_lo G + k by omega] at this
    exact this
theorem y_S {G : z_Gl} {s : State} {H H1 : Heap} {locs L : List Loc} {l : List va_E} (hS : va_S (z_A G) s.heap H locs) (hP : y_P G l H) (h0 : H.size ≤ H1.size) (h1 : ∀ q, q < H.size → H1[q]? = H[q]?) (hL : ∀ q ∈ L, q.base = H.size) : va_S (z_A G) s.heap H1 (locs ++ L) := by
  refine ⟨Nat.le_trans hS.1 h0, fun q a b => (h1 q (Nat.lt_of_lt_of_le a hS.1)).trans (hS.2.1 q a b), fun q hq => ?_⟩
  rcases List.mem_append.mp hq with z | z
  · exact hS.2.2 q z
  · show z_lo G ≤ q.base
    rw [hL q z, hP.1]
    exact Nat.le_add_right _ _
def y_U (G : z_Gl) (U : State) : Prop := z_U G U ∧ va_AO RX0 U ∧ y_AA U
theorem y_U.go {G : z_Gl} {s U : State} {H : Heap} {locs : List Loc} (h : y_U G s) (hS : va_S (z_A G) s.heap H locs) (hU : U.heap = H) (hW : s.WarmedH U.vm) : y_U G U := ⟨h.1.go hS hU hW, h.2.1.moved hW.alike, h.2.2.moved hW.alike⟩
def y_PW (G : z_Gl) (av : List Value) (l : List va_E) : Array Value → State → Prop := fun v U => v = av.toArray ∧ y_P G l U.heap ∧ y_U G U
def y_QW (G : z_Gl) (l : List va_E) : Array Value → State → Outcome → State → Prop := fun _ st oc t => (oc = .returned none ∧ y_P G l t.heap) ∧ va_F (z_A G) st t
theorem y_PW.blind {G : z_Gl} {av : List Value} {l : List va_E} : FrameBlind (y_PW G av l) := fun a U g mk q => by
  obtain ⟨q0, q1, ⟨q2, q3, q4, q5⟩, q6, q7⟩ := q
  exact ⟨q0, q1, ⟨va_K.moved (u := U) (U := U.calling g mk a) (Vm.Alike.refl U.vm) q2, q3, fun t ht => ⟨(q4 t ht).1.moved (u := U) (U := U.calling g mk a) (Vm.Alike.refl U.vm), (q4 t ht).2.moved (u := U) (U := U.calling g mk a) (Vm.Alike.refl U.vm)⟩, q5.same rfl⟩, va_AO.moved (u := U) (U := U.calling g mk a) (Vm.Alike.refl U.vm) q6, y_AA.moved (u := U) (U := U.calling g mk a) (Vm.Alike.refl U.vm) q7⟩
/-- A CONSTRUCTOR'S CONTRACT: from these cells to those -/
def y_M (l0 : Launch) (G : z_Gl) (y : MethodName) (cc : ByteArray) (n : Nat) (rm : Room) (av : List Value) (l l1 : List va_E) (mc ms : Nat) : Prop := Met l0 y (.code y cc n none :: z_tb) rm (y_PW G av l) (y_QW G l1) mc ms (z_A G)
def y_V (p : Program) (l0 : Launch) (e : Env) (R : Room) (s : State) (m : MethodId) (args : Array Value) (below : List Frame) (meth : Method) (c : Code) (G : z_Gl) (ce sl : Nat) (Q : State → Prop) (nL pc : Nat) (lv : List (Nat × Value)) (st : List Value) (l : List va_E) : Prop :=
  ∀ (H : Heap) (locs : List Loc) (ls : Array Slot), y_P G l H → va_S (z_A G) s.heap H locs → lv_has ls nL lv → W p l0 e R s m args below meth c H locs ce sl Q (F0 m pc ls st)
def y_C (p : Program) (s : State) (m : MethodId) (args : Array Value) (meth : Method) (c : Code) (G : z_Gl) (cc : ByteArray) (nL : Nat) (own : String) (ret : Option FieldType) : Prop :=
  z_C p s m args meth c G cc nL own ret ∧ va_AO RX0 s ∧ y_AA s
theorem y_M.of {l0 : Launch} {G : z_Gl} {y : MethodName} {cc : ByteArray} {n : Nat} {rm : Room} {av : List Value} {l l1 : List va_E} {mc ms : Nat} (hy : plainName y.cls = true) (hn : (lg_sl av).length ≤ n)
    (body : ∀ (p : Program) (e : Env) (s : State) (m : MethodId) (below : List Frame) (meth : Method) (c : Code), y_C p s m av.toArray meth c G cc n y.cls none → meth.name = y.name → s.heap.size = z_lo G + l.length → y_V p l0 e rm s m av.toArray below meth c G 0 0 (MQ below (y_QW G l1) av.toArray s mc ms (z_A G)) n 0 (lv_args 0 av) [] l) : y_M l0 G y cc n rm av l l1 mc ms := by
  refine Met.ofW (cc := cc) (maxL := n) (ret := none) hy rfl ?_
  intro p e s m args below meth c s₁ B hml hv
  obtain ⟨rfl, hP, hU⟩ := hv
  have hts := atoms_spec (ws := .code y cc n none :: z_tb) B.pre
  have hown : s.vm.findClass y.cls = some m.cls := findClass_of_methodNamed B.named
  have hname : meth.name = y.name := (name_of_methodNamed B.named B.method).1
  rw [lg_entry_eq]
  exact body p e s m below meth c ⟨⟨B.exec, B.bytes, hml, hown, fun w h => hts w (List.mem_cons_of_mem _ h), hU.1, B.returns, B.notSynchronized⟩, hU.2⟩ hname hP.1 s.heap [] _ hP va_S.rf (lv_entry av hn)
section YR
variable {p : Program} {l0 : Launch} {e : Env} {R : Room} {s : State} {m : MethodId} {args : Array Value} {below : List Frame} {meth : Method} {c : Code} {G : z_Gl} {ce sl : Nat} {Q : State → Prop} {nL : Nat} {lv : List (Nat × Value)} {st : List Value} {l : List va_E} {cc : ByteArray} {own : String} {ret : Option FieldType}
theorem y_iconst (pc : Nat) (C : y_C p s m args meth c G cc nL own ret) {n : Int} (hd : decode cc pc = .ok (.iconst n, 1)) (v : Int32) (hv : Int32.ofInt n = v) (k : y_V p l0 e R s m args below meth c G ce sl Q nL (pc + 1) lv (.int v :: st) l) : y_V p l0 e R s m args below meth c G ce sl Q nL pc lv (st) l := fun H locs ls h1 h2 h3 => lv_iconst C.1.1 C.1.2.1 hd hv (k H locs ls h1 h2 h3)
theorem y_bipush (pc : Nat) (C : y_C p s m args meth c G cc nL own ret) {n : Int} (hd : decode cc pc = .ok (.bipush n, 2)) (v : Int32) (hv : (Int8.ofInt n).toInt32 = v) (k : y_V p l0 e R s m args below meth c G ce sl Q nL (pc + 2) lv (.int v :: st) l) : y_V p l0 e R s m args below meth c G ce sl Q nL pc lv (st) l := fun H locs ls h1 h2 h3 => lv_bipush C.1.1 C.1.2.1 hd hv (k H locs ls h1 h2 h3)
theorem y_sipush (pc : Nat) (C : y_C p s m args meth c G cc nL own ret) {n : Int} (hd : decode cc pc = .ok (.sipush n, 3)) (v : Int32) (hv : (Int16.ofInt n).toInt32 = v) (k : y_V p l0 e R s m args below meth c G ce sl Q nL (pc + 3) lv (.int v :: st) l) : y_V p l0 e R s m args below meth c G ce sl Q nL pc lv (st) l := fun H locs ls h1 h2 h3 => lv_sipush C.1.1 C.1.2.1 hd hv (k H locs ls h1 h2 h3)
theorem y_lconst (pc : Nat) (C : y_C p s m args meth c G cc nL own ret) {n : Fin 2} (hd : decode cc pc = .ok (.lconst n, 1)) (v : Int64) (hv : Int64.ofNat (n : Nat) = v) (k : y_V p l0 e R s m args below meth c G ce sl Q nL (pc + 1) lv (.long v :: st) l) : y_V p l0 e R s m args below meth c G ce sl Q nL pc lv (st) l := fun H locs ls h1 h2 h3 => lv_lconst C.1.1 C.1.2.1 hd hv (k H locs ls h1 h2 h3)
theorem y_ldc (pc : Nat) (C : y_C p s m args meth c G cc nL own ret) {i : Nat} {v : Int32} (hd : decode cc pc = .ok (.ldc i, 2)) (hq : Cond.constant own i v ∈ z_tb) (k : y_V p l0 e R s m args below meth c G ce sl Q nL (pc + 2) lv (.int v :: st) l) : y_V p l0 e R s m args below meth c G ce sl Q nL pc lv (st) l := fun H locs ls h1 h2 h3 => lv_ldc C.1.1 C.1.2.1 C.1.2.2.2.1 (C.1.2.2.2.2.1 _ hq) hd (k H locs ls h1 h2 h3)
theorem y_iload_n (pc : Nat) (C : y_C p s m args meth c G cc nL own ret) {i : Fin 4} {x : Int32} (hd : decode cc pc = .ok (.iload_n i, 1)) (j : Nat) (hl : lv[j]? = some ((i : Nat), .int x)) (k : y_V p l0 e R s m args below meth c G ce sl Q nL (pc + 1) lv (.int x :: st) l) : y_V p l0 e R s m args below meth c G ce sl Q nL pc lv (st) l := fun H locs ls h1 h2 h3 => lv_iload_n C.1.1 C.1.2.1 hd rfl (lv_at h3 j hl) (k H locs ls h1 h2 h3)
theorem y_aload_n (pc : Nat) (C : y_C p s m args meth c G cc nL own ret) {i : Fin 4} {x : Nat} (hd : decode cc pc = .ok (.aload_n i, 1)) (j : Nat) (hl : lv[j]? = some ((i : Nat), .ref x)) (k : y_V p l0 e R s m args below meth c G ce sl Q nL (pc + 1) lv (.ref x :: st) l) : y_V p l0 e R s m args below meth c G ce sl Q nL pc lv (st) l := fun H locs ls h1 h2 h3 => lv_aload_n C.1.1 C.1.2.1 hd rfl (lv_at h3 j hl) (k H locs ls h1 h2 h3)
theorem y_istore_n (pc : Nat) (C : y_C p s m args meth c G cc nL own ret) {i : Fin 4} {x : Int32} (hd : decode cc pc = .ok (.istore_n i, 1)) (lv1 : List (Nat × Value)) (hn : (i : Nat) < nL) (hl : ((i : Nat), Value.int x) :: lv.filter (fun q => !(q.1 == (i : Nat)) && !(q.1 + 1 == (i : Nat) && q.2.category == 2)) = lv1) (k : y_V p l0 e R s m args below meth c G ce sl Q nL (pc + 1) lv1 (st) l) : y_V p l0 e R s m args below meth c G ce sl Q nL pc lv (.int x :: st) l := fun H locs ls h1 h2 h3 => lv_istore_n C.1.1 C.1.2.1 hd rfl h3 hn hl (fun ls1 g => k H locs ls1 h1 h2 g)
theorem y_astore_n (pc : Nat) (C : y_C p s m args meth c G cc nL own ret) {i : Fin 4} {x : Nat} (hd : decode cc pc = .ok (.astore_n i, 1)) (lv1 : List (Nat × Value)) (hn : (i : Nat) < nL) (hl : ((i : Nat), Value.ref x) :: lv.filter (fun q => !(q.1 == (i : Nat)) && !(q.1 + 1 == (i : Nat) && q.2.category == 2)) = lv1) (k : y_V p l0 e R s m args below meth c G ce sl Q nL (pc + 1) lv1 (st) l) : y_V p l0 e R s m args below meth c G ce sl Q nL pc lv (.ref x :: st) l := fun H locs ls h1 h2 h3 => lv_astore_n C.1.1 C.1.2.1 hd rfl h3 hn hl (fun ls1 g => k H locs ls1 h1 h2 g)
theorem y_iinc (pc : Nat) (C : y_C p s m args meth c G cc nL own ret) {i : Nat} {n : Int} {x : Int32} (hd : decode cc pc = .ok (.iinc i n, 3)) (j : Nat) (lv1 : List (Nat × Value)) (hj : lv[j]? = some (i, .int x)) (hn : i < nL) (hl : (i, Value.int (x + Int32.ofInt n)) :: lv.filter (fun q => !(q.1 == i) && !(q.1 + 1 == i && q.2.category == 2)) = lv1) (k : y_V p l0 e R s m args below meth c G ce sl Q nL (pc + 3) lv1 (st) l) : y_V p l0 e R s m args below meth c G ce sl Q nL pc lv (st) l := fun H locs ls h1 h2 h3 => lv_iinc C.1.1 C.1.2.1 hd h3 hj rfl hn hl (fun ls1 g => k H locs ls1 h1 h2 g)
theorem y_dup (pc : Nat) (C : y_C p s m args meth c G cc nL own ret) {v : Value} (hd : decode cc pc = .ok (.dup, 1)) (hc : v.category = 1) (k : y_V p l0 e R s m args below meth c G ce sl Q nL (pc + 1) lv (v :: v :: st) l) : y_V p l0 e R s m args below meth c G ce sl Q nL pc lv (v :: st) l := fun H locs ls h1 h2 h3 => lv_dup C.1.1 C.1.2.1 hd hc (k H locs ls h1 h2 h3)
theorem y_goto (pc : Nat) (C : y_C p s m args meth c G cc nL own ret) (tgt : Nat) {off : Int} (hd : decode cc pc = .ok (.goto off, 3)) (ht : (pc : Int) + off = (tgt : Int)) (k : y_V p l0 e R s m args below meth c G ce sl Q nL tgt lv (st) l) : y_V p l0 e R s m args below meth c G ce sl Q nL pc lv (st) l := fun H locs ls h1 h2 h3 => lv_goto C.1.1 C.1.2.1 hd ht (k H locs ls h1 h2 h3)
variable {l1 : List va_E} {t t1 t2 : List va_E} {a : Nat}
theorem y_geT (pc : Nat) (C : y_C p s m args meth c G cc nL own ret) {x y : Int32} (tgt : Nat) {off : Int} (hd : decode cc pc = .ok (.if_icmp .ge off, 3)) (ht : (pc : Int) + off = (tgt : Int)) (h : y ≤ x) (kt : y_V p l0 e R s m args below meth c G ce sl Q nL tgt lv st l) : y_V p l0 e R s m args below meth c G ce sl Q nL pc lv (.int y :: .int x :: st) l := fun H locs ls h1 h2 h3 => lv_icmp_ge C.1.1 C.1.2.1 hd ht (fun q => kt H locs ls h1 h2 h3) (fun q => absurd h q)
theorem y_geF (pc : Nat) (C : y_C p s m args meth c G cc nL own ret) {x y : Int32} {off : Int} (tgt : Nat) (hd : decode cc pc = .ok (.if_icmp .ge off, 3)) (ht : (pc : Int) + off = (tgt : Int)) (h : ¬ y ≤ x) (kt : y_V p l0 e R s m args below meth c G ce sl Q nL (pc + 3) lv st l) : y_V p l0 e R s m args below meth c G ce sl Q nL pc lv (.int y :: .int x :: st) l := fun H locs ls h1 h2 h3 => lv_icmp_ge C.1.1 C.1.2.1 hd ht (fun q => absurd q h) (fun q => kt H locs ls h1 h2 h3)
theorem y_new (pc : Nat) (C : y_C p s m args meth c G cc nL own ret) (ha : a = z_lo G + l1.length) {ci N : Nat} {Cn : String} {T : u_T} {ty : Nat → FieldType} (hD : z_D ci Cn T N ty) {idx : Nat} (hcl : Cond.classLink own idx Cn ∈ z_tb) (hins : Cond.instantiable Cn N ∈ z_tb) (hini : Cond.initialized Cn ∈ z_tb) (fs : List Value) (hfs : ∀ j, j < N → defaultValue (ty j) = vp_V fs j) (j : Nat) (hj : t.length = j) (ce1 sl1 : Nat) (hcs : ce + 1 = ce1 ∧ sl + N = sl1 ∧ ce1 ≤ R.cells ∧ sl1 ≤ R.slots) (hd : decode cc pc = .ok (.new idx, 3)) (k : y_V p l0 e R s m args below meth c G ce1 sl1 Q nL (pc + 3) lv (.ref (a + j) :: st) (l1 ++ (t ++ [.inr (ci, fs)]))) : y_V p l0 e R s m args below meth c G ce sl Q nL pc lv st (l1 ++ t) := fun H locs ls h1 h2 h3 => by
  obtain ⟨rfl, rfl, c1, c2⟩ := hcs
  have hKn := C.1.2.2.2.2.2.1.1.1 ci _ hD.1
  have ht := C.1.2.2.2.2.1
  have hz : H.size = a + j := by rw [h1.1, List.length_append, ha, hj]; omega
  refine W.newcK C.1.1 C.1.2.1 C.1.2.2.2.1 (ht _ hcl) (ht _ hins) (ht _ hini) rfl hd c1 c2 hKn.2.1 hz (fun H1 kC hkC e1 z1 o1 => ?_)
  have g1 : y_P G ((l1 ++ t) ++ [.inr (ci, fs)]) H1 := by
    refine h1.push (by rw [z1, hz]; rfl) (fun q hq => o1 q (by rw [← hz]; exact hq)) (fun i x hx => ?_)
    have hi : i < 1 := (List.getElem?_eq_some_iff.mp hx).1
    rw [show i = 0 by omega] at hx ⊢
    cases hx
    refine ⟨_, hD.1, ?_⟩
    have e2 := (u_born ty ht hD.2.1 hKn hkC e1 hD.2.2.1).to hfs
    rw [hz]
    exact e2
  rw [List.append_assoc] at g1
  refine k H1 locs ls g1 ?_ h3
  have := y_S (L := []) (H1 := H1) h2 h1 (by omega) (fun q hq => o1 q (by rw [← hz]; exact hq)) (fun q hq => by cases hq)
  rw [List.append_nil] at this
  exact this
theorem y_newa (pc : Nat) (C : y_C p s m args meth c G cc nL own ret) (ha : a = z_lo G + l1.length) (t0 : Nat) {atype : ArrayType} {ty : FieldType} (hty : newarray.typeOf atype = ty) (htp : ty = .int ∨ ty = .long ∨ ty = .char) (ht0 : (z_tys G)[t0]? = some (z_ca G t0, ty)) (harr : Cond.arrayClass ty ∈ z_tb) {n : Int32} {N : Nat} (a0 : vp_A) (ha0 : ∀ cA : ClassId, vp_cell cA a0 = arrV cA N (fun _ => defaultValue ty)) (hn : ¬ n < 0) (hN : n.toNatClampNeg = N) (hb : N ≤ 1000) (j : Nat) (hj : t.length = j) (ce1 sl1 : Nat) (hcs : ce + 1 = ce1 ∧ sl + N = sl1 ∧ ce1 ≤ R.cells ∧ sl1 ≤ R.slots) (hd : decode cc pc = .ok (.newarray atype, 2)) (k : y_V p l0 e R s m args below meth c G ce1 sl1 Q nL (pc + 2) lv (.ref (a + j) :: st) (l1 ++ (t ++ [.inl (z_ca G t0, a0)]))) : y_V p l0 e R s m args below meth c G ce sl Q nL pc lv (.int n :: st) (l1 ++ t) := fun H locs ls h1 h2 h3 => by
  obtain ⟨rfl, rfl, c1, c2⟩ := hcs
  subst hty
  have ht := C.1.2.2.2.2.1
  have hz : H.size = a + j := by rw [h1.1, List.length_append, ha, hj]; omega
  refine va_newaK C.1.1 C.1.2.1 (ht _ harr) rfl hd rfl hn hN ?_ c1 c2 hz (fun H1 cA e1 z1 o1 hAr hNm => ?_)
  · rcases htp with z | z | z <;> rw [z] <;> show N * _ ≤ _ <;> simp only [componentBytes] <;> omega
  have hRA := (C.1.2.2.2.2.2.1.1.2 t0 _ ht0).2
  have hcA : cA = z_ca G t0 := by
    rcases htp with z | z | z <;> rw [z] at hRA hNm <;> exact Option.some.inj (hNm.symm.trans hRA)
  subst hcA
  have g1 : y_P G ((l1 ++ t) ++ [.inl (z_ca G t0, a0)]) H1 := by
    refine h1.push (by rw [z1, hz]; rfl) (fun q hq => o1 q (by rw [← hz]; exact hq)) (fun i x hx => ?_)
    have hi : i < 1 := (List.getElem?_eq_some_iff.mp hx).1
    rw [show i = 0 by omega] at hx ⊢
    cases hx
    show H1[H.size]? = some (vp_cell _ _)
    rw [ha0, hz]
    exact e1
  rw [List.append_assoc] at g1
  refine k H1 locs ls g1 ?_ h3
  have := y_S (L := []) (H1 := H1) h2 h1 (by omega) (fun q hq => o1 q (by rw [← hz]; exact hq)) (fun q hq => by cases hq)
  rw [List.append_nil] at this
  exact this
theorem y_newq (pc : Nat) (C : y_C p s m args meth c G cc nL own ret) (ha : a = z_lo G + l1.length) {idx : Nat} (hcl : Cond.classLink own idx RX0 ∈ z_tb) {n : Int32} {N : Nat} (hn : ¬ n < 0) (hN : n.toNatClampNeg = N) (hb : N ≤ 1000) (j : Nat) (hj : t.length = j) (ce1 sl1 : Nat) (hcs : ce + 1 = ce1 ∧ sl + N = sl1 ∧ ce1 ≤ R.cells ∧ sl1 ≤ R.slots) (hd : decode cc pc = .ok (.anewarray idx, 3)) (k : y_V p l0 e R s m args below meth c G ce1 sl1 Q nL (pc + 3) lv (.ref (a + j) :: st) (l1 ++ (t ++ [.inl (z_ca G 3, N, .inr (.inr (.inr (.inr (fun _ => none)))))]))) : y_V p l0 e R s m args below meth c G ce sl Q nL pc lv (.int n :: st) (l1 ++ t) := fun H locs ls h1 h2 h3 => by
  obtain ⟨rfl, rfl, c1, c2⟩ := hcs
  subst hN
  have ht := C.1.2.2.2.2.1
  have hz : H.size = a + j := by rw [h1.1, List.length_append, ha, hj]; omega
  have hRA := (C.1.2.2.2.2.2.1.1.2 3 _ rfl).2
  obtain ⟨kA0, comp0, b1, b2, b3, b4⟩ := hRA
  refine W.anew C.1.1 C.1.2.1 C.1.2.2.2.1 (ht _ hcl) (va_AO.use C.2.1) rfl hd rfl hn (by omega) c1 c2 (fun cA kA comp e1 e2 e3 e4 => ?_)
  have hcA : cA = z_ca G 3 := Option.some.inj (e1.symm.trans b4)
  subst hcA
  rw [arrV_new]
  have g1 : y_P G ((l1 ++ t) ++ [.inl (z_ca G 3, n.toNatClampNeg, .inr (.inr (.inr (.inr (fun _ => none)))))]) (H.push (arrV (z_ca G 3) n.toNatClampNeg (fun _ => .null))) := by
    refine h1.push (by rw [Array.size_push]; rfl) (fun q hq => by rw [Array.getElem?_push, if_neg (by omega)]) (fun i x hx => ?_)
    have hi : i < 1 := (List.getElem?_eq_some_iff.mp hx).1
    rw [show i = 0 by omega] at hx ⊢
    cases hx
    show (H.push _)[H.size]? = some (vp_cell _ _)
    rw [Array.getElem?_push, if_pos rfl]
    rfl
  rw [List.append_assoc] at g1
  rw [hz]
  refine k _ locs ls g1 ?_ h3
  have := y_S (L := []) (H1 := (H.push (arrV (z_ca G 3) n.toNatClampNeg (fun _ => .null)))) h2 h1 (by rw [Array.size_push]; omega) (fun q hq => by rw [Array.getElem?_push, if_neg (by omega)]) (fun q hq => by cases hq)
  rw [List.append_nil] at this
  exact this
theorem y_newm (pc : Nat) (C : y_C p s m args meth c G cc nL own ret) (ha : a = z_lo G + l1.length) {idx : Nat} (hcl : Cond.classLink own idx "[[J" ∈ z_tb) {n k0 : Int32} {N K : Nat} (hn : ¬ n < 0) (hN : n.toNatClampNeg = N) (hn0 : 0 < N) (hk : ¬ k0 < 0) (hK : k0.toNatClampNeg = K) (hb1 : N ≤ 1000) (hb2 : K ≤ 1000) (j : Nat) (hj : t.length = j) (ce1 sl1 : Nat) (hcs : ce + (N + 1) = ce1 ∧ sl + (N + N * K) = sl1 ∧ ce1 ≤ R.cells ∧ sl1 ≤ R.slots) (hd : decode cc pc = .ok (.multianewarray idx 2, 4)) (k : y_V p l0 e R s m args below meth c G ce1 sl1 Q nL (pc + 4) lv (.ref (a + j) :: st) (l1 ++ (t ++ (.inl (z_ca G 4, N, .inr (.inr (.inr (.inr (fun i => some (a + j + 1 + i)))))) :: List.replicate N (.inl (z_ca G 1, K, .inr (.inl (fun _ => 0)))))))) : y_V p l0 e R s m args below meth c G ce sl Q nL pc lv (.int k0 :: .int n :: st) (l1 ++ t) := fun H locs ls h1 h2 h3 => by
  obtain ⟨rfl, rfl, c1, c2⟩ := hcs
  have ht := C.1.2.2.2.2.1
  have hz : H.size = a + j := by rw [h1.1, List.length_append, ha, hj]; omega
  refine y_mul C.1.1 C.1.2.1 C.1.2.2.2.1 (ht _ hcl) C.2.2 rfl hd rfl hn hN hn0 hk hK hb1 hb2 c1 c2 hz (fun H1 L cA cJ e1 e2 e3 e4 e5 e6 e7 => ?_)
  have hcA : cA = z_ca G 4 := Option.some.inj (e1.symm.trans (C.1.2.2.2.2.2.1.1.2 4 _ rfl).2)
  have hcJ : cJ = z_ca G 1 := Option.some.inj (e2.symm.trans (C.1.2.2.2.2.2.1.1.2 1 _ rfl).2)
  subst hcA
  subst hcJ
  have g1 : y_P G ((l1 ++ t) ++ (.inl (z_ca G 4, N, .inr (.inr (.inr (.inr (fun i => some (a + j + 1 + i)))))) :: List.replicate N (.inl (z_ca G 1, K, .inr (.inl (fun _ => 0)))))) H1 := by
    refine h1.push (by rw [e4, hz, List.length_cons, List.length_replicate]; omega) (fun q hq => e7 q (by rw [← hz]; exact hq)) (fun i x hx => ?_)
    rw [hz]
    cases i with
    | zero => cases hx; exact e5
    | succ i =>
      rw [List.getElem?_cons_succ, List.getElem?_replicate] at hx
      split at hx
      · rename_i hi
        cases hx
        show H1[a + j + (i + 1)]? = _
        rw [show a + j + (i + 1) = a + j + 1 + i by omega]
        exact e6 i hi
      · cases hx
  rw [List.append_assoc] at g1
  refine k H1 (locs ++ L) ls g1 ?_ h3
  exact y_S (H1 := H1) h2 h1 (by omega) (fun q hq => e7 q (by rw [← hz]; exact hq)) (fun q hq => by rw [hz]; exact e3 q hq)
theorem y_wat {j : Nat} {x : va_E} (ha : a = z_lo G + l1.length) (h : t[j]? = some x) : (y_W (z_lo G) (l1 ++ t))[l1.length + j]? = some (a + j, x) := by
  rw [y_W_at, List.getElem?_append_right (by omega), Nat.add_sub_cancel_left, h, ha]
  show some (z_lo G + (l1.length + j), x) = _
  rw [Nat.add_assoc]
theorem y_wset {j : Nat} {x : va_E} (ha : a = z_lo G + l1.length) : (y_W (z_lo G) (l1 ++ t)).set (l1.length + j) (a + j, x) = y_W (z_lo G) (l1 ++ t.set j x) := by
  rw [ha, Nat.add_assoc, y_W_set, List.set_append_right _ _ (by omega), Nat.add_sub_cancel_left]
theorem y_putV {H1 H : Heap} {j : Nat} {x : va_E} (ha : a = z_lo G + l1.length) (h1 : y_P G (l1 ++ t) H) (hz : H1.size = H.size) (g : va_P (z_dd G) vwCl ((y_W (z_lo G) (l1 ++ t)).set (l1.length + j) (a + j, x)) H1) : y_P G (l1 ++ t.set j x) H1 := by
  rw [y_wset ha] at g
  refine ⟨?_, g⟩
  rw [hz, h1.1, List.length_append, List.length_append, List.length_set]
theorem y_fix {H H1 : Heap} {locs locs1 : List Loc} {g : JFrame} {d0 : Nat} (hS : va_S (z_A G) s.heap H locs) (h1 : y_P G (l1 ++ t) H) (g3 : va_S (z_A G) H H1 locs1) (hs : s.heap.size = z_lo G + l1.length + d0) (hl : t.length = d0 + ce) (kk : H1.size = H.size → va_S (z_A G) s.heap H1 locs1 → W p l0 e R s m args below meth c H1 locs1 ce sl Q g) : W p l0 e R s m args below meth c H1 locs1 ce sl Q g := by
  intro T hT X
  have b := X.heapSize
  have hz : H1.size = H.size := by
    have b1 := g3.1
    rw [hT, hs] at b
    rw [h1.1, List.length_append] at b1 ⊢
    omega
  exact kk hz ⟨by rw [hz]; exact hS.1, fun q x1 x2 => (g3.2.1 q (Nat.lt_of_lt_of_le x1 hS.1) x2).trans (hS.2.1 q x1 x2), g3.2.2⟩ T hT X
theorem y_S0 {H : Heap} {locs : List Loc} (hS : va_S (z_A G) s.heap H locs) : va_S (z_A G) H H locs := ⟨Nat.le_refl _, fun _ _ _ => rfl, hS.2.2⟩
theorem y_put (pc : Nat) (C : y_C p s m args meth c G cc nL own ret) (ha : a = z_lo G + l1.length) {d0 : Nat} (hs : s.heap.size = z_lo G + l1.length + d0) (hlen : t.length = d0 + ce) (j : Nat) {ci N : Nat} {Cn : String} {T : u_T} {ty : Nat → FieldType} (hD : z_D ci Cn T N ty) {fs : List Value} (hj : t[j]? = some (.inr (ci, fs))) (f : Nat) (hf : f < N) {idx : Nat} (hl : Cond.fieldLink own idx (T f).1 (T f).2.1 (T f).2.2.1 ∈ z_tb) (hfin : (T f).2.2.2 = false) {v : Value} (hn : narrow (ty f) v = v) (hfit : fits (ty f) v = true) (hs1 : f < fs.length) (fs1 : List Value) (hf1 : fs.set f v = fs1) (t1 : List va_E) (ht1 : t.set j (.inr (ci, fs1)) = t1) (hd : decode cc pc = .ok (.putfield idx, 3)) (k : y_V p l0 e R s m args below meth c G ce sl Q nL (pc + 3) lv st (l1 ++ t1)) : y_V p l0 e R s m args below meth c G ce sl Q nL pc lv (v :: .ref (a + j) :: st) (l1 ++ t) := fun H locs ls h1 h2 h3 => by
  subst hf1
  subst ht1
  have ht := C.1.2.2.2.2.1
  refine va_put C.1.1 C.1.2.1 ht hD.2.1 ty hD.2.2.1 hD.2.2.2 C.1.2.2.2.1 C.1.2.2.2.2.2.1.1 h1.2 (y_D G _) (y_S0 h2) (l1.length + j) (y_wat ha hj) hD.1 f hf (ht _ hl) z_hsame hfin (hD.2.2.1 f hf) hn hfit hs1 hd (fun H1 locs1 g1 g2 g3 => ?_)
  exact y_fix h2 h1 g3 hs hlen (fun hz g4 => k H1 locs1 ls (y_putV ha h1 hz g1) g4 h3)
theorem y_putF (pc : Nat) (C : y_C p s m args meth c G cc nL own ret) (ha : a = z_lo G + l1.length) {d0 : Nat} (hs : s.heap.size = z_lo G + l1.length + d0) (hlen : t.length = d0 + ce) (hnm : meth.name = "<init>") (j : Nat) {ci N : Nat} {Cn : String} {T : u_T} {ty : Nat → FieldType} (hD : z_D ci Cn T N ty) {fs : List Value} (hj : t[j]? = some (.inr (ci, fs))) (f : Nat) (hf : f < N) {idx : Nat} (hl : Cond.fieldLink own idx (T f).1 (T f).2.1 (T f).2.2.1 ∈ z_tb) (hfin : (T f).2.2.2 = true) (hown : (T f).1 = own) {v : Value} (hn : narrow (ty f) v = v) (hfit : fits (ty f) v = true) (hs1 : f < fs.length) (fs1 : List Value) (hf1 : fs.set f v = fs1) (t1 : List va_E) (ht1 : t.set j (.inr (ci, fs1)) = t1) (hd : decode cc pc = .ok (.putfield idx, 3)) (k : y_V p l0 e R s m args below meth c G ce sl Q nL (pc + 3) lv st (l1 ++ t1)) : y_V p l0 e R s m args below meth c G ce sl Q nL pc lv (v :: .ref (a + j) :: st) (l1 ++ t) := fun H locs ls h1 h2 h3 => by
  subst hf1
  subst ht1
  have ht := C.1.2.2.2.2.1
  refine va_putF C.1.1 C.1.2.1 ht hD.2.1 ty hD.2.2.1 hD.2.2.2 C.1.2.2.2.1 C.1.2.2.2.2.2.1.1 h1.2 (y_D G _) (y_S0 h2) (l1.length + j) (y_wat ha hj) hD.1 f hf (ht _ hl) z_hsame hfin hnm hown (hD.2.2.1 f hf) hn hfit hs1 hd (fun H1 locs1 g1 g2 g3 => ?_)
  exact y_fix h2 h1 g3 hs hlen (fun hz g4 => k H1 locs1 ls (y_putV ha h1 hz g1) g4 h3)
theorem y_getf (pc : Nat) (C : y_C p s m args meth c G cc nL own ret) (ha : a = z_lo G + l1.length) (j : Nat) {ci N : Nat} {Cn : String} {T : u_T} {ty : Nat → FieldType} (hD : z_D ci Cn T N ty) {fs : List Value} (hj : t[j]? = some (.inr (ci, fs))) (f : Nat) (hf : f < N) {idx : Nat} (hl : Cond.fieldLink own idx (T f).1 (T f).2.1 (T f).2.2.1 ∈ z_tb) (v : Value) (hv : fs[f]? = some v) (hd : decode cc pc = .ok (.getfield idx, 3)) (k : y_V p l0 e R s m args below meth c G ce sl Q nL (pc + 3) lv (v :: st) (l1 ++ t)) : y_V p l0 e R s m args below meth c G ce sl Q nL pc lv (.ref (a + j) :: st) (l1 ++ t) := fun H locs ls h1 h2 h3 =>
  va_get C.1.1 C.1.2.1 C.1.2.2.2.2.1 hD.2.1 C.1.2.2.2.1 C.1.2.2.2.2.2.1.1 h1.2 (l1.length + j) (y_wat ha hj) hD.1 f hf (C.1.2.2.2.2.1 _ hl) z_hsame hv hd (k H locs ls h1 h2 h3)
theorem y_iast (pc : Nat) (C : y_C p s m args meth c G cc nL own ret) (ha : a = z_lo G + l1.length) {d0 : Nat} (hs : s.heap.size = z_lo G + l1.length + d0) (hlen : t.length = d0 + ce) (j : Nat) {n : Nat} {f : Nat → Int32} (hj : t[j]? = some (.inl (z_ca G 0, n, .inl f))) {x v : Int32} (hin : vp_in x n) (i : Nat) (hi : x.toNatClampNeg = i) (t1 : List va_E) (ht1 : t.set j (.inl (z_ca G 0, n, .inl (upd f i v))) = t1) (hd : decode cc pc = .ok (.iastore, 1)) (k : y_V p l0 e R s m args below meth c G ce sl Q nL (pc + 1) lv st (l1 ++ t1)) : y_V p l0 e R s m args below meth c G ce sl Q nL pc lv (.int v :: .int x :: .ref (a + j) :: st) (l1 ++ t) := fun H locs ls h1 h2 h3 => by
  subst hi
  subst ht1
  refine va_iast C.1.1 C.1.2.1 C.1.2.2.2.2.2.1.1 h1.2 (y_D G _) (y_S0 h2) (l1.length + j) 0 (y_wat ha hj) rfl hin hd (fun H1 locs1 g1 g2 g3 => ?_)
  exact y_fix h2 h1 g3 hs hlen (fun hz g4 => k H1 locs1 ls (y_putV ha h1 hz g1) g4 h3)
theorem y_aast (pc : Nat) (C : y_C p s m args meth c G cc nL own ret) (ha : a = z_lo G + l1.length) {d0 : Nat} (hs : s.heap.size = z_lo G + l1.length + d0) (hlen : t.length = d0 + ce) (j : Nat) {n : Nat} {f : Nat → Option Nat} (hj : t[j]? = some (.inl (z_ca G 3, n, .inr (.inr (.inr (.inr f)))))) (j2 : Nat) {vs : List Value} (hj2 : t[j2]? = some (.inr (0, vs))) {x : Int32} (hin : vp_in x n) (i : Nat) (hi : x.toNatClampNeg = i) (t1 : List va_E) (ht1 : t.set j (.inl (z_ca G 3, n, .inr (.inr (.inr (.inr (va_up f i (some (a + j2)))))))) = t1) (hd : decode cc pc = .ok (.aastore, 1)) (k : y_V p l0 e R s m args below meth c G ce sl Q nL (pc + 1) lv st (l1 ++ t1)) : y_V p l0 e R s m args below meth c G ce sl Q nL pc lv (.ref (a + j2) :: .int x :: .ref (a + j) :: st) (l1 ++ t) := fun H locs ls h1 h2 h3 => by
  subst hi
  subst ht1
  refine va_astq C.1.1 C.1.2.1 C.1.2.2.2.2.2.1.1 h1.2 (y_D G _) (y_S0 h2) (l1.length + j) 3 (l1.length + j2) 0 (y_wat ha hj) rfl (y_wat ha hj2) rfl hin hd (fun H1 locs1 g1 g2 g3 => ?_)
  exact y_fix h2 h1 g3 hs hlen (fun hz g4 => k H1 locs1 ls (y_putV ha h1 hz g1) g4 h3)
theorem y_obj (pc : Nat) (C : y_C p s m args meth c G cc nL own ret) {idx x : Nat} (hl : Cond.methodLink own idx Lib.objectInit ∈ z_tb) (hi : Cond.instanceMethod Lib.objectInit ∈ z_tb) (hc : Cond.code Lib.objectInit ⟨#[0xb1]⟩ 1 none ∈ z_tb) (hR : 1 ≤ R.frames ∧ (st.map fun v => v.category).sum + 12 ≤ R.locals) (hd : decode cc pc = .ok (.invokespecial idx, 3)) (k : y_V p l0 e R s m args below meth c G ce sl Q nL (pc + 3) lv st l) : y_V p l0 e R s m args below meth c G ce sl Q nL pc lv (.ref x :: st) l := fun H locs ls h1 h2 h3 => by
  have ht := C.1.2.2.2.2.1
  exact W.objInit C.1.1 C.1.2.1 C.1.2.2.2.1 (ht _ hl) (ht _ hi) (ht _ hc) rfl (h3.1.trans C.1.2.2.1.symm) rfl hd hR.1 (by show 2 * 0 + _ + 12 ≤ _; have := hR.2; omega) (k H locs ls h1 h2 h3)
theorem y_vret {lx : List va_E} {mc ms : Nat} (pc : Nat) (C : y_C p s m args meth c G cc nL own none) (hx : l = lx) (hc : ce = mc ∧ sl = ms) (hd : decode cc pc = .ok (.return_, 1)) : y_V p l0 e R s m args below meth c G ce sl (MQ below (y_QW G lx) args s mc ms (z_A G)) nL pc lv [] l := fun H locs ls h1 h2 h3 => by
  obtain ⟨rfl, rfl⟩ := hc
  subst hx
  exact W.vret C.1.1 C.1.2.1 C.1.2.2.2.2.2.2.1 (fun t ht hW => ⟨⟨rfl, by rw [ht]; exact h1⟩, h2.F ht⟩) h2.2.2 hd C.1.2.2.2.2.2.2.2
theorem y_call0 {pc mc ms : Nat} {st0 rest : List Value} {ar : Array Value} {lx : List va_E} (hr : ∀ (H : Heap) (locs : List Loc) (ls : Array Slot), y_P G l H → va_S (z_A G) s.heap H locs → lv_has ls nL lv → va_Run p l0 e R s m args below meth c H locs ce sl mc ms (F0 m pc ls st0) rest (y_QW G lx ar) (z_A G)) (k : y_V p l0 e R s m args below meth c G (ce + mc) (sl + ms) Q nL (pc + 3) lv rest lx) : y_V p l0 e R s m args below meth c G ce sl Q nL pc lv st0 l := by
  intro H locs ls h1 h2 h3 T hT X
  obtain ⟨v, st₀, t, T', L, h0, X', hL, e1, e2, ⟨⟨hv, hP'⟩, hz, hk⟩, st⟩ := hr H locs ls h1 h2 h3 T hT X
  cases hv
  rw [h0] at hz hk
  obtain ⟨t2, a1, b1⟩ := k T'.heap (locs ++ L) ls (by rw [e1]; exact hP')
    ⟨Nat.le_trans h2.1 (by rw [e1]; exact hz), fun q g1 g2 => by rw [e1, hk q (Nat.lt_of_lt_of_le g1 h2.1) g2]; exact h2.2.1 q g1 g2, fun q hq => by
      rcases List.mem_append.mp hq with h | h
      · exact h2.2.2 q h
      · exact hL q h⟩ h3 T' rfl X'
  exact ⟨t2, st t2 a1, b1⟩
/-- a constructor of ours, called -/
theorem y_call (pc : Nat) (C : y_C p s m args meth c G cc nL own ret) (ha : a = z_lo G + l1.length) {y : MethodName} {b : ByteArray} {n idx mc ms : Nat} {rm : Room} {x : va_E} {Tc : Nat → List va_E} (hM : ∀ (l : List va_E) (q : Nat), q = z_lo G + l.length → y_M l0 G y b n rm [.ref q] (l ++ [x]) (l ++ Tc q) mc ms) (t0 : List va_E) (ht0 : t = t0 ++ [x]) (j : Nat) (hj : t0.length = j) (t1 : List va_E) (ht1 : t0 ++ Tc (a + j) = t1)
    (hk : Cond.initialized y.cls ∈ z_tb ∧ Cond.code y b n none ∈ z_tb ∧ Cond.instanceMethod y ∈ z_tb ∧ Cond.methodLink own idx y ∈ z_tb) (hy : y.name = "<init>" ∧ y.cls ≠ "java/lang/invoke/MethodHandle" ∧ y.cls ≠ "java/lang/invoke/VarHandle" ∧ (parseMethodDescriptor y.desc).map (fun d => d.parameters.length) = some 0) (hrm : rm.cells = mc ∧ rm.slots = ms) (hR : rm.frames + 1 ≤ R.frames ∧ 8 + (n + 11) + rm.locals ≤ R.locals) (hW : (st.map fun v => v.category).sum ≤ 8) (ce1 sl1 : Nat) (hcs : ce + mc = ce1 ∧ sl + ms = sl1 ∧ ce1 ≤ R.cells ∧ sl1 ≤ R.slots) (hd : decode cc pc = .ok (.invokespecial idx, 3)) (k : y_V p l0 e R s m args below meth c G ce1 sl1 Q nL (pc + 3) lv st (l1 ++ t1)) : y_V p l0 e R s m args below meth c G ce sl Q nL pc lv (.ref (a + j) :: st) (l1 ++ t) := by
  obtain ⟨rfl, rfl, c1, c2⟩ := hcs
  subst ht0
  subst hj
  subst ht1
  have ht := C.1.2.2.2.2.1
  refine y_call0 (ar := #[Value.ref (a + t0.length)]) (fun H locs ls h1 h2 h3 => ?_) k
  have hM1 := hM (l1 ++ t0) (a + t0.length) (by rw [ha, List.length_append, Nat.add_assoc])
  rw [List.append_assoc, List.append_assoc] at hM1
  exact va_runI (As := []) ⟨C.1.1, C.1.2.1, C.1.2.2.1, C.1.2.2.2.1, ht⟩ hM1 (cwI 0 ht (z_goodM (ws := []) hk.2.1 (fun _ h => absurd h List.not_mem_nil)) rfl hrm.1 hrm.2 (ht _ hk.1) (ht _ hk.2.2.2) (ht _ hk.2.2.1) hy.1 hy.2 hR) ⟨y_PW.blind, fun U hU hW1 => ⟨rfl, by rw [hU]; exact h1, y_U.go ⟨C.1.2.2.2.2.2.1, C.2⟩ h2 hU hW1⟩⟩ rfl rfl h3.1 rfl (lv_room hW) hd ⟨c1, c2⟩
theorem y_callN (pc : Nat) (C : y_C p s m args meth c G cc nL own ret) (ha : a = z_lo G + l1.length) {y : MethodName} {b : ByteArray} {n idx mc ms : Nat} {rm : Room} {x : va_E} {Tc : Nat → List va_E} (hM : ∀ (l : List va_E) (q : Nat), q = z_lo G + l.length → y_M l0 G y b n rm [.ref q] (l ++ [x]) (l ++ Tc q) mc ms) (t0 : List va_E) (ht0 : t = t0 ++ [x]) (j : Nat) (hj : t0.length = j) (t1 : List va_E) (ht1 : t0 ++ Tc (a + j) = t1)
    (hk : Cond.initialized y.cls ∈ z_tb ∧ Cond.code y b n none ∈ z_tb ∧ Cond.instanceMethod y ∈ z_tb ∧ (own, idx, y) ∈ z_nm) (hy : y.name = "<init>" ∧ y.cls ≠ "java/lang/invoke/MethodHandle" ∧ y.cls ≠ "java/lang/invoke/VarHandle" ∧ (parseMethodDescriptor y.desc).map (fun d => d.parameters.length) = some 0) (hrm : rm.cells = mc ∧ rm.slots = ms) (hR : rm.frames + 1 ≤ R.frames ∧ 8 + (n + 11) + rm.locals ≤ R.locals) (hW : (st.map fun v => v.category).sum ≤ 8) (ce1 sl1 : Nat) (hcs : ce + mc = ce1 ∧ sl + ms = sl1 ∧ ce1 ≤ R.cells ∧ sl1 ≤ R.slots) (hd : decode cc pc = .ok (.invokespecial idx, 3)) (k : y_V p l0 e R s m args below meth c G ce1 sl1 Q nL (pc + 3) lv st (l1 ++ t1)) : y_V p l0 e R s m args below meth c G ce sl Q nL pc lv (.ref (a + j) :: st) (l1 ++ t) := by
  obtain ⟨rfl, rfl, c1, c2⟩ := hcs
  subst ht0
  subst hj
  subst ht1
  have ht := C.1.2.2.2.2.1
  refine y_call0 (ar := #[Value.ref (a + t0.length)]) (fun H locs ls h1 h2 h3 => ?_) k
  have hM1 := hM (l1 ++ t0) (a + t0.length) (by rw [ha, List.length_append, Nat.add_assoc])
  rw [List.append_assoc, List.append_assoc] at hM1
  exact va_runIN (As := []) (host := RX7) (Ts := z_tb) ⟨C.1.1, C.1.2.1, C.1.2.2.1, C.1.2.2.2.1, ht⟩ hM1 ⟨va_cnB 0 ht (fun w hw => z_goodM (ws := []) hk.2.1 (fun _ h => absurd h List.not_mem_nil) w hw) rfl hrm.1 hrm.2 (C.1.2.2.2.2.2.1.2.2.2.1 _ hk.2.2.2) (ht _ hk.1) hy.2 hR, hy.1, ht _ hk.2.2.1⟩ ⟨y_PW.blind, fun U hU hW1 => ⟨rfl, by rw [hU]; exact h1, y_U.go ⟨C.1.2.2.2.2.2.1, C.2⟩ h2 hU hW1⟩⟩ rfl rfl h3.1 rfl (lv_room hW) hd ⟨c1, c2⟩
end YR
