/-! ARRAYS OF ARRAYS: the row of multianewarray with two dimensions -/
def y_AA (U : State) : Prop := ∃ (comp cA : ClassId) (kA kJ : Class) (cJ : ClassId), U.vm.findClass "[J" = some comp ∧ U.vm.findClass "[[J" = some cA ∧ U.vm.classes[cA]? = some kA ∧ kA.kind = .array comp (.array .long) ∧ U.vm.classes[comp]? = some kJ ∧ kJ.kind = .array cJ .long
theorem y_AA.of {A : Array Value} {U : State} (h1 : (Cond.arrayOver (.array .long)).before A U = true) (h2 : (Cond.arrayClass .long).before A U = true) : y_AA U := by
  obtain ⟨comp, cA, kA, a1, a2, a3, a4, a5⟩ := arrayOverA_spec h1
  obtain ⟨c2, kJ, cJ, b1, b2, b3⟩ := Cond.arrayClass_spec h2
  have e : c2 = comp := Option.some.inj (b1.symm.trans a1)
  subst e
  exact ⟨c2, cA, kA, kJ, cJ, a1, a5, a3, a4, b2, b3⟩
theorem y_AA.moved {u U : State} (hvm : u.vm.Alike U.vm) (h : y_AA u) : y_AA U := by
  obtain ⟨comp, cA, kA, kJ, cJ, a1, a2, a3, a4, a5, a6⟩ := h
  obtain ⟨kA', b1, b2⟩ := hvm.2.2 _ _ a3
  obtain ⟨kJ', d1, d2⟩ := hvm.2.2 _ _ a5
  exact ⟨comp, cA, kA', kJ', cJ, by rw [hvm.findClass]; exact a1, by rw [hvm.findClass]; exact a2, b1, by rw [b2]; exact a4, d1, by rw [d2]; exact a6⟩
theorem y_newA {E : CtlPost} {e : Env} {d : Bool} {acts : List Action} {s : State} {cA : ClassId} {kA : Class} {comp : ClassId} {ty : FieldType} {N : Nat} {v : Value} (hk : s.vm.classes[cA]? = some kA) (hkind : kA.kind = .array comp ty) (hv : fits ty v = true)
    (hl : ¬ N > e.platform.arrayLengthLimit) (hh : ¬ N * componentBytes ty > e.platform.maxHeapBytes) (hc : s.heap.size < e.platform.maxCells) (hs : s.slotsUsed + N ≤ e.platform.maxSlots) {Q : Addr → Bool → List Action → State → Prop}
    (kk : ∀ acts', Q s.heap.size d acts' (s.pushCell { cls := cA, slots := Array.replicate N v, vm := .none })) : wp (Jvm.newArray cA N v) Q E e d acts s := by
  have hfit : ∀ i w, (Array.replicate N v)[i]? = some w → s.fitsSlot cA .none i w = true := by
    intro i w hw
    simp only [Array.getElem?_replicate] at hw
    split at hw
    · cases hw; simp [State.fitsSlot, State.slotType?, hk, hkind, hv]
    · cases hw
  simp only [Jvm.newArray, Jvm.arrayFits, wp_bind', W.ask, W.ite, if_neg hl, wp_pure', W.theClass, hk, Option.some.injEq, exists_eq_left', hkind, if_neg hh]
  have hm : ¬ N > e.platform.maxSlots := by omega
  simp only [if_neg hm, W.ite, wp_pure', W.alloc, Array.size_replicate]
  exact ⟨hc, hs, hfit, kk _⟩
section YM
variable {p : Program} {l : Launch} {e : Env} {R : Room} {s : State} {m : MethodId} {args : Array Value} {below : List Frame} {meth : Method} {c : Code} {locs : List Loc} {cells slots : Nat}
theorem y_make1 {E : CtlPost} {d : Bool} {acts : List Action} {s : State} {Q : Addr → Bool → List Action → State → Prop} {cJ comp : ClassId} {kJ : Class} {k : Int32} {K : Nat} (hk : ¬ k < 0) (hK : k.toNatClampNeg = K) (h1 : s.vm.classes[comp]? = some kJ) (h2 : kJ.kind = .array cJ .long)
    (hl : ¬ K > e.platform.arrayLengthLimit) (hh : ¬ K * 8 > e.platform.maxHeapBytes) (hc : s.heap.size < e.platform.maxCells) (hs : s.slotsUsed + K ≤ e.platform.maxSlots)
    (kk : ∀ acts', Q s.heap.size d acts' (s.pushCell { cls := comp, slots := Array.replicate K (.long 0), vm := .none })) : wp (multianewarray.make comp [k]) Q E e d acts s := by
  subst hK
  rw [multianewarray.make]
  simp only [wp_bind', W.ite, wp_pure', W.theClass, if_neg hk, h1, Option.some.injEq, exists_eq_left', h2]
  exact y_newA h1 h2 rfl hl hh hc hs kk
theorem y_make {T : State} {E : CtlPost} {d : Bool} {acts : List Action} {Q : Addr → Bool → List Action → State → Prop} {cA cJ comp : ClassId} {kA kJ : Class} {n k : Int32} {N K : Nat} {g : JFrame} (X : Stand p l e R s m args below meth c T locs cells slots) (hn : ¬ n < 0) (hN : n.toNatClampNeg = N) (hn0 : 0 < N) (hk : ¬ k < 0) (hK : k.toNatClampNeg = K)
    (a1 : T.vm.classes[cA]? = some kA) (a2 : kA.kind = .array comp (.array .long)) (a3 : T.vm.classes[comp]? = some kJ) (a4 : kJ.kind = .array cJ .long)
    (hl : ¬ N > e.platform.arrayLengthLimit) (hh : ¬ N * 4 > e.platform.maxHeapBytes) (hl1 : ¬ K > e.platform.arrayLengthLimit) (hh1 : ¬ K * 8 > e.platform.maxHeapBytes) (hc : T.heap.size + (N + 1) ≤ e.platform.maxCells) (hs : T.slotsUsed + (N + N * K) ≤ e.platform.maxSlots)
    (kk : ∀ (S : State) (L : List Loc) (d' : Bool) (acts' : List Action), Stand p l e R s m args below meth c S (locs ++ L) (cells + (N + 1)) (slots + (N + N * K)) → (∀ q ∈ L, q.base = T.heap.size) → S.heap.size = T.heap.size + 1 + N → S.heap[T.heap.size]? = some (arrV cA N (fun j => .ref (T.heap.size + 1 + j))) → (∀ j, j < N → S.heap[T.heap.size + 1 + j]? = some (arrV comp K (fun _ => .long 0))) → (∀ q, q < T.heap.size → S.heap[q]? = T.heap[q]?) → Q T.heap.size d' acts' (S.setTop g)) :
    wp (multianewarray.make cA [n, k]) Q E e d acts (T.setTop g) := by
  rw [multianewarray.make]
  have hz : ¬ (n == 0) = true := fun q => by
    have q1 : n = 0 := by simpa using q
    rw [q1] at hN
    have : (0 : Int32).toNatClampNeg = 0 := by decide
    omega
  simp only [wp_bind', W.ite, wp_pure', W.theClass, if_neg hn, State.vm_setTop, a1, Option.some.injEq, exists_eq_left', a2, if_neg hz, Std.Legacy.Range.forIn_eq_forIn_range', hN]
  refine y_newA (s := T.setTop g) (cA := cA) (kA := kA) (comp := comp) (ty := .array .long) a1 a2 rfl hl hh (by show T.heap.size < _; omega) (by show T.slotsUsed + _ ≤ _; omega) (fun acts' => ?_)
  have X1 := X.pushed { cls := cA, slots := Array.replicate N .null, vm := .none }
  have hsz : ([:N] : Std.Legacy.Range).size = N := by simp [Std.Legacy.Range.size]
  rw [hsz]
  generalize hh0 : T.heap.size = h0
  have eh : (T.setTop g).heap.size = h0 := hh0
  rw [eh, wp_bind']
  refine wp_forIn_inv (fun rest s' => ∃ (j : Nat) (S : State) (L : List Loc), rest = List.range' j (N - j) ∧ j ≤ N ∧ s' = S.setTop g ∧ S.vm = T.vm ∧ Stand p l e R s m args below meth c S (locs ++ L) (cells + (1 + j)) (slots + (N + j * K)) ∧ (∀ q ∈ L, q.base = h0) ∧ S.heap.size = h0 + 1 + j ∧ S.heap[h0]? = some (arrV cA N (fun i => if i < j then .ref (h0 + 1 + i) else .null)) ∧ (∀ i, i < j → S.heap[h0 + 1 + i]? = some (arrV comp K (fun _ => .long 0))) ∧ (∀ q, q < h0 → S.heap[q]? = T.heap[q]?) ∧ S.slotsUsed = T.slotsUsed + (N + j * K)) _ _ ?_ ?_ ?_
  · refine ⟨0, T.pushCell { cls := cA, slots := Array.replicate N .null, vm := .none }, [], by simp, by omega, rfl, rfl, ?_, by simp, ?_, ?_, by simp, ?_, ?_⟩
    · rw [List.append_nil, Nat.zero_mul]
      simpa using X1
    · show (T.heap.push _).size = _
      rw [Array.size_push, hh0]
    · show (T.heap.push _)[h0]? = _
      rw [← hh0, arrV_new]
      simp
    · intro q hq
      show (T.heap.push _)[q]? = _
      rw [Array.getElem?_push, if_neg (by omega)]
    · show T.slotsUsed + (Array.replicate N Value.null).size = _
      rw [Array.size_replicate]; omega
  · rintro x rest s' d' acts' Q' ⟨j, S, L, e1, e2, rfl, e3, X2, e4, e5, e6, e7, e8, e9⟩ hnext
    have hj : j < N := by
      rcases Nat.lt_or_ge j N with z | z
      · exact z
      · rw [show N - j = 0 by omega] at e1
        cases e1
    rw [show N - j = (N - (j + 1)) + 1 by omega, List.range'_succ] at e1
    cases e1
    have hjK : (x + 1) * K = x * K + K := by rw [Nat.add_mul, Nat.one_mul]
    have hjK2 : (x + 1) * K ≤ N * K := Nat.mul_le_mul_right K (by omega)
    simp only [wp_bind', wp_pure']
    refine y_make1 (s := S.setTop g) (comp := comp) hk hK (by show S.vm.classes[_]? = _; rw [e3]; exact a3) a4 hl1 hh1 (by show S.heap.size < _; omega) (by show S.slotsUsed + _ ≤ _; omega) (fun acts2 => ?_)
    simp only [wp_bind', W.writeLoc, wp_pure']
    have hS0 : (S.pushCell { cls := comp, slots := Array.replicate K (.long 0), vm := .none }).heap[h0]? = some (arrV cA N (fun i => if i < x then .ref (h0 + 1 + i) else .null)) := by
      show (S.heap.push _)[h0]? = _
      rw [Array.getElem?_push, if_neg (by omega)]
      exact e6
    have X3 := (X2.pushed { cls := comp, slots := Array.replicate K (.long 0), vm := .none }).stored hS0 x (.ref (h0 + 1 + x))
    have hfits : ((S.setTop g).pushCell { cls := comp, slots := Array.replicate K (.long 0), vm := .none }).fitsSlot cA .none x (.ref (h0 + 1 + x)) = true := by
      have a1' : S.vm.classes[cA]? = some kA := by rw [e3]; exact a1
      simp [State.fitsSlot, State.slotType?, a1', a2, fits]
    refine ⟨_, hS0, (show VmData.none ≠ VmData.unknown from fun q => by cases q), by show _ < (arrV _ _ _).slots.size; rw [arrV_size]; exact hj, ?_, ?_⟩
    · rw [show (S.setTop g).heap.size = h0 + 1 + x from e5]
      exact hfits
    · rw [show (S.setTop g).heap.size = h0 + 1 + x from e5]
      refine hnext _ _ _ ⟨x + 1, (S.pushCell { cls := comp, slots := Array.replicate K (.long 0), vm := .none }).setCell h0 ((arrV cA N (fun i => if i < x then .ref (h0 + 1 + i) else .null)).setSlot x (.ref (h0 + 1 + x))), L ++ [⟨h0, x⟩], rfl, by omega, rfl, e3, ?_, ?_, ?_, ?_, ?_, ?_, ?_⟩
      · rw [← List.append_assoc]
        rw [show cells + (1 + (x + 1)) = cells + (1 + x) + 1 by omega, show slots + (N + (x + 1) * K) = slots + (N + x * K) + K by omega]
        simpa using X3
      · intro q hq
        rcases List.mem_append.mp hq with z | z
        · exact e4 q z
        · rw [List.mem_singleton] at z
          rw [z]
      · rw [size_setCell]
        show (S.heap.push _).size = _
        rw [Array.size_push, e5]; omega
      · rw [heapAt_setCell_self _ (by show h0 < (S.heap.push _).size; rw [Array.size_push]; omega), arrV_store]
        congr 1
        unfold arrV
        congr 1
        apply Array.ext
        · simp
        · intro i h1 h2
          simp only [Array.getElem_ofFn, updV]
          by_cases hi : i = x
          · subst hi
            rw [if_pos rfl, if_pos (by omega)]
          · rw [if_neg hi]
            by_cases hi2 : i < x
            · rw [if_pos hi2, if_pos (by omega)]
            · rw [if_neg hi2, if_neg (by omega)]
      · intro i hi
        rw [heapAt_setCell_ne _ (show h0 ≠ h0 + 1 + i by omega)]
        show (S.heap.push _)[_]? = _
        rw [Array.getElem?_push]
        by_cases hi2 : i = x
        · subst hi2
          rw [if_pos (by omega), arrV_new]
        · rw [if_neg (by omega)]
          exact e7 i (by omega)
      · intro q hq
        rw [heapAt_setCell_ne _ (show h0 ≠ q by omega)]
        show (S.heap.push _)[_]? = _
        rw [Array.getElem?_push, if_neg (by omega)]
        exact e8 q hq
      · show S.slotsUsed + (Array.replicate K (Value.long 0)).size = _
        rw [Array.size_replicate]; omega
  · rintro s' d' acts' ⟨j, S, L, e1, e2, rfl, e3, X2, e4, e5, e6, e7, e8, e9⟩
    have hj : j = N := by
      rcases Nat.lt_or_ge j N with z | z
      · rw [show N - j = (N - (j + 1)) + 1 by omega, List.range'_succ] at e1
        cases e1
      · omega
    subst hj
    simp only [wp_pure']
    subst hh0
    refine kk S L d' acts' ?_ e4 e5 ?_ e7 e8
    · rw [show j + 1 = 1 + j by omega]
      exact X2
    · rw [e6]
      congr 1
      unfold arrV
      congr 1
      apply Array.ext
      · simp
      · intro i h1 h2
        have hi : i < j := by simpa using h1
        simp [hi]
end YM
section YM
variable {p : Program} {l : Launch} {e : Env} {R : Room} {s : State} {m : MethodId} {args : Array Value} {below : List Frame} {meth : Method} {c : Code} {H : Heap} {locs : List Loc} {cells slots : Nat} {Q : State → Prop}
theorem y_mul {cc : ByteArray} (hexec : p.tables.exec = Jvm.exec) (hb : c.code = cc) {own : String} {index : Nat} (hown : s.vm.findClass own = some m.cls) (hclink : (Cond.classLink own index "[[J").before args s = true) (hA : y_AA s)
    {g : JFrame} (hg : g.method = m) (hdg : decode cc g.pc = .ok (.multianewarray index 2, 4)) {n k : Int32} {N K : Nat} {rest : List Value} (hstack : g.stack = .int k :: .int n :: rest) (hn : ¬ n < 0) (hN : n.toNatClampNeg = N) (hn0 : 0 < N) (hk : ¬ k < 0) (hK : k.toNatClampNeg = K) (hb1 : N ≤ 1000) (hb2 : K ≤ 1000)
    (hcells : cells + (N + 1) ≤ R.cells) (hslots : slots + (N + N * K) ≤ R.slots) {h : Nat} (hh : H.size = h)
    (kk : ∀ (H' : Heap) (L : List Loc) (cA cJ : ClassId), s.vm.findClass "[[J" = some cA → s.vm.findClass "[J" = some cJ → (∀ q ∈ L, q.base = h) → H'.size = h + 1 + N → H'[h]? = some (arrV cA N (fun j => .ref (h + 1 + j))) → (∀ j, j < N → H'[h + 1 + j]? = some (arrV cJ K (fun _ => .long 0))) → (∀ q, q < h → H'[q]? = H[q]?) →
      W p l e R s m args below meth c H' (locs ++ L) (cells + (N + 1)) (slots + (N + N * K)) Q { g with pc := g.pc + 4, stack := .ref h :: rest }) : W p l e R s m args below meth c H locs cells slots Q g := by
  intro T hT X
  subst hT; subst hb; subst hg; subst hh
  have hpl : e.platform.magicAccessors = ({} : Platform).magicAccessors := by rw [X.admits.platform]
  obtain ⟨comp, cA, kA, kJ, cJ, a1, a2, a3, a4, a5, a6⟩ := hA
  obtain ⟨cc', hfcc, hcl⟩ := Cond.classLink_spec hown hclink e.platform hpl
  cases a2.symm.trans hfcc
  obtain ⟨hg₁, hwarm₁, hready₁⟩ := State.classEntry (e := e) X.warmed hcl
  generalize T.vm.noted g.method.cls index (.cls cA) = vm₁ at hg₁ hwarm₁ hready₁
  have hal : s.vm.Alike vm₁ := hwarm₁.alike
  obtain ⟨kA₁, b1, b2⟩ := hal.2.2 _ _ a3
  obtain ⟨kJ₁, b3, b4⟩ := hal.2.2 _ _ a5
  have X₁ := X.noted hwarm₁
  obtain ⟨hr1, hr2⟩ := X.roomAbove hcells hslots
  have lim := Launch.admits_arrayLengthLimit X.admits
  have hea := Launch.admits_maxHeapBytes X.admits
  have htop : T.topJava?.isSome := X.here.top
  have key : wpRun (multianewarray.sem index 2) (fun _ s' _ => ∃ (S : State) (L : List Loc), s' = S.setTop { g with stack := .ref T.heap.size :: rest } ∧ Stand p l e R s g.method args below meth c S (locs ++ L) (cells + (N + 1)) (slots + (N + N * K)) ∧ (∀ q ∈ L, q.base = T.heap.size) ∧ S.heap.size = T.heap.size + 1 + N ∧ S.heap[T.heap.size]? = some (arrV cA N (fun j => .ref (T.heap.size + 1 + j))) ∧ (∀ j, j < N → S.heap[T.heap.size + 1 + j]? = some (arrV comp K (fun _ => .long 0))) ∧ (∀ q, q < T.heap.size → S.heap[q]? = T.heap[q]?)) (fun _ _ _ => False) e (T.setTop g) := by
    unfold wpRun
    simp only [multianewarray.sem, wp_bind']
    rw [W.resolveClassAt_links (State.method?_setTop g htop) hg₁]
    rw [show (T.setTop g).setVm vm₁ = (T.setVm vm₁).setTop g from rfl, wp_bind', W.popN, if_neg (by decide)]
    refine ⟨g, State.topJava?_setTop' (s := T.setVm vm₁) g htop, [.int n, .int k], rest, rfl, by rw [hstack]; rfl, ?_⟩
    simp only [List.mapM_cons, List.mapM_nil, wp_bind', wp_pure', State.setTop_setTop]
    refine y_make (T := T.setVm vm₁) (g := { g with stack := rest }) (N := N) (K := K) (cA := cA) (comp := comp) (cJ := cJ) (kA := kA₁) (kJ := kJ₁) X₁ hn hN hn0 hk hK b1 (by rw [b2]; exact a4) b3 (by rw [b4]; exact a6) (by rw [lim]; omega) (by rw [hea]; omega) (by rw [lim]; omega) (by rw [hea]; omega) hr1 hr2 ?_
    intro S L d' acts' X2 e1 e2 e3 e4 e5
    simp only [wp_bind', W.mark, W.pushRef]
    refine ⟨{ g with stack := rest }, State.topJava?_setTop' _ X2.here.top, ?_⟩
    exact ⟨S, L, by rw [State.setTop_setTop]; rfl, X2, e1, e2, e3, e4, e5⟩
  have k2 := (wpRun_iff_run _ _ _ _ _).mp key
  have hex : p.tables.exec (.multianewarray index 2) = multianewarray.sem index 2 := by rw [hexec]; rfl
  cases hr : (multianewarray.sem index 2).run e (T.setTop g) with
  | ctl x s₁ acts => rw [hr] at k2; cases x <;> exact k2.elim
  | ok a s₁ acts =>
    rw [hr] at k2
    obtain ⟨S, L, rfl, X2, e1, e2, e3, e4, e5⟩ := k2
    obtain ⟨t, st, q⟩ := kk S.heap L cA comp a2 a1 e1 e2 e3 e4 e5 S rfl X2
    refine ⟨t, ?_, q⟩
    refine Steps.instr X.here ?_
    rw [hdg]
    show wpRun (p.tables.exec (.multianewarray index 2)) _ _ _ _
    rw [hex]
    refine (wpRun_iff_run _ _ _ _ _).mpr ?_
    rw [hr]
    intro acts
    rw [afterInstr_ok]
    exact st
end YM
