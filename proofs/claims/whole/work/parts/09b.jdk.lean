/-! Methods of java.lang.Math: a walk without store, over 'AtOv' -/
def z_JQ (below : List Frame) (args : Array Value) (s : State) (Qf : Array Value → State → Outcome → State → Prop) : State → Prop := fun t => t.status = .running ∧ ∃ o, Ended t below o ∧ Qf args s o t
theorem z_Mov {l : Launch} {y : MethodName} {ws' : List Cond} {rm : Room} {Pc : Array Value → State → Prop} {Qf : Array Value → State → Outcome → State → Prop} {cc : ByteArray} {maxL : Nat} {ret : Option FieldType}
    (hrow : ∀ p : Program, NativeRow.find? p.tables.natives y.cls y.name y.desc = none)
    (body : ∀ p e s m args below meth c s₁, BodyLooseOv p (headSpec (.code y cc maxL ret :: ws') rm) cc maxL ret e s m args below meth c s₁ → Pc args s → ∃ t, Steps p.tables e below (s₁.setTop (entryFrame m args maxL)) t ∧ z_JQ below args s Qf t) : MetFree l y (headSpec (.code y cc maxL ret :: ws') rm) Pc (fun _ _ _ _ _ => True) Qf := by
  intro p e ha hc hk s m args below hf happ hP _
  obtain ⟨hrun, hable, halone, hname, hhears, hinit, hroom, hpre⟩ := (Spec.appliesLoose_iff hf).mp happ
  obtain ⟨meth, c, hmeth, hcode, hbytes, hlocals, hret, hlocks, -⟩ := Cond.code_spec hname (atoms_spec (ws := .code y cc maxL ret :: ws') hpre _ List.mem_cons_self)
  have hcur := State.cur_lt_of_frames hf
  have hf1 : (s.setFrames (.java (entryFrame m args maxL) :: below)).frames = .java (entryFrame m args maxL) :: below := State.frames_setFrames _ hcur
  have ht1 := State.topJava?_of_frames hf1
  have hown : ∀ f : JFrame, f.method = m → overridden p.tables e ((s.setFrames (.java (entryFrame m args maxL) :: below)).setTop f) f = none := by
    intro f hfm
    obtain ⟨k', hk', hn⟩ := className_of_methodNamed hname
    obtain ⟨hmn, hmd⟩ := name_of_methodNamed hname hmeth
    have hx' : k'.methods[m.idx]? = some meth := by simpa [Vm.method?, hk'] using hmeth
    refine overridden_noRow _ _ (k := k') (x := meth) (by rw [hfm]; exact hk') (by rw [hfm]; exact hx') ?_
    rw [hn, hmn, hmd]
    exact hrow p
  have hAt : AtOv p.tables e (s.setFrames (.java (entryFrame m args maxL) :: below)) m c below :=
    ⟨by rw [ht1]; rfl, ⟨[], by rw [hf1]; rfl⟩, hrun, by simpa using hable, by simpa using halone, by rw [State.code?_eq]; simp [State.setFrames, hmeth, hcode], hown⟩
  obtain ⟨s₂, hs, hr, o, he, hp⟩ := body p e s m args below meth c _ ⟨by cases p <;> rfl, hf, hhears, hpre, hmeth, hret, hlocks, hbytes, rfl, hAt⟩ hP
  have hstep : (stepThread p.tables e s).1 = (s.setFrames (.java (entryFrame m args maxL) :: below)).setTop (entryFrame m args maxL) := by
    have hfull : e.platform.stackFull (s.setFrames below).me (s.setFrames below).frames c.maxLocals = false := by
      obtain ⟨-, h1, -, h2⟩ := State.hasRoom_stack hroom
      rw [hf, List.length_cons] at h1
      rw [State.localsInUse_invoking hf hmeth hcode] at h2
      have hw := stackUse_le_stackWeight below
      rw [State.frames_setFrames _ hcur]
      exact Platform.stackFull_eq_false (by rw [State.stackLimits_setFrames]; omega) (by rw [State.stackLimits_setFrames]; omega)
    rw [stepThread_invoking hf, (doInvoke_java (s := s.setFrames below) (e := e) (meth := meth) (code := c) hmeth hcode hlocks hfull).1, State.setTop_self ht1]
    simp only [State.pushFrame, State.frames_setFrames _ hcur, State.setFrames_setFrames, hlocals, entryFrame]
  obtain ⟨n, hn, hw⟩ := Steps.head (tb := p.tables) (e := e) ⟨hrun, hable, halone⟩ ⟨[.invoking m args], hf, by simp, by simp⟩ (hstep ▸ hs)
  exact ⟨n, o, hw, hn ▸ hr, hn ▸ he, hn ▸ hp⟩
def z_J (p : Program) (e : Env) (below : List Frame) (s1 : State) (m : MethodId) (Q : State → Prop) (nL pc : Nat) (lv : List (Nat × Value)) (st : List Value) : Prop := ∀ ls : Array Slot, lv_has ls nL lv → ∃ t, Steps p.tables e below (s1.setTop (F0 m pc ls st)) t ∧ Q t
section ZJ
variable {p : Program} {S : Spec} {cc : ByteArray} {nL : Nat} {ret : Option FieldType} {e : Env} {s : State} {m : MethodId} {args : Array Value} {below : List Frame} {meth : Method} {c : Code} {s1 : State} {Q : State → Prop} {lv : List (Nat × Value)} {st : List Value} {G : z_Gl} {σ : z_St}
theorem j_iconst (pc : Nat) (C : BodyLooseOv p S cc nL ret e s m args below meth c s1) {n : Int} (hd : decode cc pc = .ok (.iconst n, 1)) (v : Int32) (hv : Int32.ofInt n = v) (k : z_J p e below s1 m Q nL (pc + 1) lv (.int v :: st)) : z_J p e below s1 m Q nL pc lv (st) := fun ls h => by
  obtain ⟨t, a, b⟩ := k ls h
  refine ⟨t, ?_, b⟩
  refine Steps.instrAtOv (c := c) (by simpa using C.here) ?_
  simp [jvm, wpRun, exec, C.here.top, C.exec, C.bytes, hd, hv]
  exact a
theorem j_lconst (pc : Nat) (C : BodyLooseOv p S cc nL ret e s m args below meth c s1) {n : Fin 2} (hd : decode cc pc = .ok (.lconst n, 1)) (v : Int64) (hv : Int64.ofNat (n : Nat) = v) (k : z_J p e below s1 m Q nL (pc + 1) lv (.long v :: st)) : z_J p e below s1 m Q nL pc lv (st) := fun ls h => by
  subst hv
  obtain ⟨t, a, b⟩ := k ls h
  refine ⟨t, ?_, b⟩
  refine Steps.instrAtOv (c := c) (by simpa using C.here) ?_
  simp [jvm, wpRun, exec, C.here.top, C.exec, C.bytes, hd]
  exact a
theorem j_iload_n (pc : Nat) (C : BodyLooseOv p S cc nL ret e s m args below meth c s1) {i : Fin 4} {x : Int32} (hd : decode cc pc = .ok (.iload_n i, 1)) (j : Nat) (hl : lv[j]? = some ((i : Nat), .int x)) (k : z_J p e below s1 m Q nL (pc + 1) lv (.int x :: st)) : z_J p e below s1 m Q nL pc lv (st) := fun ls h => by
  have h0 := lv_at h j hl
  obtain ⟨t, a, b⟩ := k ls h
  refine ⟨t, ?_, b⟩
  refine Steps.instrAtOv (c := c) (by simpa using C.here) ?_
  simp [jvm, wpRun, exec, C.here.top, C.exec, C.bytes, hd, h0]
  exact a
theorem j_lload_n (pc : Nat) (C : BodyLooseOv p S cc nL ret e s m args below meth c s1) {i : Fin 4} {x : Int64} (hd : decode cc pc = .ok (.lload_n i, 1)) (j : Nat) (hl : lv[j]? = some ((i : Nat), .long x)) (k : z_J p e below s1 m Q nL (pc + 1) lv (.long x :: st)) : z_J p e below s1 m Q nL pc lv (st) := fun ls h => by
  have h0 := lv_at h j hl
  obtain ⟨t, a, b⟩ := k ls h
  refine ⟨t, ?_, b⟩
  refine Steps.instrAtOv (c := c) (by simpa using C.here) ?_
  simp [jvm, wpRun, exec, C.here.top, C.exec, C.bytes, hd, h0]
  exact a
theorem j_lload (pc : Nat) (C : BodyLooseOv p S cc nL ret e s m args below meth c s1) {i : Nat} {x : Int64} (hd : decode cc pc = .ok (.lload i, 2)) (j : Nat) (hl : lv[j]? = some (i, .long x)) (k : z_J p e below s1 m Q nL (pc + 2) lv (.long x :: st)) : z_J p e below s1 m Q nL pc lv (st) := fun ls h => by
  have h0 := lv_at h j hl
  obtain ⟨t, a, b⟩ := k ls h
  refine ⟨t, ?_, b⟩
  refine Steps.instrAtOv (c := c) (by simpa using C.here) ?_
  simp [jvm, wpRun, exec, C.here.top, C.exec, C.bytes, hd, h0]
  exact a
theorem j_iadd (pc : Nat) (C : BodyLooseOv p S cc nL ret e s m args below meth c s1) {x y : Int32} (hd : decode cc pc = .ok (.iadd, 1))  (k : z_J p e below s1 m Q nL (pc + 1) lv (.int (x + y) :: st)) : z_J p e below s1 m Q nL pc lv (.int y :: .int x :: st) := fun ls h => by
  obtain ⟨t, a, b⟩ := k ls h
  refine ⟨t, ?_, b⟩
  refine Steps.instrAtOv (c := c) (by simpa using C.here) ?_
  simp [jvm, wpRun, exec, C.here.top, C.exec, C.bytes, hd]
  exact a
theorem j_isub (pc : Nat) (C : BodyLooseOv p S cc nL ret e s m args below meth c s1) {x y : Int32} (hd : decode cc pc = .ok (.isub, 1))  (k : z_J p e below s1 m Q nL (pc + 1) lv (.int (x - y) :: st)) : z_J p e below s1 m Q nL pc lv (.int y :: .int x :: st) := fun ls h => by
  obtain ⟨t, a, b⟩ := k ls h
  refine ⟨t, ?_, b⟩
  refine Steps.instrAtOv (c := c) (by simpa using C.here) ?_
  simp [jvm, wpRun, exec, C.here.top, C.exec, C.bytes, hd]
  exact a
theorem j_imul (pc : Nat) (C : BodyLooseOv p S cc nL ret e s m args below meth c s1) {x y : Int32} (hd : decode cc pc = .ok (.imul, 1))  (k : z_J p e below s1 m Q nL (pc + 1) lv (.int (x * y) :: st)) : z_J p e below s1 m Q nL pc lv (.int y :: .int x :: st) := fun ls h => by
  obtain ⟨t, a, b⟩ := k ls h
  refine ⟨t, ?_, b⟩
  refine Steps.instrAtOv (c := c) (by simpa using C.here) ?_
  simp [jvm, wpRun, exec, C.here.top, C.exec, C.bytes, hd]
  exact a
theorem j_ixor (pc : Nat) (C : BodyLooseOv p S cc nL ret e s m args below meth c s1) {x y : Int32} (hd : decode cc pc = .ok (.ixor, 1))  (k : z_J p e below s1 m Q nL (pc + 1) lv (.int (x ^^^ y) :: st)) : z_J p e below s1 m Q nL pc lv (.int y :: .int x :: st) := fun ls h => by
  obtain ⟨t, a, b⟩ := k ls h
  refine ⟨t, ?_, b⟩
  refine Steps.instrAtOv (c := c) (by simpa using C.here) ?_
  simp [jvm, wpRun, exec, C.here.top, C.exec, C.bytes, hd]
  exact a
theorem j_idiv (pc : Nat) (C : BodyLooseOv p S cc nL ret e s m args below meth c s1) {x y : Int32} (hd : decode cc pc = .ok (.idiv, 1)) (hne : ¬ y = 0) (k : z_J p e below s1 m Q nL (pc + 1) lv (.int (x / y) :: st)) : z_J p e below s1 m Q nL pc lv (.int y :: .int x :: st) := fun ls h => by
  obtain ⟨t, a, b⟩ := k ls h
  refine ⟨t, ?_, b⟩
  refine Steps.instrAtOv (c := c) (by simpa using C.here) ?_
  simp [jvm, wpRun, exec, C.here.top, C.exec, C.bytes, hd, hne]
  exact a
theorem j_irem (pc : Nat) (C : BodyLooseOv p S cc nL ret e s m args below meth c s1) {x y : Int32} (hd : decode cc pc = .ok (.irem, 1)) (hne : ¬ y = 0) (k : z_J p e below s1 m Q nL (pc + 1) lv (.int (x - x / y * y) :: st)) : z_J p e below s1 m Q nL pc lv (.int y :: .int x :: st) := fun ls h => by
  obtain ⟨t, a, b⟩ := k ls h
  refine ⟨t, ?_, b⟩
  refine Steps.instrAtOv (c := c) (by simpa using C.here) ?_
  simp [jvm, wpRun, exec, C.here.top, C.exec, C.bytes, hd, hne]
  exact a
theorem j_ladd (pc : Nat) (C : BodyLooseOv p S cc nL ret e s m args below meth c s1) {x y : Int64} (hd : decode cc pc = .ok (.ladd, 1))  (k : z_J p e below s1 m Q nL (pc + 1) lv (.long (x + y) :: st)) : z_J p e below s1 m Q nL pc lv (.long y :: .long x :: st) := fun ls h => by
  obtain ⟨t, a, b⟩ := k ls h
  refine ⟨t, ?_, b⟩
  refine Steps.instrAtOv (c := c) (by simpa using C.here) ?_
  simp [jvm, wpRun, exec, C.here.top, C.exec, C.bytes, hd]
  exact a
theorem j_lsub (pc : Nat) (C : BodyLooseOv p S cc nL ret e s m args below meth c s1) {x y : Int64} (hd : decode cc pc = .ok (.lsub, 1))  (k : z_J p e below s1 m Q nL (pc + 1) lv (.long (x - y) :: st)) : z_J p e below s1 m Q nL pc lv (.long y :: .long x :: st) := fun ls h => by
  obtain ⟨t, a, b⟩ := k ls h
  refine ⟨t, ?_, b⟩
  refine Steps.instrAtOv (c := c) (by simpa using C.here) ?_
  simp [jvm, wpRun, exec, C.here.top, C.exec, C.bytes, hd]
  exact a
theorem j_lmul (pc : Nat) (C : BodyLooseOv p S cc nL ret e s m args below meth c s1) {x y : Int64} (hd : decode cc pc = .ok (.lmul, 1))  (k : z_J p e below s1 m Q nL (pc + 1) lv (.long (x * y) :: st)) : z_J p e below s1 m Q nL pc lv (.long y :: .long x :: st) := fun ls h => by
  obtain ⟨t, a, b⟩ := k ls h
  refine ⟨t, ?_, b⟩
  refine Steps.instrAtOv (c := c) (by simpa using C.here) ?_
  simp [jvm, wpRun, exec, C.here.top, C.exec, C.bytes, hd]
  exact a
theorem j_lxor (pc : Nat) (C : BodyLooseOv p S cc nL ret e s m args below meth c s1) {x y : Int64} (hd : decode cc pc = .ok (.lxor, 1))  (k : z_J p e below s1 m Q nL (pc + 1) lv (.long (x ^^^ y) :: st)) : z_J p e below s1 m Q nL pc lv (.long y :: .long x :: st) := fun ls h => by
  obtain ⟨t, a, b⟩ := k ls h
  refine ⟨t, ?_, b⟩
  refine Steps.instrAtOv (c := c) (by simpa using C.here) ?_
  simp [jvm, wpRun, exec, C.here.top, C.exec, C.bytes, hd]
  exact a
theorem j_ldiv (pc : Nat) (C : BodyLooseOv p S cc nL ret e s m args below meth c s1) {x y : Int64} (hd : decode cc pc = .ok (.ldiv, 1)) (hne : ¬ y = 0) (k : z_J p e below s1 m Q nL (pc + 1) lv (.long (x / y) :: st)) : z_J p e below s1 m Q nL pc lv (.long y :: .long x :: st) := fun ls h => by
  obtain ⟨t, a, b⟩ := k ls h
  refine ⟨t, ?_, b⟩
  refine Steps.instrAtOv (c := c) (by simpa using C.here) ?_
  simp [jvm, wpRun, exec, C.here.top, C.exec, C.bytes, hd, hne]
  exact a
theorem j_ineg (pc : Nat) (C : BodyLooseOv p S cc nL ret e s m args below meth c s1) {x : Int32} (hd : decode cc pc = .ok (.ineg, 1))  (k : z_J p e below s1 m Q nL (pc + 1) lv (.int (-x) :: st)) : z_J p e below s1 m Q nL pc lv (.int x :: st) := fun ls h => by
  obtain ⟨t, a, b⟩ := k ls h
  refine ⟨t, ?_, b⟩
  refine Steps.instrAtOv (c := c) (by simpa using C.here) ?_
  simp [jvm, wpRun, exec, C.here.top, C.exec, C.bytes, hd]
  exact a
theorem j_lneg (pc : Nat) (C : BodyLooseOv p S cc nL ret e s m args below meth c s1) {x : Int64} (hd : decode cc pc = .ok (.lneg, 1))  (k : z_J p e below s1 m Q nL (pc + 1) lv (.long (-x) :: st)) : z_J p e below s1 m Q nL pc lv (.long x :: st) := fun ls h => by
  obtain ⟨t, a, b⟩ := k ls h
  refine ⟨t, ?_, b⟩
  refine Steps.instrAtOv (c := c) (by simpa using C.here) ?_
  simp [jvm, wpRun, exec, C.here.top, C.exec, C.bytes, hd]
  exact a
theorem j_istore_n (pc : Nat) (C : BodyLooseOv p S cc nL ret e s m args below meth c s1) {i : Fin 4} {x : Int32} (hd : decode cc pc = .ok (.istore_n i, 1)) (lv1 : List (Nat × Value)) (hn : (i : Nat) < nL) (hl : ((i : Nat), Value.int x) :: lv.filter (fun q => !(q.1 == (i : Nat)) && !(q.1 + 1 == (i : Nat) && q.2.category == 2)) = lv1) (k : z_J p e below s1 m Q nL (pc + 1) lv1 st) : z_J p e below s1 m Q nL pc lv (.int x :: st) := fun ls h => by
  obtain ⟨ls', e', h'⟩ := lv_store1 (v := .int x) h hn rfl
  obtain ⟨t, a, b⟩ := k ls' (hl ▸ h')
  refine ⟨t, ?_, b⟩
  refine Steps.instrAtOv (c := c) (by simpa using C.here) ?_
  simp [jvm, wpRun, exec, C.here.top, ↓top_set C.here.top, C.exec, C.bytes, hd, e']
  exact a
theorem j_lstore (pc : Nat) (C : BodyLooseOv p S cc nL ret e s m args below meth c s1) {i : Nat} {x : Int64} (hd : decode cc pc = .ok (.lstore i, 2)) (lv1 : List (Nat × Value)) (hn : (i : Nat) + 1 < nL) (hl : ((i : Nat), Value.long x) :: lv.filter (fun q => !(q.1 == (i : Nat)) && (!(q.1 == (i : Nat) + 1) && !(q.1 + 1 == (i : Nat) && q.2.category == 2))) = lv1) (k : z_J p e below s1 m Q nL (pc + 2) lv1 st) : z_J p e below s1 m Q nL pc lv (.long x :: st) := fun ls h => by
  obtain ⟨ls', e', h'⟩ := lv_store2 (v := .long x) h hn rfl
  obtain ⟨t, a, b⟩ := k ls' (hl ▸ h')
  refine ⟨t, ?_, b⟩
  refine Steps.instrAtOv (c := c) (by simpa using C.here) ?_
  simp [jvm, wpRun, exec, C.here.top, ↓top_set C.here.top, C.exec, C.bytes, hd, e']
  exact a
theorem j_goto (pc : Nat) (C : BodyLooseOv p S cc nL ret e s m args below meth c s1) (tgt : Nat) {off : Int} (hd : decode cc pc = .ok (.goto off, 3)) (ht : (pc : Int) + off = (tgt : Int)) (k : z_J p e below s1 m Q nL tgt lv st) : z_J p e below s1 m Q nL pc lv st := fun ls h => by
  obtain ⟨t, a, b⟩ := k ls h
  refine ⟨t, ?_, b⟩
  refine Steps.instrAtOv (c := c) (by simpa using C.here) ?_
  simp [jvm, wpRun, exec, C.here.top, C.exec, C.bytes, hd, ht]
  exact a
theorem j_if_eq (pc : Nat) (C : BodyLooseOv p S cc nL ret e s m args below meth c s1) {x : Int32} (tgt : Nat) {off : Int} (hd : decode cc pc = .ok (.ifCond .eq off, 3)) (ht : (pc : Int) + off = (tgt : Int)) (kt : (x = 0) → z_J p e below s1 m Q nL tgt lv st) (kf : ¬ (x = 0) → z_J p e below s1 m Q nL (pc + 3) lv st) : z_J p e below s1 m Q nL pc lv (.int x :: st) := fun ls h => by
  by_cases hP : (x = 0)
  · obtain ⟨t, a, b⟩ := kt hP ls h
    refine ⟨t, ?_, b⟩
    refine Steps.instrAtOv (c := c) (by simpa using C.here) ?_
    simp [jvm, wpRun, exec, C.here.top, C.exec, C.bytes, hd, ht, Op.ifCond.holds, hP]
    exact a
  · obtain ⟨t, a, b⟩ := kf hP ls h
    refine ⟨t, ?_, b⟩
    refine Steps.instrAtOv (c := c) (by simpa using C.here) ?_
    simp [jvm, wpRun, exec, C.here.top, C.exec, C.bytes, hd, Op.ifCond.holds, hP]
    exact a
theorem j_if_lt (pc : Nat) (C : BodyLooseOv p S cc nL ret e s m args below meth c s1) {x : Int32} (tgt : Nat) {off : Int} (hd : decode cc pc = .ok (.ifCond .lt off, 3)) (ht : (pc : Int) + off = (tgt : Int)) (kt : (x < 0) → z_J p e below s1 m Q nL tgt lv st) (kf : ¬ (x < 0) → z_J p e below s1 m Q nL (pc + 3) lv st) : z_J p e below s1 m Q nL pc lv (.int x :: st) := fun ls h => by
  by_cases hP : (x < 0)
  · obtain ⟨t, a, b⟩ := kt hP ls h
    refine ⟨t, ?_, b⟩
    refine Steps.instrAtOv (c := c) (by simpa using C.here) ?_
    simp [jvm, wpRun, exec, C.here.top, C.exec, C.bytes, hd, ht, Op.ifCond.holds, hP]
    exact a
  · obtain ⟨t, a, b⟩ := kf hP ls h
    refine ⟨t, ?_, b⟩
    refine Steps.instrAtOv (c := c) (by simpa using C.here) ?_
    simp [jvm, wpRun, exec, C.here.top, C.exec, C.bytes, hd, Op.ifCond.holds, hP]
    exact a
theorem j_if_ge (pc : Nat) (C : BodyLooseOv p S cc nL ret e s m args below meth c s1) {x : Int32} (tgt : Nat) {off : Int} (hd : decode cc pc = .ok (.ifCond .ge off, 3)) (ht : (pc : Int) + off = (tgt : Int)) (kt : (0 ≤ x) → z_J p e below s1 m Q nL tgt lv st) (kf : ¬ (0 ≤ x) → z_J p e below s1 m Q nL (pc + 3) lv st) : z_J p e below s1 m Q nL pc lv (.int x :: st) := fun ls h => by
  by_cases hP : (0 ≤ x)
  · obtain ⟨t, a, b⟩ := kt hP ls h
    refine ⟨t, ?_, b⟩
    refine Steps.instrAtOv (c := c) (by simpa using C.here) ?_
    simp [jvm, wpRun, exec, C.here.top, C.exec, C.bytes, hd, ht, Op.ifCond.holds, hP]
    exact a
  · obtain ⟨t, a, b⟩ := kf hP ls h
    refine ⟨t, ?_, b⟩
    refine Steps.instrAtOv (c := c) (by simpa using C.here) ?_
    simp [jvm, wpRun, exec, C.here.top, C.exec, C.bytes, hd, Op.ifCond.holds, hP]
    exact a
theorem j_if_gt (pc : Nat) (C : BodyLooseOv p S cc nL ret e s m args below meth c s1) {x : Int32} (tgt : Nat) {off : Int} (hd : decode cc pc = .ok (.ifCond .gt off, 3)) (ht : (pc : Int) + off = (tgt : Int)) (kt : (0 < x) → z_J p e below s1 m Q nL tgt lv st) (kf : ¬ (0 < x) → z_J p e below s1 m Q nL (pc + 3) lv st) : z_J p e below s1 m Q nL pc lv (.int x :: st) := fun ls h => by
  by_cases hP : (0 < x)
  · obtain ⟨t, a, b⟩ := kt hP ls h
    refine ⟨t, ?_, b⟩
    refine Steps.instrAtOv (c := c) (by simpa using C.here) ?_
    simp [jvm, wpRun, exec, C.here.top, C.exec, C.bytes, hd, ht, Op.ifCond.holds, hP]
    exact a
  · obtain ⟨t, a, b⟩ := kf hP ls h
    refine ⟨t, ?_, b⟩
    refine Steps.instrAtOv (c := c) (by simpa using C.here) ?_
    simp [jvm, wpRun, exec, C.here.top, C.exec, C.bytes, hd, Op.ifCond.holds, hP]
    exact a
theorem j_if_le (pc : Nat) (C : BodyLooseOv p S cc nL ret e s m args below meth c s1) {x : Int32} (tgt : Nat) {off : Int} (hd : decode cc pc = .ok (.ifCond .le off, 3)) (ht : (pc : Int) + off = (tgt : Int)) (kt : (x ≤ 0) → z_J p e below s1 m Q nL tgt lv st) (kf : ¬ (x ≤ 0) → z_J p e below s1 m Q nL (pc + 3) lv st) : z_J p e below s1 m Q nL pc lv (.int x :: st) := fun ls h => by
  by_cases hP : (x ≤ 0)
  · obtain ⟨t, a, b⟩ := kt hP ls h
    refine ⟨t, ?_, b⟩
    refine Steps.instrAtOv (c := c) (by simpa using C.here) ?_
    simp [jvm, wpRun, exec, C.here.top, C.exec, C.bytes, hd, ht, Op.ifCond.holds, hP]
    exact a
  · obtain ⟨t, a, b⟩ := kf hP ls h
    refine ⟨t, ?_, b⟩
    refine Steps.instrAtOv (c := c) (by simpa using C.here) ?_
    simp [jvm, wpRun, exec, C.here.top, C.exec, C.bytes, hd, Op.ifCond.holds, hP]
    exact a
theorem j_icmp_eq (pc : Nat) (C : BodyLooseOv p S cc nL ret e s m args below meth c s1) {x y : Int32} (tgt : Nat) {off : Int} (hd : decode cc pc = .ok (.if_icmp .eq off, 3)) (ht : (pc : Int) + off = (tgt : Int)) (kt : (x = y) → z_J p e below s1 m Q nL tgt lv st) (kf : ¬ (x = y) → z_J p e below s1 m Q nL (pc + 3) lv st) : z_J p e below s1 m Q nL pc lv (.int y :: .int x :: st) := fun ls h => by
  by_cases hP : (x = y)
  · obtain ⟨t, a, b⟩ := kt hP ls h
    refine ⟨t, ?_, b⟩
    refine Steps.instrAtOv (c := c) (by simpa using C.here) ?_
    simp [jvm, wpRun, exec, C.here.top, C.exec, C.bytes, hd, ht, Op.if_icmp.holds, hP]
    exact a
  · obtain ⟨t, a, b⟩ := kf hP ls h
    refine ⟨t, ?_, b⟩
    refine Steps.instrAtOv (c := c) (by simpa using C.here) ?_
    simp [jvm, wpRun, exec, C.here.top, C.exec, C.bytes, hd, Op.if_icmp.holds, hP]
    exact a
theorem j_lcmp (pc : Nat) (C : BodyLooseOv p S cc nL ret e s m args below meth c s1) {x y : Int64} (hd : decode cc pc = .ok (.lcmp, 1)) (k : z_J p e below s1 m Q nL (pc + 1) lv (.int (lg_cmp x y) :: st)) : z_J p e below s1 m Q nL pc lv (.long y :: .long x :: st) := fun ls h => by
  obtain ⟨t, a, b⟩ := k ls h
  refine ⟨t, ?_, b⟩
  by_cases h1 : y < x
  · have e1 : lg_cmp x y = 1 := by simp [lg_cmp, h1]
    rw [e1] at a
    refine Steps.instrAtOv (c := c) (by simpa using C.here) ?_
    simp [jvm, wpRun, exec, C.here.top, C.exec, C.bytes, hd, h1]
    exact a
  · by_cases h2 : x = y
    · subst h2
      have e1 : lg_cmp x x = 0 := by simp [lg_cmp]
      rw [e1] at a
      refine Steps.instrAtOv (c := c) (by simpa using C.here) ?_
      simp [jvm, wpRun, exec, C.here.top, C.exec, C.bytes, hd]
      exact a
    · have e1 : lg_cmp x y = -1 := by simp [lg_cmp, h1, h2]
      rw [e1] at a
      refine Steps.instrAtOv (c := c) (by simpa using C.here) ?_
      simp [jvm, wpRun, exec, C.here.top, C.exec, C.bytes, hd, h1, h2]
      exact a
theorem j_lcmp_lt (pc : Nat) (C : BodyLooseOv p S cc nL ret e s m args below meth c s1) {x y : Int64} (tgt : Nat) {off : Int} (hd0 : decode cc pc = .ok (.lcmp, 1)) (hd : decode cc (pc + 1) = .ok (.ifCond .lt off, 3)) (ht : (pc : Int) + 1 + off = (tgt : Int)) (kt : (x < y) → z_J p e below s1 m Q nL tgt lv st) (kf : ¬ (x < y) → z_J p e below s1 m Q nL (pc + 4) lv st) : z_J p e below s1 m Q nL pc lv (.long y :: .long x :: st) := j_lcmp pc C hd0 (j_if_lt (pc + 1) C tgt hd (by rw [← ht]; omega) (fun q => kt ((lg_cmp_lt x y).mp q)) (fun q => kf (fun z => q ((lg_cmp_lt x y).mpr z))))
theorem j_lcmp_ge (pc : Nat) (C : BodyLooseOv p S cc nL ret e s m args below meth c s1) {x y : Int64} (tgt : Nat) {off : Int} (hd0 : decode cc pc = .ok (.lcmp, 1)) (hd : decode cc (pc + 1) = .ok (.ifCond .ge off, 3)) (ht : (pc : Int) + 1 + off = (tgt : Int)) (kt : (y ≤ x) → z_J p e below s1 m Q nL tgt lv st) (kf : ¬ (y ≤ x) → z_J p e below s1 m Q nL (pc + 4) lv st) : z_J p e below s1 m Q nL pc lv (.long y :: .long x :: st) := j_lcmp pc C hd0 (j_if_ge (pc + 1) C tgt hd (by rw [← ht]; omega) (fun q => kt ((lg_cmp_ge x y).mp q)) (fun q => kf (fun z => q ((lg_cmp_ge x y).mpr z))))
theorem j_lcmp_gt (pc : Nat) (C : BodyLooseOv p S cc nL ret e s m args below meth c s1) {x y : Int64} (tgt : Nat) {off : Int} (hd0 : decode cc pc = .ok (.lcmp, 1)) (hd : decode cc (pc + 1) = .ok (.ifCond .gt off, 3)) (ht : (pc : Int) + 1 + off = (tgt : Int)) (kt : (y < x) → z_J p e below s1 m Q nL tgt lv st) (kf : ¬ (y < x) → z_J p e below s1 m Q nL (pc + 4) lv st) : z_J p e below s1 m Q nL pc lv (.long y :: .long x :: st) := j_lcmp pc C hd0 (j_if_gt (pc + 1) C tgt hd (by rw [← ht]; omega) (fun q => kt ((lg_cmp_gt x y).mp q)) (fun q => kf (fun z => q ((lg_cmp_gt x y).mpr z))))
theorem j_lcmp_le (pc : Nat) (C : BodyLooseOv p S cc nL ret e s m args below meth c s1) {x y : Int64} (tgt : Nat) {off : Int} (hd0 : decode cc pc = .ok (.lcmp, 1)) (hd : decode cc (pc + 1) = .ok (.ifCond .le off, 3)) (ht : (pc : Int) + 1 + off = (tgt : Int)) (kt : (x ≤ y) → z_J p e below s1 m Q nL tgt lv st) (kf : ¬ (x ≤ y) → z_J p e below s1 m Q nL (pc + 4) lv st) : z_J p e below s1 m Q nL pc lv (.long y :: .long x :: st) := j_lcmp pc C hd0 (j_if_le (pc + 1) C tgt hd (by rw [← ht]; omega) (fun q => kt ((lg_cmp_le x y).mp q)) (fun q => kf (fun z => q ((lg_cmp_le x y).mpr z))))
theorem j_lcmp_eq (pc : Nat) (C : BodyLooseOv p S cc nL ret e s m args below meth c s1) {x y : Int64} (tgt : Nat) {off : Int} (hd0 : decode cc pc = .ok (.lcmp, 1)) (hd : decode cc (pc + 1) = .ok (.ifCond .eq off, 3)) (ht : (pc : Int) + 1 + off = (tgt : Int)) (kt : (x = y) → z_J p e below s1 m Q nL tgt lv st) (kf : ¬ (x = y) → z_J p e below s1 m Q nL (pc + 4) lv st) : z_J p e below s1 m Q nL pc lv (.long y :: .long x :: st) := j_lcmp pc C hd0 (j_if_eq (pc + 1) C tgt hd (by rw [← ht]; omega) (fun q => kt ((lg_cmp_eq x y).mp q)) (fun q => kf (fun z => q ((lg_cmp_eq x y).mpr z))))
theorem j_sub {pc : Nat} {lv1 : List (Nat × Value)} (ks : List Nat) (h : lv_pick lv ks = lv1) (k : z_J p e below s1 m Q nL pc lv1 st) : z_J p e below s1 m Q nL pc lv st := fun ls h3 => k ls (lv_sub h3 ks h)
theorem j_iret {post : Option Value → z_St → Prop} (pc : Nat) (C : BodyLooseOv p S cc nL (some .int) e s m args below meth c s1) (hP : z_P G σ s.heap) {x : Int32} (hd : decode cc pc = .ok (.ireturn, 1)) (h : post (some (.int x)) σ) : z_J p e below s1 m (z_JQ below args s (fun a st o t => z_QW G post a st o t ∧ ∃ L, FrameEnd st o t L 0 0 ∧ ∀ q ∈ L, z_A G q.base)) nL pc lv [.int x] := fun ls _ => by
  obtain ⟨fs, hfs⟩ := handOver_isSome (s := s1) (some (.int x)) C.hears₁
  have hh : (s1.setFrames fs).heap = s.heap := by rw [C.back]; rfl
  obtain ⟨q, hq, -⟩ := State.frames_cons C.frames
  refine ⟨s1.setFrames fs, ?_, C.here.running, .returned (some (.int x)), C.ended hfs (by intro h; cases h), ⟨⟨_, σ, rfl, h, by rw [hh]; exact hP⟩, by rw [hh]; exact Nat.le_refl _, fun _ _ _ => by rw [hh]⟩, [], ⟨⟨_, rfl⟩, ?_, ?_⟩, fun _ z => by cases z⟩
  · refine Steps.instrAtOv (c := c) (by simpa using C.here) ?_
    simp [jvm, wpRun, exec, C.here.top, C.exec, C.bytes, hd, C.method₁, C.returns, narrow]
    intro acts
    rw [ret_to C.frames₁ C.method₁ C.notSynchronized rfl rfl hfs]
    exact Steps.refl _
  · rw [C.back]; exact State.WarmedH.refl s
  · rw [C.back]; exact (State.sameButNew.refl s hq).setFrames fs C.cur
theorem j_lret {post : Option Value → z_St → Prop} (pc : Nat) (C : BodyLooseOv p S cc nL (some .long) e s m args below meth c s1) (hP : z_P G σ s.heap) {x : Int64} (hd : decode cc pc = .ok (.lreturn, 1)) (h : post (some (.long x)) σ) : z_J p e below s1 m (z_JQ below args s (fun a st o t => z_QW G post a st o t ∧ ∃ L, FrameEnd st o t L 0 0 ∧ ∀ q ∈ L, z_A G q.base)) nL pc lv [.long x] := fun ls _ => by
  obtain ⟨fs, hfs⟩ := handOver_isSome (s := s1) (some (.long x)) C.hears₁
  have hh : (s1.setFrames fs).heap = s.heap := by rw [C.back]; rfl
  obtain ⟨q, hq, -⟩ := State.frames_cons C.frames
  refine ⟨s1.setFrames fs, ?_, C.here.running, .returned (some (.long x)), C.ended hfs (by intro h; cases h), ⟨⟨_, σ, rfl, h, by rw [hh]; exact hP⟩, by rw [hh]; exact Nat.le_refl _, fun _ _ _ => by rw [hh]⟩, [], ⟨⟨_, rfl⟩, ?_, ?_⟩, fun _ z => by cases z⟩
  · refine Steps.instrAtOv (c := c) (by simpa using C.here) ?_
    simp [jvm, wpRun, exec, C.here.top, C.exec, C.bytes, hd, C.method₁, C.returns, narrow]
    intro acts
    rw [ret_to C.frames₁ C.method₁ C.notSynchronized rfl rfl hfs]
    exact Steps.refl _
  · rw [C.back]; exact State.WarmedH.refl s
  · rw [C.back]; exact (State.sameButNew.refl s hq).setFrames fs C.cur
theorem z_Mj.of {l : Launch} {y : MethodName} {n : Nat} {rm : Room} {av : List Value} {post : Option Value → z_St → Prop} (hrow0 : (NativeRow.find? natives y.cls y.name y.desc).isNone = true) (hn : (lg_sl av).length ≤ n)
    (body : ∀ (p : Program) (S : Spec) (e : Env) (s : State) (m : MethodId) (below : List Frame) (meth : Method) (c : Code) (s1 : State), BodyLooseOv p S cc n ret e s m av.toArray below meth c s1 → z_P G σ s.heap → z_J p e below s1 m (z_JQ below av.toArray s (fun a st o t => z_QW G post a st o t ∧ ∃ L, FrameEnd st o t L 0 0 ∧ ∀ q ∈ L, z_A G q.base)) n 0 (lv_args 0 av) []) : z_M l G y cc n ret rm av σ post := by
  unfold z_M Met
  refine z_Mov (fun p => by cases p <;> exact Option.isNone_iff_eq_none.mp hrow0) ?_
  intro p e s m args below meth c s1 B hv
  obtain ⟨rfl, hP, -⟩ := hv
  rw [lg_entry_eq]
  exact body p _ e s m below meth c s1 B hP _ (lv_entry av hn)
end ZJ
