/-! BOTH BEGIN ALIKE -/
theorem z_R0 : z_R 0 y_s0 := by
  refine ⟨4, 0, 0, 0, 0, 0, 0, 0, ⟨⟨rfl, rfl, rfl, rfl, rfl, rfl, rfl, rfl⟩, by decide, by decide, by decide, by decide, by decide, by decide, by decide⟩, ⟨⟨rfl, rfl, rfl, rfl, rfl, rfl, rfl⟩, by decide, by decide, by decide, by decide, by decide, by decide, by decide +kernel, by decide +kernel⟩, fun k hk => absurd hk (Nat.not_lt_zero _), ⟨fun k hk => rfl, fun j hj => absurd hj (Nat.not_lt_zero _), fun j hj => absurd hj (Nat.not_lt_zero _)⟩, ⟨fun k hk => ⟨rfl, rfl, (show z_in 5000 (0 : Int32).toInt by decide), (show z_in 5000 (0 : Int32).toInt by decide)⟩, rfl, rfl⟩, ⟨fun i hi => absurd hi (Nat.not_lt_zero _), fun i j hi => absurd hi (Nat.not_lt_zero _)⟩, fun i hi => absurd hi (Nat.not_lt_zero _), rfl, ?_, ⟨fun j hj => ?_, fun i hi => absurd hi (Nat.not_lt_zero _)⟩⟩
  · have h : ∀ b ∈ z_cs, y_i0 b 4 = -1 := by decide
    exact fun b hb => Or.inl (h b hb)
  · have h : z_e (fun _ => 0) 24 ≤ z_eB 0 := by decide
    exact h
/-! WHAT THE START GIVES -/
theorem w_cls {s : State} {A : Array Value} (hts : ∀ w ∈ z_tb, w.before A s = true) : ∃ (cs : Nat → ClassId) (is : Nat → Nat → Nat), ∀ (k : Nat) (q : vw_C), vwCl[k]? = some q → u_Kn s q.1 q.2.1 q.2.2 (cs k) (is k) := by
  have h : ∀ k : Nat, ∃ x : ClassId × (Nat → Nat), ∀ q : vw_C, vwCl[k]? = some q → u_Kn s q.1 q.2.1 q.2.2 x.1 x.2 := by
    intro k
    match k with
    | 0 => obtain ⟨c, i, z⟩ := u_known hts igX0 (hts _ q230); exact ⟨(c, i), fun q hq => by cases hq; exact z⟩
    | 1 => obtain ⟨c, i, z⟩ := u_known hts igX1 (hts _ q167); exact ⟨(c, i), fun q hq => by cases hq; exact z⟩
    | 2 => obtain ⟨c, i, z⟩ := u_known hts igX2 (hts _ q122); exact ⟨(c, i), fun q hq => by cases hq; exact z⟩
    | 3 => obtain ⟨c, i, z⟩ := u_known hts igX3 (hts _ q224); exact ⟨(c, i), fun q hq => by cases hq; exact z⟩
    | 4 => obtain ⟨c, i, z⟩ := u_known hts igX4 (hts _ q294); exact ⟨(c, i), fun q hq => by cases hq; exact z⟩
    | 5 => obtain ⟨c, i, z⟩ := u_known hts igX5 (hts _ q148); exact ⟨(c, i), fun q hq => by cases hq; exact z⟩
    | 6 => obtain ⟨c, i, z⟩ := u_known hts igX6 (hts _ q192); exact ⟨(c, i), fun q hq => by cases hq; exact z⟩
    | 7 => obtain ⟨c, i, z⟩ := u_known hts igX7 (hts _ q114); exact ⟨(c, i), fun q hq => by cases hq; exact z⟩
    | 8 => obtain ⟨c, i, z⟩ := u_known hts igX8 (hts _ q955); exact ⟨(c, i), fun q hq => by cases hq; exact z⟩
    | k + 9 => exact ⟨(0, fun _ => 0), fun q hq => by cases hq⟩
  exact ⟨fun k => (h k).choose.1, fun k => (h k).choose.2, fun k q hq => (h k).choose_spec q hq⟩
theorem w_arr {s : State} {A : Array Value} {ty : FieldType} (h : (Cond.arrayClass ty).before A s = true) : ∃ cA : ClassId, ArrOfT s cA ty ∧ s.vm.findClass ("[" ++ ty.toString) = some cA := by
  obtain ⟨cA, kA, comp, h1, h2, h3⟩ := Cond.arrayClass_spec h
  exact ⟨cA, fun n z => ⟨fun k q => (by cases q), kA, h2, comp, h3⟩, h1⟩
theorem w_tys {s : State} {A : Array Value} (hts : ∀ w ∈ z_tb, w.before A s = true) (hO : (Cond.arrayOver (.object RX0)).before A s = true) (hL : (Cond.arrayOver (.array .long)).before A s = true) : ∃ ca : Nat → ClassId, ∀ (k : Nat) (q : ClassId × FieldType), ([(ca 0, FieldType.int), (ca 1, .long), (ca 2, .char), (ca 3, .object RX0), (ca 4, .array .long)] : List (ClassId × FieldType))[k]? = some q → ArrOfT s q.1 q.2 ∧ va_RA s q.1 q.2 := by
  obtain ⟨c0, a0, b0⟩ := w_arr (hts _ q145)
  obtain ⟨c1, a1, b1⟩ := w_arr (hts _ q146)
  obtain ⟨c2, a2, b2⟩ := w_arr (hts _ q337)
  obtain ⟨comp, c3, k3, d1, -, d2, d3, d4⟩ := Cond.arrayOver_spec hO
  obtain ⟨comp4, c4, k4, g1, -, g2, g3, g4⟩ := arrayOverA_spec hL
  refine ⟨fun k => match k with | 0 => c0 | 1 => c1 | 2 => c2 | 3 => c3 | _ => c4, fun k q hq => ?_⟩
  match k with
  | 0 => cases hq; exact ⟨a0, b0⟩
  | 1 => cases hq; exact ⟨a1, b1⟩
  | 2 => cases hq; exact ⟨a2, b2⟩
  | 3 => cases hq; exact ⟨fun n z => ⟨fun k q => (by cases q), k3, d2, comp, d3⟩, k3, comp, d2, d3, d1, d4⟩
  | 4 => cases hq; exact ⟨fun n z => ⟨fun k q => (by cases q), k4, g2, comp4, g3⟩, g4⟩
  | k + 5 => cases hq
def w_S (t : Nat) : Term := .static (z_tC t) (z_tn t) "[I"
theorem w_m1 : ∀ t, t < 4 → Cond.arrayOf (w_S t) .int ∈ flatC (Jvm.Cond.and given_1 narrow_1) := by decide +kernel
theorem w_m2 : ∀ t, t < 4 → Cond.eq (.length (w_S t)) (.int (Int32.ofNat (z_tN t))) ∈ flatC (Jvm.Cond.and given_1 narrow_1) := by decide +kernel
theorem w_m3 : ∀ t, t < 4 → ∀ j, j < z_tN t → Cond.eq (.elem (w_S t) (.int (Int32.ofNat j))) (.int (z_tv t j)) ∈ flatC (Jvm.Cond.and given_1 narrow_1) := by decide +kernel
theorem w_m4 : ∀ t, t < 4 → Cond.laysStatic (z_tC t) (z_tn t) "[I" ∈ lw_tbl ∧ Cond.initialized (z_tC t) ∈ lw_tbl := by decide +kernel
theorem w_m5 : ∀ q ∈ z_nm, Cond.methodLinkNest q.1 q.2.1 q.2.2 RX7 ∈ lw_tbl := by decide +kernel
theorem w_m6 : ∀ q ∈ z_nf, Cond.fieldLinkNest q.1 q.2.1 q.2.2.1 q.2.2.2.1 q.2.2.2.2 RX7 ∈ lw_tbl := by decide +kernel
theorem w_m7 : Cond.arrayOver (.object RX0) ∈ lw_tbl ∧ Cond.arrayOver (.array .long) ∈ lw_tbl := by decide +kernel
theorem w_tab {s : State} {Ar : Array Value} {A : Nat → Prop} (hts : ∀ w ∈ lw_tbl, w.before Ar s = true) (hg : (Jvm.Cond.and given_1 narrow_1).before Ar s = true) (hA : ∀ a : Nat, a < s.heap.size → ¬ A a) : ∃ ta : Nat → Nat, ∀ t, t < 4 → va_Z (z_tC t) (z_tn t) "[I" (.ref (ta t)) A s s.heap ∧ va_T .int (ta t) (z_tN t) (fun j => .int (z_tv t j)) A s s.heap := by
  have hf := flat_of_before _ hg
  have h : ∀ t, ∃ x : Nat, t < 4 → va_Z (z_tC t) (z_tn t) "[I" (.ref x) A s s.heap ∧ va_T .int x (z_tN t) (fun j => .int (z_tv t j)) A s s.heap := by
    intro t
    by_cases ht : t < 4
    · have hN : z_tN t < 2 ^ 31 := by
        unfold z_tN
        split <;> decide
      obtain ⟨x, h1, h2⟩ := va_Tof (f := fun j => .int (z_tv t j)) (A := A) hN (hf _ (w_m1 t ht)) (va_eqt (hf _ (w_m2 t ht))) (fun j hj => va_eqt (hf _ (w_m3 t ht j hj))) hA
      exact ⟨x, fun _ => ⟨va_Zref (hts _ (w_m4 t ht).1) (hts _ (w_m4 t ht).2) h1 hA, h2⟩⟩
    · exact ⟨0, fun z => absurd z ht⟩
  exact ⟨fun t => (h t).choose, fun t ht => (h t).choose_spec ht⟩
theorem w_N {s : State} {Ar : Array Value} (hts : ∀ w ∈ lw_tbl, w.before Ar s = true) : z_N s := ⟨fun q hq => va_Nw.of rfl (hts _ (w_m5 q hq)), fun q hq => va_Nw.of rfl (hts _ (w_m6 q hq))⟩
/-! THE CLAIM OUT OF ONE WALK OF THE LAW'S BODY. Your part is whole_start (and what it stands on); all else here is the same for every law, but numbers. -/
def R_law : String := "RoundnessInstrumentLaw"
def lw_P (b : Addr) (xs : List Int32) (args : Array Value) (s : State) : Prop := args = #[.ref b] ∧ s.IntsAt b xs ∧ xs.length ≤ 2560 ∧ (Jvm.Cond.and given_1 narrow_1).before args s = true
/-- what a walk over the start with the record d0 says of its end, said of the start itself -/
theorem lw_closed {s t : State} {o : Outcome} {d0 : Drawn} {L : List Loc} {k n : Nat} (hd0 : s.drawn.sameBut d0 lw_cs) (hv : ∃ v, o = .returned v) (hW : (s.setDrawn d0).WarmedH t.vm) (hs : (s.setDrawn d0).sameButNew ({ t with vm := s.vm } : State) L k n) : State.butDraws s t lw_cs (fun t1 => Framed s o t1 L k n) := by
  have h2 : t.drawn = d0 := congrArg State.drawn hs.1
  refine ⟨⟨hv, hW, State.sameButNew.setDrawn hs s.drawn⟩, ?_, by decide⟩
  rw [h2]
  exact hd0
def lw_Q (_ : Array Value) (s : State) (o : Outcome) (t : State) : Prop := o = .returned (some (.int 1)) ∧ State.butDraws s t lw_cs (fun t1 => Framed s o t1 [] 600000 7302250)
def lw_Z (below : List Frame) (a : Array Value) (s : State) : State → Prop := fun t => ∃ o, t.status = .running ∧ Ended t below o ∧ lw_Q a s o t
/-- the law's own end, with 1 on the stack, nothing written that was there before, its room as the claim has it; d0: the record of draws at this point (at the entry s.drawn: begin with 'refine W.base ?_' and 'have hd0 := Drawn.sameBut.refl s.drawn lw_cs') -/
theorem lw_ret {p : Program} {l : Launch} {e : Env} {s : State} {m : MethodId} {below : List Frame} {meth : Method} {c : Code} {b : Nat} {d0 : Drawn} (hd0 : s.drawn.sameBut d0 lw_cs) (hx : p.tables.exec = Jvm.exec) (hb : c.code = code) (hr : meth.sig.returnType = ret) (hlocks : meth.locks = false) {pc : Nat} {H : Heap} {ls : Array Slot} (hdg : decode code pc = .ok (.ireturn, 1)) : W p l e room_1 (s.setDrawn d0) m #[Value.ref b] below meth c H [] 600000 7302250 (lw_Z below #[Value.ref b] s) (F0 m pc ls [.int 1]) := by
  intro T hT X
  obtain ⟨fs, hret, hrun, hended, hW, hframe⟩ := X.leave (v := some (.int 1)) (hlocks := hlocks) (fun h => by rw [hr] at h; cases h)
  have hmeth' : T.vm.method? m = some meth := X.method'
  refine ⟨T.setFrames fs, ?_, .returned (some (.int 1)), hrun, hended, rfl, lw_closed hd0 ⟨_, rfl⟩ hW hframe⟩
  jvm_step X.here [X.here.top, hx, hb, hdg, hmeth', hr, ret, narrow_b1]
  (try refine ⟨rfl, ?_⟩); (try refine ⟨rfl, ?_⟩)
  first | (intro acts; rw [hret _ acts rfl rfl rfl]) | rw [hret _ _ rfl rfl rfl]
  exact Steps.refl _
/-- what holds at the law's entry: the machine, the code, the tables' words (any of lw_tbl by 'hts w (by decide +kernel)'), the script of L ints xs at the cell b, what the Statement gives of the start (any of its parts by flat_of_before) -/
def lw_At (p : Program) (s : State) (m : MethodId) (meth : Method) (c : Code) (b L : Nat) (xs : Nat → Int32) : Prop :=
  p.tables.exec = Jvm.exec ∧ c.code = code ∧ meth.sig.returnType = ret ∧ c.maxLocals = 8 ∧ s.vm.findClass R_law = some m.cls ∧ (∀ w ∈ lw_tbl, w.before #[Value.ref b] s = true) ∧ va_X b L xs s s.heap ∧ b < s.heap.size ∧ meth.locks = false ∧ (Jvm.Cond.and given_1 narrow_1).before #[Value.ref b] s = true
theorem w_wf {cs : Nat → ClassId} {is : Nat → Nat → Nat} {ca : Nat → ClassId} {ta : Nat → Nat} {base : Nat} : z_wf (y_G cs is ca ta base) := ⟨fun i j _ _ h => Nat.add_left_cancel (show base + i = base + j from h), fun i _ => Nat.le_add_right base i⟩
set_option maxHeartbeats 4000000 in
theorem whole_start {p : Program} {e : Env} {s : State} {m : MethodId} {below : List Frame} {meth : Method} {c : Code} (l : Launch) (hflags : l.flags = flags0) {b L : Nat} {xs : Nat → Int32} (hL : L ≤ 2560) (C0 : lw_At p s m meth c b L xs) : W p l e room_1 s m #[Value.ref b] below meth c s.heap [] 0 0 (lw_Z below #[Value.ref b] s) (entryFrame m ([Value.ref b] : List Value).toArray 8) := by
  obtain ⟨h1, h2, h3, h4, h5, h6, h7, h8, h9, h10⟩ := C0
  have hz : ∀ w ∈ z_tb, w.before #[Value.ref b] s = true := fun w hw => h6 w (z_tb_sub hw)
  obtain ⟨cs, is, hcl⟩ := w_cls hz
  obtain ⟨ca, hca⟩ := w_tys hz (h6 _ w_m7.1) (h6 _ w_m7.2)
  obtain ⟨ta, hta⟩ := w_tab (A := fun q => s.heap.size ≤ q) h6 h10 (fun a ha => Nat.not_le.mpr ha)
  have hU : z_U (y_G cs is ca ta s.heap.size) s := ⟨⟨hcl, hca⟩, w_wf, hta, w_N h6⟩
  have C : z_C p s m #[Value.ref b] meth c (y_G cs is ca ta s.heap.size) cL_law 8 RL ret := ⟨h1, h2, h4, h5, hz, hU, h3, h9⟩
  have Cy : y_C p s m #[Value.ref b] meth c (y_G cs is ca ta s.heap.size) cL_law 8 RL ret := ⟨C, va_AO.of (h6 _ w_m7.1), y_AA.of (h6 _ w_m7.2) (hz _ q146)⟩
  have hP : y_P (y_G cs is ca ta s.heap.size) ([] ++ []) s.heap := ⟨rfl, fun k q hq => by cases hq⟩
  have hend : ∀ (lv : List (Nat × Value)) (τ : z_St), z_V p l e room_1 s m #[Value.ref b] below meth c (y_G cs is ca ta s.heap.size) 600000 7302250 (lw_Z below #[Value.ref b] s) 8 1789 lv [] τ := fun lv τ => z_iconst 1789 C dL_law_1789 1 rfl (fun H locs ls g1 g2 g3 => va_forget (fun q hq => g2.2.2 q hq) (W.base (lw_ret (Drawn.sameBut.refl s.drawn lw_cs) h1 h2 h3 h9 dL_law_1790)))
  rw [lg_entry_eq]
  refine law_head (a := s.heap.size) Cy rfl rfl (fun H locs ls g1 g2 g3 => ?_) s.heap [] _ hP va_S.rf (lv_entry [Value.ref b] (Nat.le_of_ble_eq_true rfl))
  refine W.widen (k := 600000) (n := 7302250) (by decide) (by decide) ?_
  exact law_loop hL C ⟨by decide, by decide⟩ h7 h8 (Nat.not_le.mpr h8) z_R0 hend H locs ls (y_toz g1) g2 g3
set_option maxHeartbeats 4000000 in
theorem lw_walk (l : Launch) (hflags : l.flags = flags0) (b : Addr) (xs : List Int32) : MetFree l x (headSpec (Jvm.Cond.code x code maxLocals ret :: tables_1) room_1) (lw_P b xs) (fun _ _ _ _ _ => True) lw_Q := by
  refine MetFree.of_bodyS (code := code) (maxLocals := maxLocals) (ret := ret) (by decide) ?_ ?_
  · intro args s m h hn
    obtain ⟨meth, c, h1, h2, h3, h4, h5, h6, -, -⟩ := Cond.code_spec hn (atoms_spec (ws := Jvm.Cond.code x code maxLocals ret :: tables_1) h _ List.mem_cons_self)
    exact ⟨meth, c, h1, h2, h3, h4, h5, h6⟩
  · intro p e s m args below meth c s₁ B hml0 hP _
    obtain ⟨rfl, hx, hbd, hgv⟩ := hP
    obtain ⟨scr, harrAt, hlist, hof, hsmall⟩ := hx
    obtain ⟨hcb, hkn, -, -⟩ := State.arrayAt?_spec harrAt
    have hown : s.vm.findClass R_law = some m.cls := findClass_of_methodNamed B.named
    have hts0 : ∀ c ∈ (Jvm.Cond.code x code maxLocals ret :: tables_1), c.before #[Value.ref b] s = true := atoms_spec (ws := Jvm.Cond.code x code maxLocals ret :: tables_1) B.pre
    have hts : ∀ w ∈ lw_tbl, w.before #[Value.ref b] s = true := k2_hts_sels lw_privs (fun w hw => hts0 w (List.mem_cons_of_mem _ hw)) lw_privs_ok
    have hml : c.maxLocals = 8 := B.maxLocals_eq (hts0 _ List.mem_cons_self)
    have X₀ : Stand p l e room_1 s m #[Value.ref b] below meth c s₁ [] 0 0 := Stand.of_body B
    have hh0 : s₁.heap = s.heap := by rw [B.state]; rfl
    have hsz : scr.slots.size = xs.length := by rw [← Array.length_toList, hlist, List.length_map]
    have hval : ∀ j : Nat, j < xs.length → scr.slots[j]? = some (.int (xs.getD j 0)) := fun j hj => by
      rw [← Array.getElem?_toList, hlist]
      simp [hj]
    have hbl : b < s.heap.size := (Array.getElem?_eq_some_iff.mp hcb).1
    have hX : va_X b xs.length (fun j => xs.getD j 0) s s.heap := ⟨scr, hcb, hof, hkn, hsz, hval⟩
    have K : W p l e room_1 s m #[Value.ref b] below meth c s₁.heap [] 0 0 (lw_Z below #[Value.ref b] s) (entryFrame m ([Value.ref b] : List Value).toArray 8) := by
      rw [hh0]
      exact whole_start l hflags hbd ⟨B.exec, B.bytes, B.returns, hml, hown, hts, hX, hbl, B.notSynchronized, hgv⟩
    obtain ⟨t, a1, o, b1, b2, b3⟩ := K s₁ rfl X₀
    exact ⟨t, o, a1, b1, b2, b3⟩
theorem lw_pre_spec {args : Array Value} {s : State} (h : (Jvm.Cond.and given_1 narrow_1).before args s = true) (hr : rest_1_c.before args s = true) : ∃ (b : Addr) (xs : List Int32), lw_P b xs args s := by
  have hs := flat_of_before _ h
  have hq := flat_of_before _ hr
  have hc : (Cond.count 1).before args s = true := hs _ (by decide +kernel)
  have harr : (Cond.arrayOf (.arg 0) .int).before args s = true := hs _ (by decide +kernel)
  have hle : (Cond.le (.length (.arg 0)) (.int 2560)).before args s = true := hs _ (by decide +kernel)
  have hlen : (Cond.isInt (.length (.arg 0))).before args s = true := hq _ (by decide +kernel)
  have hall : (Cond.all (.arg 0) (.isInt (.elem (.arg 0) (.index 0)))).before args s = true := hq _ (by decide +kernel)
  obtain ⟨b, xs, hb, hx⟩ := State.ints_of_pre rfl harr hlen hall
  have hsm : xs.length < 2 ^ 31 := hx.choose_spec.2.2.2
  have hev : (Term.length (.arg 0)).eval args s none [] s = some (.int xs.length.toInt32) := hx.length_eval hb
  have hv := Cond.le_ints hev (show (Term.int 2560).eval args s none [] s = some (.int 2560) from rfl)
  have hd : xs.length.toInt32 ≤ 2560 := by
    simpa [Cond.before, Cond.holds, hv] using hle
  have hN : xs.length ≤ 2560 := (Int32.ofNat_le_ofNat hsm (by decide)).mp (show Int32.ofNat xs.length ≤ Int32.ofNat 2560 from hd)
  exact ⟨b, xs, Cond.one_arg hc (show args[0]? = some (.ref b) from hb), hx, hN, h⟩
theorem lw_comes (l : Launch) (hflags : l.flags = flags0) : Comes l x (Jvm.Cond.code x code maxLocals ret :: tables_1) room_1 (fun tb e args s => Calls_1 tb e args s ∧ rest_1 tb e args s ∧ Pre_1 tb e args s)
    (fun _ _ args s o t => lw_Q args s o t) := by
  intro p e ha hc hk s m args below hf hfit hheap happ hpre
  obtain ⟨b, xs, hP⟩ := lw_pre_spec hpre.2.2 hpre.2.1
  obtain ⟨k, o, h1, h2, h3, hQ⟩ := lw_walk l hflags b xs p e ha hc hk s m args below hf ((Spec.applies_iff_loose hf).mp happ).1 hP trivial
  exact ⟨k, o, h1, h2, h3, hQ⟩
theorem lw_frame {s t : State} {o : Outcome} {args : Array Value} (h : State.butDraws s t lw_cs (fun t1 => Framed s o t1 [] 600000 7302250)) :
    State.butDraws s t [Jvm.Choice.named "NaN.bits"] (fun t1 => Framed s o t1 (fieldLocs frame_1_writes args s ++ arrayLocs frame_1_arrays args s ++ staticLocs frame_1_statics s) 600000 7302250) := h
theorem lw_limb (L : Cond) (hL : ∀ (args : Array Value) (s t : State), L.after args s (.returned (some (.int 1))) t = true) :
    ArmFor flags0 classFile x code maxLocals ret World_1 tables_1 room_1 Calls_1 rest_1 Pre_1
      (fun tb e a s o t => postC L tb e a s o t ∧ State.butDraws s t [Jvm.Choice.named "NaN.bits"] (fun t1 => Framed s o t1 (fieldLocs frame_1_writes a s ++ arrayLocs frame_1_arrays a s ++ staticLocs frame_1_statics s) 600000 7302250)) := by
  intro l hflags _ _ p e ha hc hk s m args below hf hfit hheap happ hpre
  obtain ⟨k, o, h1, h2, h3, rfl, hF⟩ := lw_comes l hflags p e ha hc hk s m args below hf hfit hheap happ hpre
  exact ⟨k, _, h1, h2, h3, hL args s _, lw_frame hF⟩
theorem i_vc : Claimed_1_1 ∧ Claimed_1_2 := ⟨lw_limb limb_1_1 (fun args s t => by simp [limb_1_1, Cond.after, Cond.holds, Cond.value]), lw_limb limb_1_2 (fun args s t => Cond.after_iff.mpr (by
  first | (rw [show limb_1_2 = Cond.eq .result (.int 1) from rfl, Cond.eq_ints (x := 1) (y := 1) rfl rfl]; simp; done) | (simp [limb_1_2, Cond.value, Term.eval]; done)))⟩
