/-! DOUBLES: none of them is a NaN, so nothing is drawn -/
def z_fc (d : FP.Core.Datum) (s : Bool) : Prop := (∃ c q, d = .fin s c q) ∨ d = .inf s
def z_fo (p : Nat) (qm : Int) (s : Bool) (d : FP.Core.Datum) : Prop := d = .inf s ∨ ∃ c q, d = .fin s c q ∧ c < p ∧ q ≤ qm
theorem zf_b64 : FP.Core.b64.tails = 4503599627370496 ∧ FP.Core.b64.exps = 2048 ∧ FP.Core.b64.qmax = 971 ∧ FP.Core.b64.qmin = -1074 ∧ 2 ^ FP.Core.b64.p = 9007199254740992 := by decide
theorem zf_b32 : FP.Core.b32.tails = 8388608 ∧ FP.Core.b32.exps = 256 ∧ FP.Core.b32.qmax = 104 ∧ FP.Core.b32.qmin = -149 ∧ 2 ^ FP.Core.b32.p = 16777216 := by decide
theorem zf_settle {f : FP.Core.Fmt} (h : f.tails < 2 ^ f.p) (s : Bool) (c : Nat) (q : Int) : z_fo (2 ^ f.p) f.qmax s (FP.Core.settle f s c q) := by
  unfold FP.Core.settle FP.Core.bound
  split
  · rename_i hc
    split
    · rename_i hq; exact Or.inr ⟨_, _, rfl, hc, hq⟩
    · exact Or.inl rfl
  · split
    · rename_i hq; exact Or.inr ⟨_, _, rfl, h, hq⟩
    · exact Or.inl rfl
theorem zf_rr {f : FP.Core.Fmt} (h : f.tails < 2 ^ f.p) (h2 : f.qmin ≤ f.qmax) (s : Bool) (a b : Nat) (e : Int) : z_fo (2 ^ f.p) f.qmax s (FP.Core.roundRatio f s a b e) := by
  unfold FP.Core.roundRatio
  split
  · exact Or.inr ⟨_, _, rfl, Nat.two_pow_pos _, h2⟩
  · exact zf_settle h _ _ _
theorem zf_round {f : FP.Core.Fmt} (h : f.tails < 2 ^ f.p) (h2 : f.qmin ≤ f.qmax) {d : FP.Core.Datum} {s : Bool} (hd : z_fc d s) : z_fo (2 ^ f.p) f.qmax s (FP.Core.round f d) := by
  rcases hd with ⟨c, q, rfl⟩ | rfl
  · exact zf_rr h h2 s c 1 q
  · exact Or.inl rfl
theorem zf_t64 : FP.Core.b64.tails < 2 ^ FP.Core.b64.p := by decide
theorem zf_q64 : FP.Core.b64.qmin ≤ FP.Core.b64.qmax := by decide
theorem zf_t32 : FP.Core.b32.tails < 2 ^ FP.Core.b32.p := by decide
theorem zf_q32 : FP.Core.b32.qmin ≤ FP.Core.b32.qmax := by decide
/-- bits put together, and taken apart -/
theorem zf_asm64 (s : Bool) (E T : Nat) (hE : E ≤ 2046 ∨ (E = 2047 ∧ T = 0)) (hT : T < 4503599627370496) : FP.Core.assemble FP.Core.b64 s E T < 18446744073709551616 ∧ FP.Core.assemble FP.Core.b64 s E T % 9223372036854775808 ≤ 9218868437227405312 ∧ z_fc (FP.Core.decode FP.Core.b64 (FP.Core.assemble FP.Core.b64 s E T)) s := by
  obtain ⟨e1, e2, -, -, -⟩ := zf_b64
  have hn : FP.Core.assemble FP.Core.b64 s E T = (s.toNat * 2048 + E) * 4503599627370496 + T := by unfold FP.Core.assemble; rw [e1, e2]
  have hs : s.toNat ≤ 1 := by cases s <;> decide
  rw [hn]
  refine ⟨by omega, by omega, ?_⟩
  have f1 : FP.Core.fieldE FP.Core.b64 ((s.toNat * 2048 + E) * 4503599627370496 + T) = E := by unfold FP.Core.fieldE; rw [e1, e2]; omega
  have f2 : FP.Core.fieldT FP.Core.b64 ((s.toNat * 2048 + E) * 4503599627370496 + T) = T := by unfold FP.Core.fieldT; rw [e1]; omega
  have f3 : FP.Core.fieldS FP.Core.b64 ((s.toNat * 2048 + E) * 4503599627370496 + T) = s := by
    unfold FP.Core.fieldS
    rw [e1, e2, show ((s.toNat * 2048 + E) * 4503599627370496 + T) / 4503599627370496 / 2048 % 2 = s.toNat by omega]
    cases s <;> decide
  unfold FP.Core.decode
  rw [f1, f2, f3, e2]
  rcases hE with h | ⟨h, h2⟩
  · rw [if_neg (show ¬ E = 2048 - 1 by omega)]
    split
    · exact Or.inl ⟨_, _, rfl⟩
    · exact Or.inl ⟨_, _, rfl⟩
  · subst h; subst h2
    exact Or.inr rfl
theorem zf_enc64 {s : Bool} {d : FP.Core.Datum} (h : z_fo (2 ^ FP.Core.b64.p) FP.Core.b64.qmax s d) : FP.Core.encode FP.Core.b64 d < 18446744073709551616 ∧ FP.Core.encode FP.Core.b64 d % 9223372036854775808 ≤ 9218868437227405312 ∧ z_fc (FP.Core.decode FP.Core.b64 (FP.Core.encode FP.Core.b64 d)) s := by
  obtain ⟨e1, e2, e3, e4, e5⟩ := zf_b64
  rw [e3, e5] at h
  rcases h with rfl | ⟨c, q, rfl, hc, hq⟩
  · have e : FP.Core.encode FP.Core.b64 (.inf s) = FP.Core.assemble FP.Core.b64 s 2047 0 := by unfold FP.Core.encode; rw [e2]
    rw [e]
    exact zf_asm64 s 2047 0 (Or.inr ⟨rfl, rfl⟩) (by decide)
  · by_cases q1 : c < 4503599627370496
    · have e : FP.Core.encode FP.Core.b64 (.fin s c q) = FP.Core.assemble FP.Core.b64 s 0 c := by
        show (if c < FP.Core.b64.tails then _ else _) = _
        rw [e1, if_pos q1]
      rw [e]
      exact zf_asm64 s 0 c (Or.inl (by decide)) q1
    · have e : FP.Core.encode FP.Core.b64 (.fin s c q) = FP.Core.assemble FP.Core.b64 s ((q - -1074).toNat + 1) (c - 4503599627370496) := by
        show (if c < FP.Core.b64.tails then _ else FP.Core.assemble FP.Core.b64 s ((q - FP.Core.b64.qmin).toNat + 1) (c - FP.Core.b64.tails)) = _
        rw [e1, e4, if_neg q1]
      rw [e]
      exact zf_asm64 s _ _ (Or.inl (by omega)) (by omega)
/-- the number that a double's bits are -/
def z_v64 (a : UInt64) : FP.Core.Datum := FP.Core.decode FP.Core.b64 a.toNat
theorem zf_of64 {s : Bool} {d : FP.Core.Datum} (h : z_fo (2 ^ FP.Core.b64.p) FP.Core.b64.qmax s d) : vf_n64 (UInt64.ofNat (FP.Core.encode FP.Core.b64 d)) ∧ z_fc (z_v64 (UInt64.ofNat (FP.Core.encode FP.Core.b64 d))) s := by
  obtain ⟨h1, h2, h3⟩ := zf_enc64 h
  have e : (UInt64.ofNat (FP.Core.encode FP.Core.b64 d)).toNat = FP.Core.encode FP.Core.b64 d := UInt64.toNat_ofNat_of_lt' (by simpa using h1)
  constructor
  · unfold vf_n64
    rw [UInt64.le_iff_toNat_le, UInt64.toNat_and, e]
    have e2 : (9223372036854775807 : UInt64).toNat = 2 ^ 63 - 1 := by decide
    rw [e2, Nat.and_two_pow_sub_one_eq_mod]
    exact h2
  · unfold z_v64
    rw [e]
    exact h3
theorem zf_l2d (x : Int64) : ∃ s, z_fc (z_v64 (FP.l2d x)) s := ⟨_, (zf_of64 (zf_round zf_t64 zf_q64 (Or.inl ⟨_, _, rfl⟩))).2⟩
/-- a quotient by a number that is not 0 -/
theorem zf_quot {d : FP.Core.Datum} {s t : Bool} {c : Nat} {q : Int} (hd : z_fc d s) (hc : ¬ c = 0) : z_fo (2 ^ FP.Core.b64.p) FP.Core.b64.qmax (s != t) (FP.Core.quotient FP.Core.b64 d (.fin t c q)) := by
  rcases hd with ⟨c1, q1, rfl⟩ | rfl
  · show z_fo _ _ _ (if c = 0 then _ else _)
    rw [if_neg hc]
    exact zf_rr zf_t64 zf_q64 _ _ _ _
  · exact Or.inl rfl
theorem zf_ddiv {a b : UInt64} {s t : Bool} {c : Nat} {q : Int} (ha : z_fc (z_v64 a) s) (hb : z_v64 b = .fin t c q) (hc : ¬ c = 0) : vf_n64 (FP.ddiv a b) ∧ z_fc (z_v64 (FP.ddiv a b)) (s != t) := by
  have h := zf_of64 (zf_quot (t := t) (q := q) ha hc)
  rw [← hb] at h
  exact h
theorem zf_sq {a : UInt64} {s : Bool} (ha : z_fc (z_v64 a) s) : vf_n64 (FP.dmul a a) ∧ z_fc (z_v64 (FP.dmul a a)) false := by
  have h : z_fc (FP.Core.exactProduct (z_v64 a) (z_v64 a)) false := by
    rcases ha with ⟨c, q, e⟩ | e
    · rw [e]
      refine Or.inl ⟨c * c, q + q, ?_⟩
      show FP.Core.Datum.fin (s != s) (c * c) (q + q) = _
      cases s <;> rfl
    · rw [e]
      refine Or.inr ?_
      show FP.Core.Datum.inf (s != s) = _
      cases s <;> rfl
  exact zf_of64 (zf_round zf_t64 zf_q64 h)
theorem zf_dadd {a b : UInt64} (ha : z_fc (z_v64 a) false) (hb : z_fc (z_v64 b) false) : vf_n64 (FP.dadd a b) ∧ z_fc (z_v64 (FP.dadd a b)) false := by
  have h : z_fc (FP.Core.exactSum (z_v64 a) (z_v64 b)) false := by
    rcases ha with ⟨c, q, e⟩ | e
    · rcases hb with ⟨c1, q1, e1⟩ | e1
      · rw [e, e1]
        refine Or.inl ⟨(FP.Core.sumUnits false c q false c1 q1 (min q q1)).natAbs, min q q1, ?_⟩
        show FP.Core.Datum.fin (FP.Core.sumSign false false (FP.Core.sumUnits false c q false c1 q1 (min q q1))) _ _ = _
        have hv : 0 ≤ FP.Core.sumUnits false c q false c1 q1 (min q q1) := by
          show (0 : Int) ≤ (FP.Core.inUnits c q (min q q1) : Nat) + (FP.Core.inUnits c1 q1 (min q q1) : Nat)
          omega
        have e2 : FP.Core.sumSign false false (FP.Core.sumUnits false c q false c1 q1 (min q q1)) = false := by
          unfold FP.Core.sumSign
          split
          · rfl
          · exact decide_eq_false (by omega)
        rw [e2]
      · rw [e, e1]; exact Or.inr rfl
    · rcases hb with ⟨c1, q1, e1⟩ | e1
      · rw [e, e1]; exact Or.inr rfl
      · rw [e, e1]; exact Or.inr rfl
  exact zf_of64 (zf_round zf_t64 zf_q64 h)
theorem zf_asm32 (s : Bool) (E T : Nat) (hE : E ≤ 254 ∨ (E = 255 ∧ T = 0)) (hT : T < 8388608) : FP.Core.assemble FP.Core.b32 s E T < 4294967296 ∧ FP.Core.assemble FP.Core.b32 s E T % 2147483648 ≤ 2139095040 ∧ z_fc (FP.Core.decode FP.Core.b32 (FP.Core.assemble FP.Core.b32 s E T)) s := by
  obtain ⟨e1, e2, -, -, -⟩ := zf_b32
  have hn : FP.Core.assemble FP.Core.b32 s E T = (s.toNat * 256 + E) * 8388608 + T := by unfold FP.Core.assemble; rw [e1, e2]
  have hs : s.toNat ≤ 1 := by cases s <;> decide
  rw [hn]
  refine ⟨by omega, by omega, ?_⟩
  have f1 : FP.Core.fieldE FP.Core.b32 ((s.toNat * 256 + E) * 8388608 + T) = E := by unfold FP.Core.fieldE; rw [e1, e2]; omega
  have f2 : FP.Core.fieldT FP.Core.b32 ((s.toNat * 256 + E) * 8388608 + T) = T := by unfold FP.Core.fieldT; rw [e1]; omega
  have f3 : FP.Core.fieldS FP.Core.b32 ((s.toNat * 256 + E) * 8388608 + T) = s := by
    unfold FP.Core.fieldS
    rw [e1, e2, show ((s.toNat * 256 + E) * 8388608 + T) / 8388608 / 256 % 2 = s.toNat by omega]
    cases s <;> decide
  unfold FP.Core.decode
  rw [f1, f2, f3, e2]
  rcases hE with h | ⟨h, h2⟩
  · rw [if_neg (show ¬ E = 256 - 1 by omega)]
    split
    · exact Or.inl ⟨_, _, rfl⟩
    · exact Or.inl ⟨_, _, rfl⟩
  · subst h; subst h2
    exact Or.inr rfl
theorem zf_enc32 {s : Bool} {d : FP.Core.Datum} (h : z_fo (2 ^ FP.Core.b32.p) FP.Core.b32.qmax s d) : FP.Core.encode FP.Core.b32 d < 4294967296 ∧ FP.Core.encode FP.Core.b32 d % 2147483648 ≤ 2139095040 ∧ z_fc (FP.Core.decode FP.Core.b32 (FP.Core.encode FP.Core.b32 d)) s := by
  obtain ⟨e1, e2, e3, e4, e5⟩ := zf_b32
  rw [e3, e5] at h
  rcases h with rfl | ⟨c, q, rfl, hc, hq⟩
  · have e : FP.Core.encode FP.Core.b32 (.inf s) = FP.Core.assemble FP.Core.b32 s 255 0 := by unfold FP.Core.encode; rw [e2]
    rw [e]
    exact zf_asm32 s 255 0 (Or.inr ⟨rfl, rfl⟩) (by decide)
  · by_cases q1 : c < 8388608
    · have e : FP.Core.encode FP.Core.b32 (.fin s c q) = FP.Core.assemble FP.Core.b32 s 0 c := by
        show (if c < FP.Core.b32.tails then _ else _) = _
        rw [e1, if_pos q1]
      rw [e]
      exact zf_asm32 s 0 c (Or.inl (by decide)) q1
    · have e : FP.Core.encode FP.Core.b32 (.fin s c q) = FP.Core.assemble FP.Core.b32 s ((q - -149).toNat + 1) (c - 8388608) := by
        show (if c < FP.Core.b32.tails then _ else FP.Core.assemble FP.Core.b32 s ((q - FP.Core.b32.qmin).toNat + 1) (c - FP.Core.b32.tails)) = _
        rw [e1, e4, if_neg q1]
      rw [e]
      exact zf_asm32 s _ _ (Or.inl (by omega)) (by omega)
theorem zf_d2f {a : UInt64} {s : Bool} (ha : z_fc (z_v64 a) s) : vf_n32 (FP.d2f a) ∧ z_fc (FP.Core.decode FP.Core.b32 (FP.d2f a).toNat) s := by
  have hn : ¬ FP.Core.dIsNaN a = true := by
    show ¬ decide (z_v64 a = FP.Core.Datum.nan) = true
    rcases ha with ⟨c, q, e⟩ | e <;> rw [e] <;> simp
  have e0 : FP.d2f a = UInt32.ofNat (FP.Core.encode FP.Core.b32 (FP.Core.round FP.Core.b32 (z_v64 a))) := by
    unfold FP.d2f
    rw [if_neg hn]
    rfl
  obtain ⟨h1, h2, h3⟩ := zf_enc32 (zf_round zf_t32 zf_q32 ha)
  have e : (UInt32.ofNat (FP.Core.encode FP.Core.b32 (FP.Core.round FP.Core.b32 (z_v64 a)))).toNat = FP.Core.encode FP.Core.b32 (FP.Core.round FP.Core.b32 (z_v64 a)) := UInt32.toNat_ofNat_of_lt' (by simpa using h1)
  rw [e0]
  constructor
  · unfold vf_n32
    rw [UInt32.le_iff_toNat_le, UInt32.toNat_and, e]
    have e2 : (2147483647 : UInt32).toNat = 2 ^ 31 - 1 := by decide
    rw [e2, Nat.and_two_pow_sub_one_eq_mod]
    exact h2
  · rw [e]; exact h3
theorem zf_f2d {a : UInt32} {s : Bool} (ha : z_fc (FP.Core.decode FP.Core.b32 a.toNat) s) : vf_n64 (FP.f2d a) ∧ z_fc (z_v64 (FP.f2d a)) s := by
  have hn : ¬ FP.Core.fIsNaN a = true := by
    show ¬ decide (FP.Core.decode FP.Core.b32 a.toNat = FP.Core.Datum.nan) = true
    rcases ha with ⟨c, q, e⟩ | e <;> rw [e] <;> simp
  have e0 : FP.f2d a = UInt64.ofNat (FP.Core.encode FP.Core.b64 (FP.Core.round FP.Core.b64 (FP.Core.decode FP.Core.b32 a.toNat))) := by
    unfold FP.f2d
    rw [if_neg hn]
    rfl
  rw [e0]
  exact zf_of64 (zf_round zf_t64 zf_q64 ha)
/-- micro units as a number -/
def z_mic (w : Int64) : UInt64 := FP.ddiv (FP.l2d w) 4696837146684686336
theorem zf_mic (w : Int64) : vf_n64 (FP.ddiv (FP.l2d w) 4696837146684686336) ∧ ∃ s, z_fc (z_v64 (z_mic w)) s := by
  obtain ⟨s, hs⟩ := zf_l2d w
  have h := zf_ddiv (b := 4696837146684686336) (t := false) (c := 8589934592000000) (q := -33) hs (by decide) (by decide)
  exact ⟨h.1, _, h.2⟩
/-- the sum of squares of the first k -/
def z_ssq (d : Nat → Int64) : Nat → UInt64
  | 0 => 0
  | k + 1 => FP.dadd (z_ssq d k) (FP.dmul (z_mic (d k)) (z_mic (d k)))
theorem zf_ssq (d : Nat → Int64) : ∀ k, z_fc (z_v64 (z_ssq d k)) false
  | 0 => Or.inl ⟨0, -1074, show z_v64 (0 : UInt64) = _ by decide⟩
  | k + 1 => by
    obtain ⟨s, hs⟩ := (zf_mic (d k)).2
    exact (zf_dadd (zf_ssq d k) (zf_sq hs).2).2
theorem zf_s1 (d : Nat → Int64) (k : Nat) : vf_n64 (FP.dmul (z_mic (d k)) (z_mic (d k))) ∧ vf_n64 (FP.dadd (z_ssq d k) (FP.dmul (z_mic (d k)) (z_mic (d k)))) := by
  obtain ⟨s, hs⟩ := (zf_mic (d k)).2
  exact ⟨(zf_sq hs).1, (zf_dadd (zf_ssq d k) (zf_sq hs).2).1⟩
def z_msq (d : Nat → Int64) : UInt32 := FP.d2f (FP.ddiv (z_ssq d 24) 4627448617123184640)
theorem zf_msq (d : Nat → Int64) : vf_n64 (FP.ddiv (z_ssq d 24) 4627448617123184640) ∧ vf_n32 (z_msq d) ∧ vf_n64 (FP.f2d (z_msq d)) := by
  have h := zf_ddiv (b := 4627448617123184640) (t := false) (c := 6755399441055744) (q := -48) (zf_ssq d 24) (by decide) (by decide)
  have h2 := zf_d2f h.2
  exact ⟨h.1, h2.1, (zf_f2d h2.2).1⟩
theorem z_ssq_ag {d e : Nat → Int64} : ∀ {n : Nat}, (∀ k, k < n → d k = e k) → z_ssq d n = z_ssq e n
  | 0, _ => rfl
  | n + 1, h => by rw [z_ssq, z_ssq, z_ssq_ag (n := n) (fun k hk => h k (Nat.lt_succ_of_lt hk)), h n (Nat.lt_succ_self n)]
theorem z_cdb {a b : UInt64} (h : a = b) : some (Value.double a) = some (Value.double b) := by rw [h]
theorem z_cfl {a b : UInt32} (h : a = b) : some (Value.float a) = some (Value.float b) := by rw [h]
section ZR
variable {p : Program} {l : Launch} {e : Env} {R : Room} {s : State} {m : MethodId} {args : Array Value} {below : List Frame} {meth : Method} {c : Code} {G : z_Gl} {ce sl : Nat} {Q : State → Prop} {nL : Nat} {lv : List (Nat × Value)} {st : List Value} {σ : z_St} {cc : ByteArray} {own : String} {ret : Option FieldType}
theorem z_ddiv (pc : Nat) (C : z_C p s m args meth c G cc nL own ret) {x y : UInt64} (hd : decode cc pc = .ok (.ddiv, 1)) (hn : vf_n64 (FP.ddiv x y)) (k : z_V p l e R s m args below meth c G ce sl Q nL (pc + 1) lv (.double (FP.ddiv x y) :: st) σ) : z_V p l e R s m args below meth c G ce sl Q nL pc lv (.double y :: .double x :: st) σ := fun H locs ls h1 h2 h3 => lv_ddiv C.1 C.2.1 hd hn (k H locs ls h1 h2 h3)
theorem z_dmul (pc : Nat) (C : z_C p s m args meth c G cc nL own ret) {x y : UInt64} (hd : decode cc pc = .ok (.dmul, 1)) (hn : vf_n64 (FP.dmul x y)) (k : z_V p l e R s m args below meth c G ce sl Q nL (pc + 1) lv (.double (FP.dmul x y) :: st) σ) : z_V p l e R s m args below meth c G ce sl Q nL pc lv (.double y :: .double x :: st) σ := fun H locs ls h1 h2 h3 => lv_dmul C.1 C.2.1 hd hn (k H locs ls h1 h2 h3)
theorem z_dadd (pc : Nat) (C : z_C p s m args meth c G cc nL own ret) {x y : UInt64} (hd : decode cc pc = .ok (.dadd, 1)) (hn : vf_n64 (FP.dadd x y)) (k : z_V p l e R s m args below meth c G ce sl Q nL (pc + 1) lv (.double (FP.dadd x y) :: st) σ) : z_V p l e R s m args below meth c G ce sl Q nL pc lv (.double y :: .double x :: st) σ := fun H locs ls h1 h2 h3 => lv_dadd C.1 C.2.1 hd hn (k H locs ls h1 h2 h3)
theorem z_d2f (pc : Nat) (C : z_C p s m args meth c G cc nL own ret) {x : UInt64} (hd : decode cc pc = .ok (.d2f, 1)) (hn : vf_n32 (FP.d2f x)) (k : z_V p l e R s m args below meth c G ce sl Q nL (pc + 1) lv (.float (FP.d2f x) :: st) σ) : z_V p l e R s m args below meth c G ce sl Q nL pc lv (.double x :: st) σ := fun H locs ls h1 h2 h3 => lv_d2f C.1 C.2.1 hd hn (k H locs ls h1 h2 h3)
theorem z_dconst0 (pc : Nat) (C : z_C p s m args meth c G cc nL own ret) (hd : decode cc pc = .ok (.dconst 0, 1)) (k : z_V p l e R s m args below meth c G ce sl Q nL (pc + 1) lv (.double 0 :: st) σ) : z_V p l e R s m args below meth c G ce sl Q nL pc lv st σ := fun H locs ls h1 h2 h3 => lv_dconst0 C.1 C.2.1 hd (k H locs ls h1 h2 h3)
theorem z_dret {post : Option Value → z_St → Prop} (pc : Nat) (C : z_C p s m args meth c G cc nL own (some .double)) {x : UInt64} (hd : decode cc pc = .ok (.dreturn, 1)) (h : post (some (.double x)) σ) : z_V p l e R s m args below meth c G ce sl (MQ below (z_QW G post) args s ce sl (z_A G)) nL pc lv [.double x] σ := fun H locs ls h1 h2 h3 =>
  W.dret C.1 C.2.1 C.2.2.2.2.2.2.1 (z_end h h1 h2) h2.2.2 hd C.2.2.2.2.2.2.2
theorem z_fret {post : Option Value → z_St → Prop} (pc : Nat) (C : z_C p s m args meth c G cc nL own (some .float)) {x : UInt32} (hd : decode cc pc = .ok (.freturn, 1)) (h : post (some (.float x)) σ) : z_V p l e R s m args below meth c G ce sl (MQ below (z_QW G post) args s ce sl (z_A G)) nL pc lv [.float x] σ := fun H locs ls h1 h2 h3 =>
  W.fret C.1 C.2.1 C.2.2.2.2.2.2.1 (z_end h h1 h2) h2.2.2 hd C.2.2.2.2.2.2.2
end ZR
theorem dX7_roundness_0 : decode cX7_roundness 0 = .ok (.iload_n 1, 1) := by decide +kernel
theorem dX7_roundness_1 : decode cX7_roundness 1 = .ok (.invokestatic 191, 3) := by decide +kernel
theorem dX7_roundness_4 : decode cX7_roundness 4 = .ok (.ifCond .eq 7, 3) := by decide +kernel
theorem dX7_roundness_7 : decode cX7_roundness 7 = .ok (.ldc2_w 208, 3) := by decide +kernel
theorem dX7_roundness_10 : decode cX7_roundness 10 = .ok (.dreturn, 1) := by decide +kernel
theorem dX7_roundness_11 : decode cX7_roundness 11 = .ok (.aload_n 0, 1) := by decide +kernel
theorem dX7_roundness_12 : decode cX7_roundness 12 = .ok (.iload_n 1, 1) := by decide +kernel
theorem dX7_roundness_13 : decode cX7_roundness 13 = .ok (.invokevirtual 194, 3) := by decide +kernel
theorem dX7_roundness_16 : decode cX7_roundness 16 = .ok (.invokevirtual 210, 3) := by decide +kernel
theorem dX7_roundness_19 : decode cX7_roundness 19 = .ok (.l2d, 1) := by decide +kernel
theorem dX7_roundness_20 : decode cX7_roundness 20 = .ok (.ldc2_w 213, 3) := by decide +kernel
theorem dX7_roundness_23 : decode cX7_roundness 23 = .ok (.ddiv, 1) := by decide +kernel
theorem dX7_roundness_24 : decode cX7_roundness 24 = .ok (.dreturn, 1) := by decide +kernel
set_option maxRecDepth 100000 in
set_option maxHeartbeats 4000000 in
theorem m_X7_roundness {l : Launch} {G : z_Gl} {σ : z_St} (P n o u v w rc tl : Nat) (hI : z_inv σ P n o u v w rc tl) (x : Int32)  (hvc : z_vcs σ) (hp : zs_hb (σ.2 (10 + (o + u) % 21))) : z_M l G yX7_roundness cX7_roundness 2 (some .double) (z_rm 6 148) [.ref (z_ad G 0), .int x] σ (fun v σ1 => v = some (.double (if x < nI 0 ∨ nI 3 < x then 13830554455654793216 else z_mic (z_tp (σ.2 (10 + (o + u) % 21)) (z_n x) - z_bt (σ.2 (10 + (o + u) % 21)) (z_n x)))) ∧ z_kp σ σ1) := by
  refine z_M.of (by decide) (Nat.le_of_ble_eq_true rfl) (fun p e s m below meth c C => ?_)
  refine z_sub [0, 1] (lv1 := [(0, .ref (z_ad G 0)), (1, .int x)]) rfl ?_
  have hI0 := hI
  obtain ⟨⟨hP, hn, ho, hu, hv, hw, hrc, htl⟩, hPs, hnP, ho21, huv, hw6, hrc8, htl2⟩ := hI0
  have h0 : 0 < P := by omega
  have h12 : P ≤ 12 := by omega
  have h288 : n ≤ 288 := by omega
  refine z_iload_n 0 C dX7_roundness_0 1 rfl ?_
  refine z_callS 1 C (As := [.int x]) (rest := []) (m_X7_isNoMethod x) k_X7_isNoMethod q642 ⟨rfl, rfl⟩ ⟨Nat.le_of_ble_eq_true rfl, Nat.le_of_ble_eq_true rfl⟩ rfl (Nat.le_of_ble_eq_true rfl) ⟨Nat.le_of_ble_eq_true rfl, Nat.le_of_ble_eq_true rfl⟩ rfl dX7_roundness_1 (z_k1 ?_)
  refine z_if_eqb 4 C 11 dX7_roundness_4 (by decide) (fun c4 => ?_) (fun c4 => ?_)
  · skip
    obtain ⟨a, ha, rfl⟩ := z_in0 (by decide) c4
    refine z_aload_n 11 C dX7_roundness_11 0 rfl ?_
    refine z_iload_n 12 C dX7_roundness_12 1 rfl ?_
    refine z_callV 13 C 0 (⟨rfl, rfl⟩) rfl (As := [.int (nI a)]) (rest := []) (m_X7_circleBy P n o u v w rc tl hI a (by omega) hvc hp) k_X7_circleBy q645 ⟨rfl, rfl⟩ ⟨Nat.le_of_ble_eq_true rfl, Nat.le_of_ble_eq_true rfl⟩ rfl (Nat.le_of_ble_eq_true rfl) ⟨Nat.le_of_ble_eq_true rfl, Nat.le_of_ble_eq_true rfl⟩ rfl dX7_roundness_13 (fun v13 σ13 hv13 => ?_)
    rcases hv13 with ⟨rfl, hf⟩
    · skip
      refine z_cv (st1 := [.ref (z_ad G (89 + 4 * a))]) rfl rfl rfl ?_
      have hb : z_iC (89 + 4 * a) := z_iC_m _ (by omega)
      obtain ⟨nc1, pf1, dv1, nr1, hpf1, hdv1, hs1⟩ := id hf
      subst hs1
      refine z_callVN 16 C (89 + 4 * a) (⟨(z_cC (z_iC_m _ (by omega))).1, by rw [(z_cC (z_iC_m _ (by omega))).2]; rfl⟩) rfl (As := []) (rest := []) (@m_X0_width _ _ σ (89 + 4 * a) (hb) (nI a) nc1 (z_cx (σ.2 (10 + (o + u) % 21)) a) (z_cy (σ.2 (10 + (o + u) % 21)) a) (z_tp (σ.2 (10 + (o + u) % 21)) a) (z_bt (σ.2 (10 + (o + u) % 21)) a) pf1 dv1 nr1 ) k_X0_width (List.mem_of_getElem? (i := 35) rfl) ⟨rfl, rfl⟩ ⟨Nat.le_of_ble_eq_true rfl, Nat.le_of_ble_eq_true rfl⟩ rfl (Nat.le_of_ble_eq_true rfl) ⟨Nat.le_of_ble_eq_true rfl, Nat.le_of_ble_eq_true rfl⟩ rfl dX7_roundness_16 (z_k1 ?_)
      refine z_l2d 19 C dX7_roundness_19 ?_
      refine z_ldc2d 20 C dX7_roundness_20 q708 ?_
      refine z_ddiv 23 C dX7_roundness_23 ((zf_mic _).1) ?_
      refine z_dret 24 C dX7_roundness_24 ?_
      exact ⟨z_cdb (by rw [if_neg c4, z_nk (k := a) (by omega)]; rfl), hf.kp (by omega) hb hvc⟩
  · skip
    refine z_ldc2d 7 C dX7_roundness_7 q703 ?_
    refine z_dret 10 C dX7_roundness_10 ?_
    exact ⟨z_cdb (by rw [if_pos c4]), z_kp.refl hvc⟩
theorem dX7_meanSquare_0 : decode cX7_meanSquare 0 = .ok (.aload_n 0, 1) := by decide +kernel
theorem dX7_meanSquare_1 : decode cX7_meanSquare 1 = .ok (.iconst 0, 1) := by decide +kernel
theorem dX7_meanSquare_2 : decode cX7_meanSquare 2 = .ok (.invokevirtual 194, 3) := by decide +kernel
theorem dX7_meanSquare_5 : decode cX7_meanSquare 5 = .ok (.getfield 205, 3) := by decide +kernel
theorem dX7_meanSquare_8 : decode cX7_meanSquare 8 = .ok (.astore_n 1, 1) := by decide +kernel
theorem dX7_meanSquare_9 : decode cX7_meanSquare 9 = .ok (.dconst 0, 1) := by decide +kernel
theorem dX7_meanSquare_10 : decode cX7_meanSquare 10 = .ok (.dstore_n 2, 1) := by decide +kernel
theorem dX7_meanSquare_11 : decode cX7_meanSquare 11 = .ok (.iconst 0, 1) := by decide +kernel
theorem dX7_meanSquare_12 : decode cX7_meanSquare 12 = .ok (.istore 4, 2) := by decide +kernel
theorem dX7_meanSquare_14 : decode cX7_meanSquare 14 = .ok (.iload 4, 2) := by decide +kernel
theorem dX7_meanSquare_16 : decode cX7_meanSquare 16 = .ok (.bipush 24, 2) := by decide +kernel
theorem dX7_meanSquare_18 : decode cX7_meanSquare 18 = .ok (.if_icmp .ge 28, 3) := by decide +kernel
theorem dX7_meanSquare_21 : decode cX7_meanSquare 21 = .ok (.aload_n 1, 1) := by decide +kernel
theorem dX7_meanSquare_22 : decode cX7_meanSquare 22 = .ok (.iload 4, 2) := by decide +kernel
theorem dX7_meanSquare_24 : decode cX7_meanSquare 24 = .ok (.laload, 1) := by decide +kernel
theorem dX7_meanSquare_25 : decode cX7_meanSquare 25 = .ok (.l2d, 1) := by decide +kernel
theorem dX7_meanSquare_26 : decode cX7_meanSquare 26 = .ok (.ldc2_w 213, 3) := by decide +kernel
theorem dX7_meanSquare_29 : decode cX7_meanSquare 29 = .ok (.ddiv, 1) := by decide +kernel
theorem dX7_meanSquare_30 : decode cX7_meanSquare 30 = .ok (.dstore 5, 2) := by decide +kernel
theorem dX7_meanSquare_32 : decode cX7_meanSquare 32 = .ok (.dload_n 2, 1) := by decide +kernel
theorem dX7_meanSquare_33 : decode cX7_meanSquare 33 = .ok (.dload 5, 2) := by decide +kernel
theorem dX7_meanSquare_35 : decode cX7_meanSquare 35 = .ok (.dload 5, 2) := by decide +kernel
theorem dX7_meanSquare_37 : decode cX7_meanSquare 37 = .ok (.dmul, 1) := by decide +kernel
theorem dX7_meanSquare_38 : decode cX7_meanSquare 38 = .ok (.dadd, 1) := by decide +kernel
theorem dX7_meanSquare_39 : decode cX7_meanSquare 39 = .ok (.dstore_n 2, 1) := by decide +kernel
theorem dX7_meanSquare_40 : decode cX7_meanSquare 40 = .ok (.iinc 4 1, 3) := by decide +kernel
theorem dX7_meanSquare_43 : decode cX7_meanSquare 43 = .ok (.goto (-29), 3) := by decide +kernel
theorem dX7_meanSquare_46 : decode cX7_meanSquare 46 = .ok (.dload_n 2, 1) := by decide +kernel
theorem dX7_meanSquare_47 : decode cX7_meanSquare 47 = .ok (.ldc2_w 225, 3) := by decide +kernel
theorem dX7_meanSquare_50 : decode cX7_meanSquare 50 = .ok (.ddiv, 1) := by decide +kernel
theorem dX7_meanSquare_51 : decode cX7_meanSquare 51 = .ok (.d2f, 1) := by decide +kernel
theorem dX7_meanSquare_52 : decode cX7_meanSquare 52 = .ok (.freturn, 1) := by decide +kernel
set_option maxRecDepth 100000 in
set_option maxHeartbeats 4000000 in
theorem m_X7_meanSquare {l : Launch} {G : z_Gl} {σ : z_St} (P n o u v w rc tl : Nat) (hI : z_inv σ P n o u v w rc tl) (hvc : z_vcs σ) (hp : zs_hb (σ.2 (10 + (o + u) % 21))) : z_M l G yX7_meanSquare cX7_meanSquare 7 (some .float) (z_rm 6 148) [.ref (z_ad G 0)] σ (fun v σ1 => v = some (.float (z_msq (z_cd (σ.2 (10 + (o + u) % 21)) 0))) ∧ z_kp σ σ1) := by
  refine z_M.of (by decide) (Nat.le_of_ble_eq_true rfl) (fun p e s m below meth c C => ?_)
  refine z_sub [0] (lv1 := [(0, .ref (z_ad G 0))]) rfl ?_
  have hI0 := hI
  obtain ⟨⟨hP, hn, ho, hu, hv, hw, hrc, htl⟩, hPs, hnP, ho21, huv, hw6, hrc8, htl2⟩ := hI0
  have h0 : 0 < P := by omega
  have h12 : P ≤ 12 := by omega
  have h288 : n ≤ 288 := by omega
  refine z_aload_n 0 C dX7_meanSquare_0 0 rfl ?_
  refine z_iconst 1 C dX7_meanSquare_1 (nI 0) rfl ?_
  refine z_callV 2 C 0 (⟨rfl, rfl⟩) rfl (As := [.int (nI 0)]) (rest := []) (m_X7_circleBy P n o u v w rc tl hI 0 (by omega) hvc hp) k_X7_circleBy q645 ⟨rfl, rfl⟩ ⟨Nat.le_of_ble_eq_true rfl, Nat.le_of_ble_eq_true rfl⟩ rfl (Nat.le_of_ble_eq_true rfl) ⟨Nat.le_of_ble_eq_true rfl, Nat.le_of_ble_eq_true rfl⟩ rfl dX7_meanSquare_2 (fun v2 σ2 hv2 => ?_)
  rcases hv2 with ⟨rfl, hf⟩
  · skip
    refine z_cv (st1 := [.ref (z_ad G (89 + 4 * 0))]) rfl rfl rfl ?_
    have hb : z_iC (89 + 4 * 0) := z_iC_m _ (by omega)
    obtain ⟨nc1, pf1, dv1, nr1, hpf1, hdv1, hs1⟩ := id hf
    subst hs1
    refine z_getfN 5 C (89 + 4 * 0) z_dX0 (z_cC (z_iC_m _ (by omega))) 1 (by decide) (List.mem_of_getElem? (i := 10) rfl) (.ref (z_ad G ((89 + 4 * 0) + 2))) rfl dX7_meanSquare_5 ?_
    refine z_astore_n 8 C dX7_meanSquare_8 [(1, .ref (z_ad G ((89 + 4 * 0) + 2))), (0, .ref (z_ad G 0))] (by decide) rfl ?_
    refine z_dconst0 9 C dX7_meanSquare_9 ?_
    refine z_dstore_n 10 C dX7_meanSquare_10 [(2, .double 0), (1, .ref (z_ad G ((89 + 4 * 0) + 2))), (0, .ref (z_ad G 0))] (by decide) rfl ?_
    refine z_iconst 11 C dX7_meanSquare_11 (nI 0) rfl ?_
    refine z_istore 12 C dX7_meanSquare_12 [(4, .int (nI 0)), (2, .double 0), (1, .ref (z_ad G ((89 + 4 * 0) + 2))), (0, .ref (z_ad G 0))] (by decide) rfl ?_
    refine z_sub [3, 2, 1, 0] (lv1 := [(0, .ref (z_ad G 0)), (1, .ref (z_ad G ((89 + 4 * 0) + 2))), (2, .double 0), (4, .int (nI 0))]) rfl ?_
    refine z_cv (lv1 := [(0, .ref (z_ad G 0)), (1, .ref (z_ad G ((89 + 4 * 0) + 2))), (2, .double (z_ssq (z_cd (σ.2 (10 + (o + u) % 21)) 0) 0)), (4, .int (nI 0))]) (st1 := []) (σ1 := z_cU σ (89 + 4 * 0) (nI 0) nc1 (z_cx (σ.2 (10 + (o + u) % 21)) 0) (z_cy (σ.2 (10 + (o + u) % 21)) 0) (z_tp (σ.2 (10 + (o + u) % 21)) 0) (z_bt (σ.2 (10 + (o + u) % 21)) 0) pf1 dv1 nr1) rfl rfl rfl ?_
    refine z_lp1 (fun (k : Nat) => k ≤ 24) (fun (k : Nat) => 24 - k) (fun (k : Nat) => [(0, .ref (z_ad G 0)), (1, .ref (z_ad G ((89 + 4 * 0) + 2))), (2, .double (z_ssq (z_cd (σ.2 (10 + (o + u) % 21)) 0) k)), (4, .int (nI k))]) (fun (k : Nat) => z_cU σ (89 + 4 * 0) (nI 0) nc1 (z_cx (σ.2 (10 + (o + u) % 21)) 0) (z_cy (σ.2 (10 + (o + u) % 21)) 0) (z_tp (σ.2 (10 + (o + u) % 21)) 0) (z_bt (σ.2 (10 + (o + u) % 21)) 0) pf1 dv1 nr1) (fun k hi_14 ih_14 => ?_) 0 (by omega)
    try dsimp only
    refine z_iload 14 C dX7_meanSquare_14 3 rfl ?_
    refine z_bipush 16 C dX7_meanSquare_16 (nI 24) rfl ?_
    refine z_icmp_geN 18 C k 24 rfl rfl (by omega) (by omega) 46 dX7_meanSquare_18 (by decide) (fun c18 => ?_) (fun c18 => ?_)
    · skip
      have ek : k = 24 := by omega
      subst ek
      refine z_dload_n 46 C dX7_meanSquare_46 2 rfl ?_
      refine z_ldc2d 47 C dX7_meanSquare_47 q721 ?_
      refine z_ddiv 50 C dX7_meanSquare_50 ((zf_msq _).1) ?_
      refine z_d2f 51 C dX7_meanSquare_51 ((zf_msq _).2.1) ?_
      refine z_fret 52 C dX7_meanSquare_52 ?_
      exact ⟨rfl, hf.kp (by omega) hb hvc⟩
    · skip
      refine z_aload_n 21 C dX7_meanSquare_21 1 rfl ?_
      refine z_iload 22 C dX7_meanSquare_22 3 rfl ?_
      refine z_laldN 24 C ((89 + 4 * 0) + 2) (n := 24) (z_cV hb) k rfl (by omega) (by decide) dX7_meanSquare_24 ?_
      refine z_cv (st1 := [.long (dv1 k)]) rfl (by rw [z_cU_dv]) rfl ?_
      refine z_cv (lv1 := [(0, .ref (z_ad G 0)), (1, .ref (z_ad G ((89 + 4 * 0) + 2))), (2, .double (z_ssq (z_cd (σ.2 (10 + (o + u) % 21)) 0) k)), (4, .int (nI k))]) (st1 := [.long (z_cd (σ.2 (10 + (o + u) % 21)) 0 k)]) (σ1 := z_cU σ (89 + 4 * 0) (nI 0) nc1 (z_cx (σ.2 (10 + (o + u) % 21)) 0) (z_cy (σ.2 (10 + (o + u) % 21)) 0) (z_tp (σ.2 (10 + (o + u) % 21)) 0) (z_bt (σ.2 (10 + (o + u) % 21)) 0) pf1 dv1 nr1) rfl (by rw [hdv1 k (by omega)]) rfl ?_
      refine z_l2d 25 C dX7_meanSquare_25 ?_
      refine z_ldc2d 26 C dX7_meanSquare_26 q708 ?_
      refine z_ddiv 29 C dX7_meanSquare_29 ((zf_mic _).1) ?_
      refine z_cv (lv1 := [(0, .ref (z_ad G 0)), (1, .ref (z_ad G ((89 + 4 * 0) + 2))), (2, .double (z_ssq (z_cd (σ.2 (10 + (o + u) % 21)) 0) k)), (4, .int (nI k))]) (st1 := [.double (z_mic (z_cd (σ.2 (10 + (o + u) % 21)) 0 k))]) (σ1 := z_cU σ (89 + 4 * 0) (nI 0) nc1 (z_cx (σ.2 (10 + (o + u) % 21)) 0) (z_cy (σ.2 (10 + (o + u) % 21)) 0) (z_tp (σ.2 (10 + (o + u) % 21)) 0) (z_bt (σ.2 (10 + (o + u) % 21)) 0) pf1 dv1 nr1) rfl rfl rfl ?_
      refine z_dstore 30 C dX7_meanSquare_30 [(5, .double (z_mic (z_cd (σ.2 (10 + (o + u) % 21)) 0 k))), (0, .ref (z_ad G 0)), (1, .ref (z_ad G ((89 + 4 * 0) + 2))), (2, .double (z_ssq (z_cd (σ.2 (10 + (o + u) % 21)) 0) k)), (4, .int (nI k))] (by decide) rfl ?_
      refine z_dload_n 32 C dX7_meanSquare_32 3 rfl ?_
      refine z_dload 33 C dX7_meanSquare_33 0 rfl ?_
      refine z_dload 35 C dX7_meanSquare_35 0 rfl ?_
      refine z_dmul 37 C dX7_meanSquare_37 ((zf_s1 _ k).1) ?_
      refine z_dadd 38 C dX7_meanSquare_38 ((zf_s1 _ k).2) ?_
      refine z_dstore_n 39 C dX7_meanSquare_39 [(2, .double (FP.dadd (z_ssq (z_cd (σ.2 (10 + (o + u) % 21)) 0) k) (FP.dmul (z_mic (z_cd (σ.2 (10 + (o + u) % 21)) 0 k)) (z_mic (z_cd (σ.2 (10 + (o + u) % 21)) 0 k))))), (5, .double (z_mic (z_cd (σ.2 (10 + (o + u) % 21)) 0 k))), (0, .ref (z_ad G 0)), (1, .ref (z_ad G ((89 + 4 * 0) + 2))), (4, .int (nI k))] (by decide) rfl ?_
      refine z_iincN 40 C 4 k [(4, .int (nI (k + 1))), (2, .double (FP.dadd (z_ssq (z_cd (σ.2 (10 + (o + u) % 21)) 0) k) (FP.dmul (z_mic (z_cd (σ.2 (10 + (o + u) % 21)) 0 k)) (z_mic (z_cd (σ.2 (10 + (o + u) % 21)) 0 k))))), (5, .double (z_mic (z_cd (σ.2 (10 + (o + u) % 21)) 0 k))), (0, .ref (z_ad G 0)), (1, .ref (z_ad G ((89 + 4 * 0) + 2)))] rfl rfl (by decide) rfl dX7_meanSquare_40 ?_
      refine z_goto 43 C 14 dX7_meanSquare_43 (by decide) ?_
      refine z_sub [3, 4, 1, 0] (lv1 := [(0, .ref (z_ad G 0)), (1, .ref (z_ad G ((89 + 4 * 0) + 2))), (2, .double (FP.dadd (z_ssq (z_cd (σ.2 (10 + (o + u) % 21)) 0) k) (FP.dmul (z_mic (z_cd (σ.2 (10 + (o + u) % 21)) 0 k)) (z_mic (z_cd (σ.2 (10 + (o + u) % 21)) 0 k))))), (4, .int (nI (k + 1)))]) rfl ?_
      refine z_cv (lv1 := [(0, .ref (z_ad G 0)), (1, .ref (z_ad G ((89 + 4 * 0) + 2))), (2, .double (z_ssq (z_cd (σ.2 (10 + (o + u) % 21)) 0) (k + 1))), (4, .int (nI (k + 1)))]) (st1 := []) (σ1 := z_cU σ (89 + 4 * 0) (nI 0) nc1 (z_cx (σ.2 (10 + (o + u) % 21)) 0) (z_cy (σ.2 (10 + (o + u) % 21)) 0) (z_tp (σ.2 (10 + (o + u) % 21)) 0) (z_bt (σ.2 (10 + (o + u) % 21)) 0) pf1 dv1 nr1) rfl rfl rfl ?_
      exact ih_14 (k + 1) (by omega) (by omega)
theorem dX7_cylindricity_0 : decode cX7_cylindricity 0 = .ok (.aload_n 0, 1) := by decide +kernel
theorem dX7_cylindricity_1 : decode cX7_cylindricity 1 = .ok (.getfield 41, 3) := by decide +kernel
theorem dX7_cylindricity_4 : decode cX7_cylindricity 4 = .ok (.getfield 236, 3) := by decide +kernel
theorem dX7_cylindricity_7 : decode cX7_cylindricity 7 = .ok (.iconst 2, 1) := by decide +kernel
theorem dX7_cylindricity_8 : decode cX7_cylindricity 8 = .ok (.if_icmp .ge 7, 3) := by decide +kernel
theorem dX7_cylindricity_11 : decode cX7_cylindricity 11 = .ok (.ldc2_w 208, 3) := by decide +kernel
theorem dX7_cylindricity_14 : decode cX7_cylindricity 14 = .ok (.dreturn, 1) := by decide +kernel
theorem dX7_cylindricity_15 : decode cX7_cylindricity 15 = .ok (.aload_n 0, 1) := by decide +kernel
theorem dX7_cylindricity_16 : decode cX7_cylindricity 16 = .ok (.getfield 41, 3) := by decide +kernel
theorem dX7_cylindricity_19 : decode cX7_cylindricity 19 = .ok (.invokevirtual 271, 3) := by decide +kernel
theorem dX7_cylindricity_22 : decode cX7_cylindricity 22 = .ok (.l2d, 1) := by decide +kernel
theorem dX7_cylindricity_23 : decode cX7_cylindricity 23 = .ok (.ldc2_w 213, 3) := by decide +kernel
theorem dX7_cylindricity_26 : decode cX7_cylindricity 26 = .ok (.ddiv, 1) := by decide +kernel
theorem dX7_cylindricity_27 : decode cX7_cylindricity 27 = .ok (.dreturn, 1) := by decide +kernel
set_option maxRecDepth 100000 in
set_option maxHeartbeats 4000000 in
theorem m_X7_cylindricity {l : Launch} {G : z_Gl} {σ : z_St} (P n o u v w rc tl : Nat) (hI : z_inv σ P n o u v w rc tl) (hpos : 2 ≤ w → 0 < z_den (σ.1 40) w) : z_M l G yX7_cylindricity cX7_cylindricity 1 (some .double) (z_rm 4 114) [.ref (z_ad G 0)] σ (z_p1 (.double (if 2 ≤ w then z_mic (z_fmx2 (z_cdv (σ.1 40) (σ.2 41) (σ.2 42) (z_tr σ.2) w) (-9223372036854775808) w - z_fmn2 (z_cdv (σ.1 40) (σ.2 41) (σ.2 42) (z_tr σ.2) w) 9223372036854775807 w) else 13830554455654793216)) σ) := by
  refine z_M.of (by decide) (Nat.le_of_ble_eq_true rfl) (fun p e s m below meth c C => ?_)
  refine z_sub [0] (lv1 := [(0, .ref (z_ad G 0))]) rfl ?_
  have hI0 := hI
  obtain ⟨⟨hP, hn, ho, hu, hv, hw, hrc, htl⟩, hPs, hnP, ho21, huv, hw6, hrc8, htl2⟩ := hI0
  have h0 : 0 < P := by omega
  have h12 : P ≤ 12 := by omega
  have h288 : n ≤ 288 := by omega
  refine z_aload_n 0 C dX7_cylindricity_0 0 rfl ?_
  refine z_getf 1 C 0 z_dX7 (⟨rfl, rfl⟩) 4 (by decide) q343 (.ref (z_ad G 32)) rfl dX7_cylindricity_1 ?_
  refine z_getfN 4 C 32 z_dX6 (⟨rfl, rfl⟩) 5 (by decide) (List.mem_of_getElem? (i := 9) rfl) (.int (nI w)) (z_ci hw) dX7_cylindricity_4 ?_
  refine z_iconst 7 C dX7_cylindricity_7 (nI 2) rfl ?_
  refine z_icmp_geN 8 C w 2 rfl rfl (by omega) (by omega) 15 dX7_cylindricity_8 (by decide) (fun c8 => ?_) (fun c8 => ?_)
  · skip
    refine z_aload_n 15 C dX7_cylindricity_15 0 rfl ?_
    refine z_getf 16 C 0 z_dX7 (⟨rfl, rfl⟩) 4 (by decide) q343 (.ref (z_ad G 32)) rfl dX7_cylindricity_16 ?_
    refine z_callVN 19 C 32 (⟨rfl, rfl⟩) rfl (As := []) (rest := []) (m_X6_cylinderWidth w hw (by omega) (hpos c8)) k_X6_cylinderWidth (List.mem_of_getElem? (i := 46) rfl) ⟨rfl, rfl⟩ ⟨Nat.le_of_ble_eq_true rfl, Nat.le_of_ble_eq_true rfl⟩ rfl (Nat.le_of_ble_eq_true rfl) ⟨Nat.le_of_ble_eq_true rfl, Nat.le_of_ble_eq_true rfl⟩ rfl dX7_cylindricity_19 (z_k1 ?_)
    refine z_l2d 22 C dX7_cylindricity_22 ?_
    refine z_ldc2d 23 C dX7_cylindricity_23 q708 ?_
    refine z_ddiv 26 C dX7_cylindricity_26 ((zf_mic _).1) ?_
    refine z_dret 27 C dX7_cylindricity_27 ?_
    exact ⟨z_cdb (by rw [if_pos c8]; rfl), rfl⟩
  · skip
    refine z_ldc2d 11 C dX7_cylindricity_11 q703 ?_
    refine z_dret 14 C dX7_cylindricity_14 ?_
    exact ⟨z_cdb (by rw [if_neg (Nat.not_le.mpr c8)]), rfl⟩
