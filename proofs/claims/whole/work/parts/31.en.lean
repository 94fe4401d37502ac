/-! ENERGIES: what keeps of a profile after lobes are taken is no greater -/
theorem ze_le {f g : Nat → Int} : ∀ {n : Nat}, (∀ k, k < n → f k ≤ g k) → fb_si f n ≤ fb_si g n
  | 0, _ => Int.le_refl 0
  | n + 1, h => by
    rw [fb_si_succ, fb_si_succ]
    have h1 := ze_le (n := n) (fun k hk => h k (by omega))
    have h2 := h n (by omega)
    omega
theorem ze_const (x : Int) : ∀ n : Nat, fb_si (fun _ => x) n = n * x
  | 0 => by show (0 : Int) = _; simp
  | n + 1 => by
    rw [fb_si_succ, ze_const x n, Int.natCast_add, Int.add_mul]
    omega
theorem ze_swap (f : Nat → Nat → Int) (m : Nat) : ∀ n, fb_si (fun k => fb_si (fun i => f k i) m) n = fb_si (fun i => fb_si (fun k => f k i) n) m
  | 0 => by
    show (0 : Int) = fb_si (fun _ => 0) m
    rw [ze_const]; simp
  | n + 1 => by
    rw [fb_si_succ, ze_swap f m n, ← fb_si_add]
    rfl
theorem ze_mulr (x : Int) (f : Nat → Int) (n : Nat) : fb_si (fun k => f k * x) n = fb_si f n * x := by
  rw [Int.mul_comm, ← fb_si_mul]
  exact fb_si_cong (fun k _ => Int.mul_comm _ _)
theorem ze_sq (x : Int) : 0 ≤ x * x := by
  rcases Int.le_total 0 x with h | h
  · exact Int.mul_nonneg h h
  · rw [← Int.neg_mul_neg]
    exact Int.mul_nonneg (by omega) (by omega)
theorem ze_2 (x y : Int) : 2 * (x * y) ≤ x * x + y * y ∧ -(x * x + y * y) ≤ 2 * (x * y) := by
  have h1 := ze_sq (x - y)
  have h2 := ze_sq (x + y)
  simp only [Int.sub_mul, Int.mul_sub, Int.add_mul, Int.mul_add] at h1 h2
  rw [Int.mul_comm y x] at h1 h2
  constructor <;> omega
def ze_ab (x : Int) : Int := if x < 0 then -x else x
theorem ze_ab_nn (x : Int) : 0 ≤ ze_ab x := by unfold ze_ab; split <;> omega
theorem ze_3 (x y g : Int) : 2 * (x * y * g) ≤ (x * x + y * y) * ze_ab g := by
  have h := ze_2 x y
  unfold ze_ab
  split
  · have := Int.mul_nonneg (show 0 ≤ 2 * (x * y) + (x * x + y * y) by omega) (show 0 ≤ -g by omega)
    simp only [Int.add_mul, Int.mul_neg] at this ⊢
    rw [Int.mul_assoc] at this
    omega
  · have := Int.mul_nonneg (show 0 ≤ (x * x + y * y) - 2 * (x * y) by omega) (show 0 ≤ g by omega)
    simp only [Int.add_mul, Int.sub_mul] at this ⊢
    rw [Int.mul_assoc 2] at this
    omega
/-- the waves -/
def ze_u (i k : Nat) : Int := (z_tv (i % 2) (i / 2 * k % 24)).toInt
def ze_D (i : Nat) : Int := if i / 2 = 0 ∨ i / 2 = 12 then 24000000 else 12000000
def ze_G (i j : Nat) : Int := fb_si (fun k => ze_u i k * ze_u j k) 24
theorem ze_gram : ∀ i, i < 26 → fb_si (fun j => ze_ab (ze_G i j)) 26 ≤ ze_D i * 1000001 := by decide +kernel
theorem ze_Gs (i j : Nat) : ze_G i j = ze_G j i := fb_si_cong (fun k _ => Int.mul_comm _ _)
theorem ze_Dp (i : Nat) : 0 ≤ ze_D i ∧ ze_D i ≤ 24000000 := by unfold ze_D; split <;> omega
def ze_S (a : Nat → Int) (k : Nat) : Int := fb_si (fun i => a i * ze_u i k) 26
theorem ze_N (a : Nat → Int) : fb_si (fun k => ze_S a k * ze_S a k) 24 = fb_si (fun i => fb_si (fun j => a i * a j * ze_G i j) 26) 26 := by
  have e1 : ∀ k, ze_S a k * ze_S a k = fb_si (fun i => fb_si (fun j => a i * a j * (ze_u i k * ze_u j k)) 26) 26 := by
    intro k
    show fb_si (fun i => a i * ze_u i k) 26 * _ = _
    rw [← ze_mulr]
    refine fb_si_cong (fun i _ => ?_)
    show a i * ze_u i k * fb_si (fun j => a j * ze_u j k) 26 = _
    rw [← fb_si_mul]
    refine fb_si_cong (fun j _ => ?_)
    simp only [Int.mul_assoc, Int.mul_comm, Int.mul_left_comm]
  rw [fb_si_cong (fun k _ => e1 k), ze_swap]
  refine fb_si_cong (fun i _ => ?_)
  rw [ze_swap]
  refine fb_si_cong (fun j _ => ?_)
  rw [fb_si_mul]
  rfl
theorem ze_Nb (a : Nat → Int) : fb_si (fun k => ze_S a k * ze_S a k) 24 ≤ fb_si (fun i => a i * a i * ze_D i) 26 * 1000001 := by
  have e2 : 2 * fb_si (fun i => fb_si (fun j => a i * a j * ze_G i j) 26) 26 ≤ fb_si (fun i => fb_si (fun j => (a i * a i + a j * a j) * ze_ab (ze_G i j)) 26) 26 := by
    rw [← fb_si_mul]
    refine ze_le (fun i _ => ?_)
    rw [← fb_si_mul]
    exact ze_le (fun j _ => ze_3 (a i) (a j) (ze_G i j))
  have e3 : fb_si (fun i => fb_si (fun j => (a i * a i + a j * a j) * ze_ab (ze_G i j)) 26) 26 = fb_si (fun i => fb_si (fun j => a i * a i * ze_ab (ze_G i j)) 26) 26 + fb_si (fun i => fb_si (fun j => a j * a j * ze_ab (ze_G i j)) 26) 26 := by
    rw [← fb_si_add]
    refine fb_si_cong (fun i _ => ?_)
    rw [← fb_si_add]
    exact fb_si_cong (fun j _ => Int.add_mul _ _ _)
  have e4 : fb_si (fun i => fb_si (fun j => a j * a j * ze_ab (ze_G i j)) 26) 26 = fb_si (fun i => fb_si (fun j => a i * a i * ze_ab (ze_G i j)) 26) 26 := by
    rw [ze_swap]
    refine fb_si_cong (fun i _ => fb_si_cong (fun j _ => ?_))
    rw [ze_Gs]
  have e5 : fb_si (fun i => fb_si (fun j => a i * a i * ze_ab (ze_G i j)) 26) 26 ≤ fb_si (fun i => a i * a i * ze_D i * 1000001) 26 := by
    refine ze_le (fun i hi => ?_)
    have q := Int.mul_le_mul_of_nonneg_left (ze_gram i hi) (ze_sq (a i))
    rw [← Int.mul_assoc (a i * a i)] at q
    rw [fb_si_mul]
    exact q
  rw [ze_mulr] at e5
  rw [ze_N]
  omega
/-- a coefficient, rounded down, or none -/
theorem ze_co {a X D : Int} (hD : 0 < D) (h : a = 0 ∨ a = X / D) : 1999999 * (a * a * D) - 1000000000000 * D ≤ 2000000 * (a * X) := by
  rcases h with h | h
  · subst h
    simp only [Int.zero_mul, Int.mul_zero]
    omega
  · have r0 := Int.emod_nonneg X (show D ≠ 0 by omega)
    have r1 := Int.emod_lt_of_pos X hD
    have e : X = D * a + X % D := by rw [h]; exact (Int.mul_ediv_add_emod X D).symm
    generalize X % D = r at r0 r1 e
    subst e
    have q1 := Int.mul_nonneg (show 0 ≤ a * a + 1000000000000 by have := ze_sq a; omega) (show 0 ≤ D - r by omega)
    have q2 := Int.mul_nonneg (ze_sq (a + 1000000)) r0
    simp only [Int.add_mul, Int.mul_add, Int.mul_sub] at q1 q2 ⊢
    have c1 : a * (D * a) = a * a * D := by simp only [Int.mul_assoc, Int.mul_comm, Int.mul_left_comm]
    have c2 : 1000000 * a * r = 1000000 * (a * r) := Int.mul_assoc _ _ _
    have c3 : a * 1000000 * r = 1000000 * (a * r) := by simp only [Int.mul_assoc, Int.mul_comm, Int.mul_left_comm]
    rw [c2, c3] at q2
    rw [c1]
    omega
def ze_X (z : Nat → Int) (i : Nat) : Int := fb_si (fun k => z k * ze_u i k) 24
theorem ze_main (z a : Nat → Int) (ha : ∀ i, i < 26 → a i = 0 ∨ a i = ze_X z i / ze_D i) :
    999998 * fb_si (fun k => ze_S a k * ze_S a k) 24 ≤ 1000001 * (1000000000000 * fb_si (fun k => z k * z k) 24 + 624000000000000000000) ∧ fb_si (fun k => (1000000 * z k - ze_S a k) * (1000000 * z k - ze_S a k)) 24 ≤ 1000000000000 * fb_si (fun k => z k * z k) 24 + 624000000000000000000 := by
  have hN := ze_Nb a
  have hP : fb_si (fun k => z k * ze_S a k) 24 = fb_si (fun i => a i * ze_X z i) 26 := by
    have e1 : ∀ k, z k * ze_S a k = fb_si (fun i => a i * (z k * ze_u i k)) 26 := by
      intro k
      show z k * fb_si (fun i => a i * ze_u i k) 26 = _
      rw [← fb_si_mul]
      refine fb_si_cong (fun i _ => ?_)
      simp only [Int.mul_left_comm]
    rw [fb_si_cong (fun k _ => e1 k), ze_swap]
    refine fb_si_cong (fun i _ => ?_)
    rw [fb_si_mul]
    rfl
  have hc : fb_si (fun i => 1999999 * (a i * a i * ze_D i) - 1000000000000 * ze_D i) 26 ≤ fb_si (fun i => 2000000 * (a i * ze_X z i)) 26 :=
    ze_le (fun i hi => ze_co (by unfold ze_D; split <;> omega) (ha i hi))
  rw [fb_si_sub, fb_si_mul, fb_si_mul, fb_si_mul, ← hP] at hc
  have hD : fb_si ze_D 26 ≤ 26 * 24000000 := by
    have := ze_le (f := ze_D) (g := fun _ => 24000000) (n := 26) (fun i _ => (ze_Dp i).2)
    rw [ze_const] at this
    exact this
  have hT : fb_si (fun k => (1000000 * z k - ze_S a k) * (1000000 * z k - ze_S a k)) 24 = 1000000000000 * fb_si (fun k => z k * z k) 24 - 2000000 * fb_si (fun k => z k * ze_S a k) 24 + fb_si (fun k => ze_S a k * ze_S a k) 24 := by
    rw [← fb_si_mul, ← fb_si_mul, ← fb_si_sub, ← fb_si_add]
    refine fb_si_cong (fun k _ => ?_)
    simp only [Int.sub_mul, Int.mul_sub]
    have c1 : 1000000 * z k * (1000000 * z k) = 1000000000000 * (z k * z k) := by
      rw [Int.mul_assoc, Int.mul_left_comm (z k), ← Int.mul_assoc]
      rfl
    have c2 : 1000000 * z k * ze_S a k = 1000000 * (z k * ze_S a k) := Int.mul_assoc _ _ _
    have c3 : ze_S a k * (1000000 * z k) = 1000000 * (z k * ze_S a k) := by rw [Int.mul_comm]; exact Int.mul_assoc _ _ _
    rw [c1, c2, c3]
    omega
  have hT0 : 0 ≤ fb_si (fun k => (1000000 * z k - ze_S a k) * (1000000 * z k - ze_S a k)) 24 := by
    have := ze_le (f := fun _ => (0 : Int)) (g := fun k => (1000000 * z k - ze_S a k) * (1000000 * z k - ze_S a k)) (n := 24) (fun k _ => ze_sq _)
    rw [ze_const] at this
    simpa using this
  have hA : 0 ≤ fb_si (fun i => a i * a i * ze_D i) 26 := by
    have := ze_le (f := fun _ => (0 : Int)) (g := fun i => a i * a i * ze_D i) (n := 26) (fun i _ => Int.mul_nonneg (ze_sq _) (ze_Dp i).1)
    rw [ze_const] at this
    simpa using this
  constructor <;> omega
/-- rounding: the square grows by little -/
theorem ze_rd {y S r B : Int} (e : 1000000 * y = S - r) (h0 : -B ≤ r) (h1 : r ≤ B) : 1000000000000000000 * (y * y) ≤ 1000001 * (S * S) + 1000001000000 * (B * B) := by
  have q := ze_sq (S + 1000000 * r)
  have q2 := z_mulb h0 h1 h0 h1
  have e2 : 1000000 * y * (1000000 * y) = (S - r) * (S - r) := by rw [e]
  have c1 : 1000000 * y * (1000000 * y) = 1000000000000 * (y * y) := by
    rw [Int.mul_assoc, Int.mul_left_comm y, ← Int.mul_assoc]
    rfl
  have c2 : S * (1000000 * r) = 1000000 * (S * r) := Int.mul_left_comm _ _ _
  have c3 : 1000000 * r * S = 1000000 * (S * r) := by rw [Int.mul_assoc, Int.mul_comm r]
  have c4 : 1000000 * r * (1000000 * r) = 1000000000000 * (r * r) := by
    rw [Int.mul_assoc, Int.mul_left_comm r, ← Int.mul_assoc]
    rfl
  simp only [Int.add_mul, Int.mul_add] at q
  rw [c2, c3, c4] at q
  rw [c1] at e2
  simp only [Int.sub_mul, Int.mul_sub] at e2
  rw [Int.mul_comm r S] at e2
  omega
theorem ze_out {y S r : Nat → Int} {B : Int} (e : ∀ k, k < 24 → 1000000 * y k = S k - r k ∧ -B ≤ r k ∧ r k ≤ B) : 1000000000000000000 * fb_si (fun k => y k * y k) 24 ≤ 1000001 * fb_si (fun k => S k * S k) 24 + 24 * (1000001000000 * (B * B)) := by
  have := ze_le (f := fun k => 1000000000000000000 * (y k * y k)) (g := fun k => 1000001 * (S k * S k) + 1000001000000 * (B * B)) (n := 24) (fun k hk => ze_rd (e k hk).1 (e k hk).2.1 (e k hk).2.2)
  rw [fb_si_mul, fb_si_add, fb_si_mul, ze_const] at this
  exact this

/-! ENERGIES, of the rows themselves -/
def ze_z (z : Nat → Int64) (k : Nat) : Int := (z k).toInt
theorem ze_e (z : Nat → Int64) : ∀ n, z_e z n = fb_si (fun k => ze_z z k * ze_z z k) n
  | 0 => rfl
  | n + 1 => by rw [z_e, ze_e z n]; rfl
theorem z_e_ag {f g : Nat → Int64} : ∀ {n : Nat}, (∀ k, k < n → f k = g k) → z_e f n = z_e g n
  | 0, _ => rfl
  | n + 1, h => by rw [z_e, z_e, z_e_ag (n := n) (fun k hk => h k (by omega)), h n (by omega)]
theorem ze_one (z : Nat → Int64) : ∀ {n k : Nat}, k < n → (z k).toInt * (z k).toInt ≤ z_e z n
  | 0, k, h => absurd h (Nat.not_lt_zero k)
  | n + 1, k, h => by
    rw [z_e]
    have q := ze_sq (z n).toInt
    have q0 : 0 ≤ z_e z n := by
      rw [ze_e]
      have := ze_le (f := fun _ => (0 : Int)) (g := fun k => ze_z z k * ze_z z k) (n := n) (fun k _ => ze_sq _)
      rw [ze_const] at this
      simpa using this
    by_cases e : k = n
    · subst e; omega
    · have := ze_one z (n := n) (k := k) (by omega)
      omega
theorem ze_hb {z : Nat → Int64} (h : z_e z 24 ≤ 40000000000000000000000) : zs_hb z := by
  intro k hk
  have q := ze_one z hk
  have key : ∀ a : Int, a * a ≤ 40000000000000000000000 → a ≤ 200000000000 := by
    intro a ha
    rcases Int.lt_or_le 200000000000 a with g | g
    · have := Int.mul_le_mul (show 200000000001 ≤ a by omega) (show 200000000001 ≤ a by omega) (by decide) (by omega)
      omega
    · exact g
  constructor
  · have := key (-(z k).toInt) (by rw [Int.neg_mul_neg]; omega)
    omega
  · exact key _ (by omega)
/-- the sums and coefficients, exact -/
theorem ze_sm {z : Nat → Int64} {t h : Nat} (hp : zs_hb z) (ht : t < 2) : ∀ n, n ≤ 24 → (z_sm z t h n).toInt = fb_si (fun k => ze_z z k * (z_tv t (h * k % 24)).toInt) n ∧ z_in (n * 200000000000000000) (z_sm z t h n).toInt
  | 0, _ => by
    have e : (z_sm z t h 0).toInt = 0 := by show (0 : Int64).toInt = 0; decide
    rw [e]
    exact ⟨rfl, by omega, by omega⟩
  | n + 1, hn => by
    obtain ⟨e, b⟩ := ze_sm (h := h) hp ht n (by omega)
    have h1 := hp n (by omega)
    have h2 := z_tvb t ht (h * n % 24) (Nat.mod_lt _ (by decide))
    have q := z_mulb h1.1 h1.2 h2.1 h2.2
    have b1 := b.1; have b2 := b.2
    have f1 : (z n * (z_tv t (h * n % 24)).toInt64).toInt = (z n).toInt * (z_tv t (h * n % 24)).toInt := by
      rw [fb_mulL (by rw [Int32.toInt_toInt64]; omega) (by rw [Int32.toInt_toInt64]; omega), Int32.toInt_toInt64]
    have f2 : (z_sm z t h n + z n * (z_tv t (h * n % 24)).toInt64).toInt = (z_sm z t h n).toInt + (z n).toInt * (z_tv t (h * n % 24)).toInt := by
      rw [fb_addL (by rw [f1]; omega) (by rw [f1]; omega), f1]
    rw [z_sm, f2]
    constructor
    · rw [e, fb_si_succ]; rfl
    · constructor <;> omega
theorem ze_dv {h : Nat} : (z_dv h).toInt = ze_D (2 * h) ∧ (z_dv h).toInt = ze_D (2 * h + 1) ∧ (0 : Int64) < z_dv h := by
  unfold z_dv ze_D
  rw [show 2 * h / 2 = h by omega, show (2 * h + 1) / 2 = h by omega]
  split
  · exact ⟨by decide, by decide, by decide⟩
  · exact ⟨by decide, by decide, by decide⟩
theorem ze_cf {z : Nat → Int64} {t h : Nat} (hp : zs_hb z) (ht : t < 2) : (z_cf z t h).toInt = ze_X (ze_z z) (2 * h + t) / ze_D (2 * h + t) ∧ z_in 400000000000 (z_cf z t h).toInt := by
  obtain ⟨e, b⟩ := ze_sm (h := h) hp ht 24 (Nat.le_refl 24)
  have d := ze_dv (h := h)
  have eX : ze_X (ze_z z) (2 * h + t) = (z_sm z t h 24).toInt := by
    rw [e]
    unfold ze_X ze_u
    rw [show (2 * h + t) / 2 = h by omega, show (2 * h + t) % 2 = t by omega]
  have eD : ze_D (2 * h + t) = (z_dv h).toInt := by
    rcases (show t = 0 ∨ t = 1 by omega) with q | q
    · subst q; exact d.1.symm
    · subst q; exact d.2.1.symm
  have hD : (z_dv h).toInt = 24000000 ∨ (z_dv h).toInt = 12000000 := by
    unfold z_dv
    split
    · exact Or.inl (by decide)
    · exact Or.inr (by decide)
  rw [eX, eD]
  have e1 : (z_cf z t h).toInt = (z_sm z t h 24).toInt / (z_dv h).toInt := by
    unfold z_cf
    rw [z_fd_t d.2.2]
  rw [e1]
  refine ⟨rfl, ?_⟩
  have b1 := b.1; have b2 := b.2
  rcases hD with q | q <;> (rw [q]; constructor <;> omega)
/-- a window of a sum -/
theorem ze_win (g : Nat → Int) (f : Nat) : ∀ d, f + d ≤ 13 → fb_si (fun i => g (f + i)) d = fb_si (fun h => if f ≤ h ∧ h < f + d then g h else 0) 13
  | 0, _ => by
    have : fb_si (fun h => if f ≤ h ∧ h < f + 0 then g h else 0) 13 = fb_si (fun _ => 0) 13 := fb_si_cong (fun h _ => if_neg (by omega))
    rw [this, ze_const]
    rfl
  | d + 1, hd => by
    have u := fb_si_upd (fun h => if f ≤ h ∧ h < f + d then g h else 0) (g (f + d)) (i := f + d) (n := 13) (by omega)
    have e : fb_si (fun h => if f ≤ h ∧ h < f + (d + 1) then g h else 0) 13 = fb_si (fun k => if k = f + d then g (f + d) else if f ≤ k ∧ k < f + d then g k else 0) 13 := by
      refine fb_si_cong (fun k _ => ?_)
      by_cases q : k = f + d
      · subst q
        rw [if_pos rfl, if_pos (by omega)]
      · rw [if_neg q]
        by_cases q2 : f ≤ k ∧ k < f + d
        · rw [if_pos q2, if_pos (by omega)]
        · rw [if_neg q2, if_neg (by omega)]
    rw [fb_si_succ, ze_win g f d (by omega), e, u, if_neg (show ¬ (f ≤ f + d ∧ f + d < f + d) by omega)]
    omega
theorem ze_pair (g : Nat → Int) : ∀ n, fb_si g (2 * n) = fb_si (fun h => g (2 * h) + g (2 * h + 1)) n
  | 0 => rfl
  | n + 1 => by
    rw [show 2 * (n + 1) = 2 * n + 1 + 1 by omega, fb_si_succ, fb_si_succ, ze_pair g n, fb_si_succ]
    omega
/-- the coefficients of lobes f to f + d - 1 -/
def ze_a (z : Nat → Int64) (f d i : Nat) : Int := if f ≤ i / 2 ∧ i / 2 < f + d then (z_cf z (i % 2) (i / 2)).toInt else 0
theorem ze_a_ok {z : Nat → Int64} (hp : zs_hb z) (f d : Nat) : ∀ i, i < 26 → ze_a z f d i = 0 ∨ ze_a z f d i = ze_X (ze_z z) i / ze_D i := by
  intro i _
  unfold ze_a
  split
  · right
    have := (ze_cf (t := i % 2) (h := i / 2) hp (Nat.mod_lt _ (by decide))).1
    rw [show 2 * (i / 2) + i % 2 = i by omega] at this
    exact this
  · exact Or.inl rfl
def ze_w (z : Nat → Int64) (k h : Nat) : Int := z_wi (z_cf z 0 h).toInt (z_cf z 1 h).toInt (h * k % 24)
theorem ze_kl {z : Nat → Int64} {f k : Nat} (hp : zs_hb z) : ∀ d, d ≤ 13 → (z_kl z f d k).toInt = fb_si (fun i => ze_w z k (f + i)) d ∧ z_in (d * 800000000000) (z_kl z f d k).toInt
  | 0, _ => by
    have e : (z_kl z f 0 k).toInt = 0 := by show (0 : Int64).toInt = 0; decide
    rw [e]
    exact ⟨rfl, by omega, by omega⟩
  | d + 1, hd => by
    obtain ⟨e, b⟩ := ze_kl (f := f) (k := k) hp d (by omega)
    have c0 := (ze_cf (t := 0) (h := f + d) hp (by decide)).2
    have c1 := (ze_cf (t := 1) (h := f + d) hp (by decide)).2
    have hm : (f + d) * k % 24 < 24 := Nat.mod_lt _ (by decide)
    have t := z_wv_t (x := z_cf z 0 (f + d)) (y := z_cf z 1 (f + d)) hm ⟨by have := c0.1; omega, by have := c0.2; omega⟩ ⟨by have := c1.1; omega, by have := c1.2; omega⟩
    have w := z_wi_b hm c0 c1
    have b1 := b.1; have b2 := b.2; have w1 := w.1; have w2 := w.2
    have y1 : -800000000000 ≤ ze_w z k (f + d) := by
      show -800000000000 ≤ z_wi _ _ _
      omega
    have y2 : ze_w z k (f + d) ≤ 800000000000 := by
      show z_wi _ _ _ ≤ 800000000000
      omega
    have f2 : (z_kl z f d k + z_wv (z_cf z 0 (f + d)) (z_cf z 1 (f + d)) ((f + d) * k % 24)).toInt = (z_kl z f d k).toInt + ze_w z k (f + d) := by
      rw [fb_addL (by rw [t]; omega) (by rw [t]; omega), t]
      rfl
    rw [z_kl, f2]
    constructor
    · rw [e, fb_si_succ]
    · clear t w w1 w2 c0 c1 f2 e
      constructor <;> omega
theorem ze_klS {z : Nat → Int64} {f d k : Nat} (hp : zs_hb z) (hd : f + d ≤ 13) (hk : k < 24) : ∃ r, 1000000 * (z_kl z f d k).toInt = ze_S (ze_a z f d) k - r ∧ 0 ≤ r ∧ r ≤ 13000000 := by
  refine ⟨ze_S (ze_a z f d) k - 1000000 * (z_kl z f d k).toInt, by omega, ?_⟩
  rw [(ze_kl (f := f) (k := k) hp d (by omega)).1, ze_win (ze_w z k) f d hd]
  have eS : ze_S (ze_a z f d) k = fb_si (fun h => ze_a z f d (2 * h) * ze_u (2 * h) k + ze_a z f d (2 * h + 1) * ze_u (2 * h + 1) k) 13 := ze_pair (fun i => ze_a z f d i * ze_u i k) 13
  rw [eS, ← fb_si_mul, ← fb_si_sub]
  have key : ∀ h, h < 13 → 0 ≤ ze_a z f d (2 * h) * ze_u (2 * h) k + ze_a z f d (2 * h + 1) * ze_u (2 * h + 1) k - 1000000 * (if f ≤ h ∧ h < f + d then ze_w z k h else 0) ∧ ze_a z f d (2 * h) * ze_u (2 * h) k + ze_a z f d (2 * h + 1) * ze_u (2 * h + 1) k - 1000000 * (if f ≤ h ∧ h < f + d then ze_w z k h else 0) ≤ 1000000 := by
    intro h _
    unfold ze_a ze_u
    rw [show 2 * h / 2 = h by omega, show (2 * h + 1) / 2 = h by omega, show 2 * h % 2 = 0 by omega, show (2 * h + 1) % 2 = 1 by omega]
    by_cases q : f ≤ h ∧ h < f + d
    · rw [if_pos q, if_pos q, if_pos q]
      unfold ze_w z_wi
      omega
    · rw [if_neg q, if_neg q, if_neg q]
      omega
  have l0 := ze_le (f := fun _ => (0 : Int)) (n := 13) (fun h hh => (key h hh).1)
  have l1 := ze_le (g := fun _ => (1000000 : Int)) (n := 13) (fun h hh => (key h hh).2)
  rw [ze_const] at l0 l1
  constructor
  · simpa using l0
  · have : ((13 : Nat) : Int) * 1000000 = 13000000 := by decide
    rw [this] at l1
    exact l1
theorem ze_keep {z : Nat → Int64} {f d : Nat} (hp : zs_hb z) (hd : f + d ≤ 13) (hE : z_e z 24 ≤ 41000000000000000000000) : z_e (z_kl z f d) 24 ≤ z_e z 24 + 2000000000000000000 := by
  have m := (ze_main (ze_z z) (ze_a z f d) (ze_a_ok hp f d)).1
  have o := ze_out (y := ze_z (z_kl z f d)) (S := ze_S (ze_a z f d)) (r := fun k => ze_S (ze_a z f d) k - 1000000 * (z_kl z f d k).toInt) (B := 13000000) (fun k hk => by
    obtain ⟨r, e, r0, r1⟩ := ze_klS hp hd hk
    refine ⟨?_, ?_, ?_⟩
    · show 1000000 * (z_kl z f d k).toInt = ze_S (ze_a z f d) k - (ze_S (ze_a z f d) k - 1000000 * (z_kl z f d k).toInt)
      omega
    · show -13000000 ≤ ze_S (ze_a z f d) k - 1000000 * (z_kl z f d k).toInt
      omega
    · show ze_S (ze_a z f d) k - 1000000 * (z_kl z f d k).toInt ≤ 13000000
      omega)
  rw [← ze_e] at m
  rw [← ze_e] at o
  omega
theorem ze_rme0 {z : Nat → Int64} {k : Nat} (hp : zs_hb z) (hk : k < 24) : (z_rme z k).toInt = (z k).toInt - (z_kl z 0 2 k).toInt := by
  have e := (ze_kl (f := 0) (k := k) hp 2 (by omega)).1
  have c0 := (ze_cf (t := 0) (h := 0) hp (by decide)).2
  have c1 := (ze_cf (t := 0) (h := 1) hp (by decide)).2
  have s1 := (ze_cf (t := 1) (h := 1) hp (by decide)).2
  have hz := hp k hk
  have t := z_wv_t (x := z_cf z 0 1) (y := z_cf z 1 1) (Nat.mod_lt k (by decide : 0 < 24)) ⟨by have := c1.1; omega, by have := c1.2; omega⟩ ⟨by have := s1.1; omega, by have := s1.2; omega⟩
  have w := z_wi_b (Nat.mod_lt k (by decide : 0 < 24)) c1 s1
  have w1 := w.1; have w2 := w.2; have z1 := hz.1; have z2 := hz.2; have d1 := c0.1; have d2 := c0.2
  have e0 : ze_w z k 0 = (z_cf z 0 0).toInt := by
    unfold ze_w z_wi
    rw [Nat.zero_mul]
    have a0 : (z_tv 0 (0 % 24)).toInt = 1000000 := by decide
    have a1 : (z_tv 1 (0 % 24)).toInt = 0 := by decide
    rw [a0, a1]
    generalize (z_cf z 0 0).toInt = A
    generalize (z_cf z 1 0).toInt = B
    omega
  have e1 : ze_w z k 1 = z_wi (z_cf z 0 1).toInt (z_cf z 1 1).toInt (k % 24) := by
    unfold ze_w
    rw [Nat.one_mul]
  rw [fb_si_succ, fb_si_succ, show fb_si (fun i => ze_w z k (0 + i)) 0 = 0 from rfl, show (0 : Nat) + 0 = 0 from rfl, show (0 : Nat) + 1 = 1 from rfl, e0, e1] at e
  rw [e]
  clear e e0 e1 w c0 c1 s1
  generalize z_wi (z_cf z 0 1).toInt (z_cf z 1 1).toInt (k % 24) = V at t w1 w2 ⊢
  unfold z_rme
  have f1 : (z k - z_cf z 0 0).toInt = (z k).toInt - (z_cf z 0 0).toInt := fb_subL (by omega) (by omega)
  rw [fb_subL (by rw [f1, t]; omega) (by rw [f1, t]; omega), f1, t]
  omega
theorem ze_away {z : Nat → Int64} (hp : zs_hb z) (hE : z_e z 24 ≤ 41000000000000000000000) : z_e (z_rme z) 24 ≤ z_e z 24 + 2000000000000000000 := by
  have m := (ze_main (ze_z z) (ze_a z 0 2) (ze_a_ok hp 0 2)).2
  have o := ze_out (y := ze_z (z_rme z)) (S := fun k => 1000000 * ze_z z k - ze_S (ze_a z 0 2) k) (r := fun k => 1000000 * (z_kl z 0 2 k).toInt - ze_S (ze_a z 0 2) k) (B := 13000000) (fun k hk => by
    obtain ⟨r, e, r0, r1⟩ := ze_klS (f := 0) (d := 2) hp (by omega) hk
    have q := ze_rme0 hp hk
    refine ⟨?_, ?_, ?_⟩
    · show 1000000 * (z_rme z k).toInt = 1000000 * (z k).toInt - ze_S (ze_a z 0 2) k - (1000000 * (z_kl z 0 2 k).toInt - ze_S (ze_a z 0 2) k)
      omega
    · show -13000000 ≤ 1000000 * (z_kl z 0 2 k).toInt - ze_S (ze_a z 0 2) k
      omega
    · show 1000000 * (z_kl z 0 2 k).toInt - ze_S (ze_a z 0 2) k ≤ 13000000
      omega)
  rw [← ze_e] at m
  rw [← ze_e] at o
  omega
theorem ze_rot0 (g : Nat → Int) {s : Nat} (hs : s < 24) : fb_si (fun k => g ((k + s) % 24)) 24 = fb_si g 24 := by
  have a := fb_si_split (fun k => g ((k + s) % 24)) (24 - s) s
  have b := fb_si_split g s (24 - s)
  rw [show 24 - s + s = 24 by omega] at a
  rw [show s + (24 - s) = 24 by omega] at b
  rw [a, b, fb_si_cong (f := fun k => g ((k + s) % 24)) (g := fun k => g (s + k)) (fun k hk => by show g ((k + s) % 24) = g (s + k); rw [show (k + s) % 24 = s + k by omega]), fb_si_cong (f := fun k => g ((24 - s + k + s) % 24)) (g := g) (fun k hk => by show g ((24 - s + k + s) % 24) = g k; rw [show (24 - s + k + s) % 24 = k by omega])]
  omega
theorem ze_turn {z f : Nat → Int64} {s : Nat} (hs : s < 24) (h : ∀ k, k < 24 → f k = z ((k + s) % 24)) : z_e f 24 = z_e z 24 := by
  rw [z_e_ag (g := fun k => z ((k + s) % 24)) h, ze_e, ze_e]
  exact ze_rot0 (fun k => ze_z z k * ze_z z k) hs
theorem ze_small {z : Nat → Int64} (h : ∀ k, k < 24 → z_in 40000000000 (z k).toInt) : z_e z 24 ≤ z_eB 0 := by
  rw [ze_e]
  have := ze_le (f := fun k => ze_z z k * ze_z z k) (g := fun _ => 1600000000000000000000) (n := 24) (fun k hk => by
    have q := z_mulb (h k hk).1 (h k hk).2 (h k hk).1 (h k hk).2
    exact q.2)
  rw [ze_const] at this
  unfold z_eB
  omega
theorem ze_hbc {z : Nat → Int64} {c : Nat} (h : z_e z 24 ≤ z_eB c) (hc : c ≤ 600) : zs_hb z ∧ z_e z 24 ≤ 41000000000000000000000 := by
  have hb : z_eB c ≤ 39600000000000000000000 := by unfold z_eB; omega
  exact ⟨ze_hb (by omega), by omega⟩
theorem ze_kb {z : Nat → Int64} {c : Nat} (h : z_e z 24 ≤ z_eB c) (hc : c ≤ 600) : z_kb z := by
  intro a b hab hb
  obtain ⟨hp, hE⟩ := ze_hbc h hc
  have hb' : z_eB c ≤ 39600000000000000000000 := by unfold z_eB; omega
  have := ze_keep (f := a) (d := b + 1 - a) hp (by omega) hE
  exact ze_hb (by omega)
/-! ENERGIES, of what is loaded, of what is not too far -/
theorem ze_w1 {x : Int32} {b : Int} (h : z_in b x.toInt) (hb : b ≤ 2000000) : (x.toInt64 * 1000000).toInt = x.toInt * 1000000 := by
  have h1 := h.1; have h2 := h.2
  have e : (1000000 : Int64).toInt = 1000000 := by decide
  rw [fb_mulL (by rw [Int32.toInt_toInt64, e]; omega) (by rw [Int32.toInt_toInt64, e]; omega), Int32.toInt_toInt64, e]
theorem ze_su {m : Nat → Int32} {P k : Nat} (hm : ∀ i, i < P * 24 → z_in 10000 (m i).toInt) (hk : k < 24) (hP : P ≤ 12) : ∀ j, j ≤ P → z_in (j * 10000) (z_su m k j).toInt
  | 0, _ => by
    have e : (z_su m k 0).toInt = 0 := by show (0 : Int64).toInt = 0; decide
    rw [e]
    constructor <;> omega
  | j + 1, hj => by
    have b := ze_su hm hk hP j (by omega)
    have h := hm (j * 24 + k) (by omega)
    have b1 := b.1; have b2 := b.2; have h1 := h.1; have h2 := h.2
    have e : (z_su m k j + (m (j * 24 + k)).toInt64).toInt = (z_su m k j).toInt + (m (j * 24 + k)).toInt := by
      rw [fb_addL (by rw [Int32.toInt_toInt64]; omega) (by rw [Int32.toInt_toInt64]; omega), Int32.toInt_toInt64]
    rw [z_su, e]
    constructor <;> omega
theorem ze_pa {m : Nat → Int32} {P k : Nat} (hm : ∀ i, i < P * 24 → z_in 10000 (m i).toInt) (hP : P ≤ 12) : ∀ j, j ≤ P → z_in (j * (20000 * (P : Int))) (z_pa m P k j).toInt
  | 0, _ => by
    have e : (z_pa m P k 0).toInt = 0 := by show (0 : Int64).toInt = 0; decide
    rw [e]
    have z0 : ((0 : Nat) : Int) * (20000 * (P : Int)) = 0 := Int.zero_mul _
    rw [z0]
    constructor <;> decide
  | j + 1, hj => by
    have b := ze_pa (k := k) hm hP j (by omega)
    have hq : (k + j * (24 / P)) % 24 < 24 := Nat.mod_lt _ (by decide)
    generalize hqe : (k + j * (24 / P)) % 24 = q at hq
    have h := hm (j * 24 + q) (by omega)
    have s := ze_su hm hq hP P (Nat.le_refl P)
    have b1 := b.1; have b2 := b.2; have h1 := h.1; have h2 := h.2; have s1 := s.1; have s2 := s.2
    have eP : (lN P).toInt = P := lN_toInt (by omega)
    have hp1 : (P : Int) ≤ 12 := by omega
    have hpm := z_mulb (show -(P : Int) ≤ P by omega) (Int.le_refl (P : Int)) h1 h2
    have hj12 := z_mulb (show -(12 : Int) ≤ j by omega) (show (j : Int) ≤ 12 by omega) (show -(240000 : Int) ≤ 20000 * (P : Int) by omega) (show 20000 * (P : Int) ≤ 240000 by omega)
    have e1 : (lN P * (m (j * 24 + q)).toInt64).toInt = P * (m (j * 24 + q)).toInt := by
      rw [fb_mulL (by rw [Int32.toInt_toInt64, eP]; omega) (by rw [Int32.toInt_toInt64, eP]; omega), Int32.toInt_toInt64, eP]
    have e2 : (lN P * (m (j * 24 + q)).toInt64 - z_su m q P).toInt = P * (m (j * 24 + q)).toInt - (z_su m q P).toInt := by
      rw [fb_subL (by rw [e1]; omega) (by rw [e1]; omega), e1]
    have e3 : (z_pa m P k j + (lN P * (m (j * 24 + q)).toInt64 - z_su m q P)).toInt = (z_pa m P k j).toInt + (P * (m (j * 24 + q)).toInt - (z_su m q P).toInt) := by
      rw [fb_addL (by rw [e2]; omega) (by rw [e2]; omega), e2]
    rw [z_pa, hqe, e3]
    generalize (z_pa m P k j).toInt = A at b1 b2 ⊢
    generalize (z_su m q P).toInt = B at s1 s2 ⊢
    generalize (P : Int) * (m (j * 24 + q)).toInt = D at hpm ⊢
    have ej : ((j + 1 : Nat) : Int) * (20000 * (P : Int)) = j * (20000 * (P : Int)) + 20000 * (P : Int) := by rw [Int.natCast_add, Int.add_mul]; omega
    rw [ej]
    constructor <;> omega
theorem ze_sp {m : Nat → Int32} {P k : Nat} (hm : ∀ i, i < P * 24 → z_in 10000 (m i).toInt) (hk : k < 24) (hP : P = 2 ∨ P = 3 ∨ P = 4 ∨ P = 6 ∨ P = 8 ∨ P = 12) : z_in 40000000000 (z_sp m P k).toInt := by
  have b := ze_su hm hk (show P ≤ 12 by omega) P (Nat.le_refl P)
  have b1 := b.1; have b2 := b.2
  have e0 : (1000000 : Int64).toInt = 1000000 := by decide
  have e : (1000000 * z_su m k P).toInt = 1000000 * (z_su m k P).toInt := by
    rw [fb_mulL (by rw [e0]; omega) (by rw [e0]; omega), e0]
  unfold z_sp
  rw [z_fd_t (z_lNp (by omega) (by omega)), e, lN_toInt (by omega)]
  generalize (z_su m k P).toInt = A at b1 b2 ⊢
  rcases hP with q | q | q | q | q | q <;> (subst q; constructor <;> omega)
theorem ze_pt {m : Nat → Int32} {P k : Nat} (hm : ∀ i, i < P * 24 → z_in 10000 (m i).toInt) (hP : P = 2 ∨ P = 3 ∨ P = 4 ∨ P = 6 ∨ P = 8 ∨ P = 12) : z_in 40000000000 (z_pt m P k).toInt := by
  have b := ze_pa (k := k) hm (show P ≤ 12 by omega) P (Nat.le_refl P)
  have b1 := b.1; have b2 := b.2
  have hPP := z_mulb (show -(12 : Int) ≤ P by omega) (show (P : Int) ≤ 12 by omega) (show -(240000 : Int) ≤ 20000 * (P : Int) by omega) (show 20000 * (P : Int) ≤ 240000 by omega)
  have e0 : (1000000 : Int64).toInt = 1000000 := by decide
  have e : (1000000 * z_pa m P k P).toInt = 1000000 * (z_pa m P k P).toInt := by
    rw [fb_mulL (by rw [e0]; omega) (by rw [e0]; omega), e0]
  unfold z_pt
  rw [z_fd_t (z_lNq (by omega) (by omega)), e, lN_mul, lN_toInt (by rcases hP with q | q | q | q | q | q <;> (subst q; decide))]
  generalize (z_pa m P k P).toInt = A at b1 b2 ⊢
  rcases hP with q | q | q | q | q | q <;> (subst q; constructor <;> omega)

theorem ze_src {m p s : Nat → Int32} {P n k : Nat} {x y : Int32} (hm : ∀ i, i < n → z_in 10000 (m i).toInt) (hp : ∀ i, i < 24 → z_in 5000 (p i).toInt) (hs : ∀ i, i < 24 → z_in 5000 (s i).toInt) (hP : P = 2 ∨ P = 3 ∨ P = 4 ∨ P = 6 ∨ P = 8 ∨ P = 12) (hn : n ≤ P * 24) (h : z_se P n x y = 0) (hk : k < 24) : z_in 40000000000 (z_src m p s P (z_n x) (z_n y) k).toInt := by
  obtain ⟨sr, hs4, rfl, h0, h12⟩ := z_se_ok (by omega) (by omega) h
  rw [z_nk (k := sr) (by omega)]
  unfold z_src
  by_cases q0 : sr = 0
  · obtain ⟨j, j1, j2, rfl⟩ := h0 q0
    rw [if_pos q0, z_nk (k := j) (by omega)]
    have b := hm (j * 24 + k % 24) (by omega)
    rw [ze_w1 b (by decide)]
    have b1 := b.1; have b2 := b.2
    constructor <;> omega
  · rw [if_neg q0]
    by_cases q1 : sr = 1
    · rw [if_pos q1]
      exact ze_pt (fun i hi => hm i (by have := h12 (Or.inl q1); omega)) hP
    · rw [if_neg q1]
      by_cases q2 : sr = 2
      · rw [if_pos q2]
        exact ze_sp (fun i hi => hm i (by have := h12 (Or.inr q2); omega)) hk hP
      · rw [if_neg q2]
        by_cases q3 : sr = 3
        · rw [if_pos q3]
          have b := hp k hk
          rw [ze_w1 b (by decide)]
          have b1 := b.1; have b2 := b.2
          constructor <;> omega
        · rw [if_neg q3]
          have b := hs k hk
          rw [ze_w1 b (by decide)]
          have b1 := b.1; have b2 := b.2
          constructor <;> omega
theorem ze_far0 {F : Nat → Int64} : ∀ {n : Nat}, ¬ z_tg F n = true → ∀ k, k < n → ¬ (40000000000 : Int64) < z_ab (F k)
  | 0, _, k, hk => absurd hk (Nat.not_lt_zero k)
  | n + 1, h, k, hk => by
    rw [z_tg, Bool.or_eq_true, decide_eq_true_eq] at h
    by_cases e : k = n
    · subst e; exact fun z => h (Or.inr z)
    · exact ze_far0 (n := n) (fun z => h (Or.inl z)) k (by omega)
theorem ze_far {F : Nat → Int64} (h : ¬ z_tg F 24 = true) (hF : ∀ k, k < 24 → -9223372036854775808 < (F k).toInt) : ∀ k, k < 24 → z_in 40000000000 (F k).toInt := by
  intro k hk
  have q := ze_far0 h k hk
  have hmin := hF k hk
  have hr := fb_rngL (F k)
  unfold z_ab at q
  have e0 : (0 : Int64).toInt = 0 := by decide
  have e4 : (40000000000 : Int64).toInt = 40000000000 := by decide
  by_cases g : F k < 0
  · rw [if_pos g] at q
    rw [fa_lt64, e0] at g
    rw [fa_lt64, e4] at q
    have en : (-F k).toInt = -(F k).toInt := by
      have := fb_subL (x := 0) (y := F k) (by rw [e0]; omega) (by rw [e0]; omega)
      rw [Int64.zero_sub, e0] at this
      rw [this]; omega
    rw [en] at q
    constructor <;> omega
  · rw [if_neg g] at q
    rw [fa_lt64, e0] at g
    rw [fa_lt64, e4] at q
    constructor <;> omega
theorem ze_sbt {z f : Nat → Int64} {k : Nat} (hz : zs_hb z) (hf : z_in 40000000000 (f k).toInt) (hk : k < 24) : -9223372036854775808 < (z_sbt z f k).toInt := by
  have h1 := hz k hk
  have a1 := h1.1; have a2 := h1.2; have b1 := hf.1; have b2 := hf.2
  unfold z_sbt
  rw [fb_subL (by omega) (by omega)]
  omega
theorem ze_cos5 : ∀ a, a < 6 → 1 ≤ a → 0 < (z_tv 0 (a % 24)).toInt64 ∧ 250000 ≤ (z_tv 0 (a % 24)).toInt := by decide
theorem ze_vb {z : Nat → Int64} {a k : Nat} (hz : zs_hb z) (h1 : 1 ≤ a) (h5 : a ≤ 5) (hk : k < 24) : -9223372036854775808 < (z_vb z a k).toInt := by
  obtain ⟨c0, c1⟩ := ze_cos5 a (by omega) h1
  have p := hz k hk
  have q := hz ((k + 12 - a) % 24) (Nat.mod_lt _ (by decide))
  have r := hz ((k + 12 + a) % 24) (Nat.mod_lt _ (by decide))
  have p1 := p.1; have p2 := p.2; have q1 := q.1; have q2 := q.2; have r1 := r.1; have r2 := r.2
  have e5 : (500000 : Int64).toInt = 500000 := by decide
  have f1 : (z ((k + 12 - a) % 24) + z ((k + 12 + a) % 24)).toInt = (z ((k + 12 - a) % 24)).toInt + (z ((k + 12 + a) % 24)).toInt := fb_addL (by omega) (by omega)
  have f2 : ((z ((k + 12 - a) % 24) + z ((k + 12 + a) % 24)) * 500000).toInt = ((z ((k + 12 - a) % 24)).toInt + (z ((k + 12 + a) % 24)).toInt) * 500000 := by
    rw [fb_mulL (by rw [f1, e5]; omega) (by rw [f1, e5]; omega), f1, e5]
  have f3 : (z_fd ((z ((k + 12 - a) % 24) + z ((k + 12 + a) % 24)) * 500000) (z_tv 0 (a % 24)).toInt64).toInt = ((z ((k + 12 - a) % 24)).toInt + (z ((k + 12 + a) % 24)).toInt) * 500000 / (z_tv 0 (a % 24)).toInt := by
    rw [z_fd_t c0, f2, Int32.toInt_toInt64]
  have d : ∀ X : Int, -200000000000000000 ≤ X → X ≤ 200000000000000000 → -200000000000000000 ≤ X / (z_tv 0 (a % 24)).toInt ∧ X / (z_tv 0 (a % 24)).toInt ≤ 200000000000000000 := by
    intro X x0 x1
    have hc : 0 < (z_tv 0 (a % 24)).toInt := by omega
    constructor
    · refine Int.le_ediv_of_mul_le hc ?_
      have := Int.mul_le_mul_of_nonneg_left (show (1 : Int) ≤ (z_tv 0 (a % 24)).toInt by omega) (show (0 : Int) ≤ 200000000000000000 by decide)
      rw [Int.neg_mul]
      omega
    · have := Int.ediv_le_ediv hc x1
      have e2 : (200000000000000000 : Int) / (z_tv 0 (a % 24)).toInt ≤ 200000000000000000 := Int.ediv_le_self _ (by decide)
      omega
  have dd := d _ (show -200000000000000000 ≤ ((z ((k + 12 - a) % 24)).toInt + (z ((k + 12 + a) % 24)).toInt) * 500000 by omega) (by omega)
  unfold z_vb
  generalize ((z ((k + 12 - a) % 24)).toInt + (z ((k + 12 + a) % 24)).toInt) * 500000 / (z_tv 0 (a % 24)).toInt = V at f3 dd
  rw [fb_addL (by rw [f3]; omega) (by rw [f3]; omega), f3]
  omega
