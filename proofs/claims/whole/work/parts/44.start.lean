/-! THE LAW'S START -/
/-- the start's cells, numbered one behind another -/
def y_G (cs : Nat → ClassId) (is : Nat → Nat → Nat) (ca : Nat → ClassId) (ta : Nat → Nat) (base : Nat) : z_Gl := (fun i => base + i, cs, is, ca, ta, base)
def y_i0 : Nat → Nat → Int32
  | 1 => upd (fun _ => 0) 3 4
  | 50 => upd (fun _ => 0) 4 (-1)
  | 54 => upd (fun _ => 0) 4 (-1)
  | 58 => upd (fun _ => 0) 4 (-1)
  | 62 => upd (fun _ => 0) 4 (-1)
  | 66 => upd (fun _ => 0) 4 (-1)
  | 70 => upd (fun _ => 0) 4 (-1)
  | 74 => upd (fun _ => 0) 4 (-1)
  | 78 => upd (fun _ => 0) 4 (-1)
  | 89 => upd (fun _ => 0) 4 (-1)
  | 93 => upd (fun _ => 0) 4 (-1)
  | 97 => upd (fun _ => 0) 4 (-1)
  | 101 => upd (fun _ => 0) 4 (-1)
  | 105 => upd (fun _ => 0) 1 4
  | 106 => upd (upd (upd (upd (upd (upd (upd (fun _ => 0) 0 1000000) 1 965926) 2 866025) 3 707107) 4 500000) 5 258819) 6 0
  | 112 => upd (upd (upd (upd (upd (upd (upd (upd (fun _ => 0) 0 1) 1 1) 2 0) 3 (-1)) 4 (-1)) 5 (-1)) 6 0) 7 1
  | 113 => upd (upd (upd (upd (upd (upd (upd (upd (fun _ => 0) 0 0) 1 1) 2 1) 3 1) 4 0) 5 (-1)) 6 (-1)) 7 (-1)
  | _ => fun _ => 0
def y_s0 : z_St := (y_i0, fun _ _ => 0)
theorem y_cellq {cA : ClassId} {n : Nat} {f g : Nat → Option Nat} (h : ∀ j, j < n → f j = g j) : vp_cell cA (n, .inr (.inr (.inr (.inr f)))) = vp_cell cA (n, .inr (.inr (.inr (.inr g)))) := by
  rw [vp_cell_q, vp_cell_q]
  unfold arrV
  congr 1
  apply Array.ext
  · simp
  · intro i h1 h2
    have hi : i < n := by simpa using h1
    simp [h i hi]
def y_t0 (G : z_Gl) (a : Nat) : List va_E := [.inr (7, [.ref (a + 1), .ref (a + 5), .ref (a + 8), .ref (a + 31), .ref (a + 32), .ref (a + 44), .ref (a + 82), .ref (a + 88)]), .inr (2, [.ref (a + 2), .ref (a + 3), .ref (a + 4), .int 4, .int 0]), y_I G 288, y_I G 24, y_L G 24, .inr (5, [.ref (a + 6), .ref (a + 7), .int 0, .int 0]), y_I G 24, y_I G 24, .inr (1, [.ref (a + 9), .int 0, .int 0, .int 0]), y_LL G 21 (a + 10), y_L G 24, y_L G 24, y_L G 24, y_L G 24, y_L G 24, y_L G 24, y_L G 24, y_L G 24, y_L G 24, y_L G 24, y_L G 24, y_L G 24, y_L G 24, y_L G 24, y_L G 24, y_L G 24, y_L G 24, y_L G 24, y_L G 24, y_L G 24, y_L G 24, y_Q G 4 (va_up (va_up (va_up (va_up (fun _ => none) 0 (some (a + 89))) 1 (some (a + 93))) 2 (some (a + 97))) 3 (some (a + 101))), .inr (6, [.ref (a + 33), .ref (a + 40), .ref (a + 41), .ref (a + 42), .ref (a + 43), .int 0]), y_LL G 6 (a + 34), y_L G 24, y_L G 24, y_L G 24, y_L G 24, y_L G 24, y_L G 24, y_I G 6, y_L G 6, y_L G 6, y_L G 6, .inr (3, [.ref (a + 45), .ref (a + 46), .ref (a + 47), .ref (a + 48), .ref (a + 49), .int 0]), y_I G 8, y_I G 8, y_I G 8, y_I G 8, y_Q G 8 (va_up (va_up (va_up (va_up (va_up (va_up (va_up (va_up (fun _ => none) 0 (some (a + 50))) 1 (some (a + 54))) 2 (some (a + 58))) 3 (some (a + 62))) 4 (some (a + 66))) 5 (some (a + 70))) 6 (some (a + 74))) 7 (some (a + 78))), .inr (0, [.ref (a + 51), .ref (a + 52), .ref (a + 53), .int 0, .int (-1), .long 0, .long 0, .long 0, .long 0]), y_L G 24, y_L G 24, y_I G 24, .inr (0, [.ref (a + 55), .ref (a + 56), .ref (a + 57), .int 0, .int (-1), .long 0, .long 0, .long 0, .long 0]), y_L G 24, y_L G 24, y_I G 24, .inr (0, [.ref (a + 59), .ref (a + 60), .ref (a + 61), .int 0, .int (-1), .long 0, .long 0, .long 0, .long 0]), y_L G 24, y_L G 24, y_I G 24, .inr (0, [.ref (a + 63), .ref (a + 64), .ref (a + 65), .int 0, .int (-1), .long 0, .long 0, .long 0, .long 0]), y_L G 24, y_L G 24, y_I G 24, .inr (0, [.ref (a + 67), .ref (a + 68), .ref (a + 69), .int 0, .int (-1), .long 0, .long 0, .long 0, .long 0]), y_L G 24, y_L G 24, y_I G 24, .inr (0, [.ref (a + 71), .ref (a + 72), .ref (a + 73), .int 0, .int (-1), .long 0, .long 0, .long 0, .long 0]), y_L G 24, y_L G 24, y_I G 24, .inr (0, [.ref (a + 75), .ref (a + 76), .ref (a + 77), .int 0, .int (-1), .long 0, .long 0, .long 0, .long 0]), y_L G 24, y_L G 24, y_I G 24, .inr (0, [.ref (a + 79), .ref (a + 80), .ref (a + 81), .int 0, .int (-1), .long 0, .long 0, .long 0, .long 0]), y_L G 24, y_L G 24, y_I G 24, .inr (4, [.ref (a + 83), .ref (a + 84), .ref (a + 85), .ref (a + 86), .ref (a + 87), .int 0, .int 0, .int 0, .int 0, .int 0]), y_Ch G 200, y_I G 67, y_I G 67, y_I G 67, y_I G 67, y_L G 24, .inr (0, [.ref (a + 90), .ref (a + 91), .ref (a + 92), .int 0, .int (-1), .long 0, .long 0, .long 0, .long 0]), y_L G 24, y_L G 24, y_I G 24, .inr (0, [.ref (a + 94), .ref (a + 95), .ref (a + 96), .int 0, .int (-1), .long 0, .long 0, .long 0, .long 0]), y_L G 24, y_L G 24, y_I G 24, .inr (0, [.ref (a + 98), .ref (a + 99), .ref (a + 100), .int 0, .int (-1), .long 0, .long 0, .long 0, .long 0]), y_L G 24, y_L G 24, y_I G 24, .inr (0, [.ref (a + 102), .ref (a + 103), .ref (a + 104), .int 0, .int (-1), .long 0, .long 0, .long 0, .long 0]), y_L G 24, y_L G 24, y_I G 24, .inr (8, [.ref (a + 106), .int 4, .int 0, .ref (a + 107), .ref (a + 108), .ref (a + 109), .ref (a + 110), .ref (a + 111), .int 0, .int 0, .long 0, .long 0, .long 0, .long 0, .ref (a + 112), .ref (a + 113), .ref (a + 114), .int 0, .ref (a + 115), .ref (a + 116), .int 0, .ref (a + 117), .int 0, .ref (a + 118), .int 0, .int 0, .int 0, .ref (a + 119), .int 0, .int 0]), y_X G 7 (upd (upd (upd (upd (upd (upd (upd (fun _ => 0) 0 1000000) 1 965926) 2 866025) 3 707107) 4 500000) 5 258819) 6 0), y_I G 288, y_L G 24, y_L G 24, y_L G 480, y_L G 480, y_X G 8 (upd (upd (upd (upd (upd (upd (upd (upd (fun _ => 0) 0 1) 1 1) 2 0) 3 (-1)) 4 (-1)) 5 (-1)) 6 0) 7 1), y_X G 8 (upd (upd (upd (upd (upd (upd (upd (upd (fun _ => 0) 0 0) 1 1) 2 1) 3 1) 4 0) 5 (-1)) 6 (-1)) 7 (-1)), y_L G 24, y_L G 144, y_I G 6, y_I G 32, y_Ch G 200, y_I G 48]
set_option maxRecDepth 100000 in
set_option maxHeartbeats 8000000 in
theorem y_toz {cs : Nat → ClassId} {is : Nat → Nat → Nat} {ca : Nat → ClassId} {ta : Nat → Nat} {base : Nat} {H : Heap} (h : y_P (y_G cs is ca ta base) (y_t0 (y_G cs is ca ta base) base) H) : z_P (y_G cs is ca ta base) y_s0 H := by
  have key : ∀ i, i < 120 → va_at (z_dd (y_G cs is ca ta base)) vwCl (z_ad (y_G cs is ca ta base) i, z_E (y_G cs is ca ta base) i (y_s0.1 i) (y_s0.2 i)) H := by
    intro i hi
    match i with
    | 0 => exact h.at (k := 0) (e := z_E (y_G cs is ca ta base) 0 (y_s0.1 0) (y_s0.2 0)) rfl
    | 1 => exact h.at (k := 1) (e := z_E (y_G cs is ca ta base) 1 (y_s0.1 1) (y_s0.2 1)) rfl
    | 2 => exact h.at (k := 2) (e := z_E (y_G cs is ca ta base) 2 (y_s0.1 2) (y_s0.2 2)) rfl
    | 3 => exact h.at (k := 3) (e := z_E (y_G cs is ca ta base) 3 (y_s0.1 3) (y_s0.2 3)) rfl
    | 4 => exact h.at (k := 4) (e := z_E (y_G cs is ca ta base) 4 (y_s0.1 4) (y_s0.2 4)) rfl
    | 5 => exact h.at (k := 5) (e := z_E (y_G cs is ca ta base) 5 (y_s0.1 5) (y_s0.2 5)) rfl
    | 6 => exact h.at (k := 6) (e := z_E (y_G cs is ca ta base) 6 (y_s0.1 6) (y_s0.2 6)) rfl
    | 7 => exact h.at (k := 7) (e := z_E (y_G cs is ca ta base) 7 (y_s0.1 7) (y_s0.2 7)) rfl
    | 8 => exact h.at (k := 8) (e := z_E (y_G cs is ca ta base) 8 (y_s0.1 8) (y_s0.2 8)) rfl
    | 9 =>
      have q := h.at (k := 9) (e := y_LL (y_G cs is ca ta base) 21 (base + 10)) rfl
      have w : ∀ j, j < 21 → (fun i => some (base + 10 + i)) j = some (z_ad (y_G cs is ca ta base) (z_rf 9 j)) := fun j hj => congrArg some (Nat.add_assoc base 10 j)
      exact Eq.trans q (congrArg some (y_cellq w))
    | 10 => exact h.at (k := 10) (e := z_E (y_G cs is ca ta base) 10 (y_s0.1 10) (y_s0.2 10)) rfl
    | 11 => exact h.at (k := 11) (e := z_E (y_G cs is ca ta base) 11 (y_s0.1 11) (y_s0.2 11)) rfl
    | 12 => exact h.at (k := 12) (e := z_E (y_G cs is ca ta base) 12 (y_s0.1 12) (y_s0.2 12)) rfl
    | 13 => exact h.at (k := 13) (e := z_E (y_G cs is ca ta base) 13 (y_s0.1 13) (y_s0.2 13)) rfl
    | 14 => exact h.at (k := 14) (e := z_E (y_G cs is ca ta base) 14 (y_s0.1 14) (y_s0.2 14)) rfl
    | 15 => exact h.at (k := 15) (e := z_E (y_G cs is ca ta base) 15 (y_s0.1 15) (y_s0.2 15)) rfl
    | 16 => exact h.at (k := 16) (e := z_E (y_G cs is ca ta base) 16 (y_s0.1 16) (y_s0.2 16)) rfl
    | 17 => exact h.at (k := 17) (e := z_E (y_G cs is ca ta base) 17 (y_s0.1 17) (y_s0.2 17)) rfl
    | 18 => exact h.at (k := 18) (e := z_E (y_G cs is ca ta base) 18 (y_s0.1 18) (y_s0.2 18)) rfl
    | 19 => exact h.at (k := 19) (e := z_E (y_G cs is ca ta base) 19 (y_s0.1 19) (y_s0.2 19)) rfl
    | 20 => exact h.at (k := 20) (e := z_E (y_G cs is ca ta base) 20 (y_s0.1 20) (y_s0.2 20)) rfl
    | 21 => exact h.at (k := 21) (e := z_E (y_G cs is ca ta base) 21 (y_s0.1 21) (y_s0.2 21)) rfl
    | 22 => exact h.at (k := 22) (e := z_E (y_G cs is ca ta base) 22 (y_s0.1 22) (y_s0.2 22)) rfl
    | 23 => exact h.at (k := 23) (e := z_E (y_G cs is ca ta base) 23 (y_s0.1 23) (y_s0.2 23)) rfl
    | 24 => exact h.at (k := 24) (e := z_E (y_G cs is ca ta base) 24 (y_s0.1 24) (y_s0.2 24)) rfl
    | 25 => exact h.at (k := 25) (e := z_E (y_G cs is ca ta base) 25 (y_s0.1 25) (y_s0.2 25)) rfl
    | 26 => exact h.at (k := 26) (e := z_E (y_G cs is ca ta base) 26 (y_s0.1 26) (y_s0.2 26)) rfl
    | 27 => exact h.at (k := 27) (e := z_E (y_G cs is ca ta base) 27 (y_s0.1 27) (y_s0.2 27)) rfl
    | 28 => exact h.at (k := 28) (e := z_E (y_G cs is ca ta base) 28 (y_s0.1 28) (y_s0.2 28)) rfl
    | 29 => exact h.at (k := 29) (e := z_E (y_G cs is ca ta base) 29 (y_s0.1 29) (y_s0.2 29)) rfl
    | 30 => exact h.at (k := 30) (e := z_E (y_G cs is ca ta base) 30 (y_s0.1 30) (y_s0.2 30)) rfl
    | 31 =>
      have q := h.at (k := 31) (e := y_Q (y_G cs is ca ta base) 4 (va_up (va_up (va_up (va_up (fun _ => none) 0 (some (base + 89))) 1 (some (base + 93))) 2 (some (base + 97))) 3 (some (base + 101)))) rfl
      have w : ∀ j, j < 4 → (va_up (va_up (va_up (va_up (fun _ => none) 0 (some (base + 89))) 1 (some (base + 93))) 2 (some (base + 97))) 3 (some (base + 101))) j = some (z_ad (y_G cs is ca ta base) (z_rf 31 j)) := fun j hj => by
        match j with
        | 0 => rfl
        | 1 => rfl
        | 2 => rfl
        | 3 => rfl
        | j + 4 => exact absurd hj (by omega)
      exact Eq.trans q (congrArg some (y_cellq w))
    | 32 => exact h.at (k := 32) (e := z_E (y_G cs is ca ta base) 32 (y_s0.1 32) (y_s0.2 32)) rfl
    | 33 =>
      have q := h.at (k := 33) (e := y_LL (y_G cs is ca ta base) 6 (base + 34)) rfl
      have w : ∀ j, j < 6 → (fun i => some (base + 34 + i)) j = some (z_ad (y_G cs is ca ta base) (z_rf 33 j)) := fun j hj => congrArg some (Nat.add_assoc base 34 j)
      exact Eq.trans q (congrArg some (y_cellq w))
    | 34 => exact h.at (k := 34) (e := z_E (y_G cs is ca ta base) 34 (y_s0.1 34) (y_s0.2 34)) rfl
    | 35 => exact h.at (k := 35) (e := z_E (y_G cs is ca ta base) 35 (y_s0.1 35) (y_s0.2 35)) rfl
    | 36 => exact h.at (k := 36) (e := z_E (y_G cs is ca ta base) 36 (y_s0.1 36) (y_s0.2 36)) rfl
    | 37 => exact h.at (k := 37) (e := z_E (y_G cs is ca ta base) 37 (y_s0.1 37) (y_s0.2 37)) rfl
    | 38 => exact h.at (k := 38) (e := z_E (y_G cs is ca ta base) 38 (y_s0.1 38) (y_s0.2 38)) rfl
    | 39 => exact h.at (k := 39) (e := z_E (y_G cs is ca ta base) 39 (y_s0.1 39) (y_s0.2 39)) rfl
    | 40 => exact h.at (k := 40) (e := z_E (y_G cs is ca ta base) 40 (y_s0.1 40) (y_s0.2 40)) rfl
    | 41 => exact h.at (k := 41) (e := z_E (y_G cs is ca ta base) 41 (y_s0.1 41) (y_s0.2 41)) rfl
    | 42 => exact h.at (k := 42) (e := z_E (y_G cs is ca ta base) 42 (y_s0.1 42) (y_s0.2 42)) rfl
    | 43 => exact h.at (k := 43) (e := z_E (y_G cs is ca ta base) 43 (y_s0.1 43) (y_s0.2 43)) rfl
    | 44 => exact h.at (k := 44) (e := z_E (y_G cs is ca ta base) 44 (y_s0.1 44) (y_s0.2 44)) rfl
    | 45 => exact h.at (k := 45) (e := z_E (y_G cs is ca ta base) 45 (y_s0.1 45) (y_s0.2 45)) rfl
    | 46 => exact h.at (k := 46) (e := z_E (y_G cs is ca ta base) 46 (y_s0.1 46) (y_s0.2 46)) rfl
    | 47 => exact h.at (k := 47) (e := z_E (y_G cs is ca ta base) 47 (y_s0.1 47) (y_s0.2 47)) rfl
    | 48 => exact h.at (k := 48) (e := z_E (y_G cs is ca ta base) 48 (y_s0.1 48) (y_s0.2 48)) rfl
    | 49 =>
      have q := h.at (k := 49) (e := y_Q (y_G cs is ca ta base) 8 (va_up (va_up (va_up (va_up (va_up (va_up (va_up (va_up (fun _ => none) 0 (some (base + 50))) 1 (some (base + 54))) 2 (some (base + 58))) 3 (some (base + 62))) 4 (some (base + 66))) 5 (some (base + 70))) 6 (some (base + 74))) 7 (some (base + 78)))) rfl
      have w : ∀ j, j < 8 → (va_up (va_up (va_up (va_up (va_up (va_up (va_up (va_up (fun _ => none) 0 (some (base + 50))) 1 (some (base + 54))) 2 (some (base + 58))) 3 (some (base + 62))) 4 (some (base + 66))) 5 (some (base + 70))) 6 (some (base + 74))) 7 (some (base + 78))) j = some (z_ad (y_G cs is ca ta base) (z_rf 49 j)) := fun j hj => by
        match j with
        | 0 => rfl
        | 1 => rfl
        | 2 => rfl
        | 3 => rfl
        | 4 => rfl
        | 5 => rfl
        | 6 => rfl
        | 7 => rfl
        | j + 8 => exact absurd hj (by omega)
      exact Eq.trans q (congrArg some (y_cellq w))
    | 50 => exact h.at (k := 50) (e := z_E (y_G cs is ca ta base) 50 (y_s0.1 50) (y_s0.2 50)) rfl
    | 51 => exact h.at (k := 51) (e := z_E (y_G cs is ca ta base) 51 (y_s0.1 51) (y_s0.2 51)) rfl
    | 52 => exact h.at (k := 52) (e := z_E (y_G cs is ca ta base) 52 (y_s0.1 52) (y_s0.2 52)) rfl
    | 53 => exact h.at (k := 53) (e := z_E (y_G cs is ca ta base) 53 (y_s0.1 53) (y_s0.2 53)) rfl
    | 54 => exact h.at (k := 54) (e := z_E (y_G cs is ca ta base) 54 (y_s0.1 54) (y_s0.2 54)) rfl
    | 55 => exact h.at (k := 55) (e := z_E (y_G cs is ca ta base) 55 (y_s0.1 55) (y_s0.2 55)) rfl
    | 56 => exact h.at (k := 56) (e := z_E (y_G cs is ca ta base) 56 (y_s0.1 56) (y_s0.2 56)) rfl
    | 57 => exact h.at (k := 57) (e := z_E (y_G cs is ca ta base) 57 (y_s0.1 57) (y_s0.2 57)) rfl
    | 58 => exact h.at (k := 58) (e := z_E (y_G cs is ca ta base) 58 (y_s0.1 58) (y_s0.2 58)) rfl
    | 59 => exact h.at (k := 59) (e := z_E (y_G cs is ca ta base) 59 (y_s0.1 59) (y_s0.2 59)) rfl
    | 60 => exact h.at (k := 60) (e := z_E (y_G cs is ca ta base) 60 (y_s0.1 60) (y_s0.2 60)) rfl
    | 61 => exact h.at (k := 61) (e := z_E (y_G cs is ca ta base) 61 (y_s0.1 61) (y_s0.2 61)) rfl
    | 62 => exact h.at (k := 62) (e := z_E (y_G cs is ca ta base) 62 (y_s0.1 62) (y_s0.2 62)) rfl
    | 63 => exact h.at (k := 63) (e := z_E (y_G cs is ca ta base) 63 (y_s0.1 63) (y_s0.2 63)) rfl
    | 64 => exact h.at (k := 64) (e := z_E (y_G cs is ca ta base) 64 (y_s0.1 64) (y_s0.2 64)) rfl
    | 65 => exact h.at (k := 65) (e := z_E (y_G cs is ca ta base) 65 (y_s0.1 65) (y_s0.2 65)) rfl
    | 66 => exact h.at (k := 66) (e := z_E (y_G cs is ca ta base) 66 (y_s0.1 66) (y_s0.2 66)) rfl
    | 67 => exact h.at (k := 67) (e := z_E (y_G cs is ca ta base) 67 (y_s0.1 67) (y_s0.2 67)) rfl
    | 68 => exact h.at (k := 68) (e := z_E (y_G cs is ca ta base) 68 (y_s0.1 68) (y_s0.2 68)) rfl
    | 69 => exact h.at (k := 69) (e := z_E (y_G cs is ca ta base) 69 (y_s0.1 69) (y_s0.2 69)) rfl
    | 70 => exact h.at (k := 70) (e := z_E (y_G cs is ca ta base) 70 (y_s0.1 70) (y_s0.2 70)) rfl
    | 71 => exact h.at (k := 71) (e := z_E (y_G cs is ca ta base) 71 (y_s0.1 71) (y_s0.2 71)) rfl
    | 72 => exact h.at (k := 72) (e := z_E (y_G cs is ca ta base) 72 (y_s0.1 72) (y_s0.2 72)) rfl
    | 73 => exact h.at (k := 73) (e := z_E (y_G cs is ca ta base) 73 (y_s0.1 73) (y_s0.2 73)) rfl
    | 74 => exact h.at (k := 74) (e := z_E (y_G cs is ca ta base) 74 (y_s0.1 74) (y_s0.2 74)) rfl
    | 75 => exact h.at (k := 75) (e := z_E (y_G cs is ca ta base) 75 (y_s0.1 75) (y_s0.2 75)) rfl
    | 76 => exact h.at (k := 76) (e := z_E (y_G cs is ca ta base) 76 (y_s0.1 76) (y_s0.2 76)) rfl
    | 77 => exact h.at (k := 77) (e := z_E (y_G cs is ca ta base) 77 (y_s0.1 77) (y_s0.2 77)) rfl
    | 78 => exact h.at (k := 78) (e := z_E (y_G cs is ca ta base) 78 (y_s0.1 78) (y_s0.2 78)) rfl
    | 79 => exact h.at (k := 79) (e := z_E (y_G cs is ca ta base) 79 (y_s0.1 79) (y_s0.2 79)) rfl
    | 80 => exact h.at (k := 80) (e := z_E (y_G cs is ca ta base) 80 (y_s0.1 80) (y_s0.2 80)) rfl
    | 81 => exact h.at (k := 81) (e := z_E (y_G cs is ca ta base) 81 (y_s0.1 81) (y_s0.2 81)) rfl
    | 82 => exact h.at (k := 82) (e := z_E (y_G cs is ca ta base) 82 (y_s0.1 82) (y_s0.2 82)) rfl
    | 83 => exact h.at (k := 83) (e := z_E (y_G cs is ca ta base) 83 (y_s0.1 83) (y_s0.2 83)) rfl
    | 84 => exact h.at (k := 84) (e := z_E (y_G cs is ca ta base) 84 (y_s0.1 84) (y_s0.2 84)) rfl
    | 85 => exact h.at (k := 85) (e := z_E (y_G cs is ca ta base) 85 (y_s0.1 85) (y_s0.2 85)) rfl
    | 86 => exact h.at (k := 86) (e := z_E (y_G cs is ca ta base) 86 (y_s0.1 86) (y_s0.2 86)) rfl
    | 87 => exact h.at (k := 87) (e := z_E (y_G cs is ca ta base) 87 (y_s0.1 87) (y_s0.2 87)) rfl
    | 88 => exact h.at (k := 88) (e := z_E (y_G cs is ca ta base) 88 (y_s0.1 88) (y_s0.2 88)) rfl
    | 89 => exact h.at (k := 89) (e := z_E (y_G cs is ca ta base) 89 (y_s0.1 89) (y_s0.2 89)) rfl
    | 90 => exact h.at (k := 90) (e := z_E (y_G cs is ca ta base) 90 (y_s0.1 90) (y_s0.2 90)) rfl
    | 91 => exact h.at (k := 91) (e := z_E (y_G cs is ca ta base) 91 (y_s0.1 91) (y_s0.2 91)) rfl
    | 92 => exact h.at (k := 92) (e := z_E (y_G cs is ca ta base) 92 (y_s0.1 92) (y_s0.2 92)) rfl
    | 93 => exact h.at (k := 93) (e := z_E (y_G cs is ca ta base) 93 (y_s0.1 93) (y_s0.2 93)) rfl
    | 94 => exact h.at (k := 94) (e := z_E (y_G cs is ca ta base) 94 (y_s0.1 94) (y_s0.2 94)) rfl
    | 95 => exact h.at (k := 95) (e := z_E (y_G cs is ca ta base) 95 (y_s0.1 95) (y_s0.2 95)) rfl
    | 96 => exact h.at (k := 96) (e := z_E (y_G cs is ca ta base) 96 (y_s0.1 96) (y_s0.2 96)) rfl
    | 97 => exact h.at (k := 97) (e := z_E (y_G cs is ca ta base) 97 (y_s0.1 97) (y_s0.2 97)) rfl
    | 98 => exact h.at (k := 98) (e := z_E (y_G cs is ca ta base) 98 (y_s0.1 98) (y_s0.2 98)) rfl
    | 99 => exact h.at (k := 99) (e := z_E (y_G cs is ca ta base) 99 (y_s0.1 99) (y_s0.2 99)) rfl
    | 100 => exact h.at (k := 100) (e := z_E (y_G cs is ca ta base) 100 (y_s0.1 100) (y_s0.2 100)) rfl
    | 101 => exact h.at (k := 101) (e := z_E (y_G cs is ca ta base) 101 (y_s0.1 101) (y_s0.2 101)) rfl
    | 102 => exact h.at (k := 102) (e := z_E (y_G cs is ca ta base) 102 (y_s0.1 102) (y_s0.2 102)) rfl
    | 103 => exact h.at (k := 103) (e := z_E (y_G cs is ca ta base) 103 (y_s0.1 103) (y_s0.2 103)) rfl
    | 104 => exact h.at (k := 104) (e := z_E (y_G cs is ca ta base) 104 (y_s0.1 104) (y_s0.2 104)) rfl
    | 105 => exact h.at (k := 105) (e := z_E (y_G cs is ca ta base) 105 (y_s0.1 105) (y_s0.2 105)) rfl
    | 106 => exact h.at (k := 106) (e := z_E (y_G cs is ca ta base) 106 (y_s0.1 106) (y_s0.2 106)) rfl
    | 107 => exact h.at (k := 107) (e := z_E (y_G cs is ca ta base) 107 (y_s0.1 107) (y_s0.2 107)) rfl
    | 108 => exact h.at (k := 108) (e := z_E (y_G cs is ca ta base) 108 (y_s0.1 108) (y_s0.2 108)) rfl
    | 109 => exact h.at (k := 109) (e := z_E (y_G cs is ca ta base) 109 (y_s0.1 109) (y_s0.2 109)) rfl
    | 110 => exact h.at (k := 110) (e := z_E (y_G cs is ca ta base) 110 (y_s0.1 110) (y_s0.2 110)) rfl
    | 111 => exact h.at (k := 111) (e := z_E (y_G cs is ca ta base) 111 (y_s0.1 111) (y_s0.2 111)) rfl
    | 112 => exact h.at (k := 112) (e := z_E (y_G cs is ca ta base) 112 (y_s0.1 112) (y_s0.2 112)) rfl
    | 113 => exact h.at (k := 113) (e := z_E (y_G cs is ca ta base) 113 (y_s0.1 113) (y_s0.2 113)) rfl
    | 114 => exact h.at (k := 114) (e := z_E (y_G cs is ca ta base) 114 (y_s0.1 114) (y_s0.2 114)) rfl
    | 115 => exact h.at (k := 115) (e := z_E (y_G cs is ca ta base) 115 (y_s0.1 115) (y_s0.2 115)) rfl
    | 116 => exact h.at (k := 116) (e := z_E (y_G cs is ca ta base) 116 (y_s0.1 116) (y_s0.2 116)) rfl
    | 117 => exact h.at (k := 117) (e := z_E (y_G cs is ca ta base) 117 (y_s0.1 117) (y_s0.2 117)) rfl
    | 118 => exact h.at (k := 118) (e := z_E (y_G cs is ca ta base) 118 (y_s0.1 118) (y_s0.2 118)) rfl
    | 119 => exact h.at (k := 119) (e := z_E (y_G cs is ca ta base) 119 (y_s0.1 119) (y_s0.2 119)) rfl
    | i + 120 => exact absurd hi (by omega)
  intro k q hq
  by_cases hk : k < 120
  · rw [z_W_at hk] at hq
    cases hq
    exact key k hk
  · unfold z_W at hq
    rw [List.getElem?_map, List.getElem?_eq_none (by rw [List.length_range]; omega)] at hq
    cases hq
set_option maxRecDepth 100000 in
set_option maxHeartbeats 8000000 in
theorem law_head {p : Program} {l0 : Launch} {e : Env} {s : State} {m : MethodId} {below : List Frame} {meth : Method} {c : Code} {G : z_Gl} {a b : Nat} {Q : State → Prop} (C : y_C p s m #[Value.ref b] meth c G cL_law 8 RL ret) (ha : a = z_lo G + ([] : List va_E).length) (hs : s.heap.size = z_lo G + ([] : List va_E).length + 0) (k : y_V p l0 e room_1 s m #[Value.ref b] below meth c G 120 4437 Q 8 18 [(3, .int 0), (2, .ref (a + 105)), (1, .ref a), (0, .ref b)] [] ([] ++ y_t0 G a)) : y_V p l0 e room_1 s m #[Value.ref b] below meth c G 0 0 Q 8 0 [(0, .ref b)] [] ([] ++ []) := by
  refine y_new (t := []) 0 C ha z_dX7 q113 q114 q102 y_fX7 y_hX7 0 rfl 1 8 ⟨rfl, rfl, Nat.le_of_ble_eq_true rfl, Nat.le_of_ble_eq_true rfl⟩ dL_law_0 ?_
  refine y_cv (t1 := [.inr (7, y_fX7)]) rfl ?_
  refine y_dup 3 C dL_law_3 rfl ?_
  refine y_call (t := [.inr (7, y_fX7)]) 4 C ha (fun l q hq => y_mX7 l q hq) [] rfl 0 rfl [.inr (7, [.ref (a + 1), .ref (a + 5), .ref (a + 8), .ref (a + 31), .ref (a + 32), .ref (a + 44), .ref (a + 82), .ref (a + 88)]), .inr (2, [.ref (a + 2), .ref (a + 3), .ref (a + 4), .int 4, .int 0]), y_I G 288, y_I G 24, y_L G 24, .inr (5, [.ref (a + 6), .ref (a + 7), .int 0, .int 0]), y_I G 24, y_I G 24, .inr (1, [.ref (a + 9), .int 0, .int 0, .int 0]), y_LL G 21 (a + 10), y_L G 24, y_L G 24, y_L G 24, y_L G 24, y_L G 24, y_L G 24, y_L G 24, y_L G 24, y_L G 24, y_L G 24, y_L G 24, y_L G 24, y_L G 24, y_L G 24, y_L G 24, y_L G 24, y_L G 24, y_L G 24, y_L G 24, y_L G 24, y_L G 24, y_Q G 4 (va_up (va_up (va_up (va_up (fun _ => none) 0 (some (a + 89))) 1 (some (a + 93))) 2 (some (a + 97))) 3 (some (a + 101))), .inr (6, [.ref (a + 33), .ref (a + 40), .ref (a + 41), .ref (a + 42), .ref (a + 43), .int 0]), y_LL G 6 (a + 34), y_L G 24, y_L G 24, y_L G 24, y_L G 24, y_L G 24, y_L G 24, y_I G 6, y_L G 6, y_L G 6, y_L G 6, .inr (3, [.ref (a + 45), .ref (a + 46), .ref (a + 47), .ref (a + 48), .ref (a + 49), .int 0]), y_I G 8, y_I G 8, y_I G 8, y_I G 8, y_Q G 8 (va_up (va_up (va_up (va_up (va_up (va_up (va_up (va_up (fun _ => none) 0 (some (a + 50))) 1 (some (a + 54))) 2 (some (a + 58))) 3 (some (a + 62))) 4 (some (a + 66))) 5 (some (a + 70))) 6 (some (a + 74))) 7 (some (a + 78))), .inr (0, [.ref (a + 51), .ref (a + 52), .ref (a + 53), .int 0, .int (-1), .long 0, .long 0, .long 0, .long 0]), y_L G 24, y_L G 24, y_I G 24, .inr (0, [.ref (a + 55), .ref (a + 56), .ref (a + 57), .int 0, .int (-1), .long 0, .long 0, .long 0, .long 0]), y_L G 24, y_L G 24, y_I G 24, .inr (0, [.ref (a + 59), .ref (a + 60), .ref (a + 61), .int 0, .int (-1), .long 0, .long 0, .long 0, .long 0]), y_L G 24, y_L G 24, y_I G 24, .inr (0, [.ref (a + 63), .ref (a + 64), .ref (a + 65), .int 0, .int (-1), .long 0, .long 0, .long 0, .long 0]), y_L G 24, y_L G 24, y_I G 24, .inr (0, [.ref (a + 67), .ref (a + 68), .ref (a + 69), .int 0, .int (-1), .long 0, .long 0, .long 0, .long 0]), y_L G 24, y_L G 24, y_I G 24, .inr (0, [.ref (a + 71), .ref (a + 72), .ref (a + 73), .int 0, .int (-1), .long 0, .long 0, .long 0, .long 0]), y_L G 24, y_L G 24, y_I G 24, .inr (0, [.ref (a + 75), .ref (a + 76), .ref (a + 77), .int 0, .int (-1), .long 0, .long 0, .long 0, .long 0]), y_L G 24, y_L G 24, y_I G 24, .inr (0, [.ref (a + 79), .ref (a + 80), .ref (a + 81), .int 0, .int (-1), .long 0, .long 0, .long 0, .long 0]), y_L G 24, y_L G 24, y_I G 24, .inr (4, [.ref (a + 83), .ref (a + 84), .ref (a + 85), .ref (a + 86), .ref (a + 87), .int 0, .int 0, .int 0, .int 0, .int 0]), y_Ch G 200, y_I G 67, y_I G 67, y_I G 67, y_I G 67, y_L G 24, .inr (0, [.ref (a + 90), .ref (a + 91), .ref (a + 92), .int 0, .int (-1), .long 0, .long 0, .long 0, .long 0]), y_L G 24, y_L G 24, y_I G 24, .inr (0, [.ref (a + 94), .ref (a + 95), .ref (a + 96), .int 0, .int (-1), .long 0, .long 0, .long 0, .long 0]), y_L G 24, y_L G 24, y_I G 24, .inr (0, [.ref (a + 98), .ref (a + 99), .ref (a + 100), .int 0, .int (-1), .long 0, .long 0, .long 0, .long 0]), y_L G 24, y_L G 24, y_I G 24, .inr (0, [.ref (a + 102), .ref (a + 103), .ref (a + 104), .int 0, .int (-1), .long 0, .long 0, .long 0, .long 0]), y_L G 24, y_L G 24, y_I G 24] rfl ⟨q102, q117, q116, q115⟩ ⟨rfl, by decide, by decide, by decide⟩ ⟨rfl, rfl⟩ ⟨Nat.le_of_ble_eq_true rfl, Nat.le_of_ble_eq_true rfl⟩ (Nat.le_of_ble_eq_true rfl) 105 2634 ⟨rfl, rfl, Nat.le_of_ble_eq_true rfl, Nat.le_of_ble_eq_true rfl⟩ dL_law_4 ?_
  refine y_astore_n 7 C dL_law_7 [(1, .ref a), (0, .ref b)] (by decide) rfl ?_
  refine y_new (t := [.inr (7, [.ref (a + 1), .ref (a + 5), .ref (a + 8), .ref (a + 31), .ref (a + 32), .ref (a + 44), .ref (a + 82), .ref (a + 88)]), .inr (2, [.ref (a + 2), .ref (a + 3), .ref (a + 4), .int 4, .int 0]), y_I G 288, y_I G 24, y_L G 24, .inr (5, [.ref (a + 6), .ref (a + 7), .int 0, .int 0]), y_I G 24, y_I G 24, .inr (1, [.ref (a + 9), .int 0, .int 0, .int 0]), y_LL G 21 (a + 10), y_L G 24, y_L G 24, y_L G 24, y_L G 24, y_L G 24, y_L G 24, y_L G 24, y_L G 24, y_L G 24, y_L G 24, y_L G 24, y_L G 24, y_L G 24, y_L G 24, y_L G 24, y_L G 24, y_L G 24, y_L G 24, y_L G 24, y_L G 24, y_L G 24, y_Q G 4 (va_up (va_up (va_up (va_up (fun _ => none) 0 (some (a + 89))) 1 (some (a + 93))) 2 (some (a + 97))) 3 (some (a + 101))), .inr (6, [.ref (a + 33), .ref (a + 40), .ref (a + 41), .ref (a + 42), .ref (a + 43), .int 0]), y_LL G 6 (a + 34), y_L G 24, y_L G 24, y_L G 24, y_L G 24, y_L G 24, y_L G 24, y_I G 6, y_L G 6, y_L G 6, y_L G 6, .inr (3, [.ref (a + 45), .ref (a + 46), .ref (a + 47), .ref (a + 48), .ref (a + 49), .int 0]), y_I G 8, y_I G 8, y_I G 8, y_I G 8, y_Q G 8 (va_up (va_up (va_up (va_up (va_up (va_up (va_up (va_up (fun _ => none) 0 (some (a + 50))) 1 (some (a + 54))) 2 (some (a + 58))) 3 (some (a + 62))) 4 (some (a + 66))) 5 (some (a + 70))) 6 (some (a + 74))) 7 (some (a + 78))), .inr (0, [.ref (a + 51), .ref (a + 52), .ref (a + 53), .int 0, .int (-1), .long 0, .long 0, .long 0, .long 0]), y_L G 24, y_L G 24, y_I G 24, .inr (0, [.ref (a + 55), .ref (a + 56), .ref (a + 57), .int 0, .int (-1), .long 0, .long 0, .long 0, .long 0]), y_L G 24, y_L G 24, y_I G 24, .inr (0, [.ref (a + 59), .ref (a + 60), .ref (a + 61), .int 0, .int (-1), .long 0, .long 0, .long 0, .long 0]), y_L G 24, y_L G 24, y_I G 24, .inr (0, [.ref (a + 63), .ref (a + 64), .ref (a + 65), .int 0, .int (-1), .long 0, .long 0, .long 0, .long 0]), y_L G 24, y_L G 24, y_I G 24, .inr (0, [.ref (a + 67), .ref (a + 68), .ref (a + 69), .int 0, .int (-1), .long 0, .long 0, .long 0, .long 0]), y_L G 24, y_L G 24, y_I G 24, .inr (0, [.ref (a + 71), .ref (a + 72), .ref (a + 73), .int 0, .int (-1), .long 0, .long 0, .long 0, .long 0]), y_L G 24, y_L G 24, y_I G 24, .inr (0, [.ref (a + 75), .ref (a + 76), .ref (a + 77), .int 0, .int (-1), .long 0, .long 0, .long 0, .long 0]), y_L G 24, y_L G 24, y_I G 24, .inr (0, [.ref (a + 79), .ref (a + 80), .ref (a + 81), .int 0, .int (-1), .long 0, .long 0, .long 0, .long 0]), y_L G 24, y_L G 24, y_I G 24, .inr (4, [.ref (a + 83), .ref (a + 84), .ref (a + 85), .ref (a + 86), .ref (a + 87), .int 0, .int 0, .int 0, .int 0, .int 0]), y_Ch G 200, y_I G 67, y_I G 67, y_I G 67, y_I G 67, y_L G 24, .inr (0, [.ref (a + 90), .ref (a + 91), .ref (a + 92), .int 0, .int (-1), .long 0, .long 0, .long 0, .long 0]), y_L G 24, y_L G 24, y_I G 24, .inr (0, [.ref (a + 94), .ref (a + 95), .ref (a + 96), .int 0, .int (-1), .long 0, .long 0, .long 0, .long 0]), y_L G 24, y_L G 24, y_I G 24, .inr (0, [.ref (a + 98), .ref (a + 99), .ref (a + 100), .int 0, .int (-1), .long 0, .long 0, .long 0, .long 0]), y_L G 24, y_L G 24, y_I G 24, .inr (0, [.ref (a + 102), .ref (a + 103), .ref (a + 104), .int 0, .int (-1), .long 0, .long 0, .long 0, .long 0]), y_L G 24, y_L G 24, y_I G 24]) 8 C ha z_dX8 q954 q955 q110 y_fX8 y_hX8 105 rfl 106 2664 ⟨rfl, rfl, Nat.le_of_ble_eq_true rfl, Nat.le_of_ble_eq_true rfl⟩ dL_law_8 ?_
  refine y_cv (t1 := [.inr (7, [.ref (a + 1), .ref (a + 5), .ref (a + 8), .ref (a + 31), .ref (a + 32), .ref (a + 44), .ref (a + 82), .ref (a + 88)]), .inr (2, [.ref (a + 2), .ref (a + 3), .ref (a + 4), .int 4, .int 0]), y_I G 288, y_I G 24, y_L G 24, .inr (5, [.ref (a + 6), .ref (a + 7), .int 0, .int 0]), y_I G 24, y_I G 24, .inr (1, [.ref (a + 9), .int 0, .int 0, .int 0]), y_LL G 21 (a + 10), y_L G 24, y_L G 24, y_L G 24, y_L G 24, y_L G 24, y_L G 24, y_L G 24, y_L G 24, y_L G 24, y_L G 24, y_L G 24, y_L G 24, y_L G 24, y_L G 24, y_L G 24, y_L G 24, y_L G 24, y_L G 24, y_L G 24, y_L G 24, y_L G 24, y_Q G 4 (va_up (va_up (va_up (va_up (fun _ => none) 0 (some (a + 89))) 1 (some (a + 93))) 2 (some (a + 97))) 3 (some (a + 101))), .inr (6, [.ref (a + 33), .ref (a + 40), .ref (a + 41), .ref (a + 42), .ref (a + 43), .int 0]), y_LL G 6 (a + 34), y_L G 24, y_L G 24, y_L G 24, y_L G 24, y_L G 24, y_L G 24, y_I G 6, y_L G 6, y_L G 6, y_L G 6, .inr (3, [.ref (a + 45), .ref (a + 46), .ref (a + 47), .ref (a + 48), .ref (a + 49), .int 0]), y_I G 8, y_I G 8, y_I G 8, y_I G 8, y_Q G 8 (va_up (va_up (va_up (va_up (va_up (va_up (va_up (va_up (fun _ => none) 0 (some (a + 50))) 1 (some (a + 54))) 2 (some (a + 58))) 3 (some (a + 62))) 4 (some (a + 66))) 5 (some (a + 70))) 6 (some (a + 74))) 7 (some (a + 78))), .inr (0, [.ref (a + 51), .ref (a + 52), .ref (a + 53), .int 0, .int (-1), .long 0, .long 0, .long 0, .long 0]), y_L G 24, y_L G 24, y_I G 24, .inr (0, [.ref (a + 55), .ref (a + 56), .ref (a + 57), .int 0, .int (-1), .long 0, .long 0, .long 0, .long 0]), y_L G 24, y_L G 24, y_I G 24, .inr (0, [.ref (a + 59), .ref (a + 60), .ref (a + 61), .int 0, .int (-1), .long 0, .long 0, .long 0, .long 0]), y_L G 24, y_L G 24, y_I G 24, .inr (0, [.ref (a + 63), .ref (a + 64), .ref (a + 65), .int 0, .int (-1), .long 0, .long 0, .long 0, .long 0]), y_L G 24, y_L G 24, y_I G 24, .inr (0, [.ref (a + 67), .ref (a + 68), .ref (a + 69), .int 0, .int (-1), .long 0, .long 0, .long 0, .long 0]), y_L G 24, y_L G 24, y_I G 24, .inr (0, [.ref (a + 71), .ref (a + 72), .ref (a + 73), .int 0, .int (-1), .long 0, .long 0, .long 0, .long 0]), y_L G 24, y_L G 24, y_I G 24, .inr (0, [.ref (a + 75), .ref (a + 76), .ref (a + 77), .int 0, .int (-1), .long 0, .long 0, .long 0, .long 0]), y_L G 24, y_L G 24, y_I G 24, .inr (0, [.ref (a + 79), .ref (a + 80), .ref (a + 81), .int 0, .int (-1), .long 0, .long 0, .long 0, .long 0]), y_L G 24, y_L G 24, y_I G 24, .inr (4, [.ref (a + 83), .ref (a + 84), .ref (a + 85), .ref (a + 86), .ref (a + 87), .int 0, .int 0, .int 0, .int 0, .int 0]), y_Ch G 200, y_I G 67, y_I G 67, y_I G 67, y_I G 67, y_L G 24, .inr (0, [.ref (a + 90), .ref (a + 91), .ref (a + 92), .int 0, .int (-1), .long 0, .long 0, .long 0, .long 0]), y_L G 24, y_L G 24, y_I G 24, .inr (0, [.ref (a + 94), .ref (a + 95), .ref (a + 96), .int 0, .int (-1), .long 0, .long 0, .long 0, .long 0]), y_L G 24, y_L G 24, y_I G 24, .inr (0, [.ref (a + 98), .ref (a + 99), .ref (a + 100), .int 0, .int (-1), .long 0, .long 0, .long 0, .long 0]), y_L G 24, y_L G 24, y_I G 24, .inr (0, [.ref (a + 102), .ref (a + 103), .ref (a + 104), .int 0, .int (-1), .long 0, .long 0, .long 0, .long 0]), y_L G 24, y_L G 24, y_I G 24, .inr (8, y_fX8)]) rfl ?_
  refine y_dup 11 C dL_law_11 rfl ?_
  refine y_call (t := [.inr (7, [.ref (a + 1), .ref (a + 5), .ref (a + 8), .ref (a + 31), .ref (a + 32), .ref (a + 44), .ref (a + 82), .ref (a + 88)]), .inr (2, [.ref (a + 2), .ref (a + 3), .ref (a + 4), .int 4, .int 0]), y_I G 288, y_I G 24, y_L G 24, .inr (5, [.ref (a + 6), .ref (a + 7), .int 0, .int 0]), y_I G 24, y_I G 24, .inr (1, [.ref (a + 9), .int 0, .int 0, .int 0]), y_LL G 21 (a + 10), y_L G 24, y_L G 24, y_L G 24, y_L G 24, y_L G 24, y_L G 24, y_L G 24, y_L G 24, y_L G 24, y_L G 24, y_L G 24, y_L G 24, y_L G 24, y_L G 24, y_L G 24, y_L G 24, y_L G 24, y_L G 24, y_L G 24, y_L G 24, y_L G 24, y_Q G 4 (va_up (va_up (va_up (va_up (fun _ => none) 0 (some (a + 89))) 1 (some (a + 93))) 2 (some (a + 97))) 3 (some (a + 101))), .inr (6, [.ref (a + 33), .ref (a + 40), .ref (a + 41), .ref (a + 42), .ref (a + 43), .int 0]), y_LL G 6 (a + 34), y_L G 24, y_L G 24, y_L G 24, y_L G 24, y_L G 24, y_L G 24, y_I G 6, y_L G 6, y_L G 6, y_L G 6, .inr (3, [.ref (a + 45), .ref (a + 46), .ref (a + 47), .ref (a + 48), .ref (a + 49), .int 0]), y_I G 8, y_I G 8, y_I G 8, y_I G 8, y_Q G 8 (va_up (va_up (va_up (va_up (va_up (va_up (va_up (va_up (fun _ => none) 0 (some (a + 50))) 1 (some (a + 54))) 2 (some (a + 58))) 3 (some (a + 62))) 4 (some (a + 66))) 5 (some (a + 70))) 6 (some (a + 74))) 7 (some (a + 78))), .inr (0, [.ref (a + 51), .ref (a + 52), .ref (a + 53), .int 0, .int (-1), .long 0, .long 0, .long 0, .long 0]), y_L G 24, y_L G 24, y_I G 24, .inr (0, [.ref (a + 55), .ref (a + 56), .ref (a + 57), .int 0, .int (-1), .long 0, .long 0, .long 0, .long 0]), y_L G 24, y_L G 24, y_I G 24, .inr (0, [.ref (a + 59), .ref (a + 60), .ref (a + 61), .int 0, .int (-1), .long 0, .long 0, .long 0, .long 0]), y_L G 24, y_L G 24, y_I G 24, .inr (0, [.ref (a + 63), .ref (a + 64), .ref (a + 65), .int 0, .int (-1), .long 0, .long 0, .long 0, .long 0]), y_L G 24, y_L G 24, y_I G 24, .inr (0, [.ref (a + 67), .ref (a + 68), .ref (a + 69), .int 0, .int (-1), .long 0, .long 0, .long 0, .long 0]), y_L G 24, y_L G 24, y_I G 24, .inr (0, [.ref (a + 71), .ref (a + 72), .ref (a + 73), .int 0, .int (-1), .long 0, .long 0, .long 0, .long 0]), y_L G 24, y_L G 24, y_I G 24, .inr (0, [.ref (a + 75), .ref (a + 76), .ref (a + 77), .int 0, .int (-1), .long 0, .long 0, .long 0, .long 0]), y_L G 24, y_L G 24, y_I G 24, .inr (0, [.ref (a + 79), .ref (a + 80), .ref (a + 81), .int 0, .int (-1), .long 0, .long 0, .long 0, .long 0]), y_L G 24, y_L G 24, y_I G 24, .inr (4, [.ref (a + 83), .ref (a + 84), .ref (a + 85), .ref (a + 86), .ref (a + 87), .int 0, .int 0, .int 0, .int 0, .int 0]), y_Ch G 200, y_I G 67, y_I G 67, y_I G 67, y_I G 67, y_L G 24, .inr (0, [.ref (a + 90), .ref (a + 91), .ref (a + 92), .int 0, .int (-1), .long 0, .long 0, .long 0, .long 0]), y_L G 24, y_L G 24, y_I G 24, .inr (0, [.ref (a + 94), .ref (a + 95), .ref (a + 96), .int 0, .int (-1), .long 0, .long 0, .long 0, .long 0]), y_L G 24, y_L G 24, y_I G 24, .inr (0, [.ref (a + 98), .ref (a + 99), .ref (a + 100), .int 0, .int (-1), .long 0, .long 0, .long 0, .long 0]), y_L G 24, y_L G 24, y_I G 24, .inr (0, [.ref (a + 102), .ref (a + 103), .ref (a + 104), .int 0, .int (-1), .long 0, .long 0, .long 0, .long 0]), y_L G 24, y_L G 24, y_I G 24, .inr (8, y_fX8)]) 12 C ha (fun l q hq => y_mX8 l q hq) [.inr (7, [.ref (a + 1), .ref (a + 5), .ref (a + 8), .ref (a + 31), .ref (a + 32), .ref (a + 44), .ref (a + 82), .ref (a + 88)]), .inr (2, [.ref (a + 2), .ref (a + 3), .ref (a + 4), .int 4, .int 0]), y_I G 288, y_I G 24, y_L G 24, .inr (5, [.ref (a + 6), .ref (a + 7), .int 0, .int 0]), y_I G 24, y_I G 24, .inr (1, [.ref (a + 9), .int 0, .int 0, .int 0]), y_LL G 21 (a + 10), y_L G 24, y_L G 24, y_L G 24, y_L G 24, y_L G 24, y_L G 24, y_L G 24, y_L G 24, y_L G 24, y_L G 24, y_L G 24, y_L G 24, y_L G 24, y_L G 24, y_L G 24, y_L G 24, y_L G 24, y_L G 24, y_L G 24, y_L G 24, y_L G 24, y_Q G 4 (va_up (va_up (va_up (va_up (fun _ => none) 0 (some (a + 89))) 1 (some (a + 93))) 2 (some (a + 97))) 3 (some (a + 101))), .inr (6, [.ref (a + 33), .ref (a + 40), .ref (a + 41), .ref (a + 42), .ref (a + 43), .int 0]), y_LL G 6 (a + 34), y_L G 24, y_L G 24, y_L G 24, y_L G 24, y_L G 24, y_L G 24, y_I G 6, y_L G 6, y_L G 6, y_L G 6, .inr (3, [.ref (a + 45), .ref (a + 46), .ref (a + 47), .ref (a + 48), .ref (a + 49), .int 0]), y_I G 8, y_I G 8, y_I G 8, y_I G 8, y_Q G 8 (va_up (va_up (va_up (va_up (va_up (va_up (va_up (va_up (fun _ => none) 0 (some (a + 50))) 1 (some (a + 54))) 2 (some (a + 58))) 3 (some (a + 62))) 4 (some (a + 66))) 5 (some (a + 70))) 6 (some (a + 74))) 7 (some (a + 78))), .inr (0, [.ref (a + 51), .ref (a + 52), .ref (a + 53), .int 0, .int (-1), .long 0, .long 0, .long 0, .long 0]), y_L G 24, y_L G 24, y_I G 24, .inr (0, [.ref (a + 55), .ref (a + 56), .ref (a + 57), .int 0, .int (-1), .long 0, .long 0, .long 0, .long 0]), y_L G 24, y_L G 24, y_I G 24, .inr (0, [.ref (a + 59), .ref (a + 60), .ref (a + 61), .int 0, .int (-1), .long 0, .long 0, .long 0, .long 0]), y_L G 24, y_L G 24, y_I G 24, .inr (0, [.ref (a + 63), .ref (a + 64), .ref (a + 65), .int 0, .int (-1), .long 0, .long 0, .long 0, .long 0]), y_L G 24, y_L G 24, y_I G 24, .inr (0, [.ref (a + 67), .ref (a + 68), .ref (a + 69), .int 0, .int (-1), .long 0, .long 0, .long 0, .long 0]), y_L G 24, y_L G 24, y_I G 24, .inr (0, [.ref (a + 71), .ref (a + 72), .ref (a + 73), .int 0, .int (-1), .long 0, .long 0, .long 0, .long 0]), y_L G 24, y_L G 24, y_I G 24, .inr (0, [.ref (a + 75), .ref (a + 76), .ref (a + 77), .int 0, .int (-1), .long 0, .long 0, .long 0, .long 0]), y_L G 24, y_L G 24, y_I G 24, .inr (0, [.ref (a + 79), .ref (a + 80), .ref (a + 81), .int 0, .int (-1), .long 0, .long 0, .long 0, .long 0]), y_L G 24, y_L G 24, y_I G 24, .inr (4, [.ref (a + 83), .ref (a + 84), .ref (a + 85), .ref (a + 86), .ref (a + 87), .int 0, .int 0, .int 0, .int 0, .int 0]), y_Ch G 200, y_I G 67, y_I G 67, y_I G 67, y_I G 67, y_L G 24, .inr (0, [.ref (a + 90), .ref (a + 91), .ref (a + 92), .int 0, .int (-1), .long 0, .long 0, .long 0, .long 0]), y_L G 24, y_L G 24, y_I G 24, .inr (0, [.ref (a + 94), .ref (a + 95), .ref (a + 96), .int 0, .int (-1), .long 0, .long 0, .long 0, .long 0]), y_L G 24, y_L G 24, y_I G 24, .inr (0, [.ref (a + 98), .ref (a + 99), .ref (a + 100), .int 0, .int (-1), .long 0, .long 0, .long 0, .long 0]), y_L G 24, y_L G 24, y_I G 24, .inr (0, [.ref (a + 102), .ref (a + 103), .ref (a + 104), .int 0, .int (-1), .long 0, .long 0, .long 0, .long 0]), y_L G 24, y_L G 24, y_I G 24] rfl 105 rfl [.inr (7, [.ref (a + 1), .ref (a + 5), .ref (a + 8), .ref (a + 31), .ref (a + 32), .ref (a + 44), .ref (a + 82), .ref (a + 88)]), .inr (2, [.ref (a + 2), .ref (a + 3), .ref (a + 4), .int 4, .int 0]), y_I G 288, y_I G 24, y_L G 24, .inr (5, [.ref (a + 6), .ref (a + 7), .int 0, .int 0]), y_I G 24, y_I G 24, .inr (1, [.ref (a + 9), .int 0, .int 0, .int 0]), y_LL G 21 (a + 10), y_L G 24, y_L G 24, y_L G 24, y_L G 24, y_L G 24, y_L G 24, y_L G 24, y_L G 24, y_L G 24, y_L G 24, y_L G 24, y_L G 24, y_L G 24, y_L G 24, y_L G 24, y_L G 24, y_L G 24, y_L G 24, y_L G 24, y_L G 24, y_L G 24, y_Q G 4 (va_up (va_up (va_up (va_up (fun _ => none) 0 (some (a + 89))) 1 (some (a + 93))) 2 (some (a + 97))) 3 (some (a + 101))), .inr (6, [.ref (a + 33), .ref (a + 40), .ref (a + 41), .ref (a + 42), .ref (a + 43), .int 0]), y_LL G 6 (a + 34), y_L G 24, y_L G 24, y_L G 24, y_L G 24, y_L G 24, y_L G 24, y_I G 6, y_L G 6, y_L G 6, y_L G 6, .inr (3, [.ref (a + 45), .ref (a + 46), .ref (a + 47), .ref (a + 48), .ref (a + 49), .int 0]), y_I G 8, y_I G 8, y_I G 8, y_I G 8, y_Q G 8 (va_up (va_up (va_up (va_up (va_up (va_up (va_up (va_up (fun _ => none) 0 (some (a + 50))) 1 (some (a + 54))) 2 (some (a + 58))) 3 (some (a + 62))) 4 (some (a + 66))) 5 (some (a + 70))) 6 (some (a + 74))) 7 (some (a + 78))), .inr (0, [.ref (a + 51), .ref (a + 52), .ref (a + 53), .int 0, .int (-1), .long 0, .long 0, .long 0, .long 0]), y_L G 24, y_L G 24, y_I G 24, .inr (0, [.ref (a + 55), .ref (a + 56), .ref (a + 57), .int 0, .int (-1), .long 0, .long 0, .long 0, .long 0]), y_L G 24, y_L G 24, y_I G 24, .inr (0, [.ref (a + 59), .ref (a + 60), .ref (a + 61), .int 0, .int (-1), .long 0, .long 0, .long 0, .long 0]), y_L G 24, y_L G 24, y_I G 24, .inr (0, [.ref (a + 63), .ref (a + 64), .ref (a + 65), .int 0, .int (-1), .long 0, .long 0, .long 0, .long 0]), y_L G 24, y_L G 24, y_I G 24, .inr (0, [.ref (a + 67), .ref (a + 68), .ref (a + 69), .int 0, .int (-1), .long 0, .long 0, .long 0, .long 0]), y_L G 24, y_L G 24, y_I G 24, .inr (0, [.ref (a + 71), .ref (a + 72), .ref (a + 73), .int 0, .int (-1), .long 0, .long 0, .long 0, .long 0]), y_L G 24, y_L G 24, y_I G 24, .inr (0, [.ref (a + 75), .ref (a + 76), .ref (a + 77), .int 0, .int (-1), .long 0, .long 0, .long 0, .long 0]), y_L G 24, y_L G 24, y_I G 24, .inr (0, [.ref (a + 79), .ref (a + 80), .ref (a + 81), .int 0, .int (-1), .long 0, .long 0, .long 0, .long 0]), y_L G 24, y_L G 24, y_I G 24, .inr (4, [.ref (a + 83), .ref (a + 84), .ref (a + 85), .ref (a + 86), .ref (a + 87), .int 0, .int 0, .int 0, .int 0, .int 0]), y_Ch G 200, y_I G 67, y_I G 67, y_I G 67, y_I G 67, y_L G 24, .inr (0, [.ref (a + 90), .ref (a + 91), .ref (a + 92), .int 0, .int (-1), .long 0, .long 0, .long 0, .long 0]), y_L G 24, y_L G 24, y_I G 24, .inr (0, [.ref (a + 94), .ref (a + 95), .ref (a + 96), .int 0, .int (-1), .long 0, .long 0, .long 0, .long 0]), y_L G 24, y_L G 24, y_I G 24, .inr (0, [.ref (a + 98), .ref (a + 99), .ref (a + 100), .int 0, .int (-1), .long 0, .long 0, .long 0, .long 0]), y_L G 24, y_L G 24, y_I G 24, .inr (0, [.ref (a + 102), .ref (a + 103), .ref (a + 104), .int 0, .int (-1), .long 0, .long 0, .long 0, .long 0]), y_L G 24, y_L G 24, y_I G 24, .inr (8, [.ref (a + 106), .int 4, .int 0, .ref (a + 107), .ref (a + 108), .ref (a + 109), .ref (a + 110), .ref (a + 111), .int 0, .int 0, .long 0, .long 0, .long 0, .long 0, .ref (a + 112), .ref (a + 113), .ref (a + 114), .int 0, .ref (a + 115), .ref (a + 116), .int 0, .ref (a + 117), .int 0, .ref (a + 118), .int 0, .int 0, .int 0, .ref (a + 119), .int 0, .int 0]), y_X G 7 (upd (upd (upd (upd (upd (upd (upd (fun _ => 0) 0 1000000) 1 965926) 2 866025) 3 707107) 4 500000) 5 258819) 6 0), y_I G 288, y_L G 24, y_L G 24, y_L G 480, y_L G 480, y_X G 8 (upd (upd (upd (upd (upd (upd (upd (upd (fun _ => 0) 0 1) 1 1) 2 0) 3 (-1)) 4 (-1)) 5 (-1)) 6 0) 7 1), y_X G 8 (upd (upd (upd (upd (upd (upd (upd (upd (fun _ => 0) 0 0) 1 1) 2 1) 3 1) 4 0) 5 (-1)) 6 (-1)) 7 (-1)), y_L G 24, y_L G 144, y_I G 6, y_I G 32, y_Ch G 200, y_I G 48] rfl ⟨q110, q958, q957, q956⟩ ⟨rfl, by decide, by decide, by decide⟩ ⟨rfl, rfl⟩ ⟨Nat.le_of_ble_eq_true rfl, Nat.le_of_ble_eq_true rfl⟩ (Nat.le_of_ble_eq_true rfl) 120 4437 ⟨rfl, rfl, Nat.le_of_ble_eq_true rfl, Nat.le_of_ble_eq_true rfl⟩ dL_law_12 ?_
  refine y_astore_n 15 C dL_law_15 [(2, .ref (a + 105)), (1, .ref a), (0, .ref b)] (by decide) rfl ?_
  refine y_iconst 16 C dL_law_16 0 rfl ?_
  refine y_istore_n 17 C dL_law_17 [(3, .int 0), (2, .ref (a + 105)), (1, .ref a), (0, .ref b)] (by decide) rfl ?_
  exact k
