def zM_in (x0 : Int32) (x1 : Int32) (x2 : Int32) : Int32 := (if x0 < x1 then (0 : Int32) else (if x2 < x0 then (0 : Int32) else (1 : Int32)))
def zM_bounded (S : fd_S) (x1 : Int32) : Option Int32 := (if (0 : Int32) ≤ ((32 : Int32) + x1) ∧ ((32 : Int32) + x1) < (275 : Int32) then (some (S 78 ((32 : Int32) + x1))) else none)
def zM_at (x0 : Int32) (x1 : Int32) : Int32 := (((71 : Int32) + ((10 : Int32) * x0)) + x1)
def zM_recordOf_5 (fu : Nat) : Nat → fd_S → Int32 → Int32 → Int32 → Option Int32
  | 0, _, _, _, _ => none
  | n + 1, S, x1, x2, x3 => (if (S 78 (64 : Int32)) ≤ x3 then (some x2) else (if (0 : Int32) ≤ (zM_at x3 (0 : Int32)) ∧ (zM_at x3 (0 : Int32)) < (275 : Int32) then (if (S 78 (zM_at x3 (0 : Int32))) = x1 then (fd_lt ((x3 + (1 : Int32))) fun y5 => (zM_recordOf_5 fu n S x1 x3 y5)) else (fd_lt ((x3 + (1 : Int32))) fun y4 => (zM_recordOf_5 fu n S x1 x2 y4))) else none))
def zM_recordOf (fu : Nat) (S : fd_S) (x1 : Int32) : Option Int32 := (zM_recordOf_5 fu fu S x1 (-6 : Int32) (0 : Int32))
def zM_isHeld (S : fd_S) (x1 : Int32) : Option Int32 := (if (0 : Int32) ≤ (zM_at x1 (3 : Int32)) ∧ (zM_at x1 (3 : Int32)) < (275 : Int32) then (if (S 78 (zM_at x1 (3 : Int32))) = (1 : Int32) then (some (1 : Int32)) else (some (0 : Int32))) else none)
def zM_lessened_37 (fu : Nat) (S : fd_S) (x2 : Int32) (x3 : Int32) (x4 : Int32) : Option Int32 := (if ¬ x3 = (0 : Int32) then (if ¬ x3 = (0 : Int32) then (if (0 : Int32) ≤ (((8 : Int32) * (fd_rem x2 x3)) / x3) ∧ (((8 : Int32) * (fd_rem x2 x3)) / x3) < (8 : Int32) then (some ((x4 * (S 74 (((8 : Int32) * (fd_rem x2 x3)) / x3))) / (65536 : Int32))) else none) else none) else none)
def zM_lessened_12 (fu : Nat) : Nat → fd_S → Int32 → Int32 → Int32 → Int32 → Option Int32
  | 0, _, _, _, _, _ => none
  | n + 1, S, x2, x3, x4, x5 => (if ¬ x3 = (0 : Int32) then (if (x2 / x3) ≤ x5 then (zM_lessened_37 fu S x2 x3 x4) else (if x4 ≤ (0 : Int32) then (zM_lessened_37 fu S x2 x3 x4) else (fd_lt ((x4 / (2 : Int32))) fun y9 => (fd_lt ((x5 + (1 : Int32))) fun y10 => (zM_lessened_12 fu n S x2 x3 y9 y10))))) else none)
def zM_lessened (fu : Nat) (S : fd_S) (x1 : Int32) (x2 : Int32) : Option Int32 := ((zM_bounded S (0 : Int32)).bind fun r1 => (zM_lessened_12 fu fu S x2 r1 x1 (0 : Int32)))
def zM_penaltyAt (fu : Nat) (S : fd_S) (x1 : Int32) (x2 : Int32) : Option Int32 := (if (0 : Int32) ≤ (zM_at x1 (1 : Int32)) ∧ (zM_at x1 (1 : Int32)) < (275 : Int32) then (if (0 : Int32) ≤ (zM_at x1 (2 : Int32)) ∧ (zM_at x1 (2 : Int32)) < (275 : Int32) then ((zM_lessened fu S (S 78 (zM_at x1 (1 : Int32))) (x2 - (S 78 (zM_at x1 (2 : Int32))))).bind fun r3 => (some r3)) else none) else none)
def zM_dueAfter_18 (fu : Nat) : Nat → fd_S → Int32 → Int32 → Int32 → Int32 → Option Int32
  | 0, _, _, _, _, _ => none
  | n + 1, S, x1, x3, x4, x5 => (if (7 : Int32) ≤ x5 then (some x4) else ((zM_penaltyAt fu S x1 x4).bind fun r6 => ((zM_bounded S (5 : Int32)).bind fun r8 => (if r6 < r8 then (some x4) else (fd_lt ((x4 + x3)) fun y11 => (fd_lt ((x5 + (1 : Int32))) fun y12 => (zM_dueAfter_18 fu n S x1 x3 y11 y12)))))))
def zM_dueAfter (fu : Nat) (S : fd_S) (x1 : Int32) (x2 : Int32) : Option Int32 := ((zM_bounded S (1 : Int32)).bind fun r1 => (if ¬ r1 = (0 : Int32) then (fd_lt ((((x2 / r1) * r1) + r1)) fun y4 => (zM_dueAfter_18 fu fu S x1 r1 y4 (0 : Int32))) else none))
def zM_remove_28 (fu : Nat) : Nat → fd_S → Int32 → Option fd_S
  | 0, _, _ => none
  | n + 1, S, x2 => (if (zM_at (S 78 (64 : Int32)) (0 : Int32)) ≤ x2 then (some S) else (if (0 : Int32) ≤ (x2 + (10 : Int32)) ∧ (x2 + (10 : Int32)) < (275 : Int32) then (if (0 : Int32) ≤ x2 ∧ x2 < (275 : Int32) then (fd_lt (fd_up S 78 x2 (S 78 (x2 + (10 : Int32)))) fun S7 => (fd_lt ((x2 + (1 : Int32))) fun y8 => (zM_remove_28 fu n S7 y8))) else none) else none))
def zM_remove (fu : Nat) (S : fd_S) (x1 : Int32) : Option fd_S := (fd_lt (fd_up S 78 (64 : Int32) ((S 78 (64 : Int32)) - (1 : Int32))) fun S1 => (fd_lt (fd_up S1 78 (68 : Int32) ((S1 78 (68 : Int32)) + (1 : Int32))) fun S2 => (fd_lt ((zM_at x1 (0 : Int32))) fun y3 => (zM_remove_28 fu fu S2 y3))))
