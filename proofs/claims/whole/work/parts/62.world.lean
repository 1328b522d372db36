/-! the first world: behind both constructors -/
def adL (p : Nat) (q : Nat → Nat) (m : Nat) (r : Nat → Nat) : List Nat := [q 1, q 2, q 3, q 4, q 5, q 6, q 7, q 8, q 9, q 10, q 11, q 12, q 13, q 14, q 15, q 16, q 17, q 18, q 19, q 20, q 21, q 22, q 23, q 24, q 25, q 26, q 27, q 28, q 29, q 30, q 31, q 32, q 33, q 34, q 35, q 36, q 37, q 38, q 39, q 40, q 41, q 42, p, q 43, q 44, q 54, q 45, q 46, q 48, q 50, q 52, q 47, q 49, q 51, q 53, m, r 1, r 2, r 3, r 4, r 5, r 6, r 7, r 8, r 9, r 10, r 11]
def sg0L : List (List (Nat × Int32)) := [[(7, 1)], [(5, 10), (4, 10), (3, 10), (2, 10), (1, 10), (0, 10)], [(5, 60), (4, 60), (3, 60), (2, 60), (1, 60), (0, 60)], [(5, 5), (4, 4), (3, 3), (2, 2), (1, 1), (0, 0)], [(9, (-1)), (8, (-1)), (7, (-1)), (6, (-1)), (5, (-1)), (4, (-1)), (3, (-1)), (2, (-1)), (1, (-1)), (0, (-1))], [], [], [], [], [], [], [], [], [], [(7, 1)], [(5, 10), (4, 10), (3, 10), (2, 10), (1, 10), (0, 10)], [(5, 60), (4, 60), (3, 60), (2, 60), (1, 60), (0, 60)], [(5, 5), (4, 4), (3, 3), (2, 2), (1, 1), (0, 0)], [(9, (-1)), (8, (-1)), (7, (-1)), (6, (-1)), (5, (-1)), (4, (-1)), (3, (-1)), (2, (-1)), (1, (-1)), (0, (-1))], [], [], [], [], [], [], [], [], [], [(7, 1)], [(5, 10), (4, 10), (3, 10), (2, 10), (1, 10), (0, 10)], [(5, 60), (4, 60), (3, 60), (2, 60), (1, 60), (0, 60)], [(5, 5), (4, 4), (3, 3), (2, 2), (1, 1), (0, 0)], [(9, (-1)), (8, (-1)), (7, (-1)), (6, (-1)), (5, (-1)), (4, (-1)), (3, (-1)), (2, (-1)), (1, (-1)), (0, (-1))], [], [], [], [], [], [], [], [], [], [], [], [], [], [], [], [], [], [], [], [], [], [], [], [(30, (-1)), (29, (-1)), (28, (-1)), (27, (-1)), (26, (-1)), (25, (-1)), (24, (-1)), (23, (-1)), (22, (-1)), (21, (-1)), (20, 60), (14, 10), (8, 5), (19, 60), (13, 10), (7, 4), (18, 60), (12, 10), (6, 3), (17, 60), (11, 10), (5, 2), (16, 60), (10, 10), (4, 1), (15, 60), (9, 10), (3, 0), (2, 1)], [], [], [], [], [], [], [], [], [], []]
def sg0 : Sg := fun k => arrS (sg0L.getD k [])
def gI (D : va_G) (gc : Nat → ClassId) (sa sv : Nat → Nat) : GW := (D.1, D.2, fun k => sa (k - 100), gc, sv)
def gF (D : va_G) (gc : Nat → ClassId) (sa sv : Nat → Nat) (p : Nat) (q : Nat → Nat) (m : Nat) (r : Nat → Nat) : GW := (D.1, D.2, fun k => if k < 67 then (adL p q m r).getD k 0 else sa (k - 100), gc, sv)
def psL : List Nat := [1, 2, 3, 4, 5, 6, 7, 8, 9, 10, 11, 12, 13, 14, 15, 16, 17, 18, 19, 20, 21, 22, 23, 24, 25, 26, 27, 28, 29, 30, 31, 32, 33, 34, 35, 36, 37, 38, 39, 40, 41, 42, 0, 43, 44, 54, 45, 46, 48, 50, 52, 47, 49, 51, 53, 55, 56, 57, 58, 59, 60, 61, 62, 63, 64, 65, 66]
theorem arrQ_out : ∀ (l : List (Nat × Nat)) (n j : Nat), (∀ x ∈ l, x.1 < n) → n ≤ j → arrQ l j = none := by
  intro l
  induction l with
  | nil => intro n j _ _; rfl
  | cons x l ih =>
    intro n j h hj
    have h1 := h x List.mem_cons_self
    show va_up (arrQ l) x.1 (some x.2) j = none
    unfold va_up
    rw [if_neg (by omega)]
    exact ih n j (fun z hz => h z (List.mem_cons_of_mem _ hz)) hj
section W0
variable {D : va_G} {gc : Nat → ClassId} {sa sv : Nat → Nat} {p m : Nat} {q r : Nat → Nat}
abbrev wsA (D : va_G) (gc : Nat → ClassId) (sa sv : Nat → Nat) (p : Nat) (q : Nat → Nat) (m : Nat) (r : Nat → Nat) : va_W := wC4 (gI D gc sa sv) p q ++ wC5 (gI D gc sa sv) m r
theorem c0_0 : (wsA D gc sa sv p q m r)[psL.getD 0 0]? = some (gA (gF D gc sa sv p q m r) 0, cel (gF D gc sa sv p q m r) sg0 0) := rfl
theorem c0_1 : (wsA D gc sa sv p q m r)[psL.getD 1 0]? = some (gA (gF D gc sa sv p q m r) 1, cel (gF D gc sa sv p q m r) sg0 1) := rfl
theorem c0_2 : (wsA D gc sa sv p q m r)[psL.getD 2 0]? = some (gA (gF D gc sa sv p q m r) 2, cel (gF D gc sa sv p q m r) sg0 2) := rfl
theorem c0_3 : (wsA D gc sa sv p q m r)[psL.getD 3 0]? = some (gA (gF D gc sa sv p q m r) 3, cel (gF D gc sa sv p q m r) sg0 3) := rfl
theorem c0_4 : (wsA D gc sa sv p q m r)[psL.getD 4 0]? = some (gA (gF D gc sa sv p q m r) 4, cel (gF D gc sa sv p q m r) sg0 4) := rfl
theorem c0_5 : (wsA D gc sa sv p q m r)[psL.getD 5 0]? = some (gA (gF D gc sa sv p q m r) 5, cel (gF D gc sa sv p q m r) sg0 5) := by
  have e : arrQ [(7, q 14), (6, q 13), (5, q 12), (4, q 11), (3, q 10), (2, q 9), (1, q 8), (0, q 7)] = fun j => (([some 6, some 7, some 8, some 9, some 10, some 11, some 12, some 13] : List (Option Nat)).getD j none).map (gA (gF D gc sa sv p q m r)) := by
    funext j
    match j with
    | 0 => rfl
    | 1 => rfl
    | 2 => rfl
    | 3 => rfl
    | 4 => rfl
    | 5 => rfl
    | 6 => rfl
    | 7 => rfl
    | j + 8 => exact (arrQ_out _ 8 _ (by simp) (by omega)).trans rfl
  exact congrArg (fun f => some (gA (gF D gc sa sv p q m r) 5, (Sum.inl (gc 1, 8, .inr (.inr (.inr (.inr f)))) : va_E))) e
theorem c0_6 : (wsA D gc sa sv p q m r)[psL.getD 6 0]? = some (gA (gF D gc sa sv p q m r) 6, cel (gF D gc sa sv p q m r) sg0 6) := rfl
theorem c0_7 : (wsA D gc sa sv p q m r)[psL.getD 7 0]? = some (gA (gF D gc sa sv p q m r) 7, cel (gF D gc sa sv p q m r) sg0 7) := rfl
theorem c0_8 : (wsA D gc sa sv p q m r)[psL.getD 8 0]? = some (gA (gF D gc sa sv p q m r) 8, cel (gF D gc sa sv p q m r) sg0 8) := rfl
theorem c0_9 : (wsA D gc sa sv p q m r)[psL.getD 9 0]? = some (gA (gF D gc sa sv p q m r) 9, cel (gF D gc sa sv p q m r) sg0 9) := rfl
theorem c0_10 : (wsA D gc sa sv p q m r)[psL.getD 10 0]? = some (gA (gF D gc sa sv p q m r) 10, cel (gF D gc sa sv p q m r) sg0 10) := rfl
theorem c0_11 : (wsA D gc sa sv p q m r)[psL.getD 11 0]? = some (gA (gF D gc sa sv p q m r) 11, cel (gF D gc sa sv p q m r) sg0 11) := rfl
theorem c0_12 : (wsA D gc sa sv p q m r)[psL.getD 12 0]? = some (gA (gF D gc sa sv p q m r) 12, cel (gF D gc sa sv p q m r) sg0 12) := rfl
theorem c0_13 : (wsA D gc sa sv p q m r)[psL.getD 13 0]? = some (gA (gF D gc sa sv p q m r) 13, cel (gF D gc sa sv p q m r) sg0 13) := rfl
theorem c0_14 : (wsA D gc sa sv p q m r)[psL.getD 14 0]? = some (gA (gF D gc sa sv p q m r) 14, cel (gF D gc sa sv p q m r) sg0 14) := rfl
theorem c0_15 : (wsA D gc sa sv p q m r)[psL.getD 15 0]? = some (gA (gF D gc sa sv p q m r) 15, cel (gF D gc sa sv p q m r) sg0 15) := rfl
theorem c0_16 : (wsA D gc sa sv p q m r)[psL.getD 16 0]? = some (gA (gF D gc sa sv p q m r) 16, cel (gF D gc sa sv p q m r) sg0 16) := rfl
theorem c0_17 : (wsA D gc sa sv p q m r)[psL.getD 17 0]? = some (gA (gF D gc sa sv p q m r) 17, cel (gF D gc sa sv p q m r) sg0 17) := rfl
theorem c0_18 : (wsA D gc sa sv p q m r)[psL.getD 18 0]? = some (gA (gF D gc sa sv p q m r) 18, cel (gF D gc sa sv p q m r) sg0 18) := rfl
theorem c0_19 : (wsA D gc sa sv p q m r)[psL.getD 19 0]? = some (gA (gF D gc sa sv p q m r) 19, cel (gF D gc sa sv p q m r) sg0 19) := by
  have e : arrQ [(7, q 28), (6, q 27), (5, q 26), (4, q 25), (3, q 24), (2, q 23), (1, q 22), (0, q 21)] = fun j => (([some 20, some 21, some 22, some 23, some 24, some 25, some 26, some 27] : List (Option Nat)).getD j none).map (gA (gF D gc sa sv p q m r)) := by
    funext j
    match j with
    | 0 => rfl
    | 1 => rfl
    | 2 => rfl
    | 3 => rfl
    | 4 => rfl
    | 5 => rfl
    | 6 => rfl
    | 7 => rfl
    | j + 8 => exact (arrQ_out _ 8 _ (by simp) (by omega)).trans rfl
  exact congrArg (fun f => some (gA (gF D gc sa sv p q m r) 19, (Sum.inl (gc 1, 8, .inr (.inr (.inr (.inr f)))) : va_E))) e
theorem c0_20 : (wsA D gc sa sv p q m r)[psL.getD 20 0]? = some (gA (gF D gc sa sv p q m r) 20, cel (gF D gc sa sv p q m r) sg0 20) := rfl
theorem c0_21 : (wsA D gc sa sv p q m r)[psL.getD 21 0]? = some (gA (gF D gc sa sv p q m r) 21, cel (gF D gc sa sv p q m r) sg0 21) := rfl
theorem c0_22 : (wsA D gc sa sv p q m r)[psL.getD 22 0]? = some (gA (gF D gc sa sv p q m r) 22, cel (gF D gc sa sv p q m r) sg0 22) := rfl
theorem c0_23 : (wsA D gc sa sv p q m r)[psL.getD 23 0]? = some (gA (gF D gc sa sv p q m r) 23, cel (gF D gc sa sv p q m r) sg0 23) := rfl
theorem c0_24 : (wsA D gc sa sv p q m r)[psL.getD 24 0]? = some (gA (gF D gc sa sv p q m r) 24, cel (gF D gc sa sv p q m r) sg0 24) := rfl
theorem c0_25 : (wsA D gc sa sv p q m r)[psL.getD 25 0]? = some (gA (gF D gc sa sv p q m r) 25, cel (gF D gc sa sv p q m r) sg0 25) := rfl
theorem c0_26 : (wsA D gc sa sv p q m r)[psL.getD 26 0]? = some (gA (gF D gc sa sv p q m r) 26, cel (gF D gc sa sv p q m r) sg0 26) := rfl
theorem c0_27 : (wsA D gc sa sv p q m r)[psL.getD 27 0]? = some (gA (gF D gc sa sv p q m r) 27, cel (gF D gc sa sv p q m r) sg0 27) := rfl
theorem c0_28 : (wsA D gc sa sv p q m r)[psL.getD 28 0]? = some (gA (gF D gc sa sv p q m r) 28, cel (gF D gc sa sv p q m r) sg0 28) := rfl
theorem c0_29 : (wsA D gc sa sv p q m r)[psL.getD 29 0]? = some (gA (gF D gc sa sv p q m r) 29, cel (gF D gc sa sv p q m r) sg0 29) := rfl
theorem c0_30 : (wsA D gc sa sv p q m r)[psL.getD 30 0]? = some (gA (gF D gc sa sv p q m r) 30, cel (gF D gc sa sv p q m r) sg0 30) := rfl
theorem c0_31 : (wsA D gc sa sv p q m r)[psL.getD 31 0]? = some (gA (gF D gc sa sv p q m r) 31, cel (gF D gc sa sv p q m r) sg0 31) := rfl
theorem c0_32 : (wsA D gc sa sv p q m r)[psL.getD 32 0]? = some (gA (gF D gc sa sv p q m r) 32, cel (gF D gc sa sv p q m r) sg0 32) := rfl
theorem c0_33 : (wsA D gc sa sv p q m r)[psL.getD 33 0]? = some (gA (gF D gc sa sv p q m r) 33, cel (gF D gc sa sv p q m r) sg0 33) := by
  have e : arrQ [(7, q 42), (6, q 41), (5, q 40), (4, q 39), (3, q 38), (2, q 37), (1, q 36), (0, q 35)] = fun j => (([some 34, some 35, some 36, some 37, some 38, some 39, some 40, some 41] : List (Option Nat)).getD j none).map (gA (gF D gc sa sv p q m r)) := by
    funext j
    match j with
    | 0 => rfl
    | 1 => rfl
    | 2 => rfl
    | 3 => rfl
    | 4 => rfl
    | 5 => rfl
    | 6 => rfl
    | 7 => rfl
    | j + 8 => exact (arrQ_out _ 8 _ (by simp) (by omega)).trans rfl
  exact congrArg (fun f => some (gA (gF D gc sa sv p q m r) 33, (Sum.inl (gc 1, 8, .inr (.inr (.inr (.inr f)))) : va_E))) e
theorem c0_34 : (wsA D gc sa sv p q m r)[psL.getD 34 0]? = some (gA (gF D gc sa sv p q m r) 34, cel (gF D gc sa sv p q m r) sg0 34) := rfl
theorem c0_35 : (wsA D gc sa sv p q m r)[psL.getD 35 0]? = some (gA (gF D gc sa sv p q m r) 35, cel (gF D gc sa sv p q m r) sg0 35) := rfl
theorem c0_36 : (wsA D gc sa sv p q m r)[psL.getD 36 0]? = some (gA (gF D gc sa sv p q m r) 36, cel (gF D gc sa sv p q m r) sg0 36) := rfl
theorem c0_37 : (wsA D gc sa sv p q m r)[psL.getD 37 0]? = some (gA (gF D gc sa sv p q m r) 37, cel (gF D gc sa sv p q m r) sg0 37) := rfl
theorem c0_38 : (wsA D gc sa sv p q m r)[psL.getD 38 0]? = some (gA (gF D gc sa sv p q m r) 38, cel (gF D gc sa sv p q m r) sg0 38) := rfl
theorem c0_39 : (wsA D gc sa sv p q m r)[psL.getD 39 0]? = some (gA (gF D gc sa sv p q m r) 39, cel (gF D gc sa sv p q m r) sg0 39) := rfl
theorem c0_40 : (wsA D gc sa sv p q m r)[psL.getD 40 0]? = some (gA (gF D gc sa sv p q m r) 40, cel (gF D gc sa sv p q m r) sg0 40) := rfl
theorem c0_41 : (wsA D gc sa sv p q m r)[psL.getD 41 0]? = some (gA (gF D gc sa sv p q m r) 41, cel (gF D gc sa sv p q m r) sg0 41) := rfl
theorem c0_42 : (wsA D gc sa sv p q m r)[psL.getD 42 0]? = some (gA (gF D gc sa sv p q m r) 42, cel (gF D gc sa sv p q m r) sg0 42) := rfl
theorem c0_43 : (wsA D gc sa sv p q m r)[psL.getD 43 0]? = some (gA (gF D gc sa sv p q m r) 43, cel (gF D gc sa sv p q m r) sg0 43) := rfl
theorem c0_44 : (wsA D gc sa sv p q m r)[psL.getD 44 0]? = some (gA (gF D gc sa sv p q m r) 44, cel (gF D gc sa sv p q m r) sg0 44) := rfl
theorem c0_45 : (wsA D gc sa sv p q m r)[psL.getD 45 0]? = some (gA (gF D gc sa sv p q m r) 45, cel (gF D gc sa sv p q m r) sg0 45) := rfl
theorem c0_46 : (wsA D gc sa sv p q m r)[psL.getD 46 0]? = some (gA (gF D gc sa sv p q m r) 46, cel (gF D gc sa sv p q m r) sg0 46) := by
  have e : arrQ [(3, q 52), (2, q 50), (1, q 48), (0, q 46)] = fun j => (([some 47, some 48, some 49, some 50] : List (Option Nat)).getD j none).map (gA (gF D gc sa sv p q m r)) := by
    funext j
    match j with
    | 0 => rfl
    | 1 => rfl
    | 2 => rfl
    | 3 => rfl
    | j + 4 => exact (arrQ_out _ 4 _ (by simp) (by omega)).trans rfl
  exact congrArg (fun f => some (gA (gF D gc sa sv p q m r) 46, (Sum.inl (gc 2, 4, .inr (.inr (.inr (.inr f)))) : va_E))) e
theorem c0_47 : (wsA D gc sa sv p q m r)[psL.getD 47 0]? = some (gA (gF D gc sa sv p q m r) 47, cel (gF D gc sa sv p q m r) sg0 47) := rfl
theorem c0_48 : (wsA D gc sa sv p q m r)[psL.getD 48 0]? = some (gA (gF D gc sa sv p q m r) 48, cel (gF D gc sa sv p q m r) sg0 48) := rfl
theorem c0_49 : (wsA D gc sa sv p q m r)[psL.getD 49 0]? = some (gA (gF D gc sa sv p q m r) 49, cel (gF D gc sa sv p q m r) sg0 49) := rfl
theorem c0_50 : (wsA D gc sa sv p q m r)[psL.getD 50 0]? = some (gA (gF D gc sa sv p q m r) 50, cel (gF D gc sa sv p q m r) sg0 50) := rfl
theorem c0_51 : (wsA D gc sa sv p q m r)[psL.getD 51 0]? = some (gA (gF D gc sa sv p q m r) 51, cel (gF D gc sa sv p q m r) sg0 51) := rfl
theorem c0_52 : (wsA D gc sa sv p q m r)[psL.getD 52 0]? = some (gA (gF D gc sa sv p q m r) 52, cel (gF D gc sa sv p q m r) sg0 52) := rfl
theorem c0_53 : (wsA D gc sa sv p q m r)[psL.getD 53 0]? = some (gA (gF D gc sa sv p q m r) 53, cel (gF D gc sa sv p q m r) sg0 53) := rfl
theorem c0_54 : (wsA D gc sa sv p q m r)[psL.getD 54 0]? = some (gA (gF D gc sa sv p q m r) 54, cel (gF D gc sa sv p q m r) sg0 54) := rfl
theorem c0_55 : (wsA D gc sa sv p q m r)[psL.getD 55 0]? = some (gA (gF D gc sa sv p q m r) 55, cel (gF D gc sa sv p q m r) sg0 55) := rfl
theorem c0_56 : (wsA D gc sa sv p q m r)[psL.getD 56 0]? = some (gA (gF D gc sa sv p q m r) 56, cel (gF D gc sa sv p q m r) sg0 56) := rfl
theorem c0_57 : (wsA D gc sa sv p q m r)[psL.getD 57 0]? = some (gA (gF D gc sa sv p q m r) 57, cel (gF D gc sa sv p q m r) sg0 57) := rfl
theorem c0_58 : (wsA D gc sa sv p q m r)[psL.getD 58 0]? = some (gA (gF D gc sa sv p q m r) 58, cel (gF D gc sa sv p q m r) sg0 58) := rfl
theorem c0_59 : (wsA D gc sa sv p q m r)[psL.getD 59 0]? = some (gA (gF D gc sa sv p q m r) 59, cel (gF D gc sa sv p q m r) sg0 59) := rfl
theorem c0_60 : (wsA D gc sa sv p q m r)[psL.getD 60 0]? = some (gA (gF D gc sa sv p q m r) 60, cel (gF D gc sa sv p q m r) sg0 60) := rfl
theorem c0_61 : (wsA D gc sa sv p q m r)[psL.getD 61 0]? = some (gA (gF D gc sa sv p q m r) 61, cel (gF D gc sa sv p q m r) sg0 61) := by
  have e : arrQ [(6, sa 6), (5, sa 5), (4, sa 4), (3, sa 3), (2, sa 2), (1, sa 1), (0, sa 0)] = fun j => (([some 100, some 101, some 102, some 103, some 104, some 105, some 106] : List (Option Nat)).getD j none).map (gA (gF D gc sa sv p q m r)) := by
    funext j
    match j with
    | 0 => rfl
    | 1 => rfl
    | 2 => rfl
    | 3 => rfl
    | 4 => rfl
    | 5 => rfl
    | 6 => rfl
    | j + 7 => exact (arrQ_out _ 7 _ (by simp) (by omega)).trans rfl
  exact congrArg (fun f => some (gA (gF D gc sa sv p q m r) 61, (Sum.inl (gc 3, 7, .inr (.inr (.inr (.inr f)))) : va_E))) e
theorem c0_62 : (wsA D gc sa sv p q m r)[psL.getD 62 0]? = some (gA (gF D gc sa sv p q m r) 62, cel (gF D gc sa sv p q m r) sg0 62) := rfl
theorem c0_63 : (wsA D gc sa sv p q m r)[psL.getD 63 0]? = some (gA (gF D gc sa sv p q m r) 63, cel (gF D gc sa sv p q m r) sg0 63) := rfl
theorem c0_64 : (wsA D gc sa sv p q m r)[psL.getD 64 0]? = some (gA (gF D gc sa sv p q m r) 64, cel (gF D gc sa sv p q m r) sg0 64) := rfl
theorem c0_65 : (wsA D gc sa sv p q m r)[psL.getD 65 0]? = some (gA (gF D gc sa sv p q m r) 65, cel (gF D gc sa sv p q m r) sg0 65) := rfl
theorem c0_66 : (wsA D gc sa sv p q m r)[psL.getD 66 0]? = some (gA (gF D gc sa sv p q m r) 66, cel (gF D gc sa sv p q m r) sg0 66) := rfl
theorem c0_all : ∀ k, k < 67 → (wsA D gc sa sv p q m r)[psL.getD k 0]? = some (gA (gF D gc sa sv p q m r) k, cel (gF D gc sa sv p q m r) sg0 k) := by
  have h : ∀ k ∈ ([0, 1, 2, 3, 4, 5, 6, 7, 8, 9, 10, 11, 12, 13, 14, 15, 16, 17, 18, 19, 20, 21, 22, 23, 24, 25, 26, 27, 28, 29, 30, 31, 32, 33, 34, 35, 36, 37, 38, 39, 40, 41, 42, 43, 44, 45, 46, 47, 48, 49, 50, 51, 52, 53, 54, 55, 56, 57, 58, 59, 60, 61, 62, 63, 64, 65, 66] : List Nat), (wsA D gc sa sv p q m r)[psL.getD k 0]? = some (gA (gF D gc sa sv p q m r) k, cel (gF D gc sa sv p q m r) sg0 k) := List.forall_mem_cons.mpr ⟨c0_0, List.forall_mem_cons.mpr ⟨c0_1, List.forall_mem_cons.mpr ⟨c0_2, List.forall_mem_cons.mpr ⟨c0_3, List.forall_mem_cons.mpr ⟨c0_4, List.forall_mem_cons.mpr ⟨c0_5, List.forall_mem_cons.mpr ⟨c0_6, List.forall_mem_cons.mpr ⟨c0_7, List.forall_mem_cons.mpr ⟨c0_8, List.forall_mem_cons.mpr ⟨c0_9, List.forall_mem_cons.mpr ⟨c0_10, List.forall_mem_cons.mpr ⟨c0_11, List.forall_mem_cons.mpr ⟨c0_12, List.forall_mem_cons.mpr ⟨c0_13, List.forall_mem_cons.mpr ⟨c0_14, List.forall_mem_cons.mpr ⟨c0_15, List.forall_mem_cons.mpr ⟨c0_16, List.forall_mem_cons.mpr ⟨c0_17, List.forall_mem_cons.mpr ⟨c0_18, List.forall_mem_cons.mpr ⟨c0_19, List.forall_mem_cons.mpr ⟨c0_20, List.forall_mem_cons.mpr ⟨c0_21, List.forall_mem_cons.mpr ⟨c0_22, List.forall_mem_cons.mpr ⟨c0_23, List.forall_mem_cons.mpr ⟨c0_24, List.forall_mem_cons.mpr ⟨c0_25, List.forall_mem_cons.mpr ⟨c0_26, List.forall_mem_cons.mpr ⟨c0_27, List.forall_mem_cons.mpr ⟨c0_28, List.forall_mem_cons.mpr ⟨c0_29, List.forall_mem_cons.mpr ⟨c0_30, List.forall_mem_cons.mpr ⟨c0_31, List.forall_mem_cons.mpr ⟨c0_32, List.forall_mem_cons.mpr ⟨c0_33, List.forall_mem_cons.mpr ⟨c0_34, List.forall_mem_cons.mpr ⟨c0_35, List.forall_mem_cons.mpr ⟨c0_36, List.forall_mem_cons.mpr ⟨c0_37, List.forall_mem_cons.mpr ⟨c0_38, List.forall_mem_cons.mpr ⟨c0_39, List.forall_mem_cons.mpr ⟨c0_40, List.forall_mem_cons.mpr ⟨c0_41, List.forall_mem_cons.mpr ⟨c0_42, List.forall_mem_cons.mpr ⟨c0_43, List.forall_mem_cons.mpr ⟨c0_44, List.forall_mem_cons.mpr ⟨c0_45, List.forall_mem_cons.mpr ⟨c0_46, List.forall_mem_cons.mpr ⟨c0_47, List.forall_mem_cons.mpr ⟨c0_48, List.forall_mem_cons.mpr ⟨c0_49, List.forall_mem_cons.mpr ⟨c0_50, List.forall_mem_cons.mpr ⟨c0_51, List.forall_mem_cons.mpr ⟨c0_52, List.forall_mem_cons.mpr ⟨c0_53, List.forall_mem_cons.mpr ⟨c0_54, List.forall_mem_cons.mpr ⟨c0_55, List.forall_mem_cons.mpr ⟨c0_56, List.forall_mem_cons.mpr ⟨c0_57, List.forall_mem_cons.mpr ⟨c0_58, List.forall_mem_cons.mpr ⟨c0_59, List.forall_mem_cons.mpr ⟨c0_60, List.forall_mem_cons.mpr ⟨c0_61, List.forall_mem_cons.mpr ⟨c0_62, List.forall_mem_cons.mpr ⟨c0_63, List.forall_mem_cons.mpr ⟨c0_64, List.forall_mem_cons.mpr ⟨c0_65, List.forall_mem_cons.mpr ⟨c0_66, (fun _ z => by cases z)⟩⟩⟩⟩⟩⟩⟩⟩⟩⟩⟩⟩⟩⟩⟩⟩⟩⟩⟩⟩⟩⟩⟩⟩⟩⟩⟩⟩⟩⟩⟩⟩⟩⟩⟩⟩⟩⟩⟩⟩⟩⟩⟩⟩⟩⟩⟩⟩⟩⟩⟩⟩⟩⟩⟩⟩⟩⟩⟩⟩⟩⟩⟩⟩⟩⟩⟩
  intro k hk
  exact h k (by have := List.mem_range.mpr hk; exact this)
theorem ps_inj : ∀ i, i < 67 → ∀ j, j < 67 → psL.getD i 0 = psL.getD j 0 → i = j := by decide +kernel
theorem world0 {H : Heap} {A : Nat → Prop} (hP : va_P D vwCl (wsA D gc sa sv p q m r) H) (hD : va_D A (wsA D gc sa sv p q m r)) : va_P D vwCl (wsW (gF D gc sa sv p q m r) sg0) H ∧ va_D A (wsW (gF D gc sa sv p q m r) sg0) := by
  refine ⟨fun k x hk => ?_, fun i j x z hi hj e => ?_, fun k x hk => ?_⟩
  · obtain ⟨h1, rfl⟩ := ws_inv hk
    exact hP _ _ (c0_all k h1)
  · obtain ⟨h1, rfl⟩ := ws_inv hi
    obtain ⟨h2, rfl⟩ := ws_inv hj
    exact ps_inj i h1 j h2 (hD.1 _ _ _ _ (c0_all i h1) (c0_all j h2) e)
  · obtain ⟨h1, rfl⟩ := ws_inv hk
    exact hD.2 _ _ (c0_all k h1)
end W0
theorem inv0 : Inv sg0 := by
  have z0 : ∀ m, rg (0 : Int32) m := fun m => ⟨0, Nat.zero_le _, rfl⟩
  have hR : RowOK (sg0 56) := by
    refine ⟨?_, ?_, ?_, ?_, ?_, ?_, ?_⟩
    · rw [show sg0 56 1 = 0 by decide +kernel]; exact z0 _
    · rw [show sg0 56 0 = 0 by decide +kernel]; exact z0 _
    · have h : ∀ i, i < 6 → sg0 56 (3 + i) = nI i := by decide +kernel
      exact fun i hi => ⟨i, by omega, h i hi⟩
    · have h : ∀ i, i < 6 → sg0 56 (9 + i) = nI 10 := by decide +kernel
      exact fun i hi => ⟨10, by omega, h i hi⟩
    · have h : ∀ i, i < 6 → sg0 56 (15 + i) = nI 60 := by decide +kernel
      exact fun i hi => ⟨60, by omega, h i hi⟩
    · have h : ∀ i, i < 10 → sg0 56 (21 + i) = -1 := by decide +kernel
      exact fun i hi => Or.inl (h i hi)
    · have h : ∀ p, p < 8 → ∀ f, f < 7 → sg0 56 (31 + 7 * p + f) = 0 := by decide +kernel
      intro p hp
      unfold potOK pt
      rw [h p hp 0 (by omega), h p hp 1 (by omega), h p hp 2 (by omega), h p hp 3 (by omega), h p hp 4 (by omega), h p hp 5 (by omega), h p hp 6 (by omega)]
      exact ⟨z0 _, z0 _, z0 _, z0 _, z0 _, z0 _, z0 _⟩
  refine ⟨⟨⟨hR, ?_⟩, Or.inr ⟨by decide +kernel, by decide +kernel⟩, ⟨0, by omega, by decide +kernel, by decide +kernel, fun i hi => absurd hi (by omega)⟩, ?_⟩, ?_, by decide +kernel⟩
  · have h : ∀ i, i < 87 → sg0 56 i = sg0 (xk 0 i) (xj i) := by decide +kernel
    funext k j
    cases hx : ix 0 k j with
    | none => exact setB_no hx
    | some i =>
      obtain ⟨h1, h2, h3⟩ := ix_x hx
      rw [setB_in hx, h i h1, h2, h3]
  · have h1 : ∀ q, q < 4 → sg0 (47 + q) 1 = 0 ∧ sg0 63 q = 0 ∧ sg0 (47 + q) 2 = 0 ∧ sg0 64 q = 0 := by decide +kernel
    have h2 : ∀ q, q < 4 → ∀ i, i < 40 → sg0 (51 + q) i = sg0 65 (40 * q + i) := by decide +kernel
    intro q hq
    obtain ⟨a1, a2, a3, a4⟩ := h1 q hq
    exact ⟨a1.trans a2.symm, a3.trans a4.symm, ⟨0, by omega, a4, fun _ => rfl⟩, Or.inl a2, h2 q hq⟩
  · have h : ∀ i, i < 7 → sg0 45 i = sg0 59 (i + 1) := by decide +kernel
    exact h
