/-! the dispatch over the operations, and soundness -/
theorem okI_spec {y pc op a : Nat} {k0 : Int32} {t : List Nat} {nx : Option Nat} (h : okI y pc (op, a, k0, t) nx = true) (h43 : op ≠ 43) : ∃ j len, decode (mB y) pc = .ok (j, len) ∧ okJ y pc (op, a, k0, t) j len = true ∧ (term op = true ∨ nx = some (pc + len)) := by
  unfold okI at h
  rw [if_neg h43] at h
  split at h
  · rename_i j len hd
    simp only [Bool.and_eq_true, Bool.or_eq_true, decide_eq_true_eq] at h
    exact ⟨j, len, hd, h.1, h.2⟩
  · cases h
section SND
variable {p : Program} {l : Launch} {e : Env} {s : State} {m : MethodId} {args : Array Value} {below : List Frame} {meth : Method} {c : Code} {Qf : State → Prop} {A : Nat → Prop} {g : GW} {y : Nat}
variable {pc len a : Nat} {k0 : Int32} {t : List Nat} {r r' : List Ins} {L L' st s' : List Value} {σ σ' : Sg} {j : Instr} {H : Heap} {lc : List Loc} {ls : Array Slot}
theorem no_54 (h : h54 y a k0 t r L st σ = some (.inl (r', L', s', σ'))) : False := by
  unfold h54 at h
  split at h <;> cases h
theorem no_60 (h : h60 y a k0 t r L st σ = some (.inl (r', L', s', σ'))) : False := by
  unfold h60 at h
  split at h <;> cases h
theorem no_61 (h : h61 y a k0 t r L st σ = some (.inl (r', L', s', σ'))) : False := by
  unfold h61 at h
  split at h <;> cases h
theorem no_62 (h : h62 y a k0 t r L st σ = some (.inl (r', L', s', σ'))) : False := by
  unfold h62 at h
  split at h <;> cases h
theorem no_63 (h : h63 y a k0 t r L st σ = some (.inl (r', L', s', σ'))) : False := by
  unfold h63 at h
  split at h <;> cases h
theorem no_64 (h : h64 y a k0 t r L st σ = some (.inl (r', L', s', σ'))) : False := by
  unfold h64 at h
  split at h
  · split at h <;> cases h
  · cases h
set_option maxHeartbeats 4000000 in
theorem disp_go (op : Nat) (F : FR p s m args meth c A g y) (hd : decode (mB y) pc = .ok (j, len)) (hn : op ≠ 43) (hj : okJ y pc (op, a, k0, t) j len = true) (hs : st1 y (op, a, k0, t) r L st σ = some (.inl (r', L', s', σ'))) (I : IN s A g y L σ H lc ls) (kk : KK p l e s m args below meth c Qf A g y op r r' pc len L' s' σ') : W p l e (rmM y) s m args below meth c H lc 0 0 Qf (F0 m pc ls (st.map (cv g))) :=
  match op, hn, hj, hs, kk with
  | 0, _, hj, hs, kk => so_0 (y := y) (a := a) (k0 := k0) (t := t) (r := r) (L := L) (st := st) (σ := σ) F hd hj hs I kk
  | 1, _, hj, hs, kk => so_1 (y := y) (a := a) (k0 := k0) (t := t) (r := r) (L := L) (st := st) (σ := σ) F hd hj hs I kk
  | 2, _, hj, hs, kk => so_2 (y := y) (a := a) (k0 := k0) (t := t) (r := r) (L := L) (st := st) (σ := σ) F hd hj hs I kk
  | 3, _, hj, hs, kk => so_3 (y := y) (a := a) (k0 := k0) (t := t) (r := r) (L := L) (st := st) (σ := σ) F hd hj hs I kk
  | 4, _, hj, hs, kk => so_4 (y := y) (a := a) (k0 := k0) (t := t) (r := r) (L := L) (st := st) (σ := σ) F hd hj hs I kk
  | 5, _, hj, hs, kk => so_5 (y := y) (a := a) (k0 := k0) (t := t) (r := r) (L := L) (st := st) (σ := σ) F hd hj hs I kk
  | 6, _, hj, hs, kk => so_6 (y := y) (a := a) (k0 := k0) (t := t) (r := r) (L := L) (st := st) (σ := σ) F hd hj hs I kk
  | 7, _, hj, hs, kk => so_7 (y := y) (a := a) (k0 := k0) (t := t) (r := r) (L := L) (st := st) (σ := σ) F hd hj hs I kk
  | 8, _, hj, hs, kk => so_8 (y := y) (a := a) (k0 := k0) (t := t) (r := r) (L := L) (st := st) (σ := σ) F hd hj hs I kk
  | 9, _, hj, hs, kk => so_9 (y := y) (a := a) (k0 := k0) (t := t) (r := r) (L := L) (st := st) (σ := σ) F hd hj hs I kk
  | 10, _, hj, hs, kk => so_10 (y := y) (a := a) (k0 := k0) (t := t) (r := r) (L := L) (st := st) (σ := σ) F hd hj hs I kk
  | 11, _, hj, hs, kk => so_11 (y := y) (a := a) (k0 := k0) (t := t) (r := r) (L := L) (st := st) (σ := σ) F hd hj hs I kk
  | 12, _, hj, hs, kk => so_12 (y := y) (a := a) (k0 := k0) (t := t) (r := r) (L := L) (st := st) (σ := σ) F hd hj hs I kk
  | 13, _, hj, hs, kk => so_13 (y := y) (a := a) (k0 := k0) (t := t) (r := r) (L := L) (st := st) (σ := σ) F hd hj hs I kk
  | 14, _, hj, hs, kk => so_14 (y := y) (a := a) (k0 := k0) (t := t) (r := r) (L := L) (st := st) (σ := σ) F hd hj hs I kk
  | 15, _, hj, hs, kk => so_15 (y := y) (a := a) (k0 := k0) (t := t) (r := r) (L := L) (st := st) (σ := σ) F hd hj hs I kk
  | 16, _, hj, hs, kk => so_16 (y := y) (a := a) (k0 := k0) (t := t) (r := r) (L := L) (st := st) (σ := σ) F hd hj hs I kk
  | 17, _, hj, hs, kk => so_17 (y := y) (a := a) (k0 := k0) (t := t) (r := r) (L := L) (st := st) (σ := σ) F hd hj hs I kk
  | 18, _, hj, hs, kk => so_18 (y := y) (a := a) (k0 := k0) (t := t) (r := r) (L := L) (st := st) (σ := σ) F hd hj hs I kk
  | 19, _, hj, hs, kk => so_19 (y := y) (a := a) (k0 := k0) (t := t) (r := r) (L := L) (st := st) (σ := σ) F hd hj hs I kk
  | 20, _, hj, hs, kk => so_20 (y := y) (a := a) (k0 := k0) (t := t) (r := r) (L := L) (st := st) (σ := σ) F hd hj hs I kk
  | 21, _, hj, hs, kk => so_21 (y := y) (a := a) (k0 := k0) (t := t) (r := r) (L := L) (st := st) (σ := σ) F hd hj hs I kk
  | 22, _, hj, hs, kk => so_22 (y := y) (a := a) (k0 := k0) (t := t) (r := r) (L := L) (st := st) (σ := σ) F hd hj hs I kk
  | 23, _, hj, hs, kk => so_23 (y := y) (a := a) (k0 := k0) (t := t) (r := r) (L := L) (st := st) (σ := σ) F hd hj hs I kk
  | 24, _, hj, hs, kk => so_24 (y := y) (a := a) (k0 := k0) (t := t) (r := r) (L := L) (st := st) (σ := σ) F hd hj hs I kk
  | 25, _, hj, hs, kk => so_25 (y := y) (a := a) (k0 := k0) (t := t) (r := r) (L := L) (st := st) (σ := σ) F hd hj hs I kk
  | 26, _, hj, hs, kk => so_26 (y := y) (a := a) (k0 := k0) (t := t) (r := r) (L := L) (st := st) (σ := σ) F hd hj hs I kk
  | 27, _, hj, hs, kk => so_27 (y := y) (a := a) (k0 := k0) (t := t) (r := r) (L := L) (st := st) (σ := σ) F hd hj hs I kk
  | 28, _, hj, hs, kk => so_28 (y := y) (a := a) (k0 := k0) (t := t) (r := r) (L := L) (st := st) (σ := σ) F hd hj hs I kk
  | 29, _, hj, hs, kk => so_29 (y := y) (a := a) (k0 := k0) (t := t) (r := r) (L := L) (st := st) (σ := σ) F hd hj hs I kk
  | 30, _, hj, hs, kk => so_30 (y := y) (a := a) (k0 := k0) (t := t) (r := r) (L := L) (st := st) (σ := σ) F hd hj hs I kk
  | 31, _, hj, hs, kk => so_31 (y := y) (a := a) (k0 := k0) (t := t) (r := r) (L := L) (st := st) (σ := σ) F hd hj hs I kk
  | 32, _, hj, hs, kk => so_32 (y := y) (a := a) (k0 := k0) (t := t) (r := r) (L := L) (st := st) (σ := σ) F hd hj hs I kk
  | 33, _, hj, hs, kk => so_33 (y := y) (a := a) (k0 := k0) (t := t) (r := r) (L := L) (st := st) (σ := σ) F hd hj hs I kk
  | 34, _, hj, hs, kk => so_34 (y := y) (a := a) (k0 := k0) (t := t) (r := r) (L := L) (st := st) (σ := σ) F hd hj hs I kk
  | 35, _, hj, hs, kk => so_35 (y := y) (a := a) (k0 := k0) (t := t) (r := r) (L := L) (st := st) (σ := σ) F hd hj hs I kk
  | 36, _, hj, hs, kk => so_36 (y := y) (a := a) (k0 := k0) (t := t) (r := r) (L := L) (st := st) (σ := σ) F hd hj hs I kk
  | 37, _, hj, hs, kk => so_37 (y := y) (a := a) (k0 := k0) (t := t) (r := r) (L := L) (st := st) (σ := σ) F hd hj hs I kk
  | 38, _, hj, hs, kk => so_38 (y := y) (a := a) (k0 := k0) (t := t) (r := r) (L := L) (st := st) (σ := σ) F hd hj hs I kk
  | 39, _, hj, hs, kk => so_39 (y := y) (a := a) (k0 := k0) (t := t) (r := r) (L := L) (st := st) (σ := σ) F hd hj hs I kk
  | 40, _, hj, hs, kk => so_40 (y := y) (a := a) (k0 := k0) (t := t) (r := r) (L := L) (st := st) (σ := σ) F hd hj hs I kk
  | 41, _, hj, hs, kk => so_41 (y := y) (a := a) (k0 := k0) (t := t) (r := r) (L := L) (st := st) (σ := σ) F hd hj hs I kk
  | 42, _, hj, hs, kk => so_42 (y := y) (a := a) (k0 := k0) (t := t) (r := r) (L := L) (st := st) (σ := σ) F hd hj hs I kk
  | 43, hn, _, _, _ => absurd rfl hn
  | 44, _, hj, hs, kk => so_44 (y := y) (a := a) (k0 := k0) (t := t) (r := r) (L := L) (st := st) (σ := σ) F hd hj hs I kk
  | 45, _, hj, hs, kk => so_45 (y := y) (a := a) (k0 := k0) (t := t) (r := r) (L := L) (st := st) (σ := σ) F hd hj hs I kk
  | 46, _, hj, hs, kk => so_46 (y := y) (a := a) (k0 := k0) (t := t) (r := r) (L := L) (st := st) (σ := σ) F hd hj hs I kk
  | 47, _, hj, hs, kk => so_47 (y := y) (a := a) (k0 := k0) (t := t) (r := r) (L := L) (st := st) (σ := σ) F hd hj hs I kk
  | 48, _, hj, hs, kk => so_48 (y := y) (a := a) (k0 := k0) (t := t) (r := r) (L := L) (st := st) (σ := σ) F hd hj hs I kk
  | 49, _, hj, hs, kk => so_49 (y := y) (a := a) (k0 := k0) (t := t) (r := r) (L := L) (st := st) (σ := σ) F hd hj hs I kk
  | 50, _, hj, hs, kk => so_50 (y := y) (a := a) (k0 := k0) (t := t) (r := r) (L := L) (st := st) (σ := σ) F hd hj hs I kk
  | 51, _, hj, hs, kk => so_51 (y := y) (a := a) (k0 := k0) (t := t) (r := r) (L := L) (st := st) (σ := σ) F hd hj hs I kk
  | 52, _, hj, hs, kk => so_52 (y := y) (a := a) (k0 := k0) (t := t) (r := r) (L := L) (st := st) (σ := σ) F hd hj hs I kk
  | 53, _, hj, hs, kk => so_53 (y := y) (a := a) (k0 := k0) (t := t) (r := r) (L := L) (st := st) (σ := σ) F hd hj hs I kk
  | 54, _, _, hs, _ => (no_54 (y := y) (a := a) (k0 := k0) (t := t) (r := r) (L := L) (st := st) (σ := σ) hs).elim
  | 55, _, hj, hs, kk => so_55 (y := y) (a := a) (k0 := k0) (t := t) (r := r) (L := L) (st := st) (σ := σ) F hd hj hs I kk
  | 56, _, hj, hs, kk => so_56 (y := y) (a := a) (k0 := k0) (t := t) (r := r) (L := L) (st := st) (σ := σ) F hd hj hs I kk
  | 57, _, hj, hs, kk => so_57 (y := y) (a := a) (k0 := k0) (t := t) (r := r) (L := L) (st := st) (σ := σ) F hd hj hs I kk
  | 58, _, _, hs, _ => absurd (show (none : Option Rs) = some (.inl (r', L', s', σ')) from hs) (by simp)
  | 59, _, _, hs, _ => absurd (show (none : Option Rs) = some (.inl (r', L', s', σ')) from hs) (by simp)
  | 60, _, _, hs, _ => (no_60 (y := y) (a := a) (k0 := k0) (t := t) (r := r) (L := L) (st := st) (σ := σ) hs).elim
  | 61, _, _, hs, _ => (no_61 (y := y) (a := a) (k0 := k0) (t := t) (r := r) (L := L) (st := st) (σ := σ) hs).elim
  | 62, _, _, hs, _ => (no_62 (y := y) (a := a) (k0 := k0) (t := t) (r := r) (L := L) (st := st) (σ := σ) hs).elim
  | 63, _, _, hs, _ => (no_63 (y := y) (a := a) (k0 := k0) (t := t) (r := r) (L := L) (st := st) (σ := σ) hs).elim
  | 64, _, _, hs, _ => (no_64 (y := y) (a := a) (k0 := k0) (t := t) (r := r) (L := L) (st := st) (σ := σ) hs).elim
  | _ + 65, _, _, hs, _ => absurd (show (none : Option Rs) = some (.inl (r', L', s', σ')) from hs) (by simp)
theorem ng_0 {z : (Nat × List Value × List Ins × List Value × List Value) ⊕ Value} (h : h0 y a k0 t r L st σ = some (.inr z)) : False := by
  unfold h0 at h
  (try unfold brk at h)
  (try unfold go at h)
  (repeat' split at h) <;> cases h
theorem ng_1 {z : (Nat × List Value × List Ins × List Value × List Value) ⊕ Value} (h : h1 y a k0 t r L st σ = some (.inr z)) : False := by
  unfold h1 at h
  (try unfold brk at h)
  (try unfold go at h)
  (repeat' split at h) <;> cases h
theorem ng_2 {z : (Nat × List Value × List Ins × List Value × List Value) ⊕ Value} (h : h2 y a k0 t r L st σ = some (.inr z)) : False := by
  unfold h2 at h
  (try unfold brk at h)
  (try unfold go at h)
  (repeat' split at h) <;> cases h
theorem ng_3 {z : (Nat × List Value × List Ins × List Value × List Value) ⊕ Value} (h : h3 y a k0 t r L st σ = some (.inr z)) : False := by
  unfold h3 at h
  (try unfold brk at h)
  (try unfold go at h)
  (repeat' split at h) <;> cases h
theorem ng_4 {z : (Nat × List Value × List Ins × List Value × List Value) ⊕ Value} (h : h4 y a k0 t r L st σ = some (.inr z)) : False := by
  unfold h4 at h
  (try unfold brk at h)
  (try unfold go at h)
  (repeat' split at h) <;> cases h
theorem ng_5 {z : (Nat × List Value × List Ins × List Value × List Value) ⊕ Value} (h : h5 y a k0 t r L st σ = some (.inr z)) : False := by
  unfold h5 at h
  (try unfold brk at h)
  (try unfold go at h)
  (repeat' split at h) <;> cases h
theorem ng_6 {z : (Nat × List Value × List Ins × List Value × List Value) ⊕ Value} (h : h6 y a k0 t r L st σ = some (.inr z)) : False := by
  unfold h6 at h
  (try unfold brk at h)
  (try unfold go at h)
  (repeat' split at h) <;> cases h
theorem ng_7 {z : (Nat × List Value × List Ins × List Value × List Value) ⊕ Value} (h : h7 y a k0 t r L st σ = some (.inr z)) : False := by
  unfold h7 at h
  (try unfold brk at h)
  (try unfold go at h)
  (repeat' split at h) <;> cases h
theorem ng_8 {z : (Nat × List Value × List Ins × List Value × List Value) ⊕ Value} (h : h8 y a k0 t r L st σ = some (.inr z)) : False := by
  unfold h8 at h
  (try unfold brk at h)
  (try unfold go at h)
  (repeat' split at h) <;> cases h
theorem ng_9 {z : (Nat × List Value × List Ins × List Value × List Value) ⊕ Value} (h : h9 y a k0 t r L st σ = some (.inr z)) : False := by
  unfold h9 at h
  (try unfold brk at h)
  (try unfold go at h)
  (repeat' split at h) <;> cases h
theorem ng_10 {z : (Nat × List Value × List Ins × List Value × List Value) ⊕ Value} (h : h10 y a k0 t r L st σ = some (.inr z)) : False := by
  unfold h10 at h
  (try unfold brk at h)
  (try unfold go at h)
  (repeat' split at h) <;> cases h
theorem ng_11 {z : (Nat × List Value × List Ins × List Value × List Value) ⊕ Value} (h : h11 y a k0 t r L st σ = some (.inr z)) : False := by
  unfold h11 at h
  (try unfold brk at h)
  (try unfold go at h)
  (repeat' split at h) <;> cases h
theorem ng_12 {z : (Nat × List Value × List Ins × List Value × List Value) ⊕ Value} (h : h12 y a k0 t r L st σ = some (.inr z)) : False := by
  unfold h12 at h
  (try unfold brk at h)
  (try unfold go at h)
  (repeat' split at h) <;> cases h
theorem ng_13 {z : (Nat × List Value × List Ins × List Value × List Value) ⊕ Value} (h : h13 y a k0 t r L st σ = some (.inr z)) : False := by
  unfold h13 at h
  (try unfold brk at h)
  (try unfold go at h)
  (repeat' split at h) <;> cases h
theorem ng_14 {z : (Nat × List Value × List Ins × List Value × List Value) ⊕ Value} (h : h14 y a k0 t r L st σ = some (.inr z)) : False := by
  unfold h14 at h
  (try unfold brk at h)
  (try unfold go at h)
  (repeat' split at h) <;> cases h
theorem ng_15 {z : (Nat × List Value × List Ins × List Value × List Value) ⊕ Value} (h : h15 y a k0 t r L st σ = some (.inr z)) : False := by
  unfold h15 at h
  (try unfold brk at h)
  (try unfold go at h)
  (repeat' split at h) <;> cases h
theorem ng_16 {z : (Nat × List Value × List Ins × List Value × List Value) ⊕ Value} (h : h16 y a k0 t r L st σ = some (.inr z)) : False := by
  unfold h16 at h
  (try unfold brk at h)
  (try unfold go at h)
  (repeat' split at h) <;> cases h
theorem ng_17 {z : (Nat × List Value × List Ins × List Value × List Value) ⊕ Value} (h : h17 y a k0 t r L st σ = some (.inr z)) : False := by
  unfold h17 at h
  (try unfold brk at h)
  (try unfold go at h)
  (repeat' split at h) <;> cases h
theorem ng_18 {z : (Nat × List Value × List Ins × List Value × List Value) ⊕ Value} (h : h18 y a k0 t r L st σ = some (.inr z)) : False := by
  unfold h18 at h
  (try unfold brk at h)
  (try unfold go at h)
  (repeat' split at h) <;> cases h
theorem ng_19 {z : (Nat × List Value × List Ins × List Value × List Value) ⊕ Value} (h : h19 y a k0 t r L st σ = some (.inr z)) : False := by
  unfold h19 at h
  (try unfold brk at h)
  (try unfold go at h)
  (repeat' split at h) <;> cases h
theorem ng_20 {z : (Nat × List Value × List Ins × List Value × List Value) ⊕ Value} (h : h20 y a k0 t r L st σ = some (.inr z)) : False := by
  unfold h20 at h
  (try unfold brk at h)
  (try unfold go at h)
  (repeat' split at h) <;> cases h
theorem ng_21 {z : (Nat × List Value × List Ins × List Value × List Value) ⊕ Value} (h : h21 y a k0 t r L st σ = some (.inr z)) : False := by
  unfold h21 at h
  (try unfold brk at h)
  (try unfold go at h)
  (repeat' split at h) <;> cases h
theorem ng_22 {z : (Nat × List Value × List Ins × List Value × List Value) ⊕ Value} (h : h22 y a k0 t r L st σ = some (.inr z)) : False := by
  unfold h22 at h
  (try unfold brk at h)
  (try unfold go at h)
  (repeat' split at h) <;> cases h
theorem ng_23 {z : (Nat × List Value × List Ins × List Value × List Value) ⊕ Value} (h : h23 y a k0 t r L st σ = some (.inr z)) : False := by
  unfold h23 at h
  (try unfold brk at h)
  (try unfold go at h)
  (repeat' split at h) <;> cases h
theorem ng_24 {z : (Nat × List Value × List Ins × List Value × List Value) ⊕ Value} (h : h24 y a k0 t r L st σ = some (.inr z)) : False := by
  unfold h24 at h
  (try unfold brk at h)
  (try unfold go at h)
  (repeat' split at h) <;> cases h
theorem ng_25 {z : (Nat × List Value × List Ins × List Value × List Value) ⊕ Value} (h : h25 y a k0 t r L st σ = some (.inr z)) : False := by
  unfold h25 at h
  (try unfold brk at h)
  (try unfold go at h)
  (repeat' split at h) <;> cases h
theorem ng_26 {z : (Nat × List Value × List Ins × List Value × List Value) ⊕ Value} (h : h26 y a k0 t r L st σ = some (.inr z)) : False := by
  unfold h26 at h
  (try unfold brk at h)
  (try unfold go at h)
  (repeat' split at h) <;> cases h
theorem ng_27 {z : (Nat × List Value × List Ins × List Value × List Value) ⊕ Value} (h : h27 y a k0 t r L st σ = some (.inr z)) : False := by
  unfold h27 at h
  (try unfold brk at h)
  (try unfold go at h)
  (repeat' split at h) <;> cases h
theorem ng_28 {z : (Nat × List Value × List Ins × List Value × List Value) ⊕ Value} (h : h28 y a k0 t r L st σ = some (.inr z)) : False := by
  unfold h28 at h
  (try unfold brk at h)
  (try unfold go at h)
  (repeat' split at h) <;> cases h
theorem ng_29 {z : (Nat × List Value × List Ins × List Value × List Value) ⊕ Value} (h : h29 y a k0 t r L st σ = some (.inr z)) : False := by
  unfold h29 at h
  (try unfold brk at h)
  (try unfold go at h)
  (repeat' split at h) <;> cases h
theorem ng_30 {z : (Nat × List Value × List Ins × List Value × List Value) ⊕ Value} (h : h30 y a k0 t r L st σ = some (.inr z)) : False := by
  unfold h30 at h
  (try unfold brk at h)
  (try unfold go at h)
  (repeat' split at h) <;> cases h
theorem ng_31 {z : (Nat × List Value × List Ins × List Value × List Value) ⊕ Value} (h : h31 y a k0 t r L st σ = some (.inr z)) : False := by
  unfold h31 at h
  (try unfold brk at h)
  (try unfold go at h)
  (repeat' split at h) <;> cases h
theorem ng_32 {z : (Nat × List Value × List Ins × List Value × List Value) ⊕ Value} (h : h32 y a k0 t r L st σ = some (.inr z)) : False := by
  unfold h32 at h
  (try unfold brk at h)
  (try unfold go at h)
  (repeat' split at h) <;> cases h
theorem ng_33 {z : (Nat × List Value × List Ins × List Value × List Value) ⊕ Value} (h : h33 y a k0 t r L st σ = some (.inr z)) : False := by
  unfold h33 at h
  (try unfold brk at h)
  (try unfold go at h)
  (repeat' split at h) <;> cases h
theorem ng_34 {z : (Nat × List Value × List Ins × List Value × List Value) ⊕ Value} (h : h34 y a k0 t r L st σ = some (.inr z)) : False := by
  unfold h34 at h
  (try unfold brk at h)
  (try unfold go at h)
  (repeat' split at h) <;> cases h
theorem ng_35 {z : (Nat × List Value × List Ins × List Value × List Value) ⊕ Value} (h : h35 y a k0 t r L st σ = some (.inr z)) : False := by
  unfold h35 at h
  (try unfold brk at h)
  (try unfold go at h)
  (repeat' split at h) <;> cases h
theorem ng_36 {z : (Nat × List Value × List Ins × List Value × List Value) ⊕ Value} (h : h36 y a k0 t r L st σ = some (.inr z)) : False := by
  unfold h36 at h
  (try unfold brk at h)
  (try unfold go at h)
  (repeat' split at h) <;> cases h
theorem ng_37 {z : (Nat × List Value × List Ins × List Value × List Value) ⊕ Value} (h : h37 y a k0 t r L st σ = some (.inr z)) : False := by
  unfold h37 at h
  (try unfold brk at h)
  (try unfold go at h)
  (repeat' split at h) <;> cases h
theorem ng_38 {z : (Nat × List Value × List Ins × List Value × List Value) ⊕ Value} (h : h38 y a k0 t r L st σ = some (.inr z)) : False := by
  unfold h38 at h
  (try unfold brk at h)
  (try unfold go at h)
  (repeat' split at h) <;> cases h
theorem ng_39 {z : (Nat × List Value × List Ins × List Value × List Value) ⊕ Value} (h : h39 y a k0 t r L st σ = some (.inr z)) : False := by
  unfold h39 at h
  (try unfold brk at h)
  (try unfold go at h)
  (repeat' split at h) <;> cases h
theorem ng_40 {z : (Nat × List Value × List Ins × List Value × List Value) ⊕ Value} (h : h40 y a k0 t r L st σ = some (.inr z)) : False := by
  unfold h40 at h
  (try unfold brk at h)
  (try unfold go at h)
  (repeat' split at h) <;> cases h
theorem ng_41 {z : (Nat × List Value × List Ins × List Value × List Value) ⊕ Value} (h : h41 y a k0 t r L st σ = some (.inr z)) : False := by
  unfold h41 at h
  (try unfold brk at h)
  (try unfold go at h)
  (repeat' split at h) <;> cases h
theorem ng_42 {z : (Nat × List Value × List Ins × List Value × List Value) ⊕ Value} (h : h42 y a k0 t r L st σ = some (.inr z)) : False := by
  unfold h42 at h
  (try unfold brk at h)
  (try unfold go at h)
  (repeat' split at h) <;> cases h
theorem ng_43 {z : (Nat × List Value × List Ins × List Value × List Value) ⊕ Value} (h : h43 y a k0 t r L st σ = some (.inr z)) : False := by
  unfold h43 at h
  (try unfold brk at h)
  (try unfold go at h)
  (repeat' split at h) <;> cases h
theorem ng_44 {z : (Nat × List Value × List Ins × List Value × List Value) ⊕ Value} (h : h44 y a k0 t r L st σ = some (.inr z)) : False := by
  unfold h44 at h
  (try unfold brk at h)
  (try unfold go at h)
  (repeat' split at h) <;> cases h
theorem ng_45 {z : (Nat × List Value × List Ins × List Value × List Value) ⊕ Value} (h : h45 y a k0 t r L st σ = some (.inr z)) : False := by
  unfold h45 at h
  (try unfold brk at h)
  (try unfold go at h)
  (repeat' split at h) <;> cases h
theorem ng_46 {z : (Nat × List Value × List Ins × List Value × List Value) ⊕ Value} (h : h46 y a k0 t r L st σ = some (.inr z)) : False := by
  unfold h46 at h
  (try unfold brk at h)
  (try unfold go at h)
  (repeat' split at h) <;> cases h
theorem ng_47 {z : (Nat × List Value × List Ins × List Value × List Value) ⊕ Value} (h : h47 y a k0 t r L st σ = some (.inr z)) : False := by
  unfold h47 at h
  (try unfold brk at h)
  (try unfold go at h)
  (repeat' split at h) <;> cases h
theorem ng_48 {z : (Nat × List Value × List Ins × List Value × List Value) ⊕ Value} (h : h48 y a k0 t r L st σ = some (.inr z)) : False := by
  unfold h48 at h
  (try unfold brk at h)
  (try unfold go at h)
  (repeat' split at h) <;> cases h
theorem ng_49 {z : (Nat × List Value × List Ins × List Value × List Value) ⊕ Value} (h : h49 y a k0 t r L st σ = some (.inr z)) : False := by
  unfold h49 at h
  (try unfold brk at h)
  (try unfold go at h)
  (repeat' split at h) <;> cases h
theorem ng_50 {z : (Nat × List Value × List Ins × List Value × List Value) ⊕ Value} (h : h50 y a k0 t r L st σ = some (.inr z)) : False := by
  unfold h50 at h
  (try unfold brk at h)
  (try unfold go at h)
  (repeat' split at h) <;> cases h
theorem ng_51 {z : (Nat × List Value × List Ins × List Value × List Value) ⊕ Value} (h : h51 y a k0 t r L st σ = some (.inr z)) : False := by
  unfold h51 at h
  (try unfold brk at h)
  (try unfold go at h)
  (repeat' split at h) <;> cases h
theorem ng_52 {z : (Nat × List Value × List Ins × List Value × List Value) ⊕ Value} (h : h52 y a k0 t r L st σ = some (.inr z)) : False := by
  unfold h52 at h
  (try unfold brk at h)
  (try unfold go at h)
  (repeat' split at h) <;> cases h
theorem ng_53 {z : (Nat × List Value × List Ins × List Value × List Value) ⊕ Value} (h : h53 y a k0 t r L st σ = some (.inr z)) : False := by
  unfold h53 at h
  (try unfold brk at h)
  (try unfold go at h)
  (repeat' split at h) <;> cases h
theorem ng_55 {z : (Nat × List Value × List Ins × List Value × List Value) ⊕ Value} (h : h55 y a k0 t r L st σ = some (.inr z)) : False := by
  unfold h55 at h
  (try unfold brk at h)
  (try unfold go at h)
  (repeat' split at h) <;> cases h
theorem ng_56 {z : (Nat × List Value × List Ins × List Value × List Value) ⊕ Value} (h : h56 y a k0 t r L st σ = some (.inr z)) : False := by
  unfold h56 at h
  (try unfold brk at h)
  (try unfold go at h)
  (repeat' split at h) <;> cases h
theorem ng_57 {z : (Nat × List Value × List Ins × List Value × List Value) ⊕ Value} (h : h57 y a k0 t r L st σ = some (.inr z)) : False := by
  unfold h57 at h
  (try unfold brk at h)
  (try unfold go at h)
  (repeat' split at h) <;> cases h
theorem nc_60 {z : Nat × List Value × List Ins × List Value × List Value} (h : h60 y a k0 t r L st σ = some (.inr (.inl z))) : False := by
  unfold h60 at h
  (repeat' split at h) <;> cases h
theorem nc_61 {z : Nat × List Value × List Ins × List Value × List Value} (h : h61 y a k0 t r L st σ = some (.inr (.inl z))) : False := by
  unfold h61 at h
  (repeat' split at h) <;> cases h
theorem nc_62 {z : Nat × List Value × List Ins × List Value × List Value} (h : h62 y a k0 t r L st σ = some (.inr (.inl z))) : False := by
  unfold h62 at h
  (repeat' split at h) <;> cases h
theorem nc_63 {z : Nat × List Value × List Ins × List Value × List Value} (h : h63 y a k0 t r L st σ = some (.inr (.inl z))) : False := by
  unfold h63 at h
  (repeat' split at h) <;> cases h
theorem nc_64 {z : Nat × List Value × List Ins × List Value × List Value} (h : h64 y a k0 t r L st σ = some (.inr (.inl z))) : False := by
  unfold h64 at h
  (repeat' split at h) <;> cases h
theorem nr_54 {z : Value} (h : h54 y a k0 t r L st σ = some (.inr (.inr z))) : False := by
  unfold h54 at h
  (repeat' split at h) <;> cases h
theorem st1_call {q : Nat × List Value × List Ins × List Value × List Value} (op : Nat) (hs : st1 y (op, a, k0, t) r L st σ = some (.inr (.inl q))) : op = 54 :=
  match op, hs with
  | 0, hs => (ng_0 (y := y) (a := a) (k0 := k0) (t := t) (r := r) (L := L) (st := st) (σ := σ) hs).elim
  | 1, hs => (ng_1 (y := y) (a := a) (k0 := k0) (t := t) (r := r) (L := L) (st := st) (σ := σ) hs).elim
  | 2, hs => (ng_2 (y := y) (a := a) (k0 := k0) (t := t) (r := r) (L := L) (st := st) (σ := σ) hs).elim
  | 3, hs => (ng_3 (y := y) (a := a) (k0 := k0) (t := t) (r := r) (L := L) (st := st) (σ := σ) hs).elim
  | 4, hs => (ng_4 (y := y) (a := a) (k0 := k0) (t := t) (r := r) (L := L) (st := st) (σ := σ) hs).elim
  | 5, hs => (ng_5 (y := y) (a := a) (k0 := k0) (t := t) (r := r) (L := L) (st := st) (σ := σ) hs).elim
  | 6, hs => (ng_6 (y := y) (a := a) (k0 := k0) (t := t) (r := r) (L := L) (st := st) (σ := σ) hs).elim
  | 7, hs => (ng_7 (y := y) (a := a) (k0 := k0) (t := t) (r := r) (L := L) (st := st) (σ := σ) hs).elim
  | 8, hs => (ng_8 (y := y) (a := a) (k0 := k0) (t := t) (r := r) (L := L) (st := st) (σ := σ) hs).elim
  | 9, hs => (ng_9 (y := y) (a := a) (k0 := k0) (t := t) (r := r) (L := L) (st := st) (σ := σ) hs).elim
  | 10, hs => (ng_10 (y := y) (a := a) (k0 := k0) (t := t) (r := r) (L := L) (st := st) (σ := σ) hs).elim
  | 11, hs => (ng_11 (y := y) (a := a) (k0 := k0) (t := t) (r := r) (L := L) (st := st) (σ := σ) hs).elim
  | 12, hs => (ng_12 (y := y) (a := a) (k0 := k0) (t := t) (r := r) (L := L) (st := st) (σ := σ) hs).elim
  | 13, hs => (ng_13 (y := y) (a := a) (k0 := k0) (t := t) (r := r) (L := L) (st := st) (σ := σ) hs).elim
  | 14, hs => (ng_14 (y := y) (a := a) (k0 := k0) (t := t) (r := r) (L := L) (st := st) (σ := σ) hs).elim
  | 15, hs => (ng_15 (y := y) (a := a) (k0 := k0) (t := t) (r := r) (L := L) (st := st) (σ := σ) hs).elim
  | 16, hs => (ng_16 (y := y) (a := a) (k0 := k0) (t := t) (r := r) (L := L) (st := st) (σ := σ) hs).elim
  | 17, hs => (ng_17 (y := y) (a := a) (k0 := k0) (t := t) (r := r) (L := L) (st := st) (σ := σ) hs).elim
  | 18, hs => (ng_18 (y := y) (a := a) (k0 := k0) (t := t) (r := r) (L := L) (st := st) (σ := σ) hs).elim
  | 19, hs => (ng_19 (y := y) (a := a) (k0 := k0) (t := t) (r := r) (L := L) (st := st) (σ := σ) hs).elim
  | 20, hs => (ng_20 (y := y) (a := a) (k0 := k0) (t := t) (r := r) (L := L) (st := st) (σ := σ) hs).elim
  | 21, hs => (ng_21 (y := y) (a := a) (k0 := k0) (t := t) (r := r) (L := L) (st := st) (σ := σ) hs).elim
  | 22, hs => (ng_22 (y := y) (a := a) (k0 := k0) (t := t) (r := r) (L := L) (st := st) (σ := σ) hs).elim
  | 23, hs => (ng_23 (y := y) (a := a) (k0 := k0) (t := t) (r := r) (L := L) (st := st) (σ := σ) hs).elim
  | 24, hs => (ng_24 (y := y) (a := a) (k0 := k0) (t := t) (r := r) (L := L) (st := st) (σ := σ) hs).elim
  | 25, hs => (ng_25 (y := y) (a := a) (k0 := k0) (t := t) (r := r) (L := L) (st := st) (σ := σ) hs).elim
  | 26, hs => (ng_26 (y := y) (a := a) (k0 := k0) (t := t) (r := r) (L := L) (st := st) (σ := σ) hs).elim
  | 27, hs => (ng_27 (y := y) (a := a) (k0 := k0) (t := t) (r := r) (L := L) (st := st) (σ := σ) hs).elim
  | 28, hs => (ng_28 (y := y) (a := a) (k0 := k0) (t := t) (r := r) (L := L) (st := st) (σ := σ) hs).elim
  | 29, hs => (ng_29 (y := y) (a := a) (k0 := k0) (t := t) (r := r) (L := L) (st := st) (σ := σ) hs).elim
  | 30, hs => (ng_30 (y := y) (a := a) (k0 := k0) (t := t) (r := r) (L := L) (st := st) (σ := σ) hs).elim
  | 31, hs => (ng_31 (y := y) (a := a) (k0 := k0) (t := t) (r := r) (L := L) (st := st) (σ := σ) hs).elim
  | 32, hs => (ng_32 (y := y) (a := a) (k0 := k0) (t := t) (r := r) (L := L) (st := st) (σ := σ) hs).elim
  | 33, hs => (ng_33 (y := y) (a := a) (k0 := k0) (t := t) (r := r) (L := L) (st := st) (σ := σ) hs).elim
  | 34, hs => (ng_34 (y := y) (a := a) (k0 := k0) (t := t) (r := r) (L := L) (st := st) (σ := σ) hs).elim
  | 35, hs => (ng_35 (y := y) (a := a) (k0 := k0) (t := t) (r := r) (L := L) (st := st) (σ := σ) hs).elim
  | 36, hs => (ng_36 (y := y) (a := a) (k0 := k0) (t := t) (r := r) (L := L) (st := st) (σ := σ) hs).elim
  | 37, hs => (ng_37 (y := y) (a := a) (k0 := k0) (t := t) (r := r) (L := L) (st := st) (σ := σ) hs).elim
  | 38, hs => (ng_38 (y := y) (a := a) (k0 := k0) (t := t) (r := r) (L := L) (st := st) (σ := σ) hs).elim
  | 39, hs => (ng_39 (y := y) (a := a) (k0 := k0) (t := t) (r := r) (L := L) (st := st) (σ := σ) hs).elim
  | 40, hs => (ng_40 (y := y) (a := a) (k0 := k0) (t := t) (r := r) (L := L) (st := st) (σ := σ) hs).elim
  | 41, hs => (ng_41 (y := y) (a := a) (k0 := k0) (t := t) (r := r) (L := L) (st := st) (σ := σ) hs).elim
  | 42, hs => (ng_42 (y := y) (a := a) (k0 := k0) (t := t) (r := r) (L := L) (st := st) (σ := σ) hs).elim
  | 43, hs => (ng_43 (y := y) (a := a) (k0 := k0) (t := t) (r := r) (L := L) (st := st) (σ := σ) hs).elim
  | 44, hs => (ng_44 (y := y) (a := a) (k0 := k0) (t := t) (r := r) (L := L) (st := st) (σ := σ) hs).elim
  | 45, hs => (ng_45 (y := y) (a := a) (k0 := k0) (t := t) (r := r) (L := L) (st := st) (σ := σ) hs).elim
  | 46, hs => (ng_46 (y := y) (a := a) (k0 := k0) (t := t) (r := r) (L := L) (st := st) (σ := σ) hs).elim
  | 47, hs => (ng_47 (y := y) (a := a) (k0 := k0) (t := t) (r := r) (L := L) (st := st) (σ := σ) hs).elim
  | 48, hs => (ng_48 (y := y) (a := a) (k0 := k0) (t := t) (r := r) (L := L) (st := st) (σ := σ) hs).elim
  | 49, hs => (ng_49 (y := y) (a := a) (k0 := k0) (t := t) (r := r) (L := L) (st := st) (σ := σ) hs).elim
  | 50, hs => (ng_50 (y := y) (a := a) (k0 := k0) (t := t) (r := r) (L := L) (st := st) (σ := σ) hs).elim
  | 51, hs => (ng_51 (y := y) (a := a) (k0 := k0) (t := t) (r := r) (L := L) (st := st) (σ := σ) hs).elim
  | 52, hs => (ng_52 (y := y) (a := a) (k0 := k0) (t := t) (r := r) (L := L) (st := st) (σ := σ) hs).elim
  | 53, hs => (ng_53 (y := y) (a := a) (k0 := k0) (t := t) (r := r) (L := L) (st := st) (σ := σ) hs).elim
  | 54, _ => rfl
  | 55, hs => (ng_55 (y := y) (a := a) (k0 := k0) (t := t) (r := r) (L := L) (st := st) (σ := σ) hs).elim
  | 56, hs => (ng_56 (y := y) (a := a) (k0 := k0) (t := t) (r := r) (L := L) (st := st) (σ := σ) hs).elim
  | 57, hs => (ng_57 (y := y) (a := a) (k0 := k0) (t := t) (r := r) (L := L) (st := st) (σ := σ) hs).elim
  | 58, hs => absurd (show (none : Option Rs) = some (.inr (.inl q)) from hs) (by simp)
  | 59, hs => absurd (show (none : Option Rs) = some (.inr (.inl q)) from hs) (by simp)
  | 60, hs => (nc_60 (y := y) (a := a) (k0 := k0) (t := t) (r := r) (L := L) (st := st) (σ := σ) hs).elim
  | 61, hs => (nc_61 (y := y) (a := a) (k0 := k0) (t := t) (r := r) (L := L) (st := st) (σ := σ) hs).elim
  | 62, hs => (nc_62 (y := y) (a := a) (k0 := k0) (t := t) (r := r) (L := L) (st := st) (σ := σ) hs).elim
  | 63, hs => (nc_63 (y := y) (a := a) (k0 := k0) (t := t) (r := r) (L := L) (st := st) (σ := σ) hs).elim
  | 64, hs => (nc_64 (y := y) (a := a) (k0 := k0) (t := t) (r := r) (L := L) (st := st) (σ := σ) hs).elim
  | _ + 65, hs => absurd (show (none : Option Rs) = some (.inr (.inl q)) from hs) (by simp)
theorem st1_ret {v : Value} (op : Nat) (hs : st1 y (op, a, k0, t) r L st σ = some (.inr (.inr v))) : op = 60 ∨ op = 61 ∨ op = 62 ∨ op = 63 ∨ op = 64 :=
  match op, hs with
  | 0, hs => (ng_0 (y := y) (a := a) (k0 := k0) (t := t) (r := r) (L := L) (st := st) (σ := σ) hs).elim
  | 1, hs => (ng_1 (y := y) (a := a) (k0 := k0) (t := t) (r := r) (L := L) (st := st) (σ := σ) hs).elim
  | 2, hs => (ng_2 (y := y) (a := a) (k0 := k0) (t := t) (r := r) (L := L) (st := st) (σ := σ) hs).elim
  | 3, hs => (ng_3 (y := y) (a := a) (k0 := k0) (t := t) (r := r) (L := L) (st := st) (σ := σ) hs).elim
  | 4, hs => (ng_4 (y := y) (a := a) (k0 := k0) (t := t) (r := r) (L := L) (st := st) (σ := σ) hs).elim
  | 5, hs => (ng_5 (y := y) (a := a) (k0 := k0) (t := t) (r := r) (L := L) (st := st) (σ := σ) hs).elim
  | 6, hs => (ng_6 (y := y) (a := a) (k0 := k0) (t := t) (r := r) (L := L) (st := st) (σ := σ) hs).elim
  | 7, hs => (ng_7 (y := y) (a := a) (k0 := k0) (t := t) (r := r) (L := L) (st := st) (σ := σ) hs).elim
  | 8, hs => (ng_8 (y := y) (a := a) (k0 := k0) (t := t) (r := r) (L := L) (st := st) (σ := σ) hs).elim
  | 9, hs => (ng_9 (y := y) (a := a) (k0 := k0) (t := t) (r := r) (L := L) (st := st) (σ := σ) hs).elim
  | 10, hs => (ng_10 (y := y) (a := a) (k0 := k0) (t := t) (r := r) (L := L) (st := st) (σ := σ) hs).elim
  | 11, hs => (ng_11 (y := y) (a := a) (k0 := k0) (t := t) (r := r) (L := L) (st := st) (σ := σ) hs).elim
  | 12, hs => (ng_12 (y := y) (a := a) (k0 := k0) (t := t) (r := r) (L := L) (st := st) (σ := σ) hs).elim
  | 13, hs => (ng_13 (y := y) (a := a) (k0 := k0) (t := t) (r := r) (L := L) (st := st) (σ := σ) hs).elim
  | 14, hs => (ng_14 (y := y) (a := a) (k0 := k0) (t := t) (r := r) (L := L) (st := st) (σ := σ) hs).elim
  | 15, hs => (ng_15 (y := y) (a := a) (k0 := k0) (t := t) (r := r) (L := L) (st := st) (σ := σ) hs).elim
  | 16, hs => (ng_16 (y := y) (a := a) (k0 := k0) (t := t) (r := r) (L := L) (st := st) (σ := σ) hs).elim
  | 17, hs => (ng_17 (y := y) (a := a) (k0 := k0) (t := t) (r := r) (L := L) (st := st) (σ := σ) hs).elim
  | 18, hs => (ng_18 (y := y) (a := a) (k0 := k0) (t := t) (r := r) (L := L) (st := st) (σ := σ) hs).elim
  | 19, hs => (ng_19 (y := y) (a := a) (k0 := k0) (t := t) (r := r) (L := L) (st := st) (σ := σ) hs).elim
  | 20, hs => (ng_20 (y := y) (a := a) (k0 := k0) (t := t) (r := r) (L := L) (st := st) (σ := σ) hs).elim
  | 21, hs => (ng_21 (y := y) (a := a) (k0 := k0) (t := t) (r := r) (L := L) (st := st) (σ := σ) hs).elim
  | 22, hs => (ng_22 (y := y) (a := a) (k0 := k0) (t := t) (r := r) (L := L) (st := st) (σ := σ) hs).elim
  | 23, hs => (ng_23 (y := y) (a := a) (k0 := k0) (t := t) (r := r) (L := L) (st := st) (σ := σ) hs).elim
  | 24, hs => (ng_24 (y := y) (a := a) (k0 := k0) (t := t) (r := r) (L := L) (st := st) (σ := σ) hs).elim
  | 25, hs => (ng_25 (y := y) (a := a) (k0 := k0) (t := t) (r := r) (L := L) (st := st) (σ := σ) hs).elim
  | 26, hs => (ng_26 (y := y) (a := a) (k0 := k0) (t := t) (r := r) (L := L) (st := st) (σ := σ) hs).elim
  | 27, hs => (ng_27 (y := y) (a := a) (k0 := k0) (t := t) (r := r) (L := L) (st := st) (σ := σ) hs).elim
  | 28, hs => (ng_28 (y := y) (a := a) (k0 := k0) (t := t) (r := r) (L := L) (st := st) (σ := σ) hs).elim
  | 29, hs => (ng_29 (y := y) (a := a) (k0 := k0) (t := t) (r := r) (L := L) (st := st) (σ := σ) hs).elim
  | 30, hs => (ng_30 (y := y) (a := a) (k0 := k0) (t := t) (r := r) (L := L) (st := st) (σ := σ) hs).elim
  | 31, hs => (ng_31 (y := y) (a := a) (k0 := k0) (t := t) (r := r) (L := L) (st := st) (σ := σ) hs).elim
  | 32, hs => (ng_32 (y := y) (a := a) (k0 := k0) (t := t) (r := r) (L := L) (st := st) (σ := σ) hs).elim
  | 33, hs => (ng_33 (y := y) (a := a) (k0 := k0) (t := t) (r := r) (L := L) (st := st) (σ := σ) hs).elim
  | 34, hs => (ng_34 (y := y) (a := a) (k0 := k0) (t := t) (r := r) (L := L) (st := st) (σ := σ) hs).elim
  | 35, hs => (ng_35 (y := y) (a := a) (k0 := k0) (t := t) (r := r) (L := L) (st := st) (σ := σ) hs).elim
  | 36, hs => (ng_36 (y := y) (a := a) (k0 := k0) (t := t) (r := r) (L := L) (st := st) (σ := σ) hs).elim
  | 37, hs => (ng_37 (y := y) (a := a) (k0 := k0) (t := t) (r := r) (L := L) (st := st) (σ := σ) hs).elim
  | 38, hs => (ng_38 (y := y) (a := a) (k0 := k0) (t := t) (r := r) (L := L) (st := st) (σ := σ) hs).elim
  | 39, hs => (ng_39 (y := y) (a := a) (k0 := k0) (t := t) (r := r) (L := L) (st := st) (σ := σ) hs).elim
  | 40, hs => (ng_40 (y := y) (a := a) (k0 := k0) (t := t) (r := r) (L := L) (st := st) (σ := σ) hs).elim
  | 41, hs => (ng_41 (y := y) (a := a) (k0 := k0) (t := t) (r := r) (L := L) (st := st) (σ := σ) hs).elim
  | 42, hs => (ng_42 (y := y) (a := a) (k0 := k0) (t := t) (r := r) (L := L) (st := st) (σ := σ) hs).elim
  | 43, hs => (ng_43 (y := y) (a := a) (k0 := k0) (t := t) (r := r) (L := L) (st := st) (σ := σ) hs).elim
  | 44, hs => (ng_44 (y := y) (a := a) (k0 := k0) (t := t) (r := r) (L := L) (st := st) (σ := σ) hs).elim
  | 45, hs => (ng_45 (y := y) (a := a) (k0 := k0) (t := t) (r := r) (L := L) (st := st) (σ := σ) hs).elim
  | 46, hs => (ng_46 (y := y) (a := a) (k0 := k0) (t := t) (r := r) (L := L) (st := st) (σ := σ) hs).elim
  | 47, hs => (ng_47 (y := y) (a := a) (k0 := k0) (t := t) (r := r) (L := L) (st := st) (σ := σ) hs).elim
  | 48, hs => (ng_48 (y := y) (a := a) (k0 := k0) (t := t) (r := r) (L := L) (st := st) (σ := σ) hs).elim
  | 49, hs => (ng_49 (y := y) (a := a) (k0 := k0) (t := t) (r := r) (L := L) (st := st) (σ := σ) hs).elim
  | 50, hs => (ng_50 (y := y) (a := a) (k0 := k0) (t := t) (r := r) (L := L) (st := st) (σ := σ) hs).elim
  | 51, hs => (ng_51 (y := y) (a := a) (k0 := k0) (t := t) (r := r) (L := L) (st := st) (σ := σ) hs).elim
  | 52, hs => (ng_52 (y := y) (a := a) (k0 := k0) (t := t) (r := r) (L := L) (st := st) (σ := σ) hs).elim
  | 53, hs => (ng_53 (y := y) (a := a) (k0 := k0) (t := t) (r := r) (L := L) (st := st) (σ := σ) hs).elim
  | 54, hs => (nr_54 (y := y) (a := a) (k0 := k0) (t := t) (r := r) (L := L) (st := st) (σ := σ) hs).elim
  | 55, hs => (ng_55 (y := y) (a := a) (k0 := k0) (t := t) (r := r) (L := L) (st := st) (σ := σ) hs).elim
  | 56, hs => (ng_56 (y := y) (a := a) (k0 := k0) (t := t) (r := r) (L := L) (st := st) (σ := σ) hs).elim
  | 57, hs => (ng_57 (y := y) (a := a) (k0 := k0) (t := t) (r := r) (L := L) (st := st) (σ := σ) hs).elim
  | 58, hs => absurd (show (none : Option Rs) = some (.inr (.inr v)) from hs) (by simp)
  | 59, hs => absurd (show (none : Option Rs) = some (.inr (.inr v)) from hs) (by simp)
  | 60, _ => by decide
  | 61, _ => by decide
  | 62, _ => by decide
  | 63, _ => by decide
  | 64, _ => by decide
  | _ + 65, hs => absurd (show (none : Option Rs) = some (.inr (.inr v)) from hs) (by simp)
end SND
theorem snd_all : ∀ n, Snd n := by
  intro n
  induction n with
  | zero =>
    intro y rp L st σ σf v _ _ h
    simp [ev] at h
  | succ n IH =>
    intro y rp L st σ σf v hy hok hev g p l e s m args below meth c A H lc ls q hq F I
    cases rp with
    | nil => cases hok
    | cons z r =>
      obtain ⟨pc, op, a, k0, t⟩ := z
      simp only [List.head?_cons, Option.map_some, Option.some.injEq] at hq
      subst hq
      unfold okS at hok
      simp only [Bool.and_eq_true, Bool.or_eq_true] at hok
      obtain ⟨ho, hr⟩ := hok
      simp only [List.map_cons] at hev
      rw [ev] at hev
      have KM : ∀ (r' : List Ins) (L' s' : List Value) (σ' : Sg) (len : Nat), (term op = true ∨ r.head?.map Prod.fst = some (pc + len)) → ev n y r' L' s' σ' = some (v, σf) → KK p l e s m args below meth c (MQ below (QG g A v σf) args s 0 0 A) A g y op (r.map Prod.snd) r' pc len L' s' σ' := by
        intro r' L' s' σ' len hx h q1 H1 lc1 ls1 hc I1
        rcases hc with ⟨ht, rfl, rfl⟩ | ⟨b, rfl, hb⟩
        · have hx : r.head?.map Prod.fst = some (pc + len) := by
            rcases hx with hx | hx
            · rw [ht] at hx; cases hx
            · exact hx
          have hr : okS y r = true := by
            rcases hr with hr | hr
            · rw [ht] at hr; cases hr
            · exact hr
          exact IH y r L' s' σ' σf v hy hr h g p l e s m args below meth c A H1 lc1 ls1 _ hx F I1
        · exact IH y (bkp y b) L' s' σ' σf v hy (bk_ok hy hb) h g p l e s m args below meth c A H1 lc1 ls1 _ (bk_hd hb) F I1
      by_cases h43 : op = 43
      · subst h43
        have hq : bp0 y a = some pc := by
          unfold okI at ho
          rw [if_pos rfl] at ho
          exact of_decide_eq_true ho
        exact so_43 (a := a) (k0 := k0) (t := t) (r := r.map Prod.snd) (len := 0) hq rfl I (KM _ _ _ _ 0 (Or.inl rfl) hev)
      · obtain ⟨j, len, hd, hj, hx⟩ := okI_spec ho h43
        cases hs : st1 y (op, a, k0, t) (r.map Prod.snd) L st σ with
        | none => rw [hs] at hev; cases hev
        | some z =>
          rw [hs] at hev
          rcases z with ⟨r', L', s', σ'⟩ | ⟨a', as, r', L', s'⟩ | w
          · exact disp_go op F hd h43 hj hs I (KM _ _ _ _ len hx hev)
          · have h54 := st1_call op hs
            subst h54
            dsimp only at hev
            cases hc : ev n a' (blk a' 0) (pad (mL a') as) [] σ with
            | none => rw [hc] at hev; cases hev
            | some w =>
              rw [hc] at hev
              refine so_54 (a := a) (k0 := k0) (t := t) IH F hd hj hs hc I (fun H1 lc1 hr1 I1 => ?_)
              exact KM _ _ _ _ len hx hev (pc + len) H1 lc1 ls (Or.inl ⟨rfl, hr1, rfl⟩) I1
          · have hz := st1_ret op hs
            simp only [Option.some.injEq, Prod.mk.injEq] at hev
            obtain ⟨rfl, rfl⟩ := hev
            rcases hz with rfl | rfl | rfl | rfl | rfl
            · exact so_60 (a := a) (k0 := k0) (t := t) (r := r.map Prod.snd) F hd hj hs I
            · exact so_61 (a := a) (k0 := k0) (t := t) (r := r.map Prod.snd) F hd hj hs I
            · exact so_62 (a := a) (k0 := k0) (t := t) (r := r.map Prod.snd) F hd hj hs I
            · exact so_63 (a := a) (k0 := k0) (t := t) (r := r.map Prod.snd) F hd hj hs I
            · exact so_64 (a := a) (k0 := k0) (t := t) (r := r.map Prod.snd) F hd hj hs I
