/-! rows of 87 numbers: what a borough is -/
def pt (ρ : Nat → Int32) (p f : Nat) : Int32 := ρ (31 + 7 * p + f)
def num (ρ : Nat → Int32) : Nat := (ρ 1).toNatClampNeg
def ix (b k j : Nat) : Option Nat :=
  if k < b then none else if k = b then (if j = 5 then some 1 else if j = 6 then some 0 else if j = 7 then some 2 else none)
  else if k = b + 1 then (if j < 6 then some (9 + j) else none) else if k = b + 2 then (if j < 6 then some (15 + j) else none)
  else if k = b + 3 then (if j < 6 then some (3 + j) else none) else if k = b + 4 then (if j < 10 then some (21 + j) else none)
  else if k = b + 5 then none else if k < b + 14 then (if j < 7 then some (31 + 7 * (k - (b + 6)) + j) else none) else none
def xk (b i : Nat) : Nat := if i < 3 then b else if i < 9 then b + 3 else if i < 15 then b + 1 else if i < 21 then b + 2 else if i < 31 then b + 4 else b + 6 + (i - 31) / 7
def xj (i : Nat) : Nat := if i = 0 then 6 else if i = 1 then 5 else if i = 2 then 7 else if i < 9 then i - 3 else if i < 15 then i - 9 else if i < 21 then i - 15 else if i < 31 then i - 21 else (i - 31) % 7
theorem ix_x {b k j i : Nat} (h : ix b k j = some i) : i < 87 ∧ xk b i = k ∧ xj i = j := by
  unfold ix at h
  by_cases h1 : k < b
  · rw [if_pos h1] at h; cases h
  rw [if_neg h1] at h
  by_cases h2 : k = b
  · subst h2
    rw [if_pos rfl] at h
    by_cases j5 : j = 5
    · subst j5; cases h; exact ⟨by omega, rfl, rfl⟩
    rw [if_neg j5] at h
    by_cases j6 : j = 6
    · subst j6; cases h; exact ⟨by omega, rfl, rfl⟩
    rw [if_neg j6] at h
    by_cases j7 : j = 7
    · subst j7; cases h; exact ⟨by omega, rfl, rfl⟩
    rw [if_neg j7] at h; cases h
  rw [if_neg h2] at h
  have fin : ∀ (c N lo : Nat), (if j < N then some (lo + j) else none) = some i → i = lo + j ∧ j < N := by
    intro c N lo h
    by_cases hj : j < N
    · rw [if_pos hj] at h; cases h; exact ⟨rfl, hj⟩
    · rw [if_neg hj] at h; cases h
  by_cases h3 : k = b + 1
  · rw [if_pos h3] at h
    obtain ⟨rfl, hj⟩ := fin 0 _ _ h
    refine ⟨by omega, ?_, ?_⟩
    · unfold xk; rw [if_neg (by omega), if_neg (by omega), if_pos (by omega)]; omega
    · unfold xj; rw [if_neg (by omega), if_neg (by omega), if_neg (by omega), if_neg (by omega), if_pos (by omega)]; omega
  rw [if_neg h3] at h
  by_cases h4 : k = b + 2
  · rw [if_pos h4] at h
    obtain ⟨rfl, hj⟩ := fin 0 _ _ h
    refine ⟨by omega, ?_, ?_⟩
    · unfold xk; rw [if_neg (by omega), if_neg (by omega), if_neg (by omega), if_pos (by omega)]; omega
    · unfold xj; rw [if_neg (by omega), if_neg (by omega), if_neg (by omega), if_neg (by omega), if_neg (by omega), if_pos (by omega)]; omega
  rw [if_neg h4] at h
  by_cases h5 : k = b + 3
  · rw [if_pos h5] at h
    obtain ⟨rfl, hj⟩ := fin 0 _ _ h
    refine ⟨by omega, ?_, ?_⟩
    · unfold xk; rw [if_neg (by omega), if_pos (by omega)]; omega
    · unfold xj; rw [if_neg (by omega), if_neg (by omega), if_neg (by omega), if_pos (by omega)]; omega
  rw [if_neg h5] at h
  by_cases h6 : k = b + 4
  · rw [if_pos h6] at h
    obtain ⟨rfl, hj⟩ := fin 0 _ _ h
    refine ⟨by omega, ?_, ?_⟩
    · unfold xk; rw [if_neg (by omega), if_neg (by omega), if_neg (by omega), if_neg (by omega), if_pos (by omega)]; omega
    · unfold xj; rw [if_neg (by omega), if_neg (by omega), if_neg (by omega), if_neg (by omega), if_neg (by omega), if_neg (by omega), if_pos (by omega)]; omega
  rw [if_neg h6] at h
  by_cases h7 : k = b + 5
  · rw [if_pos h7] at h; cases h
  rw [if_neg h7] at h
  by_cases h8 : k < b + 14
  · rw [if_pos h8] at h
    obtain ⟨rfl, hj⟩ := fin 0 _ _ h
    refine ⟨by omega, ?_, ?_⟩
    · unfold xk; rw [if_neg (by omega), if_neg (by omega), if_neg (by omega), if_neg (by omega), if_neg (by omega)]; omega
    · unfold xj; rw [if_neg (by omega), if_neg (by omega), if_neg (by omega), if_neg (by omega), if_neg (by omega), if_neg (by omega), if_neg (by omega)]; omega
  · rw [if_neg h8] at h; cases h
theorem ixT {b p f : Nat} (hp : p < 8) (hf : f < 7) : ix b (b + 6 + p) f = some (31 + 7 * p + f) := by
  unfold ix
  rw [if_neg (by omega), if_neg (by omega), if_neg (by omega), if_neg (by omega), if_neg (by omega), if_neg (by omega), if_neg (by omega), if_pos (by omega), if_pos hf]
  congr 1; omega
theorem ix5 {b : Nat} : ix b b 5 = some 1 := by simp [ix]
theorem ix6 {b : Nat} : ix b b 6 = some 0 := by simp [ix]
theorem ix7 {b : Nat} : ix b b 7 = some 2 := by simp [ix]
theorem ixV {b n : Nat} (h : n < 6) : ix b (b + 1) n = some (9 + n) := by
  unfold ix
  rw [if_neg (by omega), if_neg (by omega), if_pos rfl, if_pos h]
theorem ixU {b n : Nat} (h : n < 6) : ix b (b + 2) n = some (15 + n) := by
  unfold ix
  rw [if_neg (by omega), if_neg (by omega), if_neg (by omega), if_pos rfl, if_pos h]
theorem ixL {b n : Nat} (h : n < 6) : ix b (b + 3) n = some (3 + n) := by
  unfold ix
  rw [if_neg (by omega), if_neg (by omega), if_neg (by omega), if_neg (by omega), if_pos rfl, if_pos h]
theorem ixP {b n : Nat} (h : n < 10) : ix b (b + 4) n = some (21 + n) := by
  unfold ix
  rw [if_neg (by omega), if_neg (by omega), if_neg (by omega), if_neg (by omega), if_neg (by omega), if_pos rfl, if_pos h]
def bor (σ : Sg) (b : Nat) : Nat → Int32 := fun i => σ (xk b i) (xj i)
def setB (σ : Sg) (b : Nat) (ρ : Nat → Int32) : Sg := fun k j => match ix b k j with
  | some i => ρ i
  | none => σ k j
theorem setB_in {σ : Sg} {b k j i : Nat} {ρ : Nat → Int32} (h : ix b k j = some i) : setB σ b ρ k j = ρ i := by
  unfold setB; rw [h]
theorem setB_no {σ : Sg} {b k j : Nat} {ρ : Nat → Int32} (h : ix b k j = none) : setB σ b ρ k j = σ k j := by
  unfold setB; rw [h]
theorem setB_bor (σ : Sg) (b : Nat) : setB σ b (bor σ b) = σ := by
  funext k j
  cases h : ix b k j with
  | none => exact setB_no h
  | some i =>
    obtain ⟨-, h1, h2⟩ := ix_x h
    rw [setB_in h]
    unfold bor
    rw [h1, h2]
theorem setB_out {σ : Sg} {b k : Nat} {ρ : Nat → Int32} (h : k < b ∨ b + 14 ≤ k) : setB σ b ρ k = σ k := by
  funext j
  refine setB_no ?_
  unfold ix
  rcases h with h | h
  · rw [if_pos h]
  · rw [if_neg (by omega), if_neg (by omega), if_neg (by omega), if_neg (by omega), if_neg (by omega), if_neg (by omega), if_neg (by omega), if_neg (by omega)]
theorem sbT {σ : Sg} {b p f : Nat} {ρ : Nat → Int32} (hp : p < 8) (hf : f < 7) : setB σ b ρ (b + 6 + p) f = pt ρ p f := setB_in (ixT hp hf)
theorem sb5 {σ : Sg} {b : Nat} {ρ : Nat → Int32} : setB σ b ρ b 5 = ρ 1 := setB_in ix5
theorem sb6 {σ : Sg} {b : Nat} {ρ : Nat → Int32} : setB σ b ρ b 6 = ρ 0 := setB_in ix6
theorem sb7 {σ : Sg} {b : Nat} {ρ : Nat → Int32} : setB σ b ρ b 7 = ρ 2 := setB_in ix7
theorem sbV {σ : Sg} {b n : Nat} {ρ : Nat → Int32} (h : n < 6) : setB σ b ρ (b + 1) n = ρ (9 + n) := setB_in (ixV h)
theorem sbU {σ : Sg} {b n : Nat} {ρ : Nat → Int32} (h : n < 6) : setB σ b ρ (b + 2) n = ρ (15 + n) := setB_in (ixU h)
theorem sbL {σ : Sg} {b n : Nat} {ρ : Nat → Int32} (h : n < 6) : setB σ b ρ (b + 3) n = ρ (3 + n) := setB_in (ixL h)
theorem sbP {σ : Sg} {b n : Nat} {ρ : Nat → Int32} (h : n < 10) : setB σ b ρ (b + 4) n = ρ (21 + n) := setB_in (ixP h)
theorem setB_ext {σ : Sg} {b : Nat} {ρ ρ' : Nat → Int32} (h : ∀ i, i < 87 → ρ i = ρ' i) : setB σ b ρ = setB σ b ρ' := by
  funext k j
  cases hx : ix b k j with
  | none => rw [setB_no hx, setB_no hx]
  | some i => rw [setB_in hx, setB_in hx]; exact h i (ix_x hx).1
theorem setB_setB {σ : Sg} {b : Nat} {ρ ρ' : Nat → Int32} : setB (setB σ b ρ) b ρ' = setB σ b ρ' := by
  funext k j
  cases hx : ix b k j with
  | none => rw [setB_no hx, setB_no hx, setB_no hx]
  | some i => rw [setB_in hx, setB_in hx]
theorem up_ix {σ : Sg} {b k j i : Nat} {ρ : Nat → Int32} {x : Int32} (h : ix b k j = some i) : up2 (setB σ b ρ) k j x = setB σ b (upd ρ i x) := by
  funext k' j'
  obtain ⟨-, h1, h2⟩ := ix_x h
  cases hx : ix b k' j' with
  | none =>
    rw [setB_no hx]
    have hn : ¬ (k' = k ∧ j' = j) := by
      rintro ⟨rfl, rfl⟩
      rw [h] at hx; cases hx
    simp only [up2]
    rw [if_neg hn, setB_no hx]
  | some i' =>
    obtain ⟨-, h3, h4⟩ := ix_x hx
    rw [setB_in hx]
    simp only [up2, upd]
    by_cases e : i' = i
    · subst e
      rw [if_pos rfl, if_pos ⟨h3.symm.trans h1, h4.symm.trans h2⟩]
    · have hn : ¬ (k' = k ∧ j' = j) := by
        rintro ⟨rfl, rfl⟩
        rw [h] at hx; cases hx; exact e rfl
      rw [if_neg e, if_neg hn, setB_in hx]
theorem upT {σ : Sg} {b p f : Nat} {ρ : Nat → Int32} {x : Int32} (hp : p < 8) (hf : f < 7) : up2 (setB σ b ρ) (b + 6 + p) f x = setB σ b (upd ρ (31 + 7 * p + f) x) := up_ix (ixT hp hf)
theorem up5 {σ : Sg} {b : Nat} {ρ : Nat → Int32} {x : Int32} : up2 (setB σ b ρ) b 5 x = setB σ b (upd ρ 1 x) := up_ix ix5
theorem up6 {σ : Sg} {b : Nat} {ρ : Nat → Int32} {x : Int32} : up2 (setB σ b ρ) b 6 x = setB σ b (upd ρ 0 x) := up_ix ix6
theorem up7 {σ : Sg} {b : Nat} {ρ : Nat → Int32} {x : Int32} : up2 (setB σ b ρ) b 7 x = setB σ b (upd ρ 2 x) := up_ix ix7
theorem upV {σ : Sg} {b n : Nat} {ρ : Nat → Int32} {x : Int32} (h : n < 6) : up2 (setB σ b ρ) (b + 1) n x = setB σ b (upd ρ (9 + n) x) := up_ix (ixV h)
theorem upU {σ : Sg} {b n : Nat} {ρ : Nat → Int32} {x : Int32} (h : n < 6) : up2 (setB σ b ρ) (b + 2) n x = setB σ b (upd ρ (15 + n) x) := up_ix (ixU h)
theorem upL {σ : Sg} {b n : Nat} {ρ : Nat → Int32} {x : Int32} (h : n < 6) : up2 (setB σ b ρ) (b + 3) n x = setB σ b (upd ρ (3 + n) x) := up_ix (ixL h)
theorem upP {σ : Sg} {b n : Nat} {ρ : Nat → Int32} {x : Int32} (h : n < 10) : up2 (setB σ b ρ) (b + 4) n x = setB σ b (upd ρ (21 + n) x) := up_ix (ixP h)
theorem pt_upd {ρ : Nat → Int32} {p q f h : Nat} {x : Int32} (hf : f < 7) (hh : h < 7) : pt (upd ρ (31 + 7 * p + f) x) q h = if q = p ∧ h = f then x else pt ρ q h := by
  unfold pt upd
  by_cases e : q = p ∧ h = f
  · obtain ⟨rfl, rfl⟩ := e
    simp
  · rw [if_neg e, if_neg (by omega)]
-- numbers: a counter against a written number
theorem ge1 {i : Nat} (hi : i < 2147483648) : ((1 : Int32) ≤ nI i) ↔ 1 ≤ i := nI_leI (a := 1) (by omega) hi
theorem gt1 {i : Nat} (hi : i < 2147483648) : ((1 : Int32) < nI i) ↔ 1 < i := nI_ltI (a := 1) (by omega) hi
theorem le1 {i : Nat} (hi : i < 2147483648) : (nI i ≤ (1 : Int32)) ↔ i ≤ 1 := nI_leI (b := 1) hi (by omega)
theorem lt1 {i : Nat} (hi : i < 2147483648) : (nI i < (1 : Int32)) ↔ i < 1 := nI_ltI (b := 1) hi (by omega)
theorem eq1 {i : Nat} (hi : i < 2147483648) : (nI i = (1 : Int32)) ↔ i = 1 := nI_eq (b := 1) hi (by omega)
theorem ge2 {i : Nat} (hi : i < 2147483648) : ((2 : Int32) ≤ nI i) ↔ 2 ≤ i := nI_leI (a := 2) (by omega) hi
theorem gt2 {i : Nat} (hi : i < 2147483648) : ((2 : Int32) < nI i) ↔ 2 < i := nI_ltI (a := 2) (by omega) hi
theorem le2 {i : Nat} (hi : i < 2147483648) : (nI i ≤ (2 : Int32)) ↔ i ≤ 2 := nI_leI (b := 2) hi (by omega)
theorem lt2 {i : Nat} (hi : i < 2147483648) : (nI i < (2 : Int32)) ↔ i < 2 := nI_ltI (b := 2) hi (by omega)
theorem eq2 {i : Nat} (hi : i < 2147483648) : (nI i = (2 : Int32)) ↔ i = 2 := nI_eq (b := 2) hi (by omega)
theorem ge3 {i : Nat} (hi : i < 2147483648) : ((3 : Int32) ≤ nI i) ↔ 3 ≤ i := nI_leI (a := 3) (by omega) hi
theorem gt3 {i : Nat} (hi : i < 2147483648) : ((3 : Int32) < nI i) ↔ 3 < i := nI_ltI (a := 3) (by omega) hi
theorem le3 {i : Nat} (hi : i < 2147483648) : (nI i ≤ (3 : Int32)) ↔ i ≤ 3 := nI_leI (b := 3) hi (by omega)
theorem lt3 {i : Nat} (hi : i < 2147483648) : (nI i < (3 : Int32)) ↔ i < 3 := nI_ltI (b := 3) hi (by omega)
theorem eq3 {i : Nat} (hi : i < 2147483648) : (nI i = (3 : Int32)) ↔ i = 3 := nI_eq (b := 3) hi (by omega)
theorem ge4 {i : Nat} (hi : i < 2147483648) : ((4 : Int32) ≤ nI i) ↔ 4 ≤ i := nI_leI (a := 4) (by omega) hi
theorem gt4 {i : Nat} (hi : i < 2147483648) : ((4 : Int32) < nI i) ↔ 4 < i := nI_ltI (a := 4) (by omega) hi
theorem le4 {i : Nat} (hi : i < 2147483648) : (nI i ≤ (4 : Int32)) ↔ i ≤ 4 := nI_leI (b := 4) hi (by omega)
theorem lt4 {i : Nat} (hi : i < 2147483648) : (nI i < (4 : Int32)) ↔ i < 4 := nI_ltI (b := 4) hi (by omega)
theorem eq4 {i : Nat} (hi : i < 2147483648) : (nI i = (4 : Int32)) ↔ i = 4 := nI_eq (b := 4) hi (by omega)
theorem ge5 {i : Nat} (hi : i < 2147483648) : ((5 : Int32) ≤ nI i) ↔ 5 ≤ i := nI_leI (a := 5) (by omega) hi
theorem gt5 {i : Nat} (hi : i < 2147483648) : ((5 : Int32) < nI i) ↔ 5 < i := nI_ltI (a := 5) (by omega) hi
theorem le5 {i : Nat} (hi : i < 2147483648) : (nI i ≤ (5 : Int32)) ↔ i ≤ 5 := nI_leI (b := 5) hi (by omega)
theorem lt5 {i : Nat} (hi : i < 2147483648) : (nI i < (5 : Int32)) ↔ i < 5 := nI_ltI (b := 5) hi (by omega)
theorem eq5 {i : Nat} (hi : i < 2147483648) : (nI i = (5 : Int32)) ↔ i = 5 := nI_eq (b := 5) hi (by omega)
theorem ge6 {i : Nat} (hi : i < 2147483648) : ((6 : Int32) ≤ nI i) ↔ 6 ≤ i := nI_leI (a := 6) (by omega) hi
theorem gt6 {i : Nat} (hi : i < 2147483648) : ((6 : Int32) < nI i) ↔ 6 < i := nI_ltI (a := 6) (by omega) hi
theorem le6 {i : Nat} (hi : i < 2147483648) : (nI i ≤ (6 : Int32)) ↔ i ≤ 6 := nI_leI (b := 6) hi (by omega)
theorem lt6 {i : Nat} (hi : i < 2147483648) : (nI i < (6 : Int32)) ↔ i < 6 := nI_ltI (b := 6) hi (by omega)
theorem eq6 {i : Nat} (hi : i < 2147483648) : (nI i = (6 : Int32)) ↔ i = 6 := nI_eq (b := 6) hi (by omega)
theorem ge7 {i : Nat} (hi : i < 2147483648) : ((7 : Int32) ≤ nI i) ↔ 7 ≤ i := nI_leI (a := 7) (by omega) hi
theorem gt7 {i : Nat} (hi : i < 2147483648) : ((7 : Int32) < nI i) ↔ 7 < i := nI_ltI (a := 7) (by omega) hi
theorem le7 {i : Nat} (hi : i < 2147483648) : (nI i ≤ (7 : Int32)) ↔ i ≤ 7 := nI_leI (b := 7) hi (by omega)
theorem lt7 {i : Nat} (hi : i < 2147483648) : (nI i < (7 : Int32)) ↔ i < 7 := nI_ltI (b := 7) hi (by omega)
theorem eq7 {i : Nat} (hi : i < 2147483648) : (nI i = (7 : Int32)) ↔ i = 7 := nI_eq (b := 7) hi (by omega)
theorem ge8 {i : Nat} (hi : i < 2147483648) : ((8 : Int32) ≤ nI i) ↔ 8 ≤ i := nI_leI (a := 8) (by omega) hi
theorem gt8 {i : Nat} (hi : i < 2147483648) : ((8 : Int32) < nI i) ↔ 8 < i := nI_ltI (a := 8) (by omega) hi
theorem le8 {i : Nat} (hi : i < 2147483648) : (nI i ≤ (8 : Int32)) ↔ i ≤ 8 := nI_leI (b := 8) hi (by omega)
theorem lt8 {i : Nat} (hi : i < 2147483648) : (nI i < (8 : Int32)) ↔ i < 8 := nI_ltI (b := 8) hi (by omega)
theorem eq8 {i : Nat} (hi : i < 2147483648) : (nI i = (8 : Int32)) ↔ i = 8 := nI_eq (b := 8) hi (by omega)
theorem ge10 {i : Nat} (hi : i < 2147483648) : ((10 : Int32) ≤ nI i) ↔ 10 ≤ i := nI_leI (a := 10) (by omega) hi
theorem gt10 {i : Nat} (hi : i < 2147483648) : ((10 : Int32) < nI i) ↔ 10 < i := nI_ltI (a := 10) (by omega) hi
theorem le10 {i : Nat} (hi : i < 2147483648) : (nI i ≤ (10 : Int32)) ↔ i ≤ 10 := nI_leI (b := 10) hi (by omega)
theorem lt10 {i : Nat} (hi : i < 2147483648) : (nI i < (10 : Int32)) ↔ i < 10 := nI_ltI (b := 10) hi (by omega)
theorem eq10 {i : Nat} (hi : i < 2147483648) : (nI i = (10 : Int32)) ↔ i = 10 := nI_eq (b := 10) hi (by omega)
theorem ge12 {i : Nat} (hi : i < 2147483648) : ((12 : Int32) ≤ nI i) ↔ 12 ≤ i := nI_leI (a := 12) (by omega) hi
theorem gt12 {i : Nat} (hi : i < 2147483648) : ((12 : Int32) < nI i) ↔ 12 < i := nI_ltI (a := 12) (by omega) hi
theorem le12 {i : Nat} (hi : i < 2147483648) : (nI i ≤ (12 : Int32)) ↔ i ≤ 12 := nI_leI (b := 12) hi (by omega)
theorem lt12 {i : Nat} (hi : i < 2147483648) : (nI i < (12 : Int32)) ↔ i < 12 := nI_ltI (b := 12) hi (by omega)
theorem eq12 {i : Nat} (hi : i < 2147483648) : (nI i = (12 : Int32)) ↔ i = 12 := nI_eq (b := 12) hi (by omega)
theorem ge20 {i : Nat} (hi : i < 2147483648) : ((20 : Int32) ≤ nI i) ↔ 20 ≤ i := nI_leI (a := 20) (by omega) hi
theorem gt20 {i : Nat} (hi : i < 2147483648) : ((20 : Int32) < nI i) ↔ 20 < i := nI_ltI (a := 20) (by omega) hi
theorem le20 {i : Nat} (hi : i < 2147483648) : (nI i ≤ (20 : Int32)) ↔ i ≤ 20 := nI_leI (b := 20) hi (by omega)
theorem lt20 {i : Nat} (hi : i < 2147483648) : (nI i < (20 : Int32)) ↔ i < 20 := nI_ltI (b := 20) hi (by omega)
theorem eq20 {i : Nat} (hi : i < 2147483648) : (nI i = (20 : Int32)) ↔ i = 20 := nI_eq (b := 20) hi (by omega)
theorem ge40 {i : Nat} (hi : i < 2147483648) : ((40 : Int32) ≤ nI i) ↔ 40 ≤ i := nI_leI (a := 40) (by omega) hi
theorem gt40 {i : Nat} (hi : i < 2147483648) : ((40 : Int32) < nI i) ↔ 40 < i := nI_ltI (a := 40) (by omega) hi
theorem le40 {i : Nat} (hi : i < 2147483648) : (nI i ≤ (40 : Int32)) ↔ i ≤ 40 := nI_leI (b := 40) hi (by omega)
theorem lt40 {i : Nat} (hi : i < 2147483648) : (nI i < (40 : Int32)) ↔ i < 40 := nI_ltI (b := 40) hi (by omega)
theorem eq40 {i : Nat} (hi : i < 2147483648) : (nI i = (40 : Int32)) ↔ i = 40 := nI_eq (b := 40) hi (by omega)
theorem ge60 {i : Nat} (hi : i < 2147483648) : ((60 : Int32) ≤ nI i) ↔ 60 ≤ i := nI_leI (a := 60) (by omega) hi
theorem gt60 {i : Nat} (hi : i < 2147483648) : ((60 : Int32) < nI i) ↔ 60 < i := nI_ltI (a := 60) (by omega) hi
theorem le60 {i : Nat} (hi : i < 2147483648) : (nI i ≤ (60 : Int32)) ↔ i ≤ 60 := nI_leI (b := 60) hi (by omega)
theorem lt60 {i : Nat} (hi : i < 2147483648) : (nI i < (60 : Int32)) ↔ i < 60 := nI_ltI (b := 60) hi (by omega)
theorem eq60 {i : Nat} (hi : i < 2147483648) : (nI i = (60 : Int32)) ↔ i = 60 := nI_eq (b := 60) hi (by omega)
theorem ge87 {i : Nat} (hi : i < 2147483648) : ((87 : Int32) ≤ nI i) ↔ 87 ≤ i := nI_leI (a := 87) (by omega) hi
theorem gt87 {i : Nat} (hi : i < 2147483648) : ((87 : Int32) < nI i) ↔ 87 < i := nI_ltI (a := 87) (by omega) hi
theorem le87 {i : Nat} (hi : i < 2147483648) : (nI i ≤ (87 : Int32)) ↔ i ≤ 87 := nI_leI (b := 87) hi (by omega)
theorem lt87 {i : Nat} (hi : i < 2147483648) : (nI i < (87 : Int32)) ↔ i < 87 := nI_ltI (b := 87) hi (by omega)
theorem eq87 {i : Nat} (hi : i < 2147483648) : (nI i = (87 : Int32)) ↔ i = 87 := nI_eq (b := 87) hi (by omega)
theorem ge99 {i : Nat} (hi : i < 2147483648) : ((99 : Int32) ≤ nI i) ↔ 99 ≤ i := nI_leI (a := 99) (by omega) hi
theorem gt99 {i : Nat} (hi : i < 2147483648) : ((99 : Int32) < nI i) ↔ 99 < i := nI_ltI (a := 99) (by omega) hi
theorem le99 {i : Nat} (hi : i < 2147483648) : (nI i ≤ (99 : Int32)) ↔ i ≤ 99 := nI_leI (b := 99) hi (by omega)
theorem lt99 {i : Nat} (hi : i < 2147483648) : (nI i < (99 : Int32)) ↔ i < 99 := nI_ltI (b := 99) hi (by omega)
theorem eq99 {i : Nat} (hi : i < 2147483648) : (nI i = (99 : Int32)) ↔ i = 99 := nI_eq (b := 99) hi (by omega)
theorem ge100 {i : Nat} (hi : i < 2147483648) : ((100 : Int32) ≤ nI i) ↔ 100 ≤ i := nI_leI (a := 100) (by omega) hi
theorem gt100 {i : Nat} (hi : i < 2147483648) : ((100 : Int32) < nI i) ↔ 100 < i := nI_ltI (a := 100) (by omega) hi
theorem le100 {i : Nat} (hi : i < 2147483648) : (nI i ≤ (100 : Int32)) ↔ i ≤ 100 := nI_leI (b := 100) hi (by omega)
theorem lt100 {i : Nat} (hi : i < 2147483648) : (nI i < (100 : Int32)) ↔ i < 100 := nI_ltI (b := 100) hi (by omega)
theorem eq100 {i : Nat} (hi : i < 2147483648) : (nI i = (100 : Int32)) ↔ i = 100 := nI_eq (b := 100) hi (by omega)
theorem ge120 {i : Nat} (hi : i < 2147483648) : ((120 : Int32) ≤ nI i) ↔ 120 ≤ i := nI_leI (a := 120) (by omega) hi
theorem gt120 {i : Nat} (hi : i < 2147483648) : ((120 : Int32) < nI i) ↔ 120 < i := nI_ltI (a := 120) (by omega) hi
theorem le120 {i : Nat} (hi : i < 2147483648) : (nI i ≤ (120 : Int32)) ↔ i ≤ 120 := nI_leI (b := 120) hi (by omega)
theorem lt120 {i : Nat} (hi : i < 2147483648) : (nI i < (120 : Int32)) ↔ i < 120 := nI_ltI (b := 120) hi (by omega)
theorem eq120 {i : Nat} (hi : i < 2147483648) : (nI i = (120 : Int32)) ↔ i = 120 := nI_eq (b := 120) hi (by omega)
theorem ge200 {i : Nat} (hi : i < 2147483648) : ((200 : Int32) ≤ nI i) ↔ 200 ≤ i := nI_leI (a := 200) (by omega) hi
theorem gt200 {i : Nat} (hi : i < 2147483648) : ((200 : Int32) < nI i) ↔ 200 < i := nI_ltI (a := 200) (by omega) hi
theorem le200 {i : Nat} (hi : i < 2147483648) : (nI i ≤ (200 : Int32)) ↔ i ≤ 200 := nI_leI (b := 200) hi (by omega)
theorem lt200 {i : Nat} (hi : i < 2147483648) : (nI i < (200 : Int32)) ↔ i < 200 := nI_ltI (b := 200) hi (by omega)
theorem eq200 {i : Nat} (hi : i < 2147483648) : (nI i = (200 : Int32)) ↔ i = 200 := nI_eq (b := 200) hi (by omega)
theorem ge9 {i : Nat} (hi : i < 2147483648) : ((9 : Int32) ≤ nI i) ↔ 9 ≤ i := nI_leI (a := 9) (by omega) hi
theorem gt9 {i : Nat} (hi : i < 2147483648) : ((9 : Int32) < nI i) ↔ 9 < i := nI_ltI (a := 9) (by omega) hi
theorem le9 {i : Nat} (hi : i < 2147483648) : (nI i ≤ (9 : Int32)) ↔ i ≤ 9 := nI_leI (b := 9) hi (by omega)
theorem lt9 {i : Nat} (hi : i < 2147483648) : (nI i < (9 : Int32)) ↔ i < 9 := nI_ltI (b := 9) hi (by omega)
theorem eq9 {i : Nat} (hi : i < 2147483648) : (nI i = (9 : Int32)) ↔ i = 9 := nI_eq (b := 9) hi (by omega)
theorem ge23 {i : Nat} (hi : i < 2147483648) : ((23 : Int32) ≤ nI i) ↔ 23 ≤ i := nI_leI (a := 23) (by omega) hi
theorem gt23 {i : Nat} (hi : i < 2147483648) : ((23 : Int32) < nI i) ↔ 23 < i := nI_ltI (a := 23) (by omega) hi
theorem le23 {i : Nat} (hi : i < 2147483648) : (nI i ≤ (23 : Int32)) ↔ i ≤ 23 := nI_leI (b := 23) hi (by omega)
theorem lt23 {i : Nat} (hi : i < 2147483648) : (nI i < (23 : Int32)) ↔ i < 23 := nI_ltI (b := 23) hi (by omega)
theorem eq23 {i : Nat} (hi : i < 2147483648) : (nI i = (23 : Int32)) ↔ i = 23 := nI_eq (b := 23) hi (by omega)
theorem ge24 {i : Nat} (hi : i < 2147483648) : ((24 : Int32) ≤ nI i) ↔ 24 ≤ i := nI_leI (a := 24) (by omega) hi
theorem gt24 {i : Nat} (hi : i < 2147483648) : ((24 : Int32) < nI i) ↔ 24 < i := nI_ltI (a := 24) (by omega) hi
theorem le24 {i : Nat} (hi : i < 2147483648) : (nI i ≤ (24 : Int32)) ↔ i ≤ 24 := nI_leI (b := 24) hi (by omega)
theorem lt24 {i : Nat} (hi : i < 2147483648) : (nI i < (24 : Int32)) ↔ i < 24 := nI_ltI (b := 24) hi (by omega)
theorem eq24 {i : Nat} (hi : i < 2147483648) : (nI i = (24 : Int32)) ↔ i = 24 := nI_eq (b := 24) hi (by omega)
theorem ge50 {i : Nat} (hi : i < 2147483648) : ((50 : Int32) ≤ nI i) ↔ 50 ≤ i := nI_leI (a := 50) (by omega) hi
theorem gt50 {i : Nat} (hi : i < 2147483648) : ((50 : Int32) < nI i) ↔ 50 < i := nI_ltI (a := 50) (by omega) hi
theorem le50 {i : Nat} (hi : i < 2147483648) : (nI i ≤ (50 : Int32)) ↔ i ≤ 50 := nI_leI (b := 50) hi (by omega)
theorem lt50 {i : Nat} (hi : i < 2147483648) : (nI i < (50 : Int32)) ↔ i < 50 := nI_ltI (b := 50) hi (by omega)
theorem eq50 {i : Nat} (hi : i < 2147483648) : (nI i = (50 : Int32)) ↔ i = 50 := nI_eq (b := 50) hi (by omega)
theorem ge90 {i : Nat} (hi : i < 2147483648) : ((90 : Int32) ≤ nI i) ↔ 90 ≤ i := nI_leI (a := 90) (by omega) hi
theorem gt90 {i : Nat} (hi : i < 2147483648) : ((90 : Int32) < nI i) ↔ 90 < i := nI_ltI (a := 90) (by omega) hi
theorem le90 {i : Nat} (hi : i < 2147483648) : (nI i ≤ (90 : Int32)) ↔ i ≤ 90 := nI_leI (b := 90) hi (by omega)
theorem lt90 {i : Nat} (hi : i < 2147483648) : (nI i < (90 : Int32)) ↔ i < 90 := nI_ltI (b := 90) hi (by omega)
theorem eq90 {i : Nat} (hi : i < 2147483648) : (nI i = (90 : Int32)) ↔ i = 90 := nI_eq (b := 90) hi (by omega)
theorem eq0 {i : Nat} (hi : i < 2147483648) : (nI i = (0 : Int32)) ↔ i = 0 := nI_eq (b := 0) hi (by omega)
theorem lt0 {i : Nat} (hi : i < 2147483648) : (nI i < (0 : Int32)) ↔ False := iff_of_false (nI_pos hi) id
theorem ge0 {i : Nat} (hi : i < 2147483648) : ((0 : Int32) ≤ nI i) ↔ True := iff_of_true (nI_pos' hi) trivial
theorem gt0 {i : Nat} (hi : i < 2147483648) : ((0 : Int32) < nI i) ↔ 0 < i := nI_ltI (a := 0) (by omega) hi
theorem le0 {i : Nat} (hi : i < 2147483648) : (nI i ≤ (0 : Int32)) ↔ i ≤ 0 := nI_leI (b := 0) hi (by omega)
theorem n1 : nI 1 = 1 := rfl
theorem n2 : nI 2 = 2 := rfl
theorem n3 : nI 3 = 3 := rfl
theorem n4 : nI 4 = 4 := rfl
theorem n5 : nI 5 = 5 := rfl
theorem n6 : nI 6 = 6 := rfl
theorem n7 : nI 7 = 7 := rfl
theorem n8 : nI 8 = 8 := rfl
theorem n9 : nI 9 = 9 := rfl
theorem for_up {n : Nat} (P : Nat → Prop) (hend : P n) (hstep : ∀ i, i < n → P (i + 1) → P i) : ∀ i, i ≤ n → P i := by
  intro i hi
  have key : ∀ m i, i ≤ n → n - i = m → P i := by
    intro m
    induction m with
    | zero =>
      intro i hi hm
      have e : i = n := by omega
      rw [e]; exact hend
    | succ m ih =>
      intro i hi hm
      exact hstep i (by omega) (ih (i + 1) (by omega) (by omega))
  exact key _ i hi rfl
theorem rem_nI {a d : Nat} (ha : a < 2147483648) (h0 : 0 < d) (hd : d < 2147483648) : nI a - nI a / nI d * nI d = nI (a % d) := pk_rem ha h0 hd
section LA
variable {y a : Nat} {k0 : Int32} {t : List Nat} {r : List Ins} {L s : List Value} {σ : Sg} {Q : Value → Sg → Prop}
theorem a49L0 {k : Nat} (h : 0 < alen k) (hk : alen k < 10000) : Ev y ((49, a, k0, t) :: r) L (.int 0 :: .ref k :: s) σ Q = Ev y r L (.int (σ k 0) :: s) σ Q := a49 (n := 0) h hk
theorem a50L0 {k : Nat} {x : Int32} (h : 0 < alen k) (hk : alen k < 10000) : Ev y ((50, a, k0, t) :: r) L (.int x :: .int 0 :: .ref k :: s) σ Q = Ev y r L s (up2 σ k 0 x) Q := a50 (n := 0) h hk
theorem a49L1 {k : Nat} (h : 1 < alen k) (hk : alen k < 10000) : Ev y ((49, a, k0, t) :: r) L (.int 1 :: .ref k :: s) σ Q = Ev y r L (.int (σ k 1) :: s) σ Q := a49 (n := 1) h hk
theorem a50L1 {k : Nat} {x : Int32} (h : 1 < alen k) (hk : alen k < 10000) : Ev y ((50, a, k0, t) :: r) L (.int x :: .int 1 :: .ref k :: s) σ Q = Ev y r L s (up2 σ k 1 x) Q := a50 (n := 1) h hk
theorem a49L2 {k : Nat} (h : 2 < alen k) (hk : alen k < 10000) : Ev y ((49, a, k0, t) :: r) L (.int 2 :: .ref k :: s) σ Q = Ev y r L (.int (σ k 2) :: s) σ Q := a49 (n := 2) h hk
theorem a50L2 {k : Nat} {x : Int32} (h : 2 < alen k) (hk : alen k < 10000) : Ev y ((50, a, k0, t) :: r) L (.int x :: .int 2 :: .ref k :: s) σ Q = Ev y r L s (up2 σ k 2 x) Q := a50 (n := 2) h hk
theorem a49L3 {k : Nat} (h : 3 < alen k) (hk : alen k < 10000) : Ev y ((49, a, k0, t) :: r) L (.int 3 :: .ref k :: s) σ Q = Ev y r L (.int (σ k 3) :: s) σ Q := a49 (n := 3) h hk
theorem a50L3 {k : Nat} {x : Int32} (h : 3 < alen k) (hk : alen k < 10000) : Ev y ((50, a, k0, t) :: r) L (.int x :: .int 3 :: .ref k :: s) σ Q = Ev y r L s (up2 σ k 3 x) Q := a50 (n := 3) h hk
theorem a49L4 {k : Nat} (h : 4 < alen k) (hk : alen k < 10000) : Ev y ((49, a, k0, t) :: r) L (.int 4 :: .ref k :: s) σ Q = Ev y r L (.int (σ k 4) :: s) σ Q := a49 (n := 4) h hk
theorem a50L4 {k : Nat} {x : Int32} (h : 4 < alen k) (hk : alen k < 10000) : Ev y ((50, a, k0, t) :: r) L (.int x :: .int 4 :: .ref k :: s) σ Q = Ev y r L s (up2 σ k 4 x) Q := a50 (n := 4) h hk
theorem a49L5 {k : Nat} (h : 5 < alen k) (hk : alen k < 10000) : Ev y ((49, a, k0, t) :: r) L (.int 5 :: .ref k :: s) σ Q = Ev y r L (.int (σ k 5) :: s) σ Q := a49 (n := 5) h hk
theorem a50L5 {k : Nat} {x : Int32} (h : 5 < alen k) (hk : alen k < 10000) : Ev y ((50, a, k0, t) :: r) L (.int x :: .int 5 :: .ref k :: s) σ Q = Ev y r L s (up2 σ k 5 x) Q := a50 (n := 5) h hk
theorem a49L6 {k : Nat} (h : 6 < alen k) (hk : alen k < 10000) : Ev y ((49, a, k0, t) :: r) L (.int 6 :: .ref k :: s) σ Q = Ev y r L (.int (σ k 6) :: s) σ Q := a49 (n := 6) h hk
theorem a50L6 {k : Nat} {x : Int32} (h : 6 < alen k) (hk : alen k < 10000) : Ev y ((50, a, k0, t) :: r) L (.int x :: .int 6 :: .ref k :: s) σ Q = Ev y r L s (up2 σ k 6 x) Q := a50 (n := 6) h hk
theorem a49L7 {k : Nat} (h : 7 < alen k) (hk : alen k < 10000) : Ev y ((49, a, k0, t) :: r) L (.int 7 :: .ref k :: s) σ Q = Ev y r L (.int (σ k 7) :: s) σ Q := a49 (n := 7) h hk
theorem a50L7 {k : Nat} {x : Int32} (h : 7 < alen k) (hk : alen k < 10000) : Ev y ((50, a, k0, t) :: r) L (.int x :: .int 7 :: .ref k :: s) σ Q = Ev y r L s (up2 σ k 7 x) Q := a50 (n := 7) h hk
theorem a49L8 {k : Nat} (h : 8 < alen k) (hk : alen k < 10000) : Ev y ((49, a, k0, t) :: r) L (.int 8 :: .ref k :: s) σ Q = Ev y r L (.int (σ k 8) :: s) σ Q := a49 (n := 8) h hk
theorem a50L8 {k : Nat} {x : Int32} (h : 8 < alen k) (hk : alen k < 10000) : Ev y ((50, a, k0, t) :: r) L (.int x :: .int 8 :: .ref k :: s) σ Q = Ev y r L s (up2 σ k 8 x) Q := a50 (n := 8) h hk
theorem a49L9 {k : Nat} (h : 9 < alen k) (hk : alen k < 10000) : Ev y ((49, a, k0, t) :: r) L (.int 9 :: .ref k :: s) σ Q = Ev y r L (.int (σ k 9) :: s) σ Q := a49 (n := 9) h hk
theorem a50L9 {k : Nat} {x : Int32} (h : 9 < alen k) (hk : alen k < 10000) : Ev y ((50, a, k0, t) :: r) L (.int x :: .int 9 :: .ref k :: s) σ Q = Ev y r L s (up2 σ k 9 x) Q := a50 (n := 9) h hk
end LA
theorem ad3 (i : Nat) : (3 : Int32) + nI i = nI (3 + i) := nI_add 3 i
theorem ad9 (i : Nat) : (9 : Int32) + nI i = nI (9 + i) := nI_add 9 i
theorem ad15 (i : Nat) : (15 : Int32) + nI i = nI (15 + i) := nI_add 15 i
theorem ad21 (i : Nat) : (21 : Int32) + nI i = nI (21 + i) := nI_add 21 i
theorem ad31 (i : Nat) : (31 : Int32) + nI i = nI (31 + i) := nI_add 31 i
theorem su2 (i : Nat) : nI i + (2 : Int32) = nI (i + 2) := nI_add i 2
theorem su3 (i : Nat) : nI i + (3 : Int32) = nI (i + 3) := nI_add i 3
theorem su4 (i : Nat) : nI i + (4 : Int32) = nI (i + 4) := nI_add i 4
theorem su5 (i : Nat) : nI i + (5 : Int32) = nI (i + 5) := nI_add i 5
theorem su6 (i : Nat) : nI i + (6 : Int32) = nI (i + 6) := nI_add i 6
theorem su7 (i : Nat) : nI i + (7 : Int32) = nI (i + 7) := nI_add i 7
theorem su8 (i : Nat) : nI i + (8 : Int32) = nI (i + 8) := nI_add i 8
theorem su9 (i : Nat) : nI i + (9 : Int32) = nI (i + 9) := nI_add i 9
theorem mu5 (i : Nat) : (5 : Int32) * nI i = nI (5 * i) := pk_mul 5 i
theorem mu6 (i : Nat) : (6 : Int32) * nI i = nI (6 * i) := pk_mul 6 i
theorem mu7 (i : Nat) : (7 : Int32) * nI i = nI (7 * i) := pk_mul 7 i
theorem mu40 (i : Nat) : (40 : Int32) * nI i = nI (40 * i) := pk_mul 40 i
theorem upM {σ : Sg} {k i : Nat} {ρ : Nat → Int32} {x : Int32} : up2 (upA σ k ρ) k i x = upA σ k (upd ρ i x) := by
  rw [up2_upA, upA_eq]
  funext j
  by_cases h : j = k
  · subst h; rw [upA_eq, upA_eq]
  · rw [upA_ne h, upA_ne h, upA_ne h]
theorem upA_upA {σ : Sg} {k : Nat} {f g : Nat → Int32} : upA (upA σ k f) k g = upA σ k g := by
  funext j
  by_cases h : j = k
  · subst h; rw [upA_eq, upA_eq]
  · rw [upA_ne h, upA_ne h, upA_ne h]
theorem upA_self {σ : Sg} {k : Nat} : upA σ k (σ k) = σ := by
  funext j
  by_cases h : j = k
  · subst h; rw [upA_eq]
  · rw [upA_ne h]
theorem T0 {i : Nat} (hi : i < 8) : isT (6 + i) := isT_of (b := 0) (p := i) (by unfold isB; omega) hi
theorem sbT0 {σ : Sg} {p f : Nat} {ρ : Nat → Int32} (hp : p < 8) (hf : f < 7) : setB σ 0 ρ (6 + p) f = pt ρ p f := sbT (b := 0) hp hf
theorem upT0 {σ : Sg} {p f : Nat} {ρ : Nat → Int32} {x : Int32} (hp : p < 8) (hf : f < 7) : up2 (setB σ 0 ρ) (6 + p) f x = setB σ 0 (upd ρ (31 + 7 * p + f) x) := upT (b := 0) hp hf
theorem T14 {i : Nat} (hi : i < 8) : isT (20 + i) := isT_of (b := 14) (p := i) (by unfold isB; omega) hi
theorem sbT14 {σ : Sg} {p f : Nat} {ρ : Nat → Int32} (hp : p < 8) (hf : f < 7) : setB σ 14 ρ (20 + p) f = pt ρ p f := sbT (b := 14) hp hf
theorem upT14 {σ : Sg} {p f : Nat} {ρ : Nat → Int32} {x : Int32} (hp : p < 8) (hf : f < 7) : up2 (setB σ 14 ρ) (20 + p) f x = setB σ 14 (upd ρ (31 + 7 * p + f) x) := upT (b := 14) hp hf
theorem T28 {i : Nat} (hi : i < 8) : isT (34 + i) := isT_of (b := 28) (p := i) (by unfold isB; omega) hi
theorem sbT28 {σ : Sg} {p f : Nat} {ρ : Nat → Int32} (hp : p < 8) (hf : f < 7) : setB σ 28 ρ (34 + p) f = pt ρ p f := sbT (b := 28) hp hf
theorem upT28 {σ : Sg} {p f : Nat} {ρ : Nat → Int32} {x : Int32} (hp : p < 8) (hf : f < 7) : up2 (setB σ 28 ρ) (34 + p) f x = setB σ 28 (upd ρ (31 + 7 * p + f) x) := upT (b := 28) hp hf
