/-! rows of 87 numbers: what a borough is -/
def pt (ρ : Nat → Int32) (p f : Nat) : Int32 := ρ (31 + 7 * p + f)
def num (ρ : Nat → Int32) : Nat := (ρ 1).toNatClampNeg
def ix (b k j : Nat) : Option Nat :=
  if k < b then none else if k = b then (if j = 5 then some 1 else if j = 6 then some 0 else if j = 7 then some 2 else none)
  else if k = b + 1 then (if j < 6 then some (9 + j) else none) else if k = b + 2 then (if j < 6 then some (15 + j) else none)
  else if k = b + 3 then (if j < 6 then some (3 + j) else none) else if k = b + 4 then (if j < 10 then some (21 + j) else none)
  else if k = b + 5 then none else if k < b + 14 then (if j < 7 then some (31 + 7 * (k - (b + 6)) + j) else none) else none
def xk (b i : Nat) : Nat := if i < 3 then b else if i < 9 then b + 3 else if i < 15 then b + 1 else if i < 21 then b + 2 else if i < 31 then b + 4 else b + 6 + (i - 31) / 7
def xj (i : Nat) : Nat := if i = 0 then 6 else if i = 1 then 5 else if i = 2 then 7 else if i < 9 then i - 3 else if i < 15 then i - 9 else if i < 21 then i - 15 else if i < 31 then i - 21 else (i - 31) % 7
theorem ix_x {b k j i : Nat} (h : ix b k j = some i) : i < 87 ∧ xk b i = k ∧ xj i = j := by
  unfold ix at h
  by_cases h1 : k < b
  · rw [if_pos h1] at h; cases h
  rw [if_neg h1] at h
  by_cases h2 : k = b
  · subst h2
    rw [if_pos rfl] at h
    by_cases j5 : j = 5
    · subst j5; cases h; exact ⟨by omega, rfl, rfl⟩
    rw [if_neg j5] at h
    by_cases j6 : j = 6
    · subst j6; cases h; exact ⟨by omega, rfl, rfl⟩
    rw [if_neg j6] at h
    by_cases j7 : j = 7
    · subst j7; cases h; exact ⟨by omega, rfl, rfl⟩
    rw [if_neg j7] at h; cases h
  rw [if_neg h2] at h
  have fin : ∀ (c N lo : Nat), (if j < N then some (lo + j) else none) = some i → i = lo + j ∧ j < N := by
    intro c N lo h
    by_cases hj : j < N
    · rw [if_pos hj] at h; cases h; exact ⟨rfl, hj⟩
    · rw [if_neg hj] at h; cases h
  by_cases h3 : k = b + 1
  · rw [if_pos h3] at h
    obtain ⟨rfl, hj⟩ := fin 0 _ _ h
    refine ⟨by omega, ?_, ?_⟩
    · unfold xk; rw [if_neg (by omega), if_neg (by omega), if_pos (by omega)]; omega
    · unfold xj; rw [if_neg (by omega), if_neg (by omega), if_neg (by omega), if_neg (by omega), if_pos (by omega)]; omega
  rw [if_neg h3] at h
  by_cases h4 : k = b + 2
  · rw [if_pos h4] at h
    obtain ⟨rfl, hj⟩ := fin 0 _ _ h
    refine ⟨by omega, ?_, ?_⟩
    · unfold xk; rw [if_neg (by omega), if_neg (by omega), if_neg (by omega), if_pos (by omega)]; omega
    · unfold xj; rw [if_neg (by omega), if_neg (by omega), if_neg (by omega), if_neg (by omega), if_neg (by omega), if_pos (by omega)]; omega
  rw [if_neg h4] at h
  by_cases h5 : k = b + 3
  · rw [if_pos h5] at h
    obtain ⟨rfl, hj⟩ := fin 0 _ _ h
    refine ⟨by omega, ?_, ?_⟩
    · unfold xk; rw [if_neg (by omega), if_pos (by omega)]; omega
    · unfold xj; rw [if_neg (by omega), if_neg (by omega), if_neg (by omega), if_pos (by omega)]; omega
  rw [if_neg h5] at h
  by_cases h6 : k = b + 4
  · rw [if_pos h6] at h
    obtain ⟨rfl, hj⟩ := fin 0 _ _ h
    refine ⟨by omega, ?_, ?_⟩
    · unfold xk; rw [if_neg (by omega), if_neg (by omega), if_neg (by omega), if_neg (by omega), if_pos (by omega)]; omega
    · unfold xj; rw [if_neg (by omega), if_neg (by omega), if_neg (by omega), if_neg (by omega), if_neg (by omega), if_neg (by omega), if_pos (by omega)]; omega
  rw [if_neg h6] at h
  by_cases h7 : k = b + 5
  · rw [if_pos h7] at h; cases h
  rw [if_neg h7] at h
  by_cases h8 : k < b + 14
  · rw [if_pos h8] at h
    obtain ⟨rfl, hj⟩ := fin 0 _ _ h
    refine ⟨by omega, ?_, ?_⟩
    · unfold xk; rw [if_neg (by omega), if_neg (by omega), if_neg (by omega), if_neg (by omega), if_neg (by omega)]; omega
    · unfold xj; rw [if_neg (by omega), if_neg (by omega), if_neg (by omega), if_neg (by omega), if_neg (by omega), if_neg (by omega), if_neg (by omega)]; omega
  · rw [if_neg h8] at h; cases h
theorem ixT {b p f : Nat} (hp : p < 8) (hf : f < 7) : ix b (b + 6 + p) f = some (31 + 7 * p + f) := by
  unfold ix
  rw [if_neg (by omega), if_neg (by omega), if_neg (by omega), if_neg (by omega), if_neg (by omega), if_neg (by omega), if_neg (by omega), if_pos (by omega), if_pos hf]
  congr 1; omega
theorem ix5 {b : Nat} : ix b b 5 = some 1 := by simp [ix]
theorem ix6 {b : Nat} : ix b b 6 = some 0 := by simp [ix]
theorem ix7 {b : Nat} : ix b b 7 = some 2 := by simp [ix]
theorem ixV {b n : Nat} (h : n < 6) : ix b (b + 1) n = some (9 + n) := by
  unfold ix
  rw [if_neg (by omega), if_neg (by omega), if_pos rfl, if_pos h]
theorem ixU {b n : Nat} (h : n < 6) : ix b (b + 2) n = some (15 + n) := by
  unfold ix
  rw [if_neg (by omega), if_neg (by omega), if_neg (by omega), if_pos rfl, if_pos h]
theorem ixL {b n : Nat} (h : n < 6) : ix b (b + 3) n = some (3 + n) := by
  unfold ix
  rw [if_neg (by omega), if_neg (by omega), if_neg (by omega), if_neg (by omega), if_pos rfl, if_pos h]
theorem ixP {b n : Nat} (h : n < 10) : ix b (b + 4) n = some (21 + n) := by
  unfold ix
  rw [if_neg (by omega), if_neg (by omega), if_neg (by omega), if_neg (by omega), if_neg (by omega), if_pos rfl, if_pos h]
def bor (σ : Sg) (b : Nat) : Nat → Int32 := fun i => σ (xk b i) (xj i)
def setB (σ : Sg) (b : Nat) (ρ : Nat → Int32) : Sg := fun k j => match ix b k j with
  | some i => ρ i
  | none => σ k j
theorem setB_in {σ : Sg} {b k j i : Nat} {ρ : Nat → Int32} (h : ix b k j = some i) : setB σ b ρ k j = ρ i := by
  unfold setB; rw [h]
theorem setB_no {σ : Sg} {b k j : Nat} {ρ : Nat → Int32} (h : ix b k j = none) : setB σ b ρ k j = σ k j := by
  unfold setB; rw [h]
theorem setB_bor (σ : Sg) (b : Nat) : setB σ b (bor σ b) = σ := by
  funext k j
  cases h : ix b k j with
  | none => exact setB_no h
  | some i =>
    obtain ⟨-, h1, h2⟩ := ix_x h
    rw [setB_in h]
    unfold bor
    rw [h1, h2]
theorem setB_out {σ : Sg} {b k : Nat} {ρ : Nat → Int32} (h : k < b ∨ b + 14 ≤ k) : setB σ b ρ k = σ k := by
  funext j
  refine setB_no ?_
  unfold ix
  rcases h with h | h
  · rw [if_pos h]
  · rw [if_neg (by omega), if_neg (by omega), if_neg (by omega), if_neg (by omega), if_neg (by omega), if_neg (by omega), if_neg (by omega), if_neg (by omega)]
theorem sbT {σ : Sg} {b p f : Nat} {ρ : Nat → Int32} (hp : p < 8) (hf : f < 7) : setB σ b ρ (b + 6 + p) f = pt ρ p f := setB_in (ixT hp hf)
theorem sb5 {σ : Sg} {b : Nat} {ρ : Nat → Int32} : setB σ b ρ b 5 = ρ 1 := setB_in ix5
theorem sb6 {σ : Sg} {b : Nat} {ρ : Nat → Int32} : setB σ b ρ b 6 = ρ 0 := setB_in ix6
theorem sb7 {σ : Sg} {b : Nat} {ρ : Nat → Int32} : setB σ b ρ b 7 = ρ 2 := setB_in ix7
theorem sbV {σ : Sg} {b n : Nat} {ρ : Nat → Int32} (h : n < 6) : setB σ b ρ (b + 1) n = ρ (9 + n) := setB_in (ixV h)
theorem sbU {σ : Sg} {b n : Nat} {ρ : Nat → Int32} (h : n < 6) : setB σ b ρ (b + 2) n = ρ (15 + n) := setB_in (ixU h)
theorem sbL {σ : Sg} {b n : Nat} {ρ : Nat → Int32} (h : n < 6) : setB σ b ρ (b + 3) n = ρ (3 + n) := setB_in (ixL h)
theorem sbP {σ : Sg} {b n : Nat} {ρ : Nat → Int32} (h : n < 10) : setB σ b ρ (b + 4) n = ρ (21 + n) := setB_in (ixP h)
theorem setB_ext {σ : Sg} {b : Nat} {ρ ρ' : Nat → Int32} (h : ∀ i, i < 87 → ρ i = ρ' i) : setB σ b ρ = setB σ b ρ' := by
  funext k j
  cases hx : ix b k j with
  | none => rw [setB_no hx, setB_no hx]
  | some i => rw [setB_in hx, setB_in hx]; exact h i (ix_x hx).1
theorem setB_setB {σ : Sg} {b : Nat} {ρ ρ' : Nat → Int32} : setB (setB σ b ρ) b ρ' = setB σ b ρ' := by
  funext k j
  cases hx : ix b k j with
  | none => rw [setB_no hx, setB_no hx, setB_no hx]
  | some i => rw [setB_in hx, setB_in hx]
theorem up_ix {σ : Sg} {b k j i : Nat} {ρ : Nat → Int32} {x : Int32} (h : ix b k j = some i) : up2 (setB σ b ρ) k j x = setB σ b (upd ρ i x) := by
  funext k' j'
  obtain ⟨-, h1, h2⟩ := ix_x h
  cases hx : ix b k' j' with
  | none =>
    rw [setB_no hx]
    have hn : ¬ (k' = k ∧ j' = j) := by
      rintro ⟨rfl, rfl⟩
      rw [h] at hx; cases hx
    simp only [up2]
    rw [if_neg hn, setB_no hx]
  | some i' =>
    obtain ⟨-, h3, h4⟩ := ix_x hx
    rw [setB_in hx]
    simp only [up2, upd]
    by_cases e : i' = i
    · subst e
      rw [if_pos rfl, if_pos ⟨h3.symm.trans h1, h4.symm.trans h2⟩]
    · have hn : ¬ (k' = k ∧ j' = j) := by
        rintro ⟨rfl, rfl⟩
        rw [h] at hx; cases hx; exact e rfl
      rw [if_neg e, if_neg hn, setB_in hx]
theorem upT {σ : Sg} {b p f : Nat} {ρ : Nat → Int32} {x : Int32} (hp : p < 8) (hf : f < 7) : up2 (setB σ b ρ) (b + 6 + p) f x = setB σ b (upd ρ (31 + 7 * p + f) x) := up_ix (ixT hp hf)
theorem up5 {σ : Sg} {b : Nat} {ρ : Nat → Int32} {x : Int32} : up2 (setB σ b ρ) b 5 x = setB σ b (upd ρ 1 x) := up_ix ix5
theorem up6 {σ : Sg} {b : Nat} {ρ : Nat → Int32} {x : Int32} : up2 (setB σ b ρ) b 6 x = setB σ b (upd ρ 0 x) := up_ix ix6
theorem up7 {σ : Sg} {b : Nat} {ρ : Nat → Int32} {x : Int32} : up2 (setB σ b ρ) b 7 x = setB σ b (upd ρ 2 x) := up_ix ix7
theorem upV {σ : Sg} {b n : Nat} {ρ : Nat → Int32} {x : Int32} (h : n < 6) : up2 (setB σ b ρ) (b + 1) n x = setB σ b (upd ρ (9 + n) x) := up_ix (ixV h)
theorem upU {σ : Sg} {b n : Nat} {ρ : Nat → Int32} {x : Int32} (h : n < 6) : up2 (setB σ b ρ) (b + 2) n x = setB σ b (upd ρ (15 + n) x) := up_ix (ixU h)
theorem upL {σ : Sg} {b n : Nat} {ρ : Nat → Int32} {x : Int32} (h : n < 6) : up2 (setB σ b ρ) (b + 3) n x = setB σ b (upd ρ (3 + n) x) := up_ix (ixL h)
theorem upP {σ : Sg} {b n : Nat} {ρ : Nat → Int32} {x : Int32} (h : n < 10) : up2 (setB σ b ρ) (b + 4) n x = setB σ b (upd ρ (21 + n) x) := up_ix (ixP h)
theorem pt_upd {ρ : Nat → Int32} {p q f h : Nat} {x : Int32} (hf : f < 7) (hh : h < 7) : pt (upd ρ (31 + 7 * p + f) x) q h = if q = p ∧ h = f then x else pt ρ q h := by
  unfold pt upd
  by_cases e : q = p ∧ h = f
  · obtain ⟨rfl, rfl⟩ := e
    simp
  · rw [if_neg e, if_neg (by omega)]
-- numbers: a counter against a written number
theorem lit_lt {n i : Nat} (hi : i < 2147483648) (hn : n < 2147483648) : (nI i < (OfNat.ofNat n : Int32)) ↔ i < n := nI_ltI hi hn
theorem lit_le {n i : Nat} (hi : i < 2147483648) (hn : n < 2147483648) : (nI i ≤ (OfNat.ofNat n : Int32)) ↔ i ≤ n := nI_leI hi hn
theorem lit_gt {n i : Nat} (hi : i < 2147483648) (hn : n < 2147483648) : ((OfNat.ofNat n : Int32) < nI i) ↔ n < i := nI_ltI hn hi
theorem lit_ge {n i : Nat} (hi : i < 2147483648) (hn : n < 2147483648) : ((OfNat.ofNat n : Int32) ≤ nI i) ↔ n ≤ i := nI_leI hn hi
theorem lit_eq {n i : Nat} (hi : i < 2147483648) (hn : n < 2147483648) : (nI i = (OfNat.ofNat n : Int32)) ↔ i = n := nI_eq hi hn
theorem n1 : nI 1 = 1 := rfl
theorem n2 : nI 2 = 2 := rfl
theorem n3 : nI 3 = 3 := rfl
theorem n4 : nI 4 = 4 := rfl
theorem n5 : nI 5 = 5 := rfl
theorem n6 : nI 6 = 6 := rfl
theorem n7 : nI 7 = 7 := rfl
theorem n8 : nI 8 = 8 := rfl
theorem n9 : nI 9 = 9 := rfl
theorem for_up {n : Nat} (P : Nat → Prop) (hend : P n) (hstep : ∀ i, i < n → P (i + 1) → P i) : ∀ i, i ≤ n → P i := by
  intro i hi
  have key : ∀ m i, i ≤ n → n - i = m → P i := by
    intro m
    induction m with
    | zero =>
      intro i hi hm
      have e : i = n := by omega
      rw [e]; exact hend
    | succ m ih =>
      intro i hi hm
      exact hstep i (by omega) (ih (i + 1) (by omega) (by omega))
  exact key _ i hi rfl
theorem rem_nI {a d : Nat} (ha : a < 2147483648) (h0 : 0 < d) (hd : d < 2147483648) : nI a - nI a / nI d * nI d = nI (a % d) := pk_rem ha h0 hd
