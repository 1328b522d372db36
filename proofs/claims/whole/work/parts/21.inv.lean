/-! how the class's state and the reference's agree, and what may differ -/
/-- what no answer shows: the dream, the row aside, moved numbers, items, tokens -/
def nscr (k j : Nat) : Prop := (k < 28 ∨ 42 ≤ k) ∧ k ≠ 58 ∧ k ≠ 66 ∧ k ≠ 62 ∧ (k = 43 → j ≤ 1) ∧ (k = 55 → j ≤ 6 ∨ j = 12 ∨ j = 13 ∨ 16 ≤ j)
def sim (σ σ' : Sg) : Prop := ∀ k j, nscr k j → σ' k j = σ k j
theorem sim_rf (σ : Sg) : sim σ σ := fun _ _ _ => rfl
theorem sim_tr {a b c : Sg} (h : sim a b) (h2 : sim b c) : sim a c := fun k j hk => (h2 k j hk).trans (h k j hk)
theorem sim_B (σ : Sg) (ρ : Nat → Int32) : sim σ (setB σ 28 ρ) := fun k j hk => by
  unfold nscr at hk
  rw [setB_out (by omega)]
theorem sim_A (σ : Sg) (f : Nat → Int32) : sim σ (upA σ 58 f) := fun k j hk => by
  unfold nscr at hk
  rw [upA_ne (by omega)]
theorem sim_up {σ : Sg} {k0 j0 : Nat} {x : Int32} (h : ¬ nscr k0 j0) : sim σ (up2 σ k0 j0 x) := fun k j hk => by
  simp only [up2]
  rw [if_neg]
  rintro ⟨rfl, rfl⟩
  exact h hk
theorem sim_row {σ σ' : Sg} (h : sim σ σ') {k : Nat} (hk : (k < 28 ∨ 42 ≤ k) ∧ k ≠ 58 ∧ k ≠ 66 ∧ k ≠ 62 ∧ k ≠ 43 ∧ k ≠ 55) : σ' k = σ k := by
  funext j
  exact h k j (by unfold nscr; omega)
def fsum (σ : Sg) : Nat → Int32
  | 0 => 0
  | n + 1 => fsum σ n + σ 45 n
def RowsOK (σ : Sg) : Prop := RowOK (σ 56) ∧ setB σ 0 (σ 56) = σ
def KeptOK (σ : Sg) : Prop := (σ 42 6 = 1 ∧ σ 55 3 = 1 ∧ RowOK (σ 57) ∧ setB σ 14 (σ 57) = σ) ∨ (σ 42 6 = 0 ∧ σ 55 3 = 0)
def TapeOK (σ : Sg) : Prop := ∃ n, n ≤ 120 ∧ σ 43 1 = nI n ∧ σ 55 6 = nI n ∧ ∀ i, i < n → σ 44 i = σ 60 i ∧ ∃ c, c < 256 ∧ σ 44 i = nI c
def SheetOK (σ : Sg) : Prop := ∀ q, q < 4 → σ (47 + q) 1 = σ 63 q ∧ σ (47 + q) 2 = σ 64 q ∧ (∃ n, n ≤ 40 ∧ σ 64 q = nI n ∧ (σ 63 q = 0 → n = 0)) ∧ (σ 63 q = 0 ∨ σ 63 q = 8 ∨ σ 63 q = 16 ∨ σ 63 q = 32) ∧ ∀ i, i < 40 → σ (51 + q) i = σ 65 (40 * q + i)
def FindOK (σ : Sg) : Prop := (∀ i, i < 7 → σ 45 i = σ 59 (i + 1)) ∧ σ 59 0 = fsum σ 7
def InvS (σ : Sg) : Prop := RowsOK σ ∧ KeptOK σ ∧ TapeOK σ ∧ SheetOK σ
def Inv (σ : Sg) : Prop := InvS σ ∧ FindOK σ
/-- the same but for the scratch and the findings -/
def simF (σ σ' : Sg) : Prop := ∀ k j, nscr k j → k ≠ 45 → k ≠ 59 → σ' k j = σ k j
theorem simF_of {σ σ' : Sg} (h : sim σ σ') : simF σ σ' := fun k j hk _ _ => h k j hk
theorem simF_tr {a b c : Sg} (h : simF a b) (h2 : simF b c) : simF a c := fun k j hk h3 h4 => (h2 k j hk h3 h4).trans (h k j hk h3 h4)
theorem simF_row {σ σ' : Sg} (h : simF σ σ') {k : Nat} (hk : (k < 28 ∨ 42 ≤ k) ∧ k ≠ 58 ∧ k ≠ 66 ∧ k ≠ 62 ∧ k ≠ 43 ∧ k ≠ 55 ∧ k ≠ 45 ∧ k ≠ 59) : σ' k = σ k := by
  funext j
  exact h k j (by unfold nscr; omega) (by omega) (by omega)
theorem setB_sim {σ σ' : Sg} {b : Nat} {ρ : Nat → Int32} (h : setB σ b ρ = σ) (hs : ∀ k, b ≤ k → k < b + 14 → σ' k = σ k) : setB σ' b ρ = σ' := by
  funext k j
  cases hx : ix b k j with
  | none => exact setB_no hx
  | some i =>
    have hk : b ≤ k ∧ k < b + 14 := by
      rcases Nat.lt_or_ge k b with h1 | h1
      · unfold ix at hx; rw [if_pos h1] at hx; cases hx
      · rcases Nat.lt_or_ge k (b + 14) with h2 | h2
        · exact ⟨h1, h2⟩
        · unfold ix at hx
          rw [if_neg (by omega), if_neg (by omega), if_neg (by omega), if_neg (by omega), if_neg (by omega), if_neg (by omega), if_neg (by omega), if_neg (by omega)] at hx
          cases hx
    rw [setB_in hx, hs k hk.1 hk.2, ← h, setB_in hx]
theorem InvS_simF {σ σ' : Sg} (h : InvS σ) (hs : simF σ σ') : InvS σ' := by
  obtain ⟨⟨r1, r2⟩, hk, ht, hsh⟩ := h
  have e56 := simF_row hs (k := 56) (by omega)
  have e57 := simF_row hs (k := 57) (by omega)
  refine ⟨⟨by rw [e56]; exact r1, by rw [e56]; exact setB_sim r2 (fun k h1 h2 => simF_row hs (by omega))⟩, ?_, ?_, ?_⟩
  · unfold KeptOK
    rw [hs 42 6 (by unfold nscr; omega) (by omega) (by omega), hs 55 3 (by unfold nscr; omega) (by omega) (by omega), e57]
    rcases hk with ⟨a, b, c, d⟩ | h
    · exact Or.inl ⟨a, b, c, setB_sim d (fun k h1 h2 => simF_row hs (by omega))⟩
    · exact Or.inr h
  · unfold TapeOK
    rw [hs 43 1 (by unfold nscr; omega) (by omega) (by omega), hs 55 6 (by unfold nscr; omega) (by omega) (by omega), simF_row hs (k := 44) (by omega), simF_row hs (k := 60) (by omega)]
    exact ht
  · intro q hq
    rw [simF_row hs (k := 47 + q) (by omega), simF_row hs (k := 51 + q) (by omega), simF_row hs (k := 63) (by omega), simF_row hs (k := 64) (by omega), simF_row hs (k := 65) (by omega)]
    exact hsh q hq
def fnd (σ : Sg) (i : Nat) : Sg := up2 σ 45 i (σ 45 i + 1)
def mnd (σ : Sg) (i : Nat) : Sg := up2 (up2 σ 59 (i + 1) (σ 59 (i + 1) + 1)) 59 0 (σ 59 0 + 1)
def fv (i : Nat) : Int32 := -1000001 - nI i
theorem simF_fnd (σ : Sg) (i : Nat) : simF σ (fnd σ i) := fun k j _ h1 _ => by
  unfold fnd
  rw [up2_ne h1]
theorem simF_mnd (σ : Sg) (i : Nat) : simF σ (mnd σ i) := fun k j _ _ h1 => by
  unfold mnd
  rw [up2_ne h1, up2_ne h1]
theorem fsum_ext {σ σ' : Sg} (h : σ' 45 = σ 45) : ∀ n, fsum σ' n = fsum σ n := by
  intro n
  induction n with
  | zero => rfl
  | succ n ih => simp only [fsum, ih, h]
theorem fsum_fnd (σ : Sg) (i : Nat) : ∀ n, fsum (fnd σ i) n = if i < n then fsum σ n + 1 else fsum σ n := by
  intro n
  induction n with
  | zero => rfl
  | succ n ih =>
    simp only [fsum]
    rw [ih]
    have e : fnd σ i 45 n = if n = i then σ 45 i + 1 else σ 45 n := by
      unfold fnd up2
      by_cases h : n = i
      · subst h; simp
      · simp [h]
    rw [e]
    by_cases h : n = i
    · subst h
      rw [if_neg (by omega), if_pos rfl, if_pos (by omega)]
      exact (Int32.add_assoc _ _ _).symm
    · rw [if_neg h]
      by_cases h2 : i < n
      · rw [if_pos h2, if_pos (by omega), Int32.add_assoc, Int32.add_assoc, Int32.add_comm 1]
      · rw [if_neg h2, if_neg (by omega)]
theorem Find_pair {σ σ1 σ2 : Sg} {i : Nat} (h : FindOK σ) (hi : i < 7) (h1 : sim (fnd σ i) σ1) (h2 : sim (mnd σ1 i) σ2) : FindOK σ2 := by
  have a45 : σ2 45 = fnd σ i 45 := by
    rw [sim_row h2 (k := 45) (by omega)]
    unfold mnd
    rw [up2_ne (by omega), up2_ne (by omega), sim_row h1 (k := 45) (by omega)]
  have a59 : σ2 59 = mnd σ i 59 := by
    rw [sim_row h2 (k := 59) (by omega)]
    have : σ1 59 = σ 59 := by
      rw [sim_row h1 (k := 59) (by omega)]
      unfold fnd
      rw [up2_ne (by omega)]
    unfold mnd
    rw [this]
    funext j
    simp [up2]
    rw [this]
  obtain ⟨f1, f2⟩ := h
  refine ⟨fun q hq => ?_, ?_⟩
  · rw [a45, a59]
    unfold fnd mnd up2
    by_cases e : q = i
    · subst e; simp [f1 q hq]
    · simp [e, f1 q hq]
  · rw [fsum_ext (σ := fnd σ i) a45, fsum_fnd, if_pos hi, a59]
    unfold mnd up2
    simp [f2]
/-- an outcome: a finding, or a value -/
def okC (σ : Sg) (o : Nat ⊕ Int32) : Value → Sg → Prop := fun v σ1 => match o with
  | .inl i => i < 7 ∧ v = .int (fv i) ∧ sim (fnd σ i) σ1
  | .inr x => v = .int x ∧ sim σ σ1
def okR (σ : Sg) (o : Nat ⊕ Int32) : Value → Sg → Prop := fun v σ1 => match o with
  | .inl i => v = .int (fv i) ∧ sim (mnd σ i) σ1
  | .inr x => v = .int x ∧ sim σ σ1
theorem pair_q {y y' : Nat} {as as' : List Value} {σ : Sg} {o : Nat ⊕ Int32} (hI : Inv σ) (hc : Call y as σ (okC σ o)) (hm : ∀ σ1, InvS σ1 → simF σ σ1 → Call y' as' σ1 (okR σ1 o)) : Call y as σ (fun v σ1 => Call y' as' σ1 (fun v' σ2 => v = v' ∧ Inv σ2)) := by
  refine Call_post hc (fun v σ1 h1 => ?_)
  cases o with
  | inl i =>
    obtain ⟨hi, rfl, hs⟩ := h1
    have hF := simF_tr (simF_fnd σ i) (simF_of hs)
    have hS1 := InvS_simF hI.1 hF
    refine Call_post (hm σ1 hS1 hF) (fun v' σ2 h2 => ?_)
    obtain ⟨rfl, hs2⟩ := h2
    exact ⟨rfl, InvS_simF hS1 (simF_tr (simF_mnd σ1 i) (simF_of hs2)), Find_pair hI.2 hi hs hs2⟩
  | inr x =>
    obtain ⟨rfl, hs⟩ := h1
    have hF := simF_of hs
    have hS1 := InvS_simF hI.1 hF
    refine Call_post (hm σ1 hS1 hF) (fun v' σ2 h2 => ?_)
    obtain ⟨rfl, hs2⟩ := h2
    refine ⟨rfl, InvS_simF hS1 (simF_of hs2), ?_⟩
    have a45 : σ2 45 = σ 45 := by rw [sim_row hs2 (k := 45) (by omega), sim_row hs (k := 45) (by omega)]
    have a59 : σ2 59 = σ 59 := by rw [sim_row hs2 (k := 59) (by omega), sim_row hs (k := 59) (by omega)]
    refine ⟨fun q hq => by rw [a45, a59]; exact hI.2.1 q hq, by rw [fsum_ext a45, a59]; exact hI.2.2⟩
