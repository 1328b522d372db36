/-! what a method answers: its shape, by its return instructions -/
section SHP
variable {y a : Nat} {k0 : Int32} {t : List Nat} {r : List Ins} {L s : List Value} {σ : Sg}
theorem nx_0 {q : List Ins × List Value × List Value × Sg} (h : h0 y a k0 t r L s σ = some (.inl q)) : q.1 = r ∨ ∃ b, q.1 = blk y b := by
  unfold h0 at h
  try unfold brk at h
  repeat' split at h
  all_goals first | (unfold go at h; cases h; first | exact Or.inl rfl | exact Or.inr ⟨_, rfl⟩) | (cases h; done)
theorem cx_0 {q : Nat × List Value × List Ins × List Value × List Value} (h : h0 y a k0 t r L s σ = some (.inr (.inl q))) : q.2.2.1 = r := by
  unfold h0 at h
  try unfold brk at h
  repeat' split at h
  all_goals first | (unfold go at h; cases h; done) | (cases h; done) | (cases h; rfl)
theorem vx_0 {v : Value} (h : h0 y a k0 t r L s σ = some (.inr (.inr v))) : False := by
  unfold h0 at h
  try unfold brk at h
  repeat' split at h
  all_goals first | trivial | (unfold go at h; cases h; done) | (cases h; done) | (cases h; exact ⟨_, rfl⟩)
theorem nx_1 {q : List Ins × List Value × List Value × Sg} (h : h1 y a k0 t r L s σ = some (.inl q)) : q.1 = r ∨ ∃ b, q.1 = blk y b := by
  unfold h1 at h
  try unfold brk at h
  repeat' split at h
  all_goals first | (unfold go at h; cases h; first | exact Or.inl rfl | exact Or.inr ⟨_, rfl⟩) | (cases h; done)
theorem cx_1 {q : Nat × List Value × List Ins × List Value × List Value} (h : h1 y a k0 t r L s σ = some (.inr (.inl q))) : q.2.2.1 = r := by
  unfold h1 at h
  try unfold brk at h
  repeat' split at h
  all_goals first | (unfold go at h; cases h; done) | (cases h; done) | (cases h; rfl)
theorem vx_1 {v : Value} (h : h1 y a k0 t r L s σ = some (.inr (.inr v))) : False := by
  unfold h1 at h
  try unfold brk at h
  repeat' split at h
  all_goals first | trivial | (unfold go at h; cases h; done) | (cases h; done) | (cases h; exact ⟨_, rfl⟩)
theorem nx_2 {q : List Ins × List Value × List Value × Sg} (h : h2 y a k0 t r L s σ = some (.inl q)) : q.1 = r ∨ ∃ b, q.1 = blk y b := by
  unfold h2 at h
  try unfold brk at h
  repeat' split at h
  all_goals first | (unfold go at h; cases h; first | exact Or.inl rfl | exact Or.inr ⟨_, rfl⟩) | (cases h; done)
theorem cx_2 {q : Nat × List Value × List Ins × List Value × List Value} (h : h2 y a k0 t r L s σ = some (.inr (.inl q))) : q.2.2.1 = r := by
  unfold h2 at h
  try unfold brk at h
  repeat' split at h
  all_goals first | (unfold go at h; cases h; done) | (cases h; done) | (cases h; rfl)
theorem vx_2 {v : Value} (h : h2 y a k0 t r L s σ = some (.inr (.inr v))) : False := by
  unfold h2 at h
  try unfold brk at h
  repeat' split at h
  all_goals first | trivial | (unfold go at h; cases h; done) | (cases h; done) | (cases h; exact ⟨_, rfl⟩)
theorem nx_3 {q : List Ins × List Value × List Value × Sg} (h : h3 y a k0 t r L s σ = some (.inl q)) : q.1 = r ∨ ∃ b, q.1 = blk y b := by
  unfold h3 at h
  try unfold brk at h
  repeat' split at h
  all_goals first | (unfold go at h; cases h; first | exact Or.inl rfl | exact Or.inr ⟨_, rfl⟩) | (cases h; done)
theorem cx_3 {q : Nat × List Value × List Ins × List Value × List Value} (h : h3 y a k0 t r L s σ = some (.inr (.inl q))) : q.2.2.1 = r := by
  unfold h3 at h
  try unfold brk at h
  repeat' split at h
  all_goals first | (unfold go at h; cases h; done) | (cases h; done) | (cases h; rfl)
theorem vx_3 {v : Value} (h : h3 y a k0 t r L s σ = some (.inr (.inr v))) : False := by
  unfold h3 at h
  try unfold brk at h
  repeat' split at h
  all_goals first | trivial | (unfold go at h; cases h; done) | (cases h; done) | (cases h; exact ⟨_, rfl⟩)
theorem nx_4 {q : List Ins × List Value × List Value × Sg} (h : h4 y a k0 t r L s σ = some (.inl q)) : q.1 = r ∨ ∃ b, q.1 = blk y b := by
  unfold h4 at h
  try unfold brk at h
  repeat' split at h
  all_goals first | (unfold go at h; cases h; first | exact Or.inl rfl | exact Or.inr ⟨_, rfl⟩) | (cases h; done)
theorem cx_4 {q : Nat × List Value × List Ins × List Value × List Value} (h : h4 y a k0 t r L s σ = some (.inr (.inl q))) : q.2.2.1 = r := by
  unfold h4 at h
  try unfold brk at h
  repeat' split at h
  all_goals first | (unfold go at h; cases h; done) | (cases h; done) | (cases h; rfl)
theorem vx_4 {v : Value} (h : h4 y a k0 t r L s σ = some (.inr (.inr v))) : False := by
  unfold h4 at h
  try unfold brk at h
  repeat' split at h
  all_goals first | trivial | (unfold go at h; cases h; done) | (cases h; done) | (cases h; exact ⟨_, rfl⟩)
theorem nx_5 {q : List Ins × List Value × List Value × Sg} (h : h5 y a k0 t r L s σ = some (.inl q)) : q.1 = r ∨ ∃ b, q.1 = blk y b := by
  unfold h5 at h
  try unfold brk at h
  repeat' split at h
  all_goals first | (unfold go at h; cases h; first | exact Or.inl rfl | exact Or.inr ⟨_, rfl⟩) | (cases h; done)
theorem cx_5 {q : Nat × List Value × List Ins × List Value × List Value} (h : h5 y a k0 t r L s σ = some (.inr (.inl q))) : q.2.2.1 = r := by
  unfold h5 at h
  try unfold brk at h
  repeat' split at h
  all_goals first | (unfold go at h; cases h; done) | (cases h; done) | (cases h; rfl)
theorem vx_5 {v : Value} (h : h5 y a k0 t r L s σ = some (.inr (.inr v))) : False := by
  unfold h5 at h
  try unfold brk at h
  repeat' split at h
  all_goals first | trivial | (unfold go at h; cases h; done) | (cases h; done) | (cases h; exact ⟨_, rfl⟩)
theorem nx_6 {q : List Ins × List Value × List Value × Sg} (h : h6 y a k0 t r L s σ = some (.inl q)) : q.1 = r ∨ ∃ b, q.1 = blk y b := by
  unfold h6 at h
  try unfold brk at h
  repeat' split at h
  all_goals first | (unfold go at h; cases h; first | exact Or.inl rfl | exact Or.inr ⟨_, rfl⟩) | (cases h; done)
theorem cx_6 {q : Nat × List Value × List Ins × List Value × List Value} (h : h6 y a k0 t r L s σ = some (.inr (.inl q))) : q.2.2.1 = r := by
  unfold h6 at h
  try unfold brk at h
  repeat' split at h
  all_goals first | (unfold go at h; cases h; done) | (cases h; done) | (cases h; rfl)
theorem vx_6 {v : Value} (h : h6 y a k0 t r L s σ = some (.inr (.inr v))) : False := by
  unfold h6 at h
  try unfold brk at h
  repeat' split at h
  all_goals first | trivial | (unfold go at h; cases h; done) | (cases h; done) | (cases h; exact ⟨_, rfl⟩)
theorem nx_7 {q : List Ins × List Value × List Value × Sg} (h : h7 y a k0 t r L s σ = some (.inl q)) : q.1 = r ∨ ∃ b, q.1 = blk y b := by
  unfold h7 at h
  try unfold brk at h
  repeat' split at h
  all_goals first | (unfold go at h; cases h; first | exact Or.inl rfl | exact Or.inr ⟨_, rfl⟩) | (cases h; done)
theorem cx_7 {q : Nat × List Value × List Ins × List Value × List Value} (h : h7 y a k0 t r L s σ = some (.inr (.inl q))) : q.2.2.1 = r := by
  unfold h7 at h
  try unfold brk at h
  repeat' split at h
  all_goals first | (unfold go at h; cases h; done) | (cases h; done) | (cases h; rfl)
theorem vx_7 {v : Value} (h : h7 y a k0 t r L s σ = some (.inr (.inr v))) : False := by
  unfold h7 at h
  try unfold brk at h
  repeat' split at h
  all_goals first | trivial | (unfold go at h; cases h; done) | (cases h; done) | (cases h; exact ⟨_, rfl⟩)
theorem nx_8 {q : List Ins × List Value × List Value × Sg} (h : h8 y a k0 t r L s σ = some (.inl q)) : q.1 = r ∨ ∃ b, q.1 = blk y b := by
  unfold h8 at h
  try unfold brk at h
  repeat' split at h
  all_goals first | (unfold go at h; cases h; first | exact Or.inl rfl | exact Or.inr ⟨_, rfl⟩) | (cases h; done)
theorem cx_8 {q : Nat × List Value × List Ins × List Value × List Value} (h : h8 y a k0 t r L s σ = some (.inr (.inl q))) : q.2.2.1 = r := by
  unfold h8 at h
  try unfold brk at h
  repeat' split at h
  all_goals first | (unfold go at h; cases h; done) | (cases h; done) | (cases h; rfl)
theorem vx_8 {v : Value} (h : h8 y a k0 t r L s σ = some (.inr (.inr v))) : False := by
  unfold h8 at h
  try unfold brk at h
  repeat' split at h
  all_goals first | trivial | (unfold go at h; cases h; done) | (cases h; done) | (cases h; exact ⟨_, rfl⟩)
theorem nx_9 {q : List Ins × List Value × List Value × Sg} (h : h9 y a k0 t r L s σ = some (.inl q)) : q.1 = r ∨ ∃ b, q.1 = blk y b := by
  unfold h9 at h
  try unfold brk at h
  repeat' split at h
  all_goals first | (unfold go at h; cases h; first | exact Or.inl rfl | exact Or.inr ⟨_, rfl⟩) | (cases h; done)
theorem cx_9 {q : Nat × List Value × List Ins × List Value × List Value} (h : h9 y a k0 t r L s σ = some (.inr (.inl q))) : q.2.2.1 = r := by
  unfold h9 at h
  try unfold brk at h
  repeat' split at h
  all_goals first | (unfold go at h; cases h; done) | (cases h; done) | (cases h; rfl)
theorem vx_9 {v : Value} (h : h9 y a k0 t r L s σ = some (.inr (.inr v))) : False := by
  unfold h9 at h
  try unfold brk at h
  repeat' split at h
  all_goals first | trivial | (unfold go at h; cases h; done) | (cases h; done) | (cases h; exact ⟨_, rfl⟩)
theorem nx_10 {q : List Ins × List Value × List Value × Sg} (h : h10 y a k0 t r L s σ = some (.inl q)) : q.1 = r ∨ ∃ b, q.1 = blk y b := by
  unfold h10 at h
  try unfold brk at h
  repeat' split at h
  all_goals first | (unfold go at h; cases h; first | exact Or.inl rfl | exact Or.inr ⟨_, rfl⟩) | (cases h; done)
theorem cx_10 {q : Nat × List Value × List Ins × List Value × List Value} (h : h10 y a k0 t r L s σ = some (.inr (.inl q))) : q.2.2.1 = r := by
  unfold h10 at h
  try unfold brk at h
  repeat' split at h
  all_goals first | (unfold go at h; cases h; done) | (cases h; done) | (cases h; rfl)
theorem vx_10 {v : Value} (h : h10 y a k0 t r L s σ = some (.inr (.inr v))) : False := by
  unfold h10 at h
  try unfold brk at h
  repeat' split at h
  all_goals first | trivial | (unfold go at h; cases h; done) | (cases h; done) | (cases h; exact ⟨_, rfl⟩)
theorem nx_11 {q : List Ins × List Value × List Value × Sg} (h : h11 y a k0 t r L s σ = some (.inl q)) : q.1 = r ∨ ∃ b, q.1 = blk y b := by
  unfold h11 at h
  try unfold brk at h
  repeat' split at h
  all_goals first | (unfold go at h; cases h; first | exact Or.inl rfl | exact Or.inr ⟨_, rfl⟩) | (cases h; done)
theorem cx_11 {q : Nat × List Value × List Ins × List Value × List Value} (h : h11 y a k0 t r L s σ = some (.inr (.inl q))) : q.2.2.1 = r := by
  unfold h11 at h
  try unfold brk at h
  repeat' split at h
  all_goals first | (unfold go at h; cases h; done) | (cases h; done) | (cases h; rfl)
theorem vx_11 {v : Value} (h : h11 y a k0 t r L s σ = some (.inr (.inr v))) : False := by
  unfold h11 at h
  try unfold brk at h
  repeat' split at h
  all_goals first | trivial | (unfold go at h; cases h; done) | (cases h; done) | (cases h; exact ⟨_, rfl⟩)
theorem nx_12 {q : List Ins × List Value × List Value × Sg} (h : h12 y a k0 t r L s σ = some (.inl q)) : q.1 = r ∨ ∃ b, q.1 = blk y b := by
  unfold h12 at h
  try unfold brk at h
  repeat' split at h
  all_goals first | (unfold go at h; cases h; first | exact Or.inl rfl | exact Or.inr ⟨_, rfl⟩) | (cases h; done)
theorem cx_12 {q : Nat × List Value × List Ins × List Value × List Value} (h : h12 y a k0 t r L s σ = some (.inr (.inl q))) : q.2.2.1 = r := by
  unfold h12 at h
  try unfold brk at h
  repeat' split at h
  all_goals first | (unfold go at h; cases h; done) | (cases h; done) | (cases h; rfl)
theorem vx_12 {v : Value} (h : h12 y a k0 t r L s σ = some (.inr (.inr v))) : False := by
  unfold h12 at h
  try unfold brk at h
  repeat' split at h
  all_goals first | trivial | (unfold go at h; cases h; done) | (cases h; done) | (cases h; exact ⟨_, rfl⟩)
theorem nx_13 {q : List Ins × List Value × List Value × Sg} (h : h13 y a k0 t r L s σ = some (.inl q)) : q.1 = r ∨ ∃ b, q.1 = blk y b := by
  unfold h13 at h
  try unfold brk at h
  repeat' split at h
  all_goals first | (unfold go at h; cases h; first | exact Or.inl rfl | exact Or.inr ⟨_, rfl⟩) | (cases h; done)
theorem cx_13 {q : Nat × List Value × List Ins × List Value × List Value} (h : h13 y a k0 t r L s σ = some (.inr (.inl q))) : q.2.2.1 = r := by
  unfold h13 at h
  try unfold brk at h
  repeat' split at h
  all_goals first | (unfold go at h; cases h; done) | (cases h; done) | (cases h; rfl)
theorem vx_13 {v : Value} (h : h13 y a k0 t r L s σ = some (.inr (.inr v))) : False := by
  unfold h13 at h
  try unfold brk at h
  repeat' split at h
  all_goals first | trivial | (unfold go at h; cases h; done) | (cases h; done) | (cases h; exact ⟨_, rfl⟩)
theorem nx_14 {q : List Ins × List Value × List Value × Sg} (h : h14 y a k0 t r L s σ = some (.inl q)) : q.1 = r ∨ ∃ b, q.1 = blk y b := by
  unfold h14 at h
  try unfold brk at h
  repeat' split at h
  all_goals first | (unfold go at h; cases h; first | exact Or.inl rfl | exact Or.inr ⟨_, rfl⟩) | (cases h; done)
theorem cx_14 {q : Nat × List Value × List Ins × List Value × List Value} (h : h14 y a k0 t r L s σ = some (.inr (.inl q))) : q.2.2.1 = r := by
  unfold h14 at h
  try unfold brk at h
  repeat' split at h
  all_goals first | (unfold go at h; cases h; done) | (cases h; done) | (cases h; rfl)
theorem vx_14 {v : Value} (h : h14 y a k0 t r L s σ = some (.inr (.inr v))) : False := by
  unfold h14 at h
  try unfold brk at h
  repeat' split at h
  all_goals first | trivial | (unfold go at h; cases h; done) | (cases h; done) | (cases h; exact ⟨_, rfl⟩)
theorem nx_15 {q : List Ins × List Value × List Value × Sg} (h : h15 y a k0 t r L s σ = some (.inl q)) : q.1 = r ∨ ∃ b, q.1 = blk y b := by
  unfold h15 at h
  try unfold brk at h
  repeat' split at h
  all_goals first | (unfold go at h; cases h; first | exact Or.inl rfl | exact Or.inr ⟨_, rfl⟩) | (cases h; done)
theorem cx_15 {q : Nat × List Value × List Ins × List Value × List Value} (h : h15 y a k0 t r L s σ = some (.inr (.inl q))) : q.2.2.1 = r := by
  unfold h15 at h
  try unfold brk at h
  repeat' split at h
  all_goals first | (unfold go at h; cases h; done) | (cases h; done) | (cases h; rfl)
theorem vx_15 {v : Value} (h : h15 y a k0 t r L s σ = some (.inr (.inr v))) : False := by
  unfold h15 at h
  try unfold brk at h
  repeat' split at h
  all_goals first | trivial | (unfold go at h; cases h; done) | (cases h; done) | (cases h; exact ⟨_, rfl⟩)
theorem nx_16 {q : List Ins × List Value × List Value × Sg} (h : h16 y a k0 t r L s σ = some (.inl q)) : q.1 = r ∨ ∃ b, q.1 = blk y b := by
  unfold h16 at h
  try unfold brk at h
  repeat' split at h
  all_goals first | (unfold go at h; cases h; first | exact Or.inl rfl | exact Or.inr ⟨_, rfl⟩) | (cases h; done)
theorem cx_16 {q : Nat × List Value × List Ins × List Value × List Value} (h : h16 y a k0 t r L s σ = some (.inr (.inl q))) : q.2.2.1 = r := by
  unfold h16 at h
  try unfold brk at h
  repeat' split at h
  all_goals first | (unfold go at h; cases h; done) | (cases h; done) | (cases h; rfl)
theorem vx_16 {v : Value} (h : h16 y a k0 t r L s σ = some (.inr (.inr v))) : False := by
  unfold h16 at h
  try unfold brk at h
  repeat' split at h
  all_goals first | trivial | (unfold go at h; cases h; done) | (cases h; done) | (cases h; exact ⟨_, rfl⟩)
theorem nx_17 {q : List Ins × List Value × List Value × Sg} (h : h17 y a k0 t r L s σ = some (.inl q)) : q.1 = r ∨ ∃ b, q.1 = blk y b := by
  unfold h17 at h
  try unfold brk at h
  repeat' split at h
  all_goals first | (unfold go at h; cases h; first | exact Or.inl rfl | exact Or.inr ⟨_, rfl⟩) | (cases h; done)
theorem cx_17 {q : Nat × List Value × List Ins × List Value × List Value} (h : h17 y a k0 t r L s σ = some (.inr (.inl q))) : q.2.2.1 = r := by
  unfold h17 at h
  try unfold brk at h
  repeat' split at h
  all_goals first | (unfold go at h; cases h; done) | (cases h; done) | (cases h; rfl)
theorem vx_17 {v : Value} (h : h17 y a k0 t r L s σ = some (.inr (.inr v))) : False := by
  unfold h17 at h
  try unfold brk at h
  repeat' split at h
  all_goals first | trivial | (unfold go at h; cases h; done) | (cases h; done) | (cases h; exact ⟨_, rfl⟩)
theorem nx_18 {q : List Ins × List Value × List Value × Sg} (h : h18 y a k0 t r L s σ = some (.inl q)) : q.1 = r ∨ ∃ b, q.1 = blk y b := by
  unfold h18 at h
  try unfold brk at h
  repeat' split at h
  all_goals first | (unfold go at h; cases h; first | exact Or.inl rfl | exact Or.inr ⟨_, rfl⟩) | (cases h; done)
theorem cx_18 {q : Nat × List Value × List Ins × List Value × List Value} (h : h18 y a k0 t r L s σ = some (.inr (.inl q))) : q.2.2.1 = r := by
  unfold h18 at h
  try unfold brk at h
  repeat' split at h
  all_goals first | (unfold go at h; cases h; done) | (cases h; done) | (cases h; rfl)
theorem vx_18 {v : Value} (h : h18 y a k0 t r L s σ = some (.inr (.inr v))) : False := by
  unfold h18 at h
  try unfold brk at h
  repeat' split at h
  all_goals first | trivial | (unfold go at h; cases h; done) | (cases h; done) | (cases h; exact ⟨_, rfl⟩)
theorem nx_19 {q : List Ins × List Value × List Value × Sg} (h : h19 y a k0 t r L s σ = some (.inl q)) : q.1 = r ∨ ∃ b, q.1 = blk y b := by
  unfold h19 at h
  try unfold brk at h
  repeat' split at h
  all_goals first | (unfold go at h; cases h; first | exact Or.inl rfl | exact Or.inr ⟨_, rfl⟩) | (cases h; done)
theorem cx_19 {q : Nat × List Value × List Ins × List Value × List Value} (h : h19 y a k0 t r L s σ = some (.inr (.inl q))) : q.2.2.1 = r := by
  unfold h19 at h
  try unfold brk at h
  repeat' split at h
  all_goals first | (unfold go at h; cases h; done) | (cases h; done) | (cases h; rfl)
theorem vx_19 {v : Value} (h : h19 y a k0 t r L s σ = some (.inr (.inr v))) : False := by
  unfold h19 at h
  try unfold brk at h
  repeat' split at h
  all_goals first | trivial | (unfold go at h; cases h; done) | (cases h; done) | (cases h; exact ⟨_, rfl⟩)
theorem nx_20 {q : List Ins × List Value × List Value × Sg} (h : h20 y a k0 t r L s σ = some (.inl q)) : q.1 = r ∨ ∃ b, q.1 = blk y b := by
  unfold h20 at h
  try unfold brk at h
  repeat' split at h
  all_goals first | (unfold go at h; cases h; first | exact Or.inl rfl | exact Or.inr ⟨_, rfl⟩) | (cases h; done)
theorem cx_20 {q : Nat × List Value × List Ins × List Value × List Value} (h : h20 y a k0 t r L s σ = some (.inr (.inl q))) : q.2.2.1 = r := by
  unfold h20 at h
  try unfold brk at h
  repeat' split at h
  all_goals first | (unfold go at h; cases h; done) | (cases h; done) | (cases h; rfl)
theorem vx_20 {v : Value} (h : h20 y a k0 t r L s σ = some (.inr (.inr v))) : False := by
  unfold h20 at h
  try unfold brk at h
  repeat' split at h
  all_goals first | trivial | (unfold go at h; cases h; done) | (cases h; done) | (cases h; exact ⟨_, rfl⟩)
theorem nx_21 {q : List Ins × List Value × List Value × Sg} (h : h21 y a k0 t r L s σ = some (.inl q)) : q.1 = r ∨ ∃ b, q.1 = blk y b := by
  unfold h21 at h
  try unfold brk at h
  repeat' split at h
  all_goals first | (unfold go at h; cases h; first | exact Or.inl rfl | exact Or.inr ⟨_, rfl⟩) | (cases h; done)
theorem cx_21 {q : Nat × List Value × List Ins × List Value × List Value} (h : h21 y a k0 t r L s σ = some (.inr (.inl q))) : q.2.2.1 = r := by
  unfold h21 at h
  try unfold brk at h
  repeat' split at h
  all_goals first | (unfold go at h; cases h; done) | (cases h; done) | (cases h; rfl)
theorem vx_21 {v : Value} (h : h21 y a k0 t r L s σ = some (.inr (.inr v))) : False := by
  unfold h21 at h
  try unfold brk at h
  repeat' split at h
  all_goals first | trivial | (unfold go at h; cases h; done) | (cases h; done) | (cases h; exact ⟨_, rfl⟩)
theorem nx_22 {q : List Ins × List Value × List Value × Sg} (h : h22 y a k0 t r L s σ = some (.inl q)) : q.1 = r ∨ ∃ b, q.1 = blk y b := by
  unfold h22 at h
  try unfold brk at h
  repeat' split at h
  all_goals first | (unfold go at h; cases h; first | exact Or.inl rfl | exact Or.inr ⟨_, rfl⟩) | (cases h; done)
theorem cx_22 {q : Nat × List Value × List Ins × List Value × List Value} (h : h22 y a k0 t r L s σ = some (.inr (.inl q))) : q.2.2.1 = r := by
  unfold h22 at h
  try unfold brk at h
  repeat' split at h
  all_goals first | (unfold go at h; cases h; done) | (cases h; done) | (cases h; rfl)
theorem vx_22 {v : Value} (h : h22 y a k0 t r L s σ = some (.inr (.inr v))) : False := by
  unfold h22 at h
  try unfold brk at h
  repeat' split at h
  all_goals first | trivial | (unfold go at h; cases h; done) | (cases h; done) | (cases h; exact ⟨_, rfl⟩)
theorem nx_23 {q : List Ins × List Value × List Value × Sg} (h : h23 y a k0 t r L s σ = some (.inl q)) : q.1 = r ∨ ∃ b, q.1 = blk y b := by
  unfold h23 at h
  try unfold brk at h
  repeat' split at h
  all_goals first | (unfold go at h; cases h; first | exact Or.inl rfl | exact Or.inr ⟨_, rfl⟩) | (cases h; done)
theorem cx_23 {q : Nat × List Value × List Ins × List Value × List Value} (h : h23 y a k0 t r L s σ = some (.inr (.inl q))) : q.2.2.1 = r := by
  unfold h23 at h
  try unfold brk at h
  repeat' split at h
  all_goals first | (unfold go at h; cases h; done) | (cases h; done) | (cases h; rfl)
theorem vx_23 {v : Value} (h : h23 y a k0 t r L s σ = some (.inr (.inr v))) : False := by
  unfold h23 at h
  try unfold brk at h
  repeat' split at h
  all_goals first | trivial | (unfold go at h; cases h; done) | (cases h; done) | (cases h; exact ⟨_, rfl⟩)
theorem nx_24 {q : List Ins × List Value × List Value × Sg} (h : h24 y a k0 t r L s σ = some (.inl q)) : q.1 = r ∨ ∃ b, q.1 = blk y b := by
  unfold h24 at h
  try unfold brk at h
  repeat' split at h
  all_goals first | (unfold go at h; cases h; first | exact Or.inl rfl | exact Or.inr ⟨_, rfl⟩) | (cases h; done)
theorem cx_24 {q : Nat × List Value × List Ins × List Value × List Value} (h : h24 y a k0 t r L s σ = some (.inr (.inl q))) : q.2.2.1 = r := by
  unfold h24 at h
  try unfold brk at h
  repeat' split at h
  all_goals first | (unfold go at h; cases h; done) | (cases h; done) | (cases h; rfl)
theorem vx_24 {v : Value} (h : h24 y a k0 t r L s σ = some (.inr (.inr v))) : False := by
  unfold h24 at h
  try unfold brk at h
  repeat' split at h
  all_goals first | trivial | (unfold go at h; cases h; done) | (cases h; done) | (cases h; exact ⟨_, rfl⟩)
theorem nx_25 {q : List Ins × List Value × List Value × Sg} (h : h25 y a k0 t r L s σ = some (.inl q)) : q.1 = r ∨ ∃ b, q.1 = blk y b := by
  unfold h25 at h
  try unfold brk at h
  repeat' split at h
  all_goals first | (unfold go at h; cases h; first | exact Or.inl rfl | exact Or.inr ⟨_, rfl⟩) | (cases h; done)
theorem cx_25 {q : Nat × List Value × List Ins × List Value × List Value} (h : h25 y a k0 t r L s σ = some (.inr (.inl q))) : q.2.2.1 = r := by
  unfold h25 at h
  try unfold brk at h
  repeat' split at h
  all_goals first | (unfold go at h; cases h; done) | (cases h; done) | (cases h; rfl)
theorem vx_25 {v : Value} (h : h25 y a k0 t r L s σ = some (.inr (.inr v))) : False := by
  unfold h25 at h
  try unfold brk at h
  repeat' split at h
  all_goals first | trivial | (unfold go at h; cases h; done) | (cases h; done) | (cases h; exact ⟨_, rfl⟩)
theorem nx_26 {q : List Ins × List Value × List Value × Sg} (h : h26 y a k0 t r L s σ = some (.inl q)) : q.1 = r ∨ ∃ b, q.1 = blk y b := by
  unfold h26 at h
  try unfold brk at h
  repeat' split at h
  all_goals first | (unfold go at h; cases h; first | exact Or.inl rfl | exact Or.inr ⟨_, rfl⟩) | (cases h; done)
theorem cx_26 {q : Nat × List Value × List Ins × List Value × List Value} (h : h26 y a k0 t r L s σ = some (.inr (.inl q))) : q.2.2.1 = r := by
  unfold h26 at h
  try unfold brk at h
  repeat' split at h
  all_goals first | (unfold go at h; cases h; done) | (cases h; done) | (cases h; rfl)
theorem vx_26 {v : Value} (h : h26 y a k0 t r L s σ = some (.inr (.inr v))) : False := by
  unfold h26 at h
  try unfold brk at h
  repeat' split at h
  all_goals first | trivial | (unfold go at h; cases h; done) | (cases h; done) | (cases h; exact ⟨_, rfl⟩)
theorem nx_27 {q : List Ins × List Value × List Value × Sg} (h : h27 y a k0 t r L s σ = some (.inl q)) : q.1 = r ∨ ∃ b, q.1 = blk y b := by
  unfold h27 at h
  try unfold brk at h
  repeat' split at h
  all_goals first | (unfold go at h; cases h; first | exact Or.inl rfl | exact Or.inr ⟨_, rfl⟩) | (cases h; done)
theorem cx_27 {q : Nat × List Value × List Ins × List Value × List Value} (h : h27 y a k0 t r L s σ = some (.inr (.inl q))) : q.2.2.1 = r := by
  unfold h27 at h
  try unfold brk at h
  repeat' split at h
  all_goals first | (unfold go at h; cases h; done) | (cases h; done) | (cases h; rfl)
theorem vx_27 {v : Value} (h : h27 y a k0 t r L s σ = some (.inr (.inr v))) : False := by
  unfold h27 at h
  try unfold brk at h
  repeat' split at h
  all_goals first | trivial | (unfold go at h; cases h; done) | (cases h; done) | (cases h; exact ⟨_, rfl⟩)
theorem nx_28 {q : List Ins × List Value × List Value × Sg} (h : h28 y a k0 t r L s σ = some (.inl q)) : q.1 = r ∨ ∃ b, q.1 = blk y b := by
  unfold h28 at h
  try unfold brk at h
  repeat' split at h
  all_goals first | (unfold go at h; cases h; first | exact Or.inl rfl | exact Or.inr ⟨_, rfl⟩) | (cases h; done)
theorem cx_28 {q : Nat × List Value × List Ins × List Value × List Value} (h : h28 y a k0 t r L s σ = some (.inr (.inl q))) : q.2.2.1 = r := by
  unfold h28 at h
  try unfold brk at h
  repeat' split at h
  all_goals first | (unfold go at h; cases h; done) | (cases h; done) | (cases h; rfl)
theorem vx_28 {v : Value} (h : h28 y a k0 t r L s σ = some (.inr (.inr v))) : False := by
  unfold h28 at h
  try unfold brk at h
  repeat' split at h
  all_goals first | trivial | (unfold go at h; cases h; done) | (cases h; done) | (cases h; exact ⟨_, rfl⟩)
theorem nx_29 {q : List Ins × List Value × List Value × Sg} (h : h29 y a k0 t r L s σ = some (.inl q)) : q.1 = r ∨ ∃ b, q.1 = blk y b := by
  unfold h29 at h
  try unfold brk at h
  repeat' split at h
  all_goals first | (unfold go at h; cases h; first | exact Or.inl rfl | exact Or.inr ⟨_, rfl⟩) | (cases h; done)
theorem cx_29 {q : Nat × List Value × List Ins × List Value × List Value} (h : h29 y a k0 t r L s σ = some (.inr (.inl q))) : q.2.2.1 = r := by
  unfold h29 at h
  try unfold brk at h
  repeat' split at h
  all_goals first | (unfold go at h; cases h; done) | (cases h; done) | (cases h; rfl)
theorem vx_29 {v : Value} (h : h29 y a k0 t r L s σ = some (.inr (.inr v))) : False := by
  unfold h29 at h
  try unfold brk at h
  repeat' split at h
  all_goals first | trivial | (unfold go at h; cases h; done) | (cases h; done) | (cases h; exact ⟨_, rfl⟩)
theorem nx_30 {q : List Ins × List Value × List Value × Sg} (h : h30 y a k0 t r L s σ = some (.inl q)) : q.1 = r ∨ ∃ b, q.1 = blk y b := by
  unfold h30 at h
  try unfold brk at h
  repeat' split at h
  all_goals first | (unfold go at h; cases h; first | exact Or.inl rfl | exact Or.inr ⟨_, rfl⟩) | (cases h; done)
theorem cx_30 {q : Nat × List Value × List Ins × List Value × List Value} (h : h30 y a k0 t r L s σ = some (.inr (.inl q))) : q.2.2.1 = r := by
  unfold h30 at h
  try unfold brk at h
  repeat' split at h
  all_goals first | (unfold go at h; cases h; done) | (cases h; done) | (cases h; rfl)
theorem vx_30 {v : Value} (h : h30 y a k0 t r L s σ = some (.inr (.inr v))) : False := by
  unfold h30 at h
  try unfold brk at h
  repeat' split at h
  all_goals first | trivial | (unfold go at h; cases h; done) | (cases h; done) | (cases h; exact ⟨_, rfl⟩)
theorem nx_31 {q : List Ins × List Value × List Value × Sg} (h : h31 y a k0 t r L s σ = some (.inl q)) : q.1 = r ∨ ∃ b, q.1 = blk y b := by
  unfold h31 at h
  try unfold brk at h
  repeat' split at h
  all_goals first | (unfold go at h; cases h; first | exact Or.inl rfl | exact Or.inr ⟨_, rfl⟩) | (cases h; done)
theorem cx_31 {q : Nat × List Value × List Ins × List Value × List Value} (h : h31 y a k0 t r L s σ = some (.inr (.inl q))) : q.2.2.1 = r := by
  unfold h31 at h
  try unfold brk at h
  repeat' split at h
  all_goals first | (unfold go at h; cases h; done) | (cases h; done) | (cases h; rfl)
theorem vx_31 {v : Value} (h : h31 y a k0 t r L s σ = some (.inr (.inr v))) : False := by
  unfold h31 at h
  try unfold brk at h
  repeat' split at h
  all_goals first | trivial | (unfold go at h; cases h; done) | (cases h; done) | (cases h; exact ⟨_, rfl⟩)
theorem nx_32 {q : List Ins × List Value × List Value × Sg} (h : h32 y a k0 t r L s σ = some (.inl q)) : q.1 = r ∨ ∃ b, q.1 = blk y b := by
  unfold h32 at h
  try unfold brk at h
  repeat' split at h
  all_goals first | (unfold go at h; cases h; first | exact Or.inl rfl | exact Or.inr ⟨_, rfl⟩) | (cases h; done)
theorem cx_32 {q : Nat × List Value × List Ins × List Value × List Value} (h : h32 y a k0 t r L s σ = some (.inr (.inl q))) : q.2.2.1 = r := by
  unfold h32 at h
  try unfold brk at h
  repeat' split at h
  all_goals first | (unfold go at h; cases h; done) | (cases h; done) | (cases h; rfl)
theorem vx_32 {v : Value} (h : h32 y a k0 t r L s σ = some (.inr (.inr v))) : False := by
  unfold h32 at h
  try unfold brk at h
  repeat' split at h
  all_goals first | trivial | (unfold go at h; cases h; done) | (cases h; done) | (cases h; exact ⟨_, rfl⟩)
theorem nx_33 {q : List Ins × List Value × List Value × Sg} (h : h33 y a k0 t r L s σ = some (.inl q)) : q.1 = r ∨ ∃ b, q.1 = blk y b := by
  unfold h33 at h
  try unfold brk at h
  repeat' split at h
  all_goals first | (unfold go at h; cases h; first | exact Or.inl rfl | exact Or.inr ⟨_, rfl⟩) | (cases h; done)
theorem cx_33 {q : Nat × List Value × List Ins × List Value × List Value} (h : h33 y a k0 t r L s σ = some (.inr (.inl q))) : q.2.2.1 = r := by
  unfold h33 at h
  try unfold brk at h
  repeat' split at h
  all_goals first | (unfold go at h; cases h; done) | (cases h; done) | (cases h; rfl)
theorem vx_33 {v : Value} (h : h33 y a k0 t r L s σ = some (.inr (.inr v))) : False := by
  unfold h33 at h
  try unfold brk at h
  repeat' split at h
  all_goals first | trivial | (unfold go at h; cases h; done) | (cases h; done) | (cases h; exact ⟨_, rfl⟩)
theorem nx_34 {q : List Ins × List Value × List Value × Sg} (h : h34 y a k0 t r L s σ = some (.inl q)) : q.1 = r ∨ ∃ b, q.1 = blk y b := by
  unfold h34 at h
  try unfold brk at h
  repeat' split at h
  all_goals first | (unfold go at h; cases h; first | exact Or.inl rfl | exact Or.inr ⟨_, rfl⟩) | (cases h; done)
theorem cx_34 {q : Nat × List Value × List Ins × List Value × List Value} (h : h34 y a k0 t r L s σ = some (.inr (.inl q))) : q.2.2.1 = r := by
  unfold h34 at h
  try unfold brk at h
  repeat' split at h
  all_goals first | (unfold go at h; cases h; done) | (cases h; done) | (cases h; rfl)
theorem vx_34 {v : Value} (h : h34 y a k0 t r L s σ = some (.inr (.inr v))) : False := by
  unfold h34 at h
  try unfold brk at h
  repeat' split at h
  all_goals first | trivial | (unfold go at h; cases h; done) | (cases h; done) | (cases h; exact ⟨_, rfl⟩)
theorem nx_35 {q : List Ins × List Value × List Value × Sg} (h : h35 y a k0 t r L s σ = some (.inl q)) : q.1 = r ∨ ∃ b, q.1 = blk y b := by
  unfold h35 at h
  try unfold brk at h
  repeat' split at h
  all_goals first | (unfold go at h; cases h; first | exact Or.inl rfl | exact Or.inr ⟨_, rfl⟩) | (cases h; done)
theorem cx_35 {q : Nat × List Value × List Ins × List Value × List Value} (h : h35 y a k0 t r L s σ = some (.inr (.inl q))) : q.2.2.1 = r := by
  unfold h35 at h
  try unfold brk at h
  repeat' split at h
  all_goals first | (unfold go at h; cases h; done) | (cases h; done) | (cases h; rfl)
theorem vx_35 {v : Value} (h : h35 y a k0 t r L s σ = some (.inr (.inr v))) : False := by
  unfold h35 at h
  try unfold brk at h
  repeat' split at h
  all_goals first | trivial | (unfold go at h; cases h; done) | (cases h; done) | (cases h; exact ⟨_, rfl⟩)
theorem nx_36 {q : List Ins × List Value × List Value × Sg} (h : h36 y a k0 t r L s σ = some (.inl q)) : q.1 = r ∨ ∃ b, q.1 = blk y b := by
  unfold h36 at h
  try unfold brk at h
  repeat' split at h
  all_goals first | (unfold go at h; cases h; first | exact Or.inl rfl | exact Or.inr ⟨_, rfl⟩) | (cases h; done)
theorem cx_36 {q : Nat × List Value × List Ins × List Value × List Value} (h : h36 y a k0 t r L s σ = some (.inr (.inl q))) : q.2.2.1 = r := by
  unfold h36 at h
  try unfold brk at h
  repeat' split at h
  all_goals first | (unfold go at h; cases h; done) | (cases h; done) | (cases h; rfl)
theorem vx_36 {v : Value} (h : h36 y a k0 t r L s σ = some (.inr (.inr v))) : False := by
  unfold h36 at h
  try unfold brk at h
  repeat' split at h
  all_goals first | trivial | (unfold go at h; cases h; done) | (cases h; done) | (cases h; exact ⟨_, rfl⟩)
theorem nx_37 {q : List Ins × List Value × List Value × Sg} (h : h37 y a k0 t r L s σ = some (.inl q)) : q.1 = r ∨ ∃ b, q.1 = blk y b := by
  unfold h37 at h
  try unfold brk at h
  repeat' split at h
  all_goals first | (unfold go at h; cases h; first | exact Or.inl rfl | exact Or.inr ⟨_, rfl⟩) | (cases h; done)
theorem cx_37 {q : Nat × List Value × List Ins × List Value × List Value} (h : h37 y a k0 t r L s σ = some (.inr (.inl q))) : q.2.2.1 = r := by
  unfold h37 at h
  try unfold brk at h
  repeat' split at h
  all_goals first | (unfold go at h; cases h; done) | (cases h; done) | (cases h; rfl)
theorem vx_37 {v : Value} (h : h37 y a k0 t r L s σ = some (.inr (.inr v))) : False := by
  unfold h37 at h
  try unfold brk at h
  repeat' split at h
  all_goals first | trivial | (unfold go at h; cases h; done) | (cases h; done) | (cases h; exact ⟨_, rfl⟩)
theorem nx_38 {q : List Ins × List Value × List Value × Sg} (h : h38 y a k0 t r L s σ = some (.inl q)) : q.1 = r ∨ ∃ b, q.1 = blk y b := by
  unfold h38 at h
  try unfold brk at h
  repeat' split at h
  all_goals first | (unfold go at h; cases h; first | exact Or.inl rfl | exact Or.inr ⟨_, rfl⟩) | (cases h; done)
theorem cx_38 {q : Nat × List Value × List Ins × List Value × List Value} (h : h38 y a k0 t r L s σ = some (.inr (.inl q))) : q.2.2.1 = r := by
  unfold h38 at h
  try unfold brk at h
  repeat' split at h
  all_goals first | (unfold go at h; cases h; done) | (cases h; done) | (cases h; rfl)
theorem vx_38 {v : Value} (h : h38 y a k0 t r L s σ = some (.inr (.inr v))) : False := by
  unfold h38 at h
  try unfold brk at h
  repeat' split at h
  all_goals first | trivial | (unfold go at h; cases h; done) | (cases h; done) | (cases h; exact ⟨_, rfl⟩)
theorem nx_39 {q : List Ins × List Value × List Value × Sg} (h : h39 y a k0 t r L s σ = some (.inl q)) : q.1 = r ∨ ∃ b, q.1 = blk y b := by
  unfold h39 at h
  try unfold brk at h
  repeat' split at h
  all_goals first | (unfold go at h; cases h; first | exact Or.inl rfl | exact Or.inr ⟨_, rfl⟩) | (cases h; done)
theorem cx_39 {q : Nat × List Value × List Ins × List Value × List Value} (h : h39 y a k0 t r L s σ = some (.inr (.inl q))) : q.2.2.1 = r := by
  unfold h39 at h
  try unfold brk at h
  repeat' split at h
  all_goals first | (unfold go at h; cases h; done) | (cases h; done) | (cases h; rfl)
theorem vx_39 {v : Value} (h : h39 y a k0 t r L s σ = some (.inr (.inr v))) : False := by
  unfold h39 at h
  try unfold brk at h
  repeat' split at h
  all_goals first | trivial | (unfold go at h; cases h; done) | (cases h; done) | (cases h; exact ⟨_, rfl⟩)
theorem nx_40 {q : List Ins × List Value × List Value × Sg} (h : h40 y a k0 t r L s σ = some (.inl q)) : q.1 = r ∨ ∃ b, q.1 = blk y b := by
  unfold h40 at h
  try unfold brk at h
  repeat' split at h
  all_goals first | (unfold go at h; cases h; first | exact Or.inl rfl | exact Or.inr ⟨_, rfl⟩) | (cases h; done)
theorem cx_40 {q : Nat × List Value × List Ins × List Value × List Value} (h : h40 y a k0 t r L s σ = some (.inr (.inl q))) : q.2.2.1 = r := by
  unfold h40 at h
  try unfold brk at h
  repeat' split at h
  all_goals first | (unfold go at h; cases h; done) | (cases h; done) | (cases h; rfl)
theorem vx_40 {v : Value} (h : h40 y a k0 t r L s σ = some (.inr (.inr v))) : False := by
  unfold h40 at h
  try unfold brk at h
  repeat' split at h
  all_goals first | trivial | (unfold go at h; cases h; done) | (cases h; done) | (cases h; exact ⟨_, rfl⟩)
theorem nx_41 {q : List Ins × List Value × List Value × Sg} (h : h41 y a k0 t r L s σ = some (.inl q)) : q.1 = r ∨ ∃ b, q.1 = blk y b := by
  unfold h41 at h
  try unfold brk at h
  repeat' split at h
  all_goals first | (unfold go at h; cases h; first | exact Or.inl rfl | exact Or.inr ⟨_, rfl⟩) | (cases h; done)
theorem cx_41 {q : Nat × List Value × List Ins × List Value × List Value} (h : h41 y a k0 t r L s σ = some (.inr (.inl q))) : q.2.2.1 = r := by
  unfold h41 at h
  try unfold brk at h
  repeat' split at h
  all_goals first | (unfold go at h; cases h; done) | (cases h; done) | (cases h; rfl)
theorem vx_41 {v : Value} (h : h41 y a k0 t r L s σ = some (.inr (.inr v))) : False := by
  unfold h41 at h
  try unfold brk at h
  repeat' split at h
  all_goals first | trivial | (unfold go at h; cases h; done) | (cases h; done) | (cases h; exact ⟨_, rfl⟩)
theorem nx_42 {q : List Ins × List Value × List Value × Sg} (h : h42 y a k0 t r L s σ = some (.inl q)) : q.1 = r ∨ ∃ b, q.1 = blk y b := by
  unfold h42 at h
  try unfold brk at h
  repeat' split at h
  all_goals first | (unfold go at h; cases h; first | exact Or.inl rfl | exact Or.inr ⟨_, rfl⟩) | (cases h; done)
theorem cx_42 {q : Nat × List Value × List Ins × List Value × List Value} (h : h42 y a k0 t r L s σ = some (.inr (.inl q))) : q.2.2.1 = r := by
  unfold h42 at h
  try unfold brk at h
  repeat' split at h
  all_goals first | (unfold go at h; cases h; done) | (cases h; done) | (cases h; rfl)
theorem vx_42 {v : Value} (h : h42 y a k0 t r L s σ = some (.inr (.inr v))) : False := by
  unfold h42 at h
  try unfold brk at h
  repeat' split at h
  all_goals first | trivial | (unfold go at h; cases h; done) | (cases h; done) | (cases h; exact ⟨_, rfl⟩)
theorem nx_43 {q : List Ins × List Value × List Value × Sg} (h : h43 y a k0 t r L s σ = some (.inl q)) : q.1 = r ∨ ∃ b, q.1 = blk y b := by
  unfold h43 at h
  try unfold brk at h
  repeat' split at h
  all_goals first | (unfold go at h; cases h; first | exact Or.inl rfl | exact Or.inr ⟨_, rfl⟩) | (cases h; done)
theorem cx_43 {q : Nat × List Value × List Ins × List Value × List Value} (h : h43 y a k0 t r L s σ = some (.inr (.inl q))) : q.2.2.1 = r := by
  unfold h43 at h
  try unfold brk at h
  repeat' split at h
  all_goals first | (unfold go at h; cases h; done) | (cases h; done) | (cases h; rfl)
theorem vx_43 {v : Value} (h : h43 y a k0 t r L s σ = some (.inr (.inr v))) : False := by
  unfold h43 at h
  try unfold brk at h
  repeat' split at h
  all_goals first | trivial | (unfold go at h; cases h; done) | (cases h; done) | (cases h; exact ⟨_, rfl⟩)
theorem nx_44 {q : List Ins × List Value × List Value × Sg} (h : h44 y a k0 t r L s σ = some (.inl q)) : q.1 = r ∨ ∃ b, q.1 = blk y b := by
  unfold h44 at h
  try unfold brk at h
  repeat' split at h
  all_goals first | (unfold go at h; cases h; first | exact Or.inl rfl | exact Or.inr ⟨_, rfl⟩) | (cases h; done)
theorem cx_44 {q : Nat × List Value × List Ins × List Value × List Value} (h : h44 y a k0 t r L s σ = some (.inr (.inl q))) : q.2.2.1 = r := by
  unfold h44 at h
  try unfold brk at h
  repeat' split at h
  all_goals first | (unfold go at h; cases h; done) | (cases h; done) | (cases h; rfl)
theorem vx_44 {v : Value} (h : h44 y a k0 t r L s σ = some (.inr (.inr v))) : False := by
  unfold h44 at h
  try unfold brk at h
  repeat' split at h
  all_goals first | trivial | (unfold go at h; cases h; done) | (cases h; done) | (cases h; exact ⟨_, rfl⟩)
theorem nx_45 {q : List Ins × List Value × List Value × Sg} (h : h45 y a k0 t r L s σ = some (.inl q)) : q.1 = r ∨ ∃ b, q.1 = blk y b := by
  unfold h45 at h
  try unfold brk at h
  repeat' split at h
  all_goals first | (unfold go at h; cases h; first | exact Or.inl rfl | exact Or.inr ⟨_, rfl⟩) | (cases h; done)
theorem cx_45 {q : Nat × List Value × List Ins × List Value × List Value} (h : h45 y a k0 t r L s σ = some (.inr (.inl q))) : q.2.2.1 = r := by
  unfold h45 at h
  try unfold brk at h
  repeat' split at h
  all_goals first | (unfold go at h; cases h; done) | (cases h; done) | (cases h; rfl)
theorem vx_45 {v : Value} (h : h45 y a k0 t r L s σ = some (.inr (.inr v))) : False := by
  unfold h45 at h
  try unfold brk at h
  repeat' split at h
  all_goals first | trivial | (unfold go at h; cases h; done) | (cases h; done) | (cases h; exact ⟨_, rfl⟩)
theorem nx_46 {q : List Ins × List Value × List Value × Sg} (h : h46 y a k0 t r L s σ = some (.inl q)) : q.1 = r ∨ ∃ b, q.1 = blk y b := by
  unfold h46 at h
  try unfold brk at h
  repeat' split at h
  all_goals first | (unfold go at h; cases h; first | exact Or.inl rfl | exact Or.inr ⟨_, rfl⟩) | (cases h; done)
theorem cx_46 {q : Nat × List Value × List Ins × List Value × List Value} (h : h46 y a k0 t r L s σ = some (.inr (.inl q))) : q.2.2.1 = r := by
  unfold h46 at h
  try unfold brk at h
  repeat' split at h
  all_goals first | (unfold go at h; cases h; done) | (cases h; done) | (cases h; rfl)
theorem vx_46 {v : Value} (h : h46 y a k0 t r L s σ = some (.inr (.inr v))) : False := by
  unfold h46 at h
  try unfold brk at h
  repeat' split at h
  all_goals first | trivial | (unfold go at h; cases h; done) | (cases h; done) | (cases h; exact ⟨_, rfl⟩)
theorem nx_47 {q : List Ins × List Value × List Value × Sg} (h : h47 y a k0 t r L s σ = some (.inl q)) : q.1 = r ∨ ∃ b, q.1 = blk y b := by
  unfold h47 at h
  try unfold brk at h
  repeat' split at h
  all_goals first | (unfold go at h; cases h; first | exact Or.inl rfl | exact Or.inr ⟨_, rfl⟩) | (cases h; done)
theorem cx_47 {q : Nat × List Value × List Ins × List Value × List Value} (h : h47 y a k0 t r L s σ = some (.inr (.inl q))) : q.2.2.1 = r := by
  unfold h47 at h
  try unfold brk at h
  repeat' split at h
  all_goals first | (unfold go at h; cases h; done) | (cases h; done) | (cases h; rfl)
theorem vx_47 {v : Value} (h : h47 y a k0 t r L s σ = some (.inr (.inr v))) : False := by
  unfold h47 at h
  try unfold brk at h
  repeat' split at h
  all_goals first | trivial | (unfold go at h; cases h; done) | (cases h; done) | (cases h; exact ⟨_, rfl⟩)
theorem nx_48 {q : List Ins × List Value × List Value × Sg} (h : h48 y a k0 t r L s σ = some (.inl q)) : q.1 = r ∨ ∃ b, q.1 = blk y b := by
  unfold h48 at h
  try unfold brk at h
  repeat' split at h
  all_goals first | (unfold go at h; cases h; first | exact Or.inl rfl | exact Or.inr ⟨_, rfl⟩) | (cases h; done)
theorem cx_48 {q : Nat × List Value × List Ins × List Value × List Value} (h : h48 y a k0 t r L s σ = some (.inr (.inl q))) : q.2.2.1 = r := by
  unfold h48 at h
  try unfold brk at h
  repeat' split at h
  all_goals first | (unfold go at h; cases h; done) | (cases h; done) | (cases h; rfl)
theorem vx_48 {v : Value} (h : h48 y a k0 t r L s σ = some (.inr (.inr v))) : False := by
  unfold h48 at h
  try unfold brk at h
  repeat' split at h
  all_goals first | trivial | (unfold go at h; cases h; done) | (cases h; done) | (cases h; exact ⟨_, rfl⟩)
theorem nx_49 {q : List Ins × List Value × List Value × Sg} (h : h49 y a k0 t r L s σ = some (.inl q)) : q.1 = r ∨ ∃ b, q.1 = blk y b := by
  unfold h49 at h
  try unfold brk at h
  repeat' split at h
  all_goals first | (unfold go at h; cases h; first | exact Or.inl rfl | exact Or.inr ⟨_, rfl⟩) | (cases h; done)
theorem cx_49 {q : Nat × List Value × List Ins × List Value × List Value} (h : h49 y a k0 t r L s σ = some (.inr (.inl q))) : q.2.2.1 = r := by
  unfold h49 at h
  try unfold brk at h
  repeat' split at h
  all_goals first | (unfold go at h; cases h; done) | (cases h; done) | (cases h; rfl)
theorem vx_49 {v : Value} (h : h49 y a k0 t r L s σ = some (.inr (.inr v))) : False := by
  unfold h49 at h
  try unfold brk at h
  repeat' split at h
  all_goals first | trivial | (unfold go at h; cases h; done) | (cases h; done) | (cases h; exact ⟨_, rfl⟩)
theorem nx_50 {q : List Ins × List Value × List Value × Sg} (h : h50 y a k0 t r L s σ = some (.inl q)) : q.1 = r ∨ ∃ b, q.1 = blk y b := by
  unfold h50 at h
  try unfold brk at h
  repeat' split at h
  all_goals first | (unfold go at h; cases h; first | exact Or.inl rfl | exact Or.inr ⟨_, rfl⟩) | (cases h; done)
theorem cx_50 {q : Nat × List Value × List Ins × List Value × List Value} (h : h50 y a k0 t r L s σ = some (.inr (.inl q))) : q.2.2.1 = r := by
  unfold h50 at h
  try unfold brk at h
  repeat' split at h
  all_goals first | (unfold go at h; cases h; done) | (cases h; done) | (cases h; rfl)
theorem vx_50 {v : Value} (h : h50 y a k0 t r L s σ = some (.inr (.inr v))) : False := by
  unfold h50 at h
  try unfold brk at h
  repeat' split at h
  all_goals first | trivial | (unfold go at h; cases h; done) | (cases h; done) | (cases h; exact ⟨_, rfl⟩)
theorem nx_51 {q : List Ins × List Value × List Value × Sg} (h : h51 y a k0 t r L s σ = some (.inl q)) : q.1 = r ∨ ∃ b, q.1 = blk y b := by
  unfold h51 at h
  try unfold brk at h
  repeat' split at h
  all_goals first | (unfold go at h; cases h; first | exact Or.inl rfl | exact Or.inr ⟨_, rfl⟩) | (cases h; done)
theorem cx_51 {q : Nat × List Value × List Ins × List Value × List Value} (h : h51 y a k0 t r L s σ = some (.inr (.inl q))) : q.2.2.1 = r := by
  unfold h51 at h
  try unfold brk at h
  repeat' split at h
  all_goals first | (unfold go at h; cases h; done) | (cases h; done) | (cases h; rfl)
theorem vx_51 {v : Value} (h : h51 y a k0 t r L s σ = some (.inr (.inr v))) : False := by
  unfold h51 at h
  try unfold brk at h
  repeat' split at h
  all_goals first | trivial | (unfold go at h; cases h; done) | (cases h; done) | (cases h; exact ⟨_, rfl⟩)
theorem nx_52 {q : List Ins × List Value × List Value × Sg} (h : h52 y a k0 t r L s σ = some (.inl q)) : q.1 = r ∨ ∃ b, q.1 = blk y b := by
  unfold h52 at h
  try unfold brk at h
  repeat' split at h
  all_goals first | (unfold go at h; cases h; first | exact Or.inl rfl | exact Or.inr ⟨_, rfl⟩) | (cases h; done)
theorem cx_52 {q : Nat × List Value × List Ins × List Value × List Value} (h : h52 y a k0 t r L s σ = some (.inr (.inl q))) : q.2.2.1 = r := by
  unfold h52 at h
  try unfold brk at h
  repeat' split at h
  all_goals first | (unfold go at h; cases h; done) | (cases h; done) | (cases h; rfl)
theorem vx_52 {v : Value} (h : h52 y a k0 t r L s σ = some (.inr (.inr v))) : False := by
  unfold h52 at h
  try unfold brk at h
  repeat' split at h
  all_goals first | trivial | (unfold go at h; cases h; done) | (cases h; done) | (cases h; exact ⟨_, rfl⟩)
theorem nx_53 {q : List Ins × List Value × List Value × Sg} (h : h53 y a k0 t r L s σ = some (.inl q)) : q.1 = r ∨ ∃ b, q.1 = blk y b := by
  unfold h53 at h
  try unfold brk at h
  repeat' split at h
  all_goals first | (unfold go at h; cases h; first | exact Or.inl rfl | exact Or.inr ⟨_, rfl⟩) | (cases h; done)
theorem cx_53 {q : Nat × List Value × List Ins × List Value × List Value} (h : h53 y a k0 t r L s σ = some (.inr (.inl q))) : q.2.2.1 = r := by
  unfold h53 at h
  try unfold brk at h
  repeat' split at h
  all_goals first | (unfold go at h; cases h; done) | (cases h; done) | (cases h; rfl)
theorem vx_53 {v : Value} (h : h53 y a k0 t r L s σ = some (.inr (.inr v))) : False := by
  unfold h53 at h
  try unfold brk at h
  repeat' split at h
  all_goals first | trivial | (unfold go at h; cases h; done) | (cases h; done) | (cases h; exact ⟨_, rfl⟩)
theorem nx_54 {q : List Ins × List Value × List Value × Sg} (h : h54 y a k0 t r L s σ = some (.inl q)) : q.1 = r ∨ ∃ b, q.1 = blk y b := by
  unfold h54 at h
  try unfold brk at h
  repeat' split at h
  all_goals first | (unfold go at h; cases h; first | exact Or.inl rfl | exact Or.inr ⟨_, rfl⟩) | (cases h; done)
theorem cx_54 {q : Nat × List Value × List Ins × List Value × List Value} (h : h54 y a k0 t r L s σ = some (.inr (.inl q))) : q.2.2.1 = r := by
  unfold h54 at h
  try unfold brk at h
  repeat' split at h
  all_goals first | (unfold go at h; cases h; done) | (cases h; done) | (cases h; rfl)
theorem vx_54 {v : Value} (h : h54 y a k0 t r L s σ = some (.inr (.inr v))) : False := by
  unfold h54 at h
  try unfold brk at h
  repeat' split at h
  all_goals first | trivial | (unfold go at h; cases h; done) | (cases h; done) | (cases h; exact ⟨_, rfl⟩)
theorem nx_55 {q : List Ins × List Value × List Value × Sg} (h : h55 y a k0 t r L s σ = some (.inl q)) : q.1 = r ∨ ∃ b, q.1 = blk y b := by
  unfold h55 at h
  try unfold brk at h
  repeat' split at h
  all_goals first | (unfold go at h; cases h; first | exact Or.inl rfl | exact Or.inr ⟨_, rfl⟩) | (cases h; done)
theorem cx_55 {q : Nat × List Value × List Ins × List Value × List Value} (h : h55 y a k0 t r L s σ = some (.inr (.inl q))) : q.2.2.1 = r := by
  unfold h55 at h
  try unfold brk at h
  repeat' split at h
  all_goals first | (unfold go at h; cases h; done) | (cases h; done) | (cases h; rfl)
theorem vx_55 {v : Value} (h : h55 y a k0 t r L s σ = some (.inr (.inr v))) : False := by
  unfold h55 at h
  try unfold brk at h
  repeat' split at h
  all_goals first | trivial | (unfold go at h; cases h; done) | (cases h; done) | (cases h; exact ⟨_, rfl⟩)
theorem nx_56 {q : List Ins × List Value × List Value × Sg} (h : h56 y a k0 t r L s σ = some (.inl q)) : q.1 = r ∨ ∃ b, q.1 = blk y b := by
  unfold h56 at h
  try unfold brk at h
  repeat' split at h
  all_goals first | (unfold go at h; cases h; first | exact Or.inl rfl | exact Or.inr ⟨_, rfl⟩) | (cases h; done)
theorem cx_56 {q : Nat × List Value × List Ins × List Value × List Value} (h : h56 y a k0 t r L s σ = some (.inr (.inl q))) : q.2.2.1 = r := by
  unfold h56 at h
  try unfold brk at h
  repeat' split at h
  all_goals first | (unfold go at h; cases h; done) | (cases h; done) | (cases h; rfl)
theorem vx_56 {v : Value} (h : h56 y a k0 t r L s σ = some (.inr (.inr v))) : False := by
  unfold h56 at h
  try unfold brk at h
  repeat' split at h
  all_goals first | trivial | (unfold go at h; cases h; done) | (cases h; done) | (cases h; exact ⟨_, rfl⟩)
theorem nx_57 {q : List Ins × List Value × List Value × Sg} (h : h57 y a k0 t r L s σ = some (.inl q)) : q.1 = r ∨ ∃ b, q.1 = blk y b := by
  unfold h57 at h
  try unfold brk at h
  repeat' split at h
  all_goals first | (unfold go at h; cases h; first | exact Or.inl rfl | exact Or.inr ⟨_, rfl⟩) | (cases h; done)
theorem cx_57 {q : Nat × List Value × List Ins × List Value × List Value} (h : h57 y a k0 t r L s σ = some (.inr (.inl q))) : q.2.2.1 = r := by
  unfold h57 at h
  try unfold brk at h
  repeat' split at h
  all_goals first | (unfold go at h; cases h; done) | (cases h; done) | (cases h; rfl)
theorem vx_57 {v : Value} (h : h57 y a k0 t r L s σ = some (.inr (.inr v))) : False := by
  unfold h57 at h
  try unfold brk at h
  repeat' split at h
  all_goals first | trivial | (unfold go at h; cases h; done) | (cases h; done) | (cases h; exact ⟨_, rfl⟩)
theorem nx_60 {q : List Ins × List Value × List Value × Sg} (h : h60 y a k0 t r L s σ = some (.inl q)) : q.1 = r ∨ ∃ b, q.1 = blk y b := by
  unfold h60 at h
  try unfold brk at h
  repeat' split at h
  all_goals first | (unfold go at h; cases h; first | exact Or.inl rfl | exact Or.inr ⟨_, rfl⟩) | (cases h; done)
theorem cx_60 {q : Nat × List Value × List Ins × List Value × List Value} (h : h60 y a k0 t r L s σ = some (.inr (.inl q))) : q.2.2.1 = r := by
  unfold h60 at h
  try unfold brk at h
  repeat' split at h
  all_goals first | (unfold go at h; cases h; done) | (cases h; done) | (cases h; rfl)
theorem vx_60 {v : Value} (h : h60 y a k0 t r L s σ = some (.inr (.inr v))) : True := by
  unfold h60 at h
  try unfold brk at h
  repeat' split at h
  all_goals first | trivial | (unfold go at h; cases h; done) | (cases h; done) | (cases h; exact ⟨_, rfl⟩)
theorem nx_61 {q : List Ins × List Value × List Value × Sg} (h : h61 y a k0 t r L s σ = some (.inl q)) : q.1 = r ∨ ∃ b, q.1 = blk y b := by
  unfold h61 at h
  try unfold brk at h
  repeat' split at h
  all_goals first | (unfold go at h; cases h; first | exact Or.inl rfl | exact Or.inr ⟨_, rfl⟩) | (cases h; done)
theorem cx_61 {q : Nat × List Value × List Ins × List Value × List Value} (h : h61 y a k0 t r L s σ = some (.inr (.inl q))) : q.2.2.1 = r := by
  unfold h61 at h
  try unfold brk at h
  repeat' split at h
  all_goals first | (unfold go at h; cases h; done) | (cases h; done) | (cases h; rfl)
theorem vx_61 {v : Value} (h : h61 y a k0 t r L s σ = some (.inr (.inr v))) : ∃ x, v = .int x := by
  unfold h61 at h
  try unfold brk at h
  repeat' split at h
  all_goals first | trivial | (unfold go at h; cases h; done) | (cases h; done) | (cases h; exact ⟨_, rfl⟩)
theorem nx_62 {q : List Ins × List Value × List Value × Sg} (h : h62 y a k0 t r L s σ = some (.inl q)) : q.1 = r ∨ ∃ b, q.1 = blk y b := by
  unfold h62 at h
  try unfold brk at h
  repeat' split at h
  all_goals first | (unfold go at h; cases h; first | exact Or.inl rfl | exact Or.inr ⟨_, rfl⟩) | (cases h; done)
theorem cx_62 {q : Nat × List Value × List Ins × List Value × List Value} (h : h62 y a k0 t r L s σ = some (.inr (.inl q))) : q.2.2.1 = r := by
  unfold h62 at h
  try unfold brk at h
  repeat' split at h
  all_goals first | (unfold go at h; cases h; done) | (cases h; done) | (cases h; rfl)
theorem vx_62 {v : Value} (h : h62 y a k0 t r L s σ = some (.inr (.inr v))) : ∃ x, v = .long x := by
  unfold h62 at h
  try unfold brk at h
  repeat' split at h
  all_goals first | trivial | (unfold go at h; cases h; done) | (cases h; done) | (cases h; exact ⟨_, rfl⟩)
theorem nx_63 {q : List Ins × List Value × List Value × Sg} (h : h63 y a k0 t r L s σ = some (.inl q)) : q.1 = r ∨ ∃ b, q.1 = blk y b := by
  unfold h63 at h
  try unfold brk at h
  repeat' split at h
  all_goals first | (unfold go at h; cases h; first | exact Or.inl rfl | exact Or.inr ⟨_, rfl⟩) | (cases h; done)
theorem cx_63 {q : Nat × List Value × List Ins × List Value × List Value} (h : h63 y a k0 t r L s σ = some (.inr (.inl q))) : q.2.2.1 = r := by
  unfold h63 at h
  try unfold brk at h
  repeat' split at h
  all_goals first | (unfold go at h; cases h; done) | (cases h; done) | (cases h; rfl)
theorem vx_63 {v : Value} (h : h63 y a k0 t r L s σ = some (.inr (.inr v))) : True := by
  unfold h63 at h
  try unfold brk at h
  repeat' split at h
  all_goals first | trivial | (unfold go at h; cases h; done) | (cases h; done) | (cases h; exact ⟨_, rfl⟩)
theorem nx_64 {q : List Ins × List Value × List Value × Sg} (h : h64 y a k0 t r L s σ = some (.inl q)) : q.1 = r ∨ ∃ b, q.1 = blk y b := by
  unfold h64 at h
  try unfold brk at h
  repeat' split at h
  all_goals first | (unfold go at h; cases h; first | exact Or.inl rfl | exact Or.inr ⟨_, rfl⟩) | (cases h; done)
theorem cx_64 {q : Nat × List Value × List Ins × List Value × List Value} (h : h64 y a k0 t r L s σ = some (.inr (.inl q))) : q.2.2.1 = r := by
  unfold h64 at h
  try unfold brk at h
  repeat' split at h
  all_goals first | (unfold go at h; cases h; done) | (cases h; done) | (cases h; rfl)
theorem vx_64 {v : Value} (h : h64 y a k0 t r L s σ = some (.inr (.inr v))) : True := by
  unfold h64 at h
  try unfold brk at h
  repeat' split at h
  all_goals first | trivial | (unfold go at h; cases h; done) | (cases h; done) | (cases h; exact ⟨_, rfl⟩)
end SHP
theorem st1_nx {y : Nat} {i : Ins} {r : List Ins} {L s : List Value} {σ : Sg} {q : List Ins × List Value × List Value × Sg} (h : st1 y i r L s σ = some (.inl q)) : q.1 = r ∨ ∃ b, q.1 = blk y b := by
  obtain ⟨op, a, k0, t⟩ := i
  unfold st1 at h
  dsimp only at h
  split at h
  · exact nx_0 h
  · exact nx_1 h
  · exact nx_2 h
  · exact nx_3 h
  · exact nx_4 h
  · exact nx_5 h
  · exact nx_6 h
  · exact nx_7 h
  · exact nx_8 h
  · exact nx_9 h
  · exact nx_10 h
  · exact nx_11 h
  · exact nx_12 h
  · exact nx_13 h
  · exact nx_14 h
  · exact nx_15 h
  · exact nx_16 h
  · exact nx_17 h
  · exact nx_18 h
  · exact nx_19 h
  · exact nx_20 h
  · exact nx_21 h
  · exact nx_22 h
  · exact nx_23 h
  · exact nx_24 h
  · exact nx_25 h
  · exact nx_26 h
  · exact nx_27 h
  · exact nx_28 h
  · exact nx_29 h
  · exact nx_30 h
  · exact nx_31 h
  · exact nx_32 h
  · exact nx_33 h
  · exact nx_34 h
  · exact nx_35 h
  · exact nx_36 h
  · exact nx_37 h
  · exact nx_38 h
  · exact nx_39 h
  · exact nx_40 h
  · exact nx_41 h
  · exact nx_42 h
  · exact nx_43 h
  · exact nx_44 h
  · exact nx_45 h
  · exact nx_46 h
  · exact nx_47 h
  · exact nx_48 h
  · exact nx_49 h
  · exact nx_50 h
  · exact nx_51 h
  · exact nx_52 h
  · exact nx_53 h
  · exact nx_54 h
  · exact nx_55 h
  · exact nx_56 h
  · exact nx_57 h
  · exact nx_60 h
  · exact nx_61 h
  · exact nx_62 h
  · exact nx_63 h
  · exact nx_64 h
  · cases h
theorem st1_cx {y : Nat} {i : Ins} {r : List Ins} {L s : List Value} {σ : Sg} {q : Nat × List Value × List Ins × List Value × List Value} (h : st1 y i r L s σ = some (.inr (.inl q))) : q.2.2.1 = r := by
  obtain ⟨op, a, k0, t⟩ := i
  unfold st1 at h
  dsimp only at h
  split at h
  · exact cx_0 h
  · exact cx_1 h
  · exact cx_2 h
  · exact cx_3 h
  · exact cx_4 h
  · exact cx_5 h
  · exact cx_6 h
  · exact cx_7 h
  · exact cx_8 h
  · exact cx_9 h
  · exact cx_10 h
  · exact cx_11 h
  · exact cx_12 h
  · exact cx_13 h
  · exact cx_14 h
  · exact cx_15 h
  · exact cx_16 h
  · exact cx_17 h
  · exact cx_18 h
  · exact cx_19 h
  · exact cx_20 h
  · exact cx_21 h
  · exact cx_22 h
  · exact cx_23 h
  · exact cx_24 h
  · exact cx_25 h
  · exact cx_26 h
  · exact cx_27 h
  · exact cx_28 h
  · exact cx_29 h
  · exact cx_30 h
  · exact cx_31 h
  · exact cx_32 h
  · exact cx_33 h
  · exact cx_34 h
  · exact cx_35 h
  · exact cx_36 h
  · exact cx_37 h
  · exact cx_38 h
  · exact cx_39 h
  · exact cx_40 h
  · exact cx_41 h
  · exact cx_42 h
  · exact cx_43 h
  · exact cx_44 h
  · exact cx_45 h
  · exact cx_46 h
  · exact cx_47 h
  · exact cx_48 h
  · exact cx_49 h
  · exact cx_50 h
  · exact cx_51 h
  · exact cx_52 h
  · exact cx_53 h
  · exact cx_54 h
  · exact cx_55 h
  · exact cx_56 h
  · exact cx_57 h
  · exact cx_60 h
  · exact cx_61 h
  · exact cx_62 h
  · exact cx_63 h
  · exact cx_64 h
  · cases h
def retI (i : Ins) : Bool := i.1 != 60 && i.1 != 62 && i.1 != 63 && i.1 != 64
def retL (i : Ins) : Bool := i.1 != 60 && i.1 != 61 && i.1 != 63 && i.1 != 64
theorem st1_vi {y : Nat} {i : Ins} {r : List Ins} {L s : List Value} {σ : Sg} {v : Value} (hi : retI i = true) (h : st1 y i r L s σ = some (.inr (.inr v))) : ∃ x, v = .int x := by
  obtain ⟨op, a, k0, t⟩ := i
  unfold st1 at h
  dsimp only at h
  split at h
  · exact (vx_0 h).elim
  · exact (vx_1 h).elim
  · exact (vx_2 h).elim
  · exact (vx_3 h).elim
  · exact (vx_4 h).elim
  · exact (vx_5 h).elim
  · exact (vx_6 h).elim
  · exact (vx_7 h).elim
  · exact (vx_8 h).elim
  · exact (vx_9 h).elim
  · exact (vx_10 h).elim
  · exact (vx_11 h).elim
  · exact (vx_12 h).elim
  · exact (vx_13 h).elim
  · exact (vx_14 h).elim
  · exact (vx_15 h).elim
  · exact (vx_16 h).elim
  · exact (vx_17 h).elim
  · exact (vx_18 h).elim
  · exact (vx_19 h).elim
  · exact (vx_20 h).elim
  · exact (vx_21 h).elim
  · exact (vx_22 h).elim
  · exact (vx_23 h).elim
  · exact (vx_24 h).elim
  · exact (vx_25 h).elim
  · exact (vx_26 h).elim
  · exact (vx_27 h).elim
  · exact (vx_28 h).elim
  · exact (vx_29 h).elim
  · exact (vx_30 h).elim
  · exact (vx_31 h).elim
  · exact (vx_32 h).elim
  · exact (vx_33 h).elim
  · exact (vx_34 h).elim
  · exact (vx_35 h).elim
  · exact (vx_36 h).elim
  · exact (vx_37 h).elim
  · exact (vx_38 h).elim
  · exact (vx_39 h).elim
  · exact (vx_40 h).elim
  · exact (vx_41 h).elim
  · exact (vx_42 h).elim
  · exact (vx_43 h).elim
  · exact (vx_44 h).elim
  · exact (vx_45 h).elim
  · exact (vx_46 h).elim
  · exact (vx_47 h).elim
  · exact (vx_48 h).elim
  · exact (vx_49 h).elim
  · exact (vx_50 h).elim
  · exact (vx_51 h).elim
  · exact (vx_52 h).elim
  · exact (vx_53 h).elim
  · exact (vx_54 h).elim
  · exact (vx_55 h).elim
  · exact (vx_56 h).elim
  · exact (vx_57 h).elim
  · exact absurd hi (by simp [retI])
  · exact vx_61 h
  · exact absurd hi (by simp [retI])
  · exact absurd hi (by simp [retI])
  · exact absurd hi (by simp [retI])
  · cases h
theorem st1_vl {y : Nat} {i : Ins} {r : List Ins} {L s : List Value} {σ : Sg} {v : Value} (hi : retL i = true) (h : st1 y i r L s σ = some (.inr (.inr v))) : ∃ x, v = .long x := by
  obtain ⟨op, a, k0, t⟩ := i
  unfold st1 at h
  dsimp only at h
  split at h
  · exact (vx_0 h).elim
  · exact (vx_1 h).elim
  · exact (vx_2 h).elim
  · exact (vx_3 h).elim
  · exact (vx_4 h).elim
  · exact (vx_5 h).elim
  · exact (vx_6 h).elim
  · exact (vx_7 h).elim
  · exact (vx_8 h).elim
  · exact (vx_9 h).elim
  · exact (vx_10 h).elim
  · exact (vx_11 h).elim
  · exact (vx_12 h).elim
  · exact (vx_13 h).elim
  · exact (vx_14 h).elim
  · exact (vx_15 h).elim
  · exact (vx_16 h).elim
  · exact (vx_17 h).elim
  · exact (vx_18 h).elim
  · exact (vx_19 h).elim
  · exact (vx_20 h).elim
  · exact (vx_21 h).elim
  · exact (vx_22 h).elim
  · exact (vx_23 h).elim
  · exact (vx_24 h).elim
  · exact (vx_25 h).elim
  · exact (vx_26 h).elim
  · exact (vx_27 h).elim
  · exact (vx_28 h).elim
  · exact (vx_29 h).elim
  · exact (vx_30 h).elim
  · exact (vx_31 h).elim
  · exact (vx_32 h).elim
  · exact (vx_33 h).elim
  · exact (vx_34 h).elim
  · exact (vx_35 h).elim
  · exact (vx_36 h).elim
  · exact (vx_37 h).elim
  · exact (vx_38 h).elim
  · exact (vx_39 h).elim
  · exact (vx_40 h).elim
  · exact (vx_41 h).elim
  · exact (vx_42 h).elim
  · exact (vx_43 h).elim
  · exact (vx_44 h).elim
  · exact (vx_45 h).elim
  · exact (vx_46 h).elim
  · exact (vx_47 h).elim
  · exact (vx_48 h).elim
  · exact (vx_49 h).elim
  · exact (vx_50 h).elim
  · exact (vx_51 h).elim
  · exact (vx_52 h).elim
  · exact (vx_53 h).elim
  · exact (vx_54 h).elim
  · exact (vx_55 h).elim
  · exact (vx_56 h).elim
  · exact (vx_57 h).elim
  · exact absurd hi (by simp [retL])
  · exact absurd hi (by simp [retL])
  · exact vx_62 h
  · exact absurd hi (by simp [retL])
  · exact absurd hi (by simp [retL])
  · cases h
theorem ev_int {y : Nat} (hb : ∀ b, ∀ i ∈ blk y b, retI i = true) : ∀ n r L s σ v σ', (∀ i ∈ r, retI i = true) → ev n y r L s σ = some (v, σ') → ∃ x, v = .int x := by
  intro n
  induction n with
  | zero => intro r L s σ v σ' _ h; simp [ev] at h
  | succ n ih =>
    intro r L s σ v σ' hr h
    cases r with
    | nil => simp [ev] at h
    | cons i r =>
      have hr' : ∀ j ∈ r, retI j = true := fun j hj => hr j (List.mem_cons_of_mem _ hj)
      rw [ev] at h
      cases hs : st1 y i r L s σ with
      | none => rw [hs] at h; simp at h
      | some q =>
        rw [hs] at h
        rcases q with q | q | w
        · refine ih _ _ _ _ _ _ ?_ h
          rcases st1_nx hs with e | ⟨b, e⟩
          · rw [e]; exact hr'
          · rw [e]; exact hb b
        · dsimp only at h
          cases hc : ev n q.1 (blk q.1 0) (pad (mL q.1) q.2.1) [] σ with
          | none => rw [hc] at h; simp at h
          | some u =>
            rw [hc] at h
            refine ih _ _ _ _ _ _ ?_ h
            rw [st1_cx hs]
            exact hr'
        · simp only [Option.some.injEq, Prod.mk.injEq] at h
          obtain ⟨rfl, -⟩ := h
          exact st1_vi (hr i List.mem_cons_self) hs
theorem ev_int_call {y n : Nat} {as : List Value} {σ : Sg} {v : Value} {σ' : Sg} (hk : ((mK y).all fun b => b.all fun p => retI p.2) = true) (h : ev n y (blk y 0) (pad (mL y) as) [] σ = some (v, σ')) : ∃ x, v = .int x := by
  have hb : ∀ b, ∀ i ∈ blk y b, retI i = true := fun b i hi => by
    unfold blk bkp at hi
    obtain ⟨p, hp, rfl⟩ := List.mem_map.mp hi
    rw [List.getD_eq_getElem?_getD] at hp
    cases hq : (mK y)[b]? with
    | none => rw [hq] at hp; cases hp
    | some z =>
      rw [hq] at hp
      exact List.all_eq_true.mp (List.all_eq_true.mp hk z (List.mem_of_getElem? hq)) p hp
  exact ev_int hb n _ _ _ _ _ _ (hb 0) h
theorem ev_long {y : Nat} (hb : ∀ b, ∀ i ∈ blk y b, retL i = true) : ∀ n r L s σ v σ', (∀ i ∈ r, retL i = true) → ev n y r L s σ = some (v, σ') → ∃ x, v = .long x := by
  intro n
  induction n with
  | zero => intro r L s σ v σ' _ h; simp [ev] at h
  | succ n ih =>
    intro r L s σ v σ' hr h
    cases r with
    | nil => simp [ev] at h
    | cons i r =>
      have hr' : ∀ j ∈ r, retL j = true := fun j hj => hr j (List.mem_cons_of_mem _ hj)
      rw [ev] at h
      cases hs : st1 y i r L s σ with
      | none => rw [hs] at h; simp at h
      | some q =>
        rw [hs] at h
        rcases q with q | q | w
        · refine ih _ _ _ _ _ _ ?_ h
          rcases st1_nx hs with e | ⟨b, e⟩
          · rw [e]; exact hr'
          · rw [e]; exact hb b
        · dsimp only at h
          cases hc : ev n q.1 (blk q.1 0) (pad (mL q.1) q.2.1) [] σ with
          | none => rw [hc] at h; simp at h
          | some u =>
            rw [hc] at h
            refine ih _ _ _ _ _ _ ?_ h
            rw [st1_cx hs]
            exact hr'
        · simp only [Option.some.injEq, Prod.mk.injEq] at h
          obtain ⟨rfl, -⟩ := h
          exact st1_vl (hr i List.mem_cons_self) hs
theorem ev_long_call {y n : Nat} {as : List Value} {σ : Sg} {v : Value} {σ' : Sg} (hk : ((mK y).all fun b => b.all fun p => retL p.2) = true) (h : ev n y (blk y 0) (pad (mL y) as) [] σ = some (v, σ')) : ∃ x, v = .long x := by
  have hb : ∀ b, ∀ i ∈ blk y b, retL i = true := fun b i hi => by
    unfold blk bkp at hi
    obtain ⟨p, hp, rfl⟩ := List.mem_map.mp hi
    rw [List.getD_eq_getElem?_getD] at hp
    cases hq : (mK y)[b]? with
    | none => rw [hq] at hp; cases hp
    | some z =>
      rw [hq] at hp
      exact List.all_eq_true.mp (List.all_eq_true.mp hk z (List.mem_of_getElem? hq)) p hp
  exact ev_long hb n _ _ _ _ _ _ (hb 0) h
