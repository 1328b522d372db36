/-! feed: a byte of a number, both ways of shifting -/
theorem byte_eq {x : Int32} {s : Nat} (hs : s ≤ 24) : (x.toBitVec.sshiftRight s) &&& 255#32 = (x.toBitVec >>> s) &&& 255#32 := by
  apply BitVec.eq_of_getLsbD_eq
  intro i hi
  have h255 : ∀ i, i < 32 → (255#32).getLsbD i = decide (i < 8) := by decide
  rw [BitVec.getLsbD_and, BitVec.getLsbD_and, h255 i hi]
  by_cases h8 : i < 8
  · rw [BitVec.getLsbD_sshiftRight, BitVec.getLsbD_ushiftRight]
    have h1 : s + i < 32 := by omega
    have h2 : ¬ 32 ≤ i := by omega
    simp [h1, h2]
  · simp [h8]
theorem byte_lt {x : Int32} {s : Nat} : ((x.toBitVec >>> s) &&& 255#32).toNat < 256 := by
  rw [BitVec.toNat_and]
  have : (255#32).toNat = 2 ^ 8 - 1 := rfl
  rw [this, Nat.and_two_pow_sub_one_eq_mod]
  omega
