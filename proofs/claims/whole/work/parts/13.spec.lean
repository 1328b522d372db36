/-! rows of 87 numbers: what a borough is -/
def pt (ρ : Nat → Int32) (p f : Nat) : Int32 := ρ (31 + 7 * p + f)
def num (ρ : Nat → Int32) : Nat := (ρ 1).toNatClampNeg
def ix (b k j : Nat) : Option Nat :=
  if k < b then none else if k = b then (if j = 5 then some 1 else if j = 6 then some 0 else if j = 7 then some 2 else none)
  else if k = b + 1 then (if j < 6 then some (9 + j) else none) else if k = b + 2 then (if j < 6 then some (15 + j) else none)
  else if k = b + 3 then (if j < 6 then some (3 + j) else none) else if k = b + 4 then (if j < 10 then some (21 + j) else none)
  else if k = b + 5 then none else if k < b + 14 then (if j < 7 then some (31 + 7 * (k - (b + 6)) + j) else none) else none
def xk (b i : Nat) : Nat := if i < 3 then b else if i < 9 then b + 3 else if i < 15 then b + 1 else if i < 21 then b + 2 else if i < 31 then b + 4 else b + 6 + (i - 31) / 7
def xj (i : Nat) : Nat := if i = 0 then 6 else if i = 1 then 5 else if i = 2 then 7 else if i < 9 then i - 3 else if i < 15 then i - 9 else if i < 21 then i - 15 else if i < 31 then i - 21 else (i - 31) % 7
theorem ix_x {b k j i : Nat} (h : ix b k j = some i) : i < 87 ∧ xk b i = k ∧ xj i = j := by
  unfold ix at h
  by_cases h1 : k < b
  · rw [if_pos h1] at h; cases h
  rw [if_neg h1] at h
  by_cases h2 : k = b
  · subst h2
    rw [if_pos rfl] at h
    by_cases j5 : j = 5
    · subst j5; cases h; exact ⟨by omega, rfl, rfl⟩
    rw [if_neg j5] at h
    by_cases j6 : j = 6
    · subst j6; cases h; exact ⟨by omega, rfl, rfl⟩
    rw [if_neg j6] at h
    by_cases j7 : j = 7
    · subst j7; cases h; exact ⟨by omega, rfl, rfl⟩
    rw [if_neg j7] at h; cases h
  rw [if_neg h2] at h
  have fin : ∀ (c N lo : Nat), (if j < N then some (lo + j) else none) = some i → i = lo + j ∧ j < N := by
    intro c N lo h
    by_cases hj : j < N
    · rw [if_pos hj] at h; cases h; exact ⟨rfl, hj⟩
    · rw [if_neg hj] at h; cases h
  by_cases h3 : k = b + 1
  · rw [if_pos h3] at h
    obtain ⟨rfl, hj⟩ := fin 0 _ _ h
    refine ⟨by omega, ?_, ?_⟩
    · unfold xk; rw [if_neg (by omega), if_neg (by omega), if_pos (by omega)]; omega
    · unfold xj; rw [if_neg (by omega), if_neg (by omega), if_neg (by omega), if_neg (by omega), if_pos (by omega)]; omega
  rw [if_neg h3] at h
  by_cases h4 : k = b + 2
  · rw [if_pos h4] at h
    obtain ⟨rfl, hj⟩ := fin 0 _ _ h
    refine ⟨by omega, ?_, ?_⟩
    · unfold xk; rw [if_neg (by omega), if_neg (by omega), if_neg (by omega), if_pos (by omega)]; omega
    · unfold xj; rw [if_neg (by omega), if_neg (by omega), if_neg (by omega), if_neg (by omega), if_neg (by omega), if_pos (by omega)]; omega
  rw [if_neg h4] at h
  by_cases h5 : k = b + 3
  · rw [if_pos h5] at h
    obtain ⟨rfl, hj⟩ := fin 0 _ _ h
    refine ⟨by omega, ?_, ?_⟩
    · unfold xk; rw [if_neg (by omega), if_pos (by omega)]; omega
    · unfold xj; rw [if_neg (by omega), if_neg (by omega), if_neg (by omega), if_pos (by omega)]; omega
  rw [if_neg h5] at h
  by_cases h6 : k = b + 4
  · rw [if_pos h6] at h
    obtain ⟨rfl, hj⟩ := fin 0 _ _ h
    refine ⟨by omega, ?_, ?_⟩
    · unfold xk; rw [if_neg (by omega), if_neg (by omega), if_neg (by omega), if_neg (by omega), if_pos (by omega)]; omega
    · unfold xj; rw [if_neg (by omega), if_neg (by omega), if_neg (by omega), if_neg (by omega), if_neg (by omega), if_neg (by omega), if_pos (by omega)]; omega
  rw [if_neg h6] at h
  by_cases h7 : k = b + 5
  · rw [if_pos h7] at h; cases h
  rw [if_neg h7] at h
  by_cases h8 : k < b + 14
  · rw [if_pos h8] at h
    obtain ⟨rfl, hj⟩ := fin 0 _ _ h
    refine ⟨by omega, ?_, ?_⟩
    · unfold xk; rw [if_neg (by omega), if_neg (by omega), if_neg (by omega), if_neg (by omega), if_neg (by omega)]; omega
    · unfold xj; rw [if_neg (by omega), if_neg (by omega), if_neg (by omega), if_neg (by omega), if_neg (by omega), if_neg (by omega), if_neg (by omega)]; omega
  · rw [if_neg h8] at h; cases h
theorem ixT {b p f : Nat} (hp : p < 8) (hf : f < 7) : ix b (b + 6 + p) f = some (31 + 7 * p + f) := by
  unfold ix
  rw [if_neg (by omega), if_neg (by omega), if_neg (by omega), if_neg (by omega), if_neg (by omega), if_neg (by omega), if_neg (by omega), if_pos (by omega), if_pos hf]
  congr 1; omega
theorem ix5 {b : Nat} : ix b b 5 = some 1 := by simp [ix]
theorem ix6 {b : Nat} : ix b b 6 = some 0 := by simp [ix]
theorem ix7 {b : Nat} : ix b b 7 = some 2 := by simp [ix]
theorem ixV {b n : Nat} (h : n < 6) : ix b (b + 1) n = some (9 + n) := by
  unfold ix
  rw [if_neg (by omega), if_neg (by omega), if_pos rfl, if_pos h]
theorem ixU {b n : Nat} (h : n < 6) : ix b (b + 2) n = some (15 + n) := by
  unfold ix
  rw [if_neg (by omega), if_neg (by omega), if_neg (by omega), if_pos rfl, if_pos h]
theorem ixL {b n : Nat} (h : n < 6) : ix b (b + 3) n = some (3 + n) := by
  unfold ix
  rw [if_neg (by omega), if_neg (by omega), if_neg (by omega), if_neg (by omega), if_pos rfl, if_pos h]
theorem ixP {b n : Nat} (h : n < 10) : ix b (b + 4) n = some (21 + n) := by
  unfold ix
  rw [if_neg (by omega), if_neg (by omega), if_neg (by omega), if_neg (by omega), if_neg (by omega), if_pos rfl, if_pos h]
def bor (σ : Sg) (b : Nat) : Nat → Int32 := fun i => σ (xk b i) (xj i)
def setB (σ : Sg) (b : Nat) (ρ : Nat → Int32) : Sg := fun k j => match ix b k j with
  | some i => ρ i
  | none => σ k j
theorem setB_in {σ : Sg} {b k j i : Nat} {ρ : Nat → Int32} (h : ix b k j = some i) : setB σ b ρ k j = ρ i := by
  unfold setB; rw [h]
theorem setB_no {σ : Sg} {b k j : Nat} {ρ : Nat → Int32} (h : ix b k j = none) : setB σ b ρ k j = σ k j := by
  unfold setB; rw [h]
theorem setB_bor (σ : Sg) (b : Nat) : setB σ b (bor σ b) = σ := by
  funext k j
  cases h : ix b k j with
  | none => exact setB_no h
  | some i =>
    obtain ⟨-, h1, h2⟩ := ix_x h
    rw [setB_in h]
    unfold bor
    rw [h1, h2]
theorem setB_out {σ : Sg} {b k : Nat} {ρ : Nat → Int32} (h : k < b ∨ b + 14 ≤ k) : setB σ b ρ k = σ k := by
  funext j
  refine setB_no ?_
  unfold ix
  rcases h with h | h
  · rw [if_pos h]
  · rw [if_neg (by omega), if_neg (by omega), if_neg (by omega), if_neg (by omega), if_neg (by omega), if_neg (by omega), if_neg (by omega), if_neg (by omega)]
theorem sbT {σ : Sg} {b p f : Nat} {ρ : Nat → Int32} (hp : p < 8) (hf : f < 7) : setB σ b ρ (b + 6 + p) f = pt ρ p f := setB_in (ixT hp hf)
theorem sb5 {σ : Sg} {b : Nat} {ρ : Nat → Int32} : setB σ b ρ b 5 = ρ 1 := setB_in ix5
theorem sb6 {σ : Sg} {b : Nat} {ρ : Nat → Int32} : setB σ b ρ b 6 = ρ 0 := setB_in ix6
theorem sb7 {σ : Sg} {b : Nat} {ρ : Nat → Int32} : setB σ b ρ b 7 = ρ 2 := setB_in ix7
theorem sbV {σ : Sg} {b n : Nat} {ρ : Nat → Int32} (h : n < 6) : setB σ b ρ (b + 1) n = ρ (9 + n) := setB_in (ixV h)
theorem sbU {σ : Sg} {b n : Nat} {ρ : Nat → Int32} (h : n < 6) : setB σ b ρ (b + 2) n = ρ (15 + n) := setB_in (ixU h)
theorem sbL {σ : Sg} {b n : Nat} {ρ : Nat → Int32} (h : n < 6) : setB σ b ρ (b + 3) n = ρ (3 + n) := setB_in (ixL h)
theorem sbP {σ : Sg} {b n : Nat} {ρ : Nat → Int32} (h : n < 10) : setB σ b ρ (b + 4) n = ρ (21 + n) := setB_in (ixP h)
theorem setB_ext {σ : Sg} {b : Nat} {ρ ρ' : Nat → Int32} (h : ∀ i, i < 87 → ρ i = ρ' i) : setB σ b ρ = setB σ b ρ' := by
  funext k j
  cases hx : ix b k j with
  | none => rw [setB_no hx, setB_no hx]
  | some i => rw [setB_in hx, setB_in hx]; exact h i (ix_x hx).1
theorem setB_setB {σ : Sg} {b : Nat} {ρ ρ' : Nat → Int32} : setB (setB σ b ρ) b ρ' = setB σ b ρ' := by
  funext k j
  cases hx : ix b k j with
  | none => rw [setB_no hx, setB_no hx, setB_no hx]
  | some i => rw [setB_in hx, setB_in hx]
theorem up_ix {σ : Sg} {b k j i : Nat} {ρ : Nat → Int32} {x : Int32} (h : ix b k j = some i) : up2 (setB σ b ρ) k j x = setB σ b (upd ρ i x) := by
  funext k' j'
  obtain ⟨-, h1, h2⟩ := ix_x h
  cases hx : ix b k' j' with
  | none =>
    rw [setB_no hx]
    have hn : ¬ (k' = k ∧ j' = j) := by
      rintro ⟨rfl, rfl⟩
      rw [h] at hx; cases hx
    simp only [up2]
    rw [if_neg hn, setB_no hx]
  | some i' =>
    obtain ⟨-, h3, h4⟩ := ix_x hx
    rw [setB_in hx]
    simp only [up2, upd]
    by_cases e : i' = i
    · subst e
      rw [if_pos rfl, if_pos ⟨h3.symm.trans h1, h4.symm.trans h2⟩]
    · have hn : ¬ (k' = k ∧ j' = j) := by
        rintro ⟨rfl, rfl⟩
        rw [h] at hx; cases hx; exact e rfl
      rw [if_neg e, if_neg hn, setB_in hx]
theorem upT {σ : Sg} {b p f : Nat} {ρ : Nat → Int32} {x : Int32} (hp : p < 8) (hf : f < 7) : up2 (setB σ b ρ) (b + 6 + p) f x = setB σ b (upd ρ (31 + 7 * p + f) x) := up_ix (ixT hp hf)
theorem up5 {σ : Sg} {b : Nat} {ρ : Nat → Int32} {x : Int32} : up2 (setB σ b ρ) b 5 x = setB σ b (upd ρ 1 x) := up_ix ix5
theorem up6 {σ : Sg} {b : Nat} {ρ : Nat → Int32} {x : Int32} : up2 (setB σ b ρ) b 6 x = setB σ b (upd ρ 0 x) := up_ix ix6
theorem up7 {σ : Sg} {b : Nat} {ρ : Nat → Int32} {x : Int32} : up2 (setB σ b ρ) b 7 x = setB σ b (upd ρ 2 x) := up_ix ix7
theorem upV {σ : Sg} {b n : Nat} {ρ : Nat → Int32} {x : Int32} (h : n < 6) : up2 (setB σ b ρ) (b + 1) n x = setB σ b (upd ρ (9 + n) x) := up_ix (ixV h)
theorem upU {σ : Sg} {b n : Nat} {ρ : Nat → Int32} {x : Int32} (h : n < 6) : up2 (setB σ b ρ) (b + 2) n x = setB σ b (upd ρ (15 + n) x) := up_ix (ixU h)
theorem upL {σ : Sg} {b n : Nat} {ρ : Nat → Int32} {x : Int32} (h : n < 6) : up2 (setB σ b ρ) (b + 3) n x = setB σ b (upd ρ (3 + n) x) := up_ix (ixL h)
theorem upP {σ : Sg} {b n : Nat} {ρ : Nat → Int32} {x : Int32} (h : n < 10) : up2 (setB σ b ρ) (b + 4) n x = setB σ b (upd ρ (21 + n) x) := up_ix (ixP h)
theorem pt_upd {ρ : Nat → Int32} {p q f h : Nat} {x : Int32} (hf : f < 7) (hh : h < 7) : pt (upd ρ (31 + 7 * p + f) x) q h = if q = p ∧ h = f then x else pt ρ q h := by
  unfold pt upd
  by_cases e : q = p ∧ h = f
  · obtain ⟨rfl, rfl⟩ := e
    simp
  · rw [if_neg e, if_neg (by omega)]
/-- the row's ranges -/
def RowOK (ρ : Nat → Int32) : Prop := (∃ n, n ≤ 8 ∧ ρ 1 = nI n) ∧ (∃ d, d ≤ 99999 ∧ ρ 0 = nI d) ∧ (∀ i, i < 6 → ∃ w, w < 6 ∧ ρ (3 + i) = nI w) ∧ (∀ i, i < 6 → ∃ v, v ≤ 99 ∧ ρ (9 + i) = nI v) ∧ (∀ i, i < 6 → ∃ v, v ≤ 99 ∧ ρ (15 + i) = nI v) ∧
  (∀ i, i < 10 → ρ (21 + i) = -1 ∨ ∃ q, q < num ρ ∧ ρ (21 + i) = nI q) ∧
  ∀ p, p < 8 → (∃ v, v ≤ 6 ∧ pt ρ p 0 = nI v) ∧ (∃ v, v ≤ 99 ∧ pt ρ p 1 = nI v) ∧ (∃ v, v ≤ 99 ∧ pt ρ p 2 = nI v) ∧ (∃ v, v ≤ 9 ∧ pt ρ p 3 = nI v) ∧ (∃ v, v ≤ 1 ∧ pt ρ p 4 = nI v) ∧ (∃ v, v ≤ 99999 ∧ pt ρ p 5 = nI v) ∧ (∃ v, v ≤ 9999 ∧ pt ρ p 6 = nI v)
theorem RowOK.num {ρ : Nat → Int32} (h : RowOK ρ) : num ρ ≤ 8 ∧ ρ 1 = nI (num ρ) := by
  obtain ⟨⟨n, hn, e⟩, -⟩ := h
  have : _root_.Jvm.Pilot.CPourElectionLaw_law_r9972_359b6e.num ρ = n := by
    show (ρ 1).toNatClampNeg = n
    rw [e, nI_clamp (by omega)]
  rw [this]
  exact ⟨hn, e⟩
def sumL (ρ : Nat → Int32) (f : Nat) : Nat → Int32
  | 0 => 0
  | i + 1 => sumL ρ f i + pt ρ i f
theorem c_told {k f : Nat} {σ : Sg} {Q : Value → Sg → Prop} (hk : isT k) (hf : f < 7) (h : Q (.int (σ k f)) σ) : Call 29 [.ref k, .int (nI f)] σ Q := by
  have hc : f = 0 ∨ f = 1 ∨ f = 2 ∨ f = 3 ∨ f = 4 ∨ f = 5 ∨ f = 6 := by omega
  rcases hc with rfl | rfl | rfl | rfl | rfl | rfl | rfl
  all_goals simp (config := { decide := true }) (disch := first | assumption | exact nlI | exact nlR | exact nlN | (simp only [rs0, rsi, rsr, rsl] <;> omega) | omega | exact Or.inl rfl | exact Or.inr rfl | exact cl0 | exact cl14 | exact cl28 | exact cl42 | exact cl43 | exact cl55 | exact tz0 | exact tz1 | exact clB (by assumption) | exact clT (by assumption) | exact isT_of (by assumption) (by omega) | exact clT (isT_of (by assumption) (by omega)) | exact clS (by assumption) | (rw [alB1 (by assumption)]; omega) | (rw [alB2 (by assumption)]; omega) | (rw [alB3 (by assumption)]; omega) | (rw [alB4 (by assumption)]; omega) | (rw [alS (by assumption)]; omega) | (simp only [al1, al2, al3, al4, al15, al16, al17, al18, al29, al30, al31, al32, al44, al45, al51, al52, al53, al54, al56, al57, al58, al59, al60, al62, al63, al64, al65, al66] <;> omega)) only [e0, e5, e6, e7, e8, e9, e10, e11, e12, e13, e14, e15, e16, e17, e18, e19, e20, e21, e22, e23, e24i, e24r, e25ir, e26i, e26r, e27, e28, e29, e30, e31, e32, e33, e34, e35, e36, e37, e38, e39, e40, e41, e42, e43, e44n, e44c, e45n, e45c, e53, e60, e61, e62, e63, e64, rs0, rsi, rsr, rsl, pvi, pvr, pvl, pvn, a49, a50, a51B, a51S, a51K, a52K, a51_0, a51_14, a51_28, e1i_0, e1r_0, e1l_0, e2i_0, e2r_0, e4_0, e3_0, e1i_1, e1r_1, e1l_1, e2i_1, e2r_1, e4_1, e3_1, e1i_2, e1r_2, e1l_2, e2i_2, e2r_2, e4_2, e3_2, e1i_3, e1r_3, e1l_3, e2i_3, e2r_3, e4_3, e3_3, e1i_4, e1r_4, e1l_4, e2i_4, e2r_4, e4_4, e3_4, e1i_5, e1r_5, e1l_5, e2i_5, e2r_5, e4_5, e3_5, e1i_6, e1r_6, e1l_6, e2i_6, e2r_6, e4_6, e3_6, e1i_7, e1r_7, e1l_7, e2i_7, e2r_7, e4_7, e3_7, e1i_8, e1r_8, e1l_8, e2i_8, e2r_8, e4_8, pB7_28, fB7_28, pB7_14, fB7_14, pB7_0, fB7_0, pB6_28, fB6_28, pB6_14, fB6_14, pB6_0, fB6_0, pB5_28, fB5_28, pB5_14, fB5_14, pB5_0, fB5_0, fB4_28, fB4_14, fB4_0, fB3_28, fB3_14, fB3_0, fB2_28, fB2_14, fB2_0, fB1_28, fB1_14, fB1_0, fB0_28, fB0_14, fB0_0, fT0, pT0, fT1, pT1, fT2, pT2, fT3, pT3, fT4, pT4, fT5, pT5, fT6, pT6, fB0, fB1, fB2, fB3, fB4, fB5, pB5, fB6, pB6, fB7, pB7, fS0, fS1, pS1, fS2, pS2, f42_0, f42_1, f42_2, f42_3, f42_4, f42_5, p42_6, f42_6, f43_0, p43_1, f43_1, p43_2, f43_2, p43_3, f43_3, p43_4, f43_4, p43_5, f43_5, f55_0, f55_1, f55_2, p55_3, f55_3, f55_4, f55_5, p55_6, f55_6, p55_7, f55_7, p55_8, f55_8, p55_9, f55_9, p55_10, f55_10, p55_11, f55_11, f55_12, f55_13, p55_14, f55_14, p55_15, f55_15, f55_16, f55_17, f55_18, f55_19, iv0, iv1, iv2, iv3, iv4, iv5, iv6, iv7, iv8, iv9, iv10, iv11, iv12, iv13, iv14, iv15, iv16, iv17, iv18, iv19, iv20, iv21, iv22, iv23, iv24, iv25, iv26, iv27, iv28, iv29, iv30, iv31, iv32, iv33, iv34, iv35, iv36, iv37, iv38, iv39, iv40, iv41, iv42, iv43, iv44, iv45, iv46, iv47, iv48, iv49, iv50, iv51, iv52, iv53, iv54, iv55, iv56, iv57, iv58, iv59, iv60, iv61, iv62, iv63, iv64, iv65, iv66, iv67, iv68, iv69, iv70, iv71, iv72, iv73, iv74, iv75, iv76, iv77, iv78, iv79, iv80, iv81, iv82, iv83, iv84, iv85, iv86, iv87, iv88, iv89, iv90, iv91, iv92, iv93, iv94, iv95, iv96, iv97, iv98, iv99, iv100, iv101, iv102, iv103, iv104, iv105, iv106, iv107, iv108, iv109, iv110, iv111, iv112, iv113, iv114, iv115, iv116, iv117, iv118, iv119, iv120, iv121, iv122, iv123, iv124, iv125, iv126, iv127, iv128, iv129, iv130, iv131, iv132, iv133, iv134, iv135, iv136, iv137, iv138, iv139, iv140, iv141, iv142, iv143, iv144, iv145, iv146, iv147, iv148, iv149, iv150, iv151, iv152, iv153, iv154, iv155, iv156, iv157, iv158, iv159, iv160, iv161, iv162, iv163, iv164, iv165, iv166, iv167, iv168, iv169, iv170, iv171, iv172, iv173, iv174, iv175, iv176, iv177, iv178, iv179, iv180, iv181, iv182, iv183, iv184, iv185, iv186, iv187, iv188, iv189, iv190, iv191, iv192, iv193, iv194, iv195, iv196, iv197, iv198, iv199, iv200, iv201, iv202, iv203, iv204, ca29, bk29_0, bk29_1, bk29_2, bk29_3, bk29_4, bk29_5, bk29_6, bk29_7, if_pos, if_neg, nI_1, nI_0, nI_ltI, nI_leI, nI_eq, Nat.reduceAdd, Nat.reduceMul, Nat.reduceSub, eq_self, Int32.reduceLT, Int32.reduceLE, Int32.reduceAdd, Int32.reduceSub, Int32.reduceMul, not_true_eq_false, not_false_eq_true, ite_self, if_true, if_false, show nI 1 = 1 from rfl, show nI 2 = 2 from rfl, show nI 3 = 3 from rfl, show nI 4 = 4 from rfl, show nI 5 = 5 from rfl, show nI 6 = 6 from rfl]
  all_goals exact h
theorem s_sum {b f : Nat} {σ : Sg} {ρ : Nat → Int32} {Q : Value → Sg → Prop} (hb : isB b) (hR : RowOK ρ) (hf : f < 7) (h : Q (.int (sumL ρ f (num ρ))) (setB σ b ρ)) : Call 9 [.ref b, .int (nI f)] (setB σ b ρ) Q := by
  obtain ⟨hn, en⟩ := hR.num
  have loop : ∀ m i : Nat, i ≤ num ρ → num ρ - i = m → Blk 9 1 [.ref b, .int (nI f), .int (sumL ρ f i), .int (nI i)] [] (setB σ b ρ) Q := by
    intro m
    induction m with
    | zero =>
      intro i hi hm
      have e : i = num ρ := by omega
      subst e
      simp (config := { decide := true }) (disch := first | assumption | exact nlI | exact nlR | exact nlN | (simp only [rs0, rsi, rsr, rsl] <;> omega) | omega | exact Or.inl rfl | exact Or.inr rfl | exact cl0 | exact cl14 | exact cl28 | exact cl42 | exact cl43 | exact cl55 | exact tz0 | exact tz1 | exact clB (by assumption) | exact clT (by assumption) | exact isT_of (by assumption) (by omega) | exact clT (isT_of (by assumption) (by omega)) | exact clS (by assumption) | (rw [alB1 (by assumption)]; omega) | (rw [alB2 (by assumption)]; omega) | (rw [alB3 (by assumption)]; omega) | (rw [alB4 (by assumption)]; omega) | (rw [alS (by assumption)]; omega) | (simp only [al1, al2, al3, al4, al15, al16, al17, al18, al29, al30, al31, al32, al44, al45, al51, al52, al53, al54, al56, al57, al58, al59, al60, al62, al63, al64, al65, al66] <;> omega)) only [e0, e5, e6, e7, e8, e9, e10, e11, e12, e13, e14, e15, e16, e17, e18, e19, e20, e21, e22, e23, e24i, e24r, e25ir, e26i, e26r, e27, e28, e29, e30, e31, e32, e33, e34, e35, e36, e37, e38, e39, e40, e41, e42, e43, e44n, e44c, e45n, e45c, e53, e60, e61, e62, e63, e64, rs0, rsi, rsr, rsl, pvi, pvr, pvl, pvn, a49, a50, a51B, a51S, a51K, a52K, a51_0, a51_14, a51_28, e1i_0, e1r_0, e1l_0, e2i_0, e2r_0, e4_0, e3_0, e1i_1, e1r_1, e1l_1, e2i_1, e2r_1, e4_1, e3_1, e1i_2, e1r_2, e1l_2, e2i_2, e2r_2, e4_2, e3_2, e1i_3, e1r_3, e1l_3, e2i_3, e2r_3, e4_3, e3_3, e1i_4, e1r_4, e1l_4, e2i_4, e2r_4, e4_4, e3_4, e1i_5, e1r_5, e1l_5, e2i_5, e2r_5, e4_5, e3_5, e1i_6, e1r_6, e1l_6, e2i_6, e2r_6, e4_6, e3_6, e1i_7, e1r_7, e1l_7, e2i_7, e2r_7, e4_7, e3_7, e1i_8, e1r_8, e1l_8, e2i_8, e2r_8, e4_8, pB7_28, fB7_28, pB7_14, fB7_14, pB7_0, fB7_0, pB6_28, fB6_28, pB6_14, fB6_14, pB6_0, fB6_0, pB5_28, fB5_28, pB5_14, fB5_14, pB5_0, fB5_0, fB4_28, fB4_14, fB4_0, fB3_28, fB3_14, fB3_0, fB2_28, fB2_14, fB2_0, fB1_28, fB1_14, fB1_0, fB0_28, fB0_14, fB0_0, fT0, pT0, fT1, pT1, fT2, pT2, fT3, pT3, fT4, pT4, fT5, pT5, fT6, pT6, fB0, fB1, fB2, fB3, fB4, fB5, pB5, fB6, pB6, fB7, pB7, fS0, fS1, pS1, fS2, pS2, f42_0, f42_1, f42_2, f42_3, f42_4, f42_5, p42_6, f42_6, f43_0, p43_1, f43_1, p43_2, f43_2, p43_3, f43_3, p43_4, f43_4, p43_5, f43_5, f55_0, f55_1, f55_2, p55_3, f55_3, f55_4, f55_5, p55_6, f55_6, p55_7, f55_7, p55_8, f55_8, p55_9, f55_9, p55_10, f55_10, p55_11, f55_11, f55_12, f55_13, p55_14, f55_14, p55_15, f55_15, f55_16, f55_17, f55_18, f55_19, iv0, iv1, iv2, iv3, iv4, iv5, iv6, iv7, iv8, iv9, iv10, iv11, iv12, iv13, iv14, iv15, iv16, iv17, iv18, iv19, iv20, iv21, iv22, iv23, iv24, iv25, iv26, iv27, iv28, iv29, iv30, iv31, iv32, iv33, iv34, iv35, iv36, iv37, iv38, iv39, iv40, iv41, iv42, iv43, iv44, iv45, iv46, iv47, iv48, iv49, iv50, iv51, iv52, iv53, iv54, iv55, iv56, iv57, iv58, iv59, iv60, iv61, iv62, iv63, iv64, iv65, iv66, iv67, iv68, iv69, iv70, iv71, iv72, iv73, iv74, iv75, iv76, iv77, iv78, iv79, iv80, iv81, iv82, iv83, iv84, iv85, iv86, iv87, iv88, iv89, iv90, iv91, iv92, iv93, iv94, iv95, iv96, iv97, iv98, iv99, iv100, iv101, iv102, iv103, iv104, iv105, iv106, iv107, iv108, iv109, iv110, iv111, iv112, iv113, iv114, iv115, iv116, iv117, iv118, iv119, iv120, iv121, iv122, iv123, iv124, iv125, iv126, iv127, iv128, iv129, iv130, iv131, iv132, iv133, iv134, iv135, iv136, iv137, iv138, iv139, iv140, iv141, iv142, iv143, iv144, iv145, iv146, iv147, iv148, iv149, iv150, iv151, iv152, iv153, iv154, iv155, iv156, iv157, iv158, iv159, iv160, iv161, iv162, iv163, iv164, iv165, iv166, iv167, iv168, iv169, iv170, iv171, iv172, iv173, iv174, iv175, iv176, iv177, iv178, iv179, iv180, iv181, iv182, iv183, iv184, iv185, iv186, iv187, iv188, iv189, iv190, iv191, iv192, iv193, iv194, iv195, iv196, iv197, iv198, iv199, iv200, iv201, iv202, iv203, iv204, ca9, bk9_0, bk9_1, bk9_2, if_pos, if_neg, nI_1, nI_0, nI_ltI, nI_leI, nI_eq, Nat.reduceAdd, Nat.reduceMul, Nat.reduceSub, eq_self, Int32.reduceLT, Int32.reduceLE, Int32.reduceAdd, Int32.reduceSub, Int32.reduceMul, not_true_eq_false, not_false_eq_true, ite_self, if_true, if_false, sb5, en]
      exact h
    | succ m ih =>
      intro i hi hm
      rw [bk9_1]
      simp (config := { decide := true }) (disch := first | assumption | exact nlI | exact nlR | exact nlN | (simp only [rs0, rsi, rsr, rsl] <;> omega) | omega | exact Or.inl rfl | exact Or.inr rfl | exact cl0 | exact cl14 | exact cl28 | exact cl42 | exact cl43 | exact cl55 | exact tz0 | exact tz1 | exact clB (by assumption) | exact clT (by assumption) | exact isT_of (by assumption) (by omega) | exact clT (isT_of (by assumption) (by omega)) | exact clS (by assumption) | (rw [alB1 (by assumption)]; omega) | (rw [alB2 (by assumption)]; omega) | (rw [alB3 (by assumption)]; omega) | (rw [alB4 (by assumption)]; omega) | (rw [alS (by assumption)]; omega) | (simp only [al1, al2, al3, al4, al15, al16, al17, al18, al29, al30, al31, al32, al44, al45, al51, al52, al53, al54, al56, al57, al58, al59, al60, al62, al63, al64, al65, al66] <;> omega)) only [e0, e5, e6, e7, e8, e9, e10, e11, e12, e13, e14, e15, e16, e17, e18, e19, e20, e21, e22, e23, e24i, e24r, e25ir, e26i, e26r, e27, e28, e29, e30, e31, e32, e33, e34, e35, e36, e37, e38, e39, e40, e41, e42, e43, e44n, e44c, e45n, e45c, e53, e60, e61, e62, e63, e64, rs0, rsi, rsr, rsl, pvi, pvr, pvl, pvn, a49, a50, a51B, a51S, a51K, a52K, a51_0, a51_14, a51_28, e1i_0, e1r_0, e1l_0, e2i_0, e2r_0, e4_0, e3_0, e1i_1, e1r_1, e1l_1, e2i_1, e2r_1, e4_1, e3_1, e1i_2, e1r_2, e1l_2, e2i_2, e2r_2, e4_2, e3_2, e1i_3, e1r_3, e1l_3, e2i_3, e2r_3, e4_3, e3_3, e1i_4, e1r_4, e1l_4, e2i_4, e2r_4, e4_4, e3_4, e1i_5, e1r_5, e1l_5, e2i_5, e2r_5, e4_5, e3_5, e1i_6, e1r_6, e1l_6, e2i_6, e2r_6, e4_6, e3_6, e1i_7, e1r_7, e1l_7, e2i_7, e2r_7, e4_7, e3_7, e1i_8, e1r_8, e1l_8, e2i_8, e2r_8, e4_8, pB7_28, fB7_28, pB7_14, fB7_14, pB7_0, fB7_0, pB6_28, fB6_28, pB6_14, fB6_14, pB6_0, fB6_0, pB5_28, fB5_28, pB5_14, fB5_14, pB5_0, fB5_0, fB4_28, fB4_14, fB4_0, fB3_28, fB3_14, fB3_0, fB2_28, fB2_14, fB2_0, fB1_28, fB1_14, fB1_0, fB0_28, fB0_14, fB0_0, fT0, pT0, fT1, pT1, fT2, pT2, fT3, pT3, fT4, pT4, fT5, pT5, fT6, pT6, fB0, fB1, fB2, fB3, fB4, fB5, pB5, fB6, pB6, fB7, pB7, fS0, fS1, pS1, fS2, pS2, f42_0, f42_1, f42_2, f42_3, f42_4, f42_5, p42_6, f42_6, f43_0, p43_1, f43_1, p43_2, f43_2, p43_3, f43_3, p43_4, f43_4, p43_5, f43_5, f55_0, f55_1, f55_2, p55_3, f55_3, f55_4, f55_5, p55_6, f55_6, p55_7, f55_7, p55_8, f55_8, p55_9, f55_9, p55_10, f55_10, p55_11, f55_11, f55_12, f55_13, p55_14, f55_14, p55_15, f55_15, f55_16, f55_17, f55_18, f55_19, iv0, iv1, iv2, iv3, iv4, iv5, iv6, iv7, iv8, iv9, iv10, iv11, iv12, iv13, iv14, iv15, iv16, iv17, iv18, iv19, iv20, iv21, iv22, iv23, iv24, iv25, iv26, iv27, iv28, iv29, iv30, iv31, iv32, iv33, iv34, iv35, iv36, iv37, iv38, iv39, iv40, iv41, iv42, iv43, iv44, iv45, iv46, iv47, iv48, iv49, iv50, iv51, iv52, iv53, iv54, iv55, iv56, iv57, iv58, iv59, iv60, iv61, iv62, iv63, iv64, iv65, iv66, iv67, iv68, iv69, iv70, iv71, iv72, iv73, iv74, iv75, iv76, iv77, iv78, iv79, iv80, iv81, iv82, iv83, iv84, iv85, iv86, iv87, iv88, iv89, iv90, iv91, iv92, iv93, iv94, iv95, iv96, iv97, iv98, iv99, iv100, iv101, iv102, iv103, iv104, iv105, iv106, iv107, iv108, iv109, iv110, iv111, iv112, iv113, iv114, iv115, iv116, iv117, iv118, iv119, iv120, iv121, iv122, iv123, iv124, iv125, iv126, iv127, iv128, iv129, iv130, iv131, iv132, iv133, iv134, iv135, iv136, iv137, iv138, iv139, iv140, iv141, iv142, iv143, iv144, iv145, iv146, iv147, iv148, iv149, iv150, iv151, iv152, iv153, iv154, iv155, iv156, iv157, iv158, iv159, iv160, iv161, iv162, iv163, iv164, iv165, iv166, iv167, iv168, iv169, iv170, iv171, iv172, iv173, iv174, iv175, iv176, iv177, iv178, iv179, iv180, iv181, iv182, iv183, iv184, iv185, iv186, iv187, iv188, iv189, iv190, iv191, iv192, iv193, iv194, iv195, iv196, iv197, iv198, iv199, iv200, iv201, iv202, iv203, iv204, ca9, bk9_0, bk9_2, if_pos, if_neg, nI_1, nI_0, nI_ltI, nI_leI, nI_eq, Nat.reduceAdd, Nat.reduceMul, Nat.reduceSub, eq_self, Int32.reduceLT, Int32.reduceLE, Int32.reduceAdd, Int32.reduceSub, Int32.reduceMul, not_true_eq_false, not_false_eq_true, ite_self, if_true, if_false, sb5, en]
      refine c_told (isT_of (p := i) hb (by omega)) hf ?_
      simp (config := { decide := true }) (disch := first | assumption | exact nlI | exact nlR | exact nlN | (simp only [rs0, rsi, rsr, rsl] <;> omega) | omega | exact Or.inl rfl | exact Or.inr rfl | exact cl0 | exact cl14 | exact cl28 | exact cl42 | exact cl43 | exact cl55 | exact tz0 | exact tz1 | exact clB (by assumption) | exact clT (by assumption) | exact isT_of (by assumption) (by omega) | exact clT (isT_of (by assumption) (by omega)) | exact clS (by assumption) | (rw [alB1 (by assumption)]; omega) | (rw [alB2 (by assumption)]; omega) | (rw [alB3 (by assumption)]; omega) | (rw [alB4 (by assumption)]; omega) | (rw [alS (by assumption)]; omega) | (simp only [al1, al2, al3, al4, al15, al16, al17, al18, al29, al30, al31, al32, al44, al45, al51, al52, al53, al54, al56, al57, al58, al59, al60, al62, al63, al64, al65, al66] <;> omega)) only [e0, e5, e6, e7, e8, e9, e10, e11, e12, e13, e14, e15, e16, e17, e18, e19, e20, e21, e22, e23, e24i, e24r, e25ir, e26i, e26r, e27, e28, e29, e30, e31, e32, e33, e34, e35, e36, e37, e38, e39, e40, e41, e42, e43, e44n, e44c, e45n, e45c, e53, e60, e61, e62, e63, e64, rs0, rsi, rsr, rsl, pvi, pvr, pvl, pvn, a49, a50, a51B, a51S, a51K, a52K, a51_0, a51_14, a51_28, e1i_0, e1r_0, e1l_0, e2i_0, e2r_0, e4_0, e3_0, e1i_1, e1r_1, e1l_1, e2i_1, e2r_1, e4_1, e3_1, e1i_2, e1r_2, e1l_2, e2i_2, e2r_2, e4_2, e3_2, e1i_3, e1r_3, e1l_3, e2i_3, e2r_3, e4_3, e3_3, e1i_4, e1r_4, e1l_4, e2i_4, e2r_4, e4_4, e3_4, e1i_5, e1r_5, e1l_5, e2i_5, e2r_5, e4_5, e3_5, e1i_6, e1r_6, e1l_6, e2i_6, e2r_6, e4_6, e3_6, e1i_7, e1r_7, e1l_7, e2i_7, e2r_7, e4_7, e3_7, e1i_8, e1r_8, e1l_8, e2i_8, e2r_8, e4_8, pB7_28, fB7_28, pB7_14, fB7_14, pB7_0, fB7_0, pB6_28, fB6_28, pB6_14, fB6_14, pB6_0, fB6_0, pB5_28, fB5_28, pB5_14, fB5_14, pB5_0, fB5_0, fB4_28, fB4_14, fB4_0, fB3_28, fB3_14, fB3_0, fB2_28, fB2_14, fB2_0, fB1_28, fB1_14, fB1_0, fB0_28, fB0_14, fB0_0, fT0, pT0, fT1, pT1, fT2, pT2, fT3, pT3, fT4, pT4, fT5, pT5, fT6, pT6, fB0, fB1, fB2, fB3, fB4, fB5, pB5, fB6, pB6, fB7, pB7, fS0, fS1, pS1, fS2, pS2, f42_0, f42_1, f42_2, f42_3, f42_4, f42_5, p42_6, f42_6, f43_0, p43_1, f43_1, p43_2, f43_2, p43_3, f43_3, p43_4, f43_4, p43_5, f43_5, f55_0, f55_1, f55_2, p55_3, f55_3, f55_4, f55_5, p55_6, f55_6, p55_7, f55_7, p55_8, f55_8, p55_9, f55_9, p55_10, f55_10, p55_11, f55_11, f55_12, f55_13, p55_14, f55_14, p55_15, f55_15, f55_16, f55_17, f55_18, f55_19, iv0, iv1, iv2, iv3, iv4, iv5, iv6, iv7, iv8, iv9, iv10, iv11, iv12, iv13, iv14, iv15, iv16, iv17, iv18, iv19, iv20, iv21, iv22, iv23, iv24, iv25, iv26, iv27, iv28, iv29, iv30, iv31, iv32, iv33, iv34, iv35, iv36, iv37, iv38, iv39, iv40, iv41, iv42, iv43, iv44, iv45, iv46, iv47, iv48, iv49, iv50, iv51, iv52, iv53, iv54, iv55, iv56, iv57, iv58, iv59, iv60, iv61, iv62, iv63, iv64, iv65, iv66, iv67, iv68, iv69, iv70, iv71, iv72, iv73, iv74, iv75, iv76, iv77, iv78, iv79, iv80, iv81, iv82, iv83, iv84, iv85, iv86, iv87, iv88, iv89, iv90, iv91, iv92, iv93, iv94, iv95, iv96, iv97, iv98, iv99, iv100, iv101, iv102, iv103, iv104, iv105, iv106, iv107, iv108, iv109, iv110, iv111, iv112, iv113, iv114, iv115, iv116, iv117, iv118, iv119, iv120, iv121, iv122, iv123, iv124, iv125, iv126, iv127, iv128, iv129, iv130, iv131, iv132, iv133, iv134, iv135, iv136, iv137, iv138, iv139, iv140, iv141, iv142, iv143, iv144, iv145, iv146, iv147, iv148, iv149, iv150, iv151, iv152, iv153, iv154, iv155, iv156, iv157, iv158, iv159, iv160, iv161, iv162, iv163, iv164, iv165, iv166, iv167, iv168, iv169, iv170, iv171, iv172, iv173, iv174, iv175, iv176, iv177, iv178, iv179, iv180, iv181, iv182, iv183, iv184, iv185, iv186, iv187, iv188, iv189, iv190, iv191, iv192, iv193, iv194, iv195, iv196, iv197, iv198, iv199, iv200, iv201, iv202, iv203, iv204, ca9, bk9_0, bk9_2, if_pos, if_neg, nI_1, nI_0, nI_ltI, nI_leI, nI_eq, Nat.reduceAdd, Nat.reduceMul, Nat.reduceSub, eq_self, Int32.reduceLT, Int32.reduceLE, Int32.reduceAdd, Int32.reduceSub, Int32.reduceMul, not_true_eq_false, not_false_eq_true, ite_self, if_true, if_false, sbT]
      exact ih (i + 1) (by omega) (by omega)
  simp (config := { decide := true }) (disch := first | assumption | exact nlI | exact nlR | exact nlN | (simp only [rs0, rsi, rsr, rsl] <;> omega) | omega | exact Or.inl rfl | exact Or.inr rfl | exact cl0 | exact cl14 | exact cl28 | exact cl42 | exact cl43 | exact cl55 | exact tz0 | exact tz1 | exact clB (by assumption) | exact clT (by assumption) | exact isT_of (by assumption) (by omega) | exact clT (isT_of (by assumption) (by omega)) | exact clS (by assumption) | (rw [alB1 (by assumption)]; omega) | (rw [alB2 (by assumption)]; omega) | (rw [alB3 (by assumption)]; omega) | (rw [alB4 (by assumption)]; omega) | (rw [alS (by assumption)]; omega) | (simp only [al1, al2, al3, al4, al15, al16, al17, al18, al29, al30, al31, al32, al44, al45, al51, al52, al53, al54, al56, al57, al58, al59, al60, al62, al63, al64, al65, al66] <;> omega)) only [e0, e5, e6, e7, e8, e9, e10, e11, e12, e13, e14, e15, e16, e17, e18, e19, e20, e21, e22, e23, e24i, e24r, e25ir, e26i, e26r, e27, e28, e29, e30, e31, e32, e33, e34, e35, e36, e37, e38, e39, e40, e41, e42, e43, e44n, e44c, e45n, e45c, e53, e60, e61, e62, e63, e64, rs0, rsi, rsr, rsl, pvi, pvr, pvl, pvn, a49, a50, a51B, a51S, a51K, a52K, a51_0, a51_14, a51_28, e1i_0, e1r_0, e1l_0, e2i_0, e2r_0, e4_0, e3_0, e1i_1, e1r_1, e1l_1, e2i_1, e2r_1, e4_1, e3_1, e1i_2, e1r_2, e1l_2, e2i_2, e2r_2, e4_2, e3_2, e1i_3, e1r_3, e1l_3, e2i_3, e2r_3, e4_3, e3_3, e1i_4, e1r_4, e1l_4, e2i_4, e2r_4, e4_4, e3_4, e1i_5, e1r_5, e1l_5, e2i_5, e2r_5, e4_5, e3_5, e1i_6, e1r_6, e1l_6, e2i_6, e2r_6, e4_6, e3_6, e1i_7, e1r_7, e1l_7, e2i_7, e2r_7, e4_7, e3_7, e1i_8, e1r_8, e1l_8, e2i_8, e2r_8, e4_8, pB7_28, fB7_28, pB7_14, fB7_14, pB7_0, fB7_0, pB6_28, fB6_28, pB6_14, fB6_14, pB6_0, fB6_0, pB5_28, fB5_28, pB5_14, fB5_14, pB5_0, fB5_0, fB4_28, fB4_14, fB4_0, fB3_28, fB3_14, fB3_0, fB2_28, fB2_14, fB2_0, fB1_28, fB1_14, fB1_0, fB0_28, fB0_14, fB0_0, fT0, pT0, fT1, pT1, fT2, pT2, fT3, pT3, fT4, pT4, fT5, pT5, fT6, pT6, fB0, fB1, fB2, fB3, fB4, fB5, pB5, fB6, pB6, fB7, pB7, fS0, fS1, pS1, fS2, pS2, f42_0, f42_1, f42_2, f42_3, f42_4, f42_5, p42_6, f42_6, f43_0, p43_1, f43_1, p43_2, f43_2, p43_3, f43_3, p43_4, f43_4, p43_5, f43_5, f55_0, f55_1, f55_2, p55_3, f55_3, f55_4, f55_5, p55_6, f55_6, p55_7, f55_7, p55_8, f55_8, p55_9, f55_9, p55_10, f55_10, p55_11, f55_11, f55_12, f55_13, p55_14, f55_14, p55_15, f55_15, f55_16, f55_17, f55_18, f55_19, iv0, iv1, iv2, iv3, iv4, iv5, iv6, iv7, iv8, iv9, iv10, iv11, iv12, iv13, iv14, iv15, iv16, iv17, iv18, iv19, iv20, iv21, iv22, iv23, iv24, iv25, iv26, iv27, iv28, iv29, iv30, iv31, iv32, iv33, iv34, iv35, iv36, iv37, iv38, iv39, iv40, iv41, iv42, iv43, iv44, iv45, iv46, iv47, iv48, iv49, iv50, iv51, iv52, iv53, iv54, iv55, iv56, iv57, iv58, iv59, iv60, iv61, iv62, iv63, iv64, iv65, iv66, iv67, iv68, iv69, iv70, iv71, iv72, iv73, iv74, iv75, iv76, iv77, iv78, iv79, iv80, iv81, iv82, iv83, iv84, iv85, iv86, iv87, iv88, iv89, iv90, iv91, iv92, iv93, iv94, iv95, iv96, iv97, iv98, iv99, iv100, iv101, iv102, iv103, iv104, iv105, iv106, iv107, iv108, iv109, iv110, iv111, iv112, iv113, iv114, iv115, iv116, iv117, iv118, iv119, iv120, iv121, iv122, iv123, iv124, iv125, iv126, iv127, iv128, iv129, iv130, iv131, iv132, iv133, iv134, iv135, iv136, iv137, iv138, iv139, iv140, iv141, iv142, iv143, iv144, iv145, iv146, iv147, iv148, iv149, iv150, iv151, iv152, iv153, iv154, iv155, iv156, iv157, iv158, iv159, iv160, iv161, iv162, iv163, iv164, iv165, iv166, iv167, iv168, iv169, iv170, iv171, iv172, iv173, iv174, iv175, iv176, iv177, iv178, iv179, iv180, iv181, iv182, iv183, iv184, iv185, iv186, iv187, iv188, iv189, iv190, iv191, iv192, iv193, iv194, iv195, iv196, iv197, iv198, iv199, iv200, iv201, iv202, iv203, iv204, ca9, bk9_0, bk9_2, if_pos, if_neg, nI_1, nI_0, nI_ltI, nI_leI, nI_eq, Nat.reduceAdd, Nat.reduceMul, Nat.reduceSub, eq_self, Int32.reduceLT, Int32.reduceLE, Int32.reduceAdd, Int32.reduceSub, Int32.reduceMul, not_true_eq_false, not_false_eq_true, ite_self, if_true, if_false]
  exact loop _ 0 (Nat.zero_le _) rfl
