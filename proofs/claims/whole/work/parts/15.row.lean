/-! what a borough does, on its row of 87 numbers -/
def canR (ρ : Nat → Int32) (i : Nat) : Int32 := canV (pt ρ i 4) (pt ρ i 2)
def merP (ρ : Nat → Int32) (i w : Nat) : Int32 := meritV (pt ρ i 0) (pt ρ i 1) (pt ρ i 2) (pt ρ i 3) (nI w) (ρ (9 + w)) (ρ (15 + w))
def winL (ρ : Nat → Int32) (w : Nat) : Nat → Int32 × Int32
  | 0 => (-1, -1)
  | i + 1 => if canR ρ i = 0 then winL ρ w i else if merP ρ i w ≤ (winL ρ w i).2 then winL ρ w i else (nI i, merP ρ i w)
def winS (ρ : Nat → Int32) (w : Nat) : Int32 := if ρ (9 + w) = 0 then -1 else (winL ρ w (num ρ)).1
def mostL (ρ : Nat → Int32) (f : Nat) : Nat → Int32 × Int32
  | 0 => (-1, -1)
  | i + 1 => if pt ρ i 4 = 1 then (if pt ρ i f ≤ (mostL ρ f i).2 then mostL ρ f i else (nI i, pt ρ i f)) else mostL ρ f i
def mostS (ρ : Nat → Int32) (f : Nat) : Int32 := (mostL ρ f (num ρ)).1
def sumL (ρ : Nat → Int32) (f : Nat) : Nat → Int32
  | 0 => 0
  | i + 1 => sumL ρ f i + pt ρ i f
def cupsL (ρ : Nat → Int32) : Nat → Int32
  | 0 => 0
  | i + 1 => cupsL ρ i + (if pt ρ i 4 = 1 then pt ρ i 2 else 0)
def standL (ρ : Nat → Int32) : Nat → Int32
  | 0 => 0
  | i + 1 => standL ρ i ||| (pt ρ i 4 <<< (nI i &&& 31))
def wonL (ρ : Nat → Int32) : Nat → Int32
  | 0 => 0
  | i + 1 => if winS ρ i < 0 then wonL ρ i else wonL ρ i ||| (1 <<< (nI i &&& 31))
def spotL (ρ : Nat → Int32) : Nat → Int32
  | 0 => 0
  | i + 1 => if ρ (21 + i) < 0 then spotL ρ i else spotL ρ i + 1
def pourP (ρ : Nat → Int32) (w i : Nat) : Int32 := imin (pt ρ i 2) (ρ (9 + w))
def tryP (ρ : Nat → Int32) (w : Nat) (win : Int32) (i : Nat) : Nat → Int32 :=
  if canR ρ i = 0 then ρ else if pourP ρ w i ≤ 0 then ρ else
    let ρ2 := upd (upd ρ (31 + 7 * i + 2) (pt ρ i 2 - pourP ρ w i)) (31 + 7 * i + 3) (imin 9 (pt ρ i 3 + wetV (pt ρ i 0) (ρ 0) (pt ρ i 1)))
    if nI i = win then upd (upd ρ2 (31 + 7 * i + 6) (imin 9999 (pt ρ i 6 + 1))) (31 + 7 * i + 5) (imin 99999 (pt ρ i 5 + pourP ρ w i)) else ρ2
def tryL (ρ : Nat → Int32) (w : Nat) (win : Int32) : Nat → Nat → Int32
  | 0 => ρ
  | i + 1 => tryP (tryL ρ w win i) w win i
def endP (ρ : Nat → Int32) (fl : Int32) (i : Nat) : Nat → Int32 :=
  if pt ρ i 4 = 1 then
    let ρ1 := upd ρ (31 + 7 * i + 1) (imax 0 (pt ρ i 1 - coolV (pt ρ i 0)))
    if fl = 0 then ρ1 else upd (upd ρ1 (31 + 7 * i + 2) (holdV (pt ρ i 0))) (31 + 7 * i + 1) 90
  else ρ
def endL (ρ : Nat → Int32) (fl : Int32) : Nat → Nat → Int32
  | 0 => ρ
  | i + 1 => endP (endL ρ fl i) fl i
def placeOf (ρ : Nat → Int32) : Int32 := ρ 0 - ρ 0 / 6 * 6
def wardOfDay (ρ : Nat → Int32) : Nat := (ρ (3 + (placeOf ρ).toNatClampNeg)).toNatClampNeg
def endD (ρ : Nat → Int32) (fl : Int32) : Nat → Int32 := upd (endL ρ fl (num ρ)) 0 (imin 99999 (ρ 0 + 1))
def dayS (ρ : Nat → Int32) : Nat → Int32 := endD (tryL ρ (wardOfDay ρ) (winS ρ (wardOfDay ρ)) (num ρ)) (if placeOf ρ = 5 then 1 else 0)
def daysS (ρ : Nat → Int32) : Nat → Nat → Int32
  | 0 => ρ
  | n + 1 => dayS (daysS ρ n)
theorem lit99 : (99 : Int32) = nI 99 := rfl
-- numbers in their ranges
def rg (x : Int32) (m : Nat) : Prop := ∃ v, v ≤ m ∧ x = nI v
theorem rg_lit {m : Nat} (v : Nat) (h : v ≤ m) : rg (nI v) m := ⟨v, h, rfl⟩
theorem rg_imin {x y : Int32} {a b : Nat} (hx : rg x a) (hy : rg y b) (ha : a < 1000000000) (hb : b < 1000000000) : rg (imin x y) a ∧ rg (imin x y) b := by
  obtain ⟨u, hu, rfl⟩ := hx
  obtain ⟨v, hv, rfl⟩ := hy
  unfold imin
  by_cases h : v < u
  · rw [if_pos ((nI_ltI (by omega) (by omega)).mpr h)]
    exact ⟨⟨v, by omega, rfl⟩, ⟨v, hv, rfl⟩⟩
  · rw [if_neg (fun z => h ((nI_ltI (by omega) (by omega)).mp z))]
    exact ⟨⟨u, hu, rfl⟩, ⟨u, by omega, rfl⟩⟩
theorem rg_add {x y : Int32} {a b : Nat} (hx : rg x a) (hy : rg y b) : rg (x + y) (a + b) := by
  obtain ⟨u, hu, rfl⟩ := hx
  obtain ⟨v, hv, rfl⟩ := hy
  exact ⟨u + v, by omega, nI_add u v⟩
theorem rg_sub_imin {x y : Int32} {a b : Nat} (hx : rg x a) (hy : rg y b) (ha : a < 1000000000) (hb : b < 1000000000) : rg (x - imin x y) a := by
  obtain ⟨u, hu, rfl⟩ := hx
  obtain ⟨v, hv, rfl⟩ := hy
  unfold imin
  by_cases h : v < u
  · rw [if_pos ((nI_ltI (by omega) (by omega)).mpr h), pk_sub (by omega)]
    exact ⟨u - v, by omega, rfl⟩
  · rw [if_neg (fun z => h ((nI_ltI (by omega) (by omega)).mp z)), pk_sub (Nat.le_refl _)]
    exact ⟨u - u, by omega, rfl⟩
theorem rg_sub0 {x y : Int32} {a b : Nat} (hx : rg x a) (hy : rg y b) (ha : a < 1000000000) (hb : b < 1000000000) : rg (imax 0 (x - y)) a := by
  obtain ⟨u, hu, rfl⟩ := hx
  obtain ⟨v, hv, rfl⟩ := hy
  unfold imax
  by_cases h : u < v
  · rw [if_neg]
    · exact ⟨0, by omega, rfl⟩
    · intro z
      exact absurd (pk_sneg (a := u) (b := v) (by omega) h) (Int32.not_lt.mpr (Int32.le_of_lt z))
  · rw [pk_sub (by omega)]
    split
    · exact ⟨u - v, by omega, rfl⟩
    · exact ⟨0, by omega, rfl⟩
theorem rg_mono {x : Int32} {a b : Nat} (h : rg x a) (hab : a ≤ b) : rg x b := by
  obtain ⟨u, hu, e⟩ := h
  exact ⟨u, by omega, e⟩
theorem rg_wet (x d h : Int32) : rg (wetV x d h) 1 := by
  unfold wetV
  repeat' split
  all_goals first | exact ⟨0, by omega, rfl⟩ | exact ⟨1, by omega, rfl⟩
theorem rg_cool (x : Int32) : rg (coolV x) 20 := by
  unfold coolV
  repeat' split
  all_goals first | exact ⟨8, by omega, rfl⟩ | exact ⟨20, by omega, rfl⟩ | exact ⟨2, by omega, rfl⟩ | exact ⟨1, by omega, rfl⟩ | exact ⟨5, by omega, rfl⟩ | exact ⟨15, by omega, rfl⟩ | exact ⟨10, by omega, rfl⟩
theorem rg_hold (x : Int32) : rg (holdV x) 99 := by
  unfold holdV
  repeat' split
  all_goals first | exact ⟨40, by omega, rfl⟩ | exact ⟨15, by omega, rfl⟩ | exact ⟨30, by omega, rfl⟩ | exact ⟨6, by omega, rfl⟩ | exact ⟨99, by omega, rfl⟩ | exact ⟨20, by omega, rfl⟩
def potOK (ρ : Nat → Int32) (p : Nat) : Prop := rg (pt ρ p 0) 6 ∧ rg (pt ρ p 1) 99 ∧ rg (pt ρ p 2) 99 ∧ rg (pt ρ p 3) 9 ∧ rg (pt ρ p 4) 1 ∧ rg (pt ρ p 5) 99999 ∧ rg (pt ρ p 6) 9999
/-- the row's ranges -/
def RowOK (ρ : Nat → Int32) : Prop := rg (ρ 1) 8 ∧ rg (ρ 0) 99999 ∧ (∀ i, i < 6 → rg (ρ (3 + i)) 5) ∧ (∀ i, i < 6 → rg (ρ (9 + i)) 99) ∧ (∀ i, i < 6 → rg (ρ (15 + i)) 99) ∧ (∀ i, i < 10 → ρ (21 + i) = -1 ∨ ∃ q, q < num ρ ∧ ρ (21 + i) = nI q) ∧ ∀ p, p < 8 → potOK ρ p
theorem RowOK.num {ρ : Nat → Int32} (h : RowOK ρ) : num ρ ≤ 8 ∧ ρ 1 = nI (num ρ) := by
  obtain ⟨⟨n, hn, e⟩, -⟩ := h
  have h1 : (ρ 1).toNatClampNeg = n := by rw [e, nI_clamp (by omega)]
  unfold Jvm.Pilot.CPourElectionLaw_law_r9972_359b6e.num
  rw [h1]
  exact ⟨hn, e⟩
/-- a change within pots: the rest stays -/
theorem RowOK.pots {ρ ρ' : Nat → Int32} (h : RowOK ρ) (hl : ∀ i, i < 31 → ρ' i = ρ i) (hp : ∀ p, p < 8 → potOK ρ' p) : RowOK ρ' := by
  obtain ⟨h1, h2, h3, h4, h5, h6, h7⟩ := h
  have hn : Jvm.Pilot.CPourElectionLaw_law_r9972_359b6e.num ρ' = Jvm.Pilot.CPourElectionLaw_law_r9972_359b6e.num ρ := by
    unfold Jvm.Pilot.CPourElectionLaw_law_r9972_359b6e.num
    rw [hl 1 (by omega)]
  refine ⟨by rw [hl 1 (by omega)]; exact h1, by rw [hl 0 (by omega)]; exact h2, fun i hi => by rw [hl _ (by omega)]; exact h3 i hi, fun i hi => by rw [hl _ (by omega)]; exact h4 i hi, fun i hi => by rw [hl _ (by omega)]; exact h5 i hi, fun i hi => ?_, hp⟩
  rw [hl _ (by omega), hn]
  exact h6 i hi
theorem upd_lo {ρ : Nat → Int32} {p f i : Nat} {x : Int32} (h : i < 31) : upd ρ (31 + 7 * p + f) x i = ρ i := by
  unfold upd
  rw [if_neg (by omega)]
theorem pt_up {ρ : Nat → Int32} {p q f h : Nat} {x : Int32} (hf : f < 7) (hh : h < 7) : pt (upd ρ (31 + 7 * p + f) x) q h = if q = p ∧ h = f then x else pt ρ q h := pt_upd hf hh
theorem rg_upd {ρ : Nat → Int32} {p q f h m : Nat} {x : Int32} (hf : f < 7) (hh : h < 7) (h1 : rg (pt ρ q h) m) (h2 : q = p → h = f → rg x m) : rg (pt (upd ρ (31 + 7 * p + f) x) q h) m := by
  rw [pt_upd hf hh]
  split
  · rename_i e
    exact h2 e.1 e.2
  · exact h1
theorem potOK_upd {ρ : Nat → Int32} {p q f : Nat} {x : Int32} (hf : f < 7) (h : potOK ρ q) (h0 : f = 0 → rg x 6) (h1 : f = 1 → rg x 99) (h2 : f = 2 → rg x 99) (h3 : f = 3 → rg x 9) (h4 : f = 4 → rg x 1) (h5 : f = 5 → rg x 99999) (h6 : f = 6 → rg x 9999) : potOK (upd ρ (31 + 7 * p + f) x) q := by
  obtain ⟨a0, a1, a2, a3, a4, a5, a6⟩ := h
  exact ⟨rg_upd hf (by omega) a0 (fun _ e => h0 e.symm), rg_upd hf (by omega) a1 (fun _ e => h1 e.symm), rg_upd hf (by omega) a2 (fun _ e => h2 e.symm), rg_upd hf (by omega) a3 (fun _ e => h3 e.symm), rg_upd hf (by omega) a4 (fun _ e => h4 e.symm), rg_upd hf (by omega) a5 (fun _ e => h5 e.symm), rg_upd hf (by omega) a6 (fun _ e => h6 e.symm)⟩
theorem RowOK.upd {ρ : Nat → Int32} {p f : Nat} {x : Int32} (h : RowOK ρ) (hf : f < 7) (h0 : f = 0 → rg x 6) (h1 : f = 1 → rg x 99) (h2 : f = 2 → rg x 99) (h3 : f = 3 → rg x 9) (h4 : f = 4 → rg x 1) (h5 : f = 5 → rg x 99999) (h6 : f = 6 → rg x 9999) : RowOK (upd ρ (31 + 7 * p + f) x) :=
  h.pots (fun i hi => upd_lo hi) (fun q hq => potOK_upd hf (h.2.2.2.2.2.2 q hq) h0 h1 h2 h3 h4 h5 h6)
theorem num_upd {ρ : Nat → Int32} {p f : Nat} {x : Int32} : num (upd ρ (31 + 7 * p + f) x) = num ρ := by
  unfold num
  rw [upd_lo (by omega)]
theorem tryP_ok {ρ : Nat → Int32} {w i : Nat} {win : Int32} (h : RowOK ρ) (hw : w < 6) (hi : i < 8) : RowOK (tryP ρ w win i) ∧ (∀ j, j < 31 → tryP ρ w win i j = ρ j) ∧ (∀ q f, q ≠ i → f < 7 → pt (tryP ρ w win i) q f = pt ρ q f) ∧ pt (tryP ρ w win i) i 4 = pt ρ i 4 := by
  obtain ⟨a0, a1, a2, a3, a4, a5, a6⟩ := h.2.2.2.2.2.2 i hi
  have hv := h.2.2.2.1 w hw
  unfold tryP
  by_cases c1 : canR ρ i = 0
  · rw [if_pos c1]; exact ⟨h, fun _ _ => rfl, fun _ _ _ _ => rfl, rfl⟩
  rw [if_neg c1]
  by_cases c2 : pourP ρ w i ≤ 0
  · rw [if_pos c2]; exact ⟨h, fun _ _ => rfl, fun _ _ _ _ => rfl, rfl⟩
  rw [if_neg c2]
  have r1 : RowOK (upd ρ (31 + 7 * i + 2) (pt ρ i 2 - pourP ρ w i)) := h.upd (by omega) (by omega) (by omega) (fun _ => rg_sub_imin a2 hv (by omega) (by omega)) (by omega) (by omega) (by omega) (by omega)
  have r2 : RowOK (upd (upd ρ (31 + 7 * i + 2) (pt ρ i 2 - pourP ρ w i)) (31 + 7 * i + 3) (imin 9 (pt ρ i 3 + wetV (pt ρ i 0) (ρ 0) (pt ρ i 1)))) := r1.upd (by omega) (by omega) (by omega) (by omega) (fun _ => (rg_imin (rg_lit (m := 9) 9 (by omega)) (rg_add a3 (rg_wet _ _ _)) (by omega) (by omega)).1) (by omega) (by omega) (by omega)
  dsimp only
  by_cases c3 : nI i = win
  · rw [if_pos c3]
    have r3 := r2.upd (p := i) (f := 6) (x := imin 9999 (pt ρ i 6 + 1)) (by omega) (by omega) (by omega) (by omega) (by omega) (by omega) (by omega) (fun _ => (rg_imin (rg_lit (m := 9999) 9999 (by omega)) (rg_add a6 (rg_lit (m := 1) 1 (by omega))) (by omega) (by omega)).1)
    refine ⟨r3.upd (by omega) (by omega) (by omega) (by omega) (by omega) (by omega) (fun _ => (rg_imin (rg_lit (m := 99999) 99999 (by omega)) (rg_add a5 (rg_imin a2 hv (by omega) (by omega)).1) (by omega) (by omega)).1) (by omega), fun j hj => ?_, fun q f hq hf => ?_, ?_⟩
    · rw [upd_lo hj, upd_lo hj, upd_lo hj, upd_lo hj]
    · rw [pt_upd (by omega) hf, if_neg (fun z => hq z.1), pt_upd (by omega) hf, if_neg (fun z => hq z.1), pt_upd (by omega) hf, if_neg (fun z => hq z.1), pt_upd (by omega) hf, if_neg (fun z => hq z.1)]
    · rw [pt_upd (by omega) (by omega), if_neg (by omega), pt_upd (by omega) (by omega), if_neg (by omega), pt_upd (by omega) (by omega), if_neg (by omega), pt_upd (by omega) (by omega), if_neg (by omega)]
  · rw [if_neg c3]
    refine ⟨r2, fun j hj => ?_, fun q f hq hf => ?_, ?_⟩
    · rw [upd_lo hj, upd_lo hj]
    · rw [pt_upd (by omega) hf, if_neg (fun z => hq z.1), pt_upd (by omega) hf, if_neg (fun z => hq z.1)]
    · rw [pt_upd (by omega) (by omega), if_neg (by omega), pt_upd (by omega) (by omega), if_neg (by omega)]
theorem tryL_ok {ρ : Nat → Int32} {w : Nat} {win : Int32} (h : RowOK ρ) (hw : w < 6) : ∀ n, n ≤ 8 → RowOK (tryL ρ w win n) ∧ (∀ j, j < 31 → tryL ρ w win n j = ρ j) ∧ (∀ q f, n ≤ q → f < 7 → pt (tryL ρ w win n) q f = pt ρ q f) ∧ (∀ q, pt (tryL ρ w win n) q 4 = pt ρ q 4) := by
  intro n
  induction n with
  | zero => intro _; exact ⟨h, fun _ _ => rfl, fun _ _ _ _ => rfl, fun _ => rfl⟩
  | succ n ih =>
    intro hn
    obtain ⟨i1, i2, i3, i4⟩ := ih (by omega)
    obtain ⟨j1, j2, j3, j4⟩ := tryP_ok (win := win) i1 hw (show n < 8 by omega)
    refine ⟨j1, fun j hj => (j2 j hj).trans (i2 j hj), fun q f hq hf => (j3 q f (by omega) hf).trans (i3 q f (by omega) hf), fun q => ?_⟩
    by_cases hq : q = n
    · subst hq; exact j4.trans (i4 q)
    · exact (j3 q 4 hq (by omega)).trans (i4 q)
theorem endP_ok {ρ : Nat → Int32} {fl : Int32} {i : Nat} (h : RowOK ρ) (hi : i < 8) : RowOK (endP ρ fl i) ∧ (∀ j, j < 31 → endP ρ fl i j = ρ j) ∧ (∀ q f, q ≠ i → f < 7 → pt (endP ρ fl i) q f = pt ρ q f) := by
  obtain ⟨a0, a1, a2, a3, a4, a5, a6⟩ := h.2.2.2.2.2.2 i hi
  unfold endP
  by_cases c1 : pt ρ i 4 = 1
  · rw [if_pos c1]
    dsimp only
    have r1 : RowOK (upd ρ (31 + 7 * i + 1) (imax 0 (pt ρ i 1 - coolV (pt ρ i 0)))) := h.upd (by omega) (by omega) (fun _ => rg_sub0 a1 (rg_cool _) (by omega) (by omega)) (by omega) (by omega) (by omega) (by omega) (by omega)
    by_cases c2 : fl = 0
    · rw [if_pos c2]
      refine ⟨r1, fun j hj => upd_lo hj, fun q f hq hf => ?_⟩
      rw [pt_upd (by omega) hf, if_neg (fun z => hq z.1)]
    · rw [if_neg c2]
      have r2 := r1.upd (p := i) (f := 2) (x := holdV (pt ρ i 0)) (by omega) (by omega) (by omega) (fun _ => rg_hold _) (by omega) (by omega) (by omega) (by omega)
      refine ⟨r2.upd (by omega) (by omega) (fun _ => rg_lit (m := 99) 90 (by omega)) (by omega) (by omega) (by omega) (by omega) (by omega), fun j hj => ?_, fun q f hq hf => ?_⟩
      · rw [upd_lo hj, upd_lo hj, upd_lo hj]
      · rw [pt_upd (by omega) hf, if_neg (fun z => hq z.1), pt_upd (by omega) hf, if_neg (fun z => hq z.1), pt_upd (by omega) hf, if_neg (fun z => hq z.1)]
  · rw [if_neg c1]
    exact ⟨h, fun _ _ => rfl, fun _ _ _ _ => rfl⟩
theorem endL_ok {ρ : Nat → Int32} {fl : Int32} (h : RowOK ρ) : ∀ n, n ≤ 8 → RowOK (endL ρ fl n) ∧ (∀ j, j < 31 → endL ρ fl n j = ρ j) ∧ (∀ q f, n ≤ q → f < 7 → pt (endL ρ fl n) q f = pt ρ q f) := by
  intro n
  induction n with
  | zero => intro _; exact ⟨h, fun _ _ => rfl, fun _ _ _ _ => rfl⟩
  | succ n ih =>
    intro hn
    obtain ⟨i1, i2, i3⟩ := ih (by omega)
    obtain ⟨j1, j2, j3⟩ := endP_ok (fl := fl) i1 (show n < 8 by omega)
    exact ⟨j1, fun j hj => (j2 j hj).trans (i2 j hj), fun q f hq hf => (j3 q f (by omega) hf).trans (i3 q f (by omega) hf)⟩
theorem num_lo {ρ ρ' : Nat → Int32} (h : ∀ j, j < 31 → ρ' j = ρ j) : num ρ' = num ρ := by
  unfold num
  rw [h 1 (by omega)]
theorem RowOK.day {ρ : Nat → Int32} (h : RowOK ρ) : ∃ d, d ≤ 99999 ∧ ρ 0 = nI d ∧ placeOf ρ = nI (d % 6) ∧ (placeOf ρ).toNatClampNeg = d % 6 := by
  obtain ⟨d, hd, e⟩ := h.2.1
  have e2 : placeOf ρ = nI (d % 6) := by
    unfold placeOf
    rw [e]
    exact pk_rem (a := d) (d := 6) (by omega) (by omega) (by omega)
  exact ⟨d, hd, e, e2, by rw [e2, nI_clamp (by omega)]⟩
theorem RowOK.ward {ρ : Nat → Int32} (h : RowOK ρ) : wardOfDay ρ < 6 ∧ ρ (3 + (placeOf ρ).toNatClampNeg) = nI (wardOfDay ρ) := by
  obtain ⟨d, hd, e, e2, e3⟩ := h.day
  have hd6 : d % 6 < 6 := Nat.mod_lt _ (by omega)
  obtain ⟨w, hw, ew⟩ := h.2.2.1 (d % 6) hd6
  unfold wardOfDay
  rw [e3, ew, nI_clamp (by omega)]
  exact ⟨by omega, rfl⟩
theorem endD_ok {ρ : Nat → Int32} {fl : Int32} (h : RowOK ρ) : RowOK (endD ρ fl) ∧ (∀ j, 0 < j → j < 31 → endD ρ fl j = ρ j) := by
  obtain ⟨hn, en⟩ := h.num
  obtain ⟨i1, i2, i3⟩ := endL_ok (fl := fl) h (num ρ) hn
  have hlo : ∀ j, 0 < j → endD ρ fl j = endL ρ fl (num ρ) j := fun j hj => by
    unfold endD Jvm.Pilot.CPourElectionLaw_law_r9972_359b6e.upd
    rw [if_neg (by omega)]
  have hn2 : num (endD ρ fl) = num (endL ρ fl (num ρ)) := by
    unfold num
    rw [hlo 1 (by omega)]
    rfl
  obtain ⟨b1, b2, b3, b4, b5, b6, b7⟩ := i1
  refine ⟨⟨by rw [hlo 1 (by omega)]; exact b1, ?_, fun i hi => by rw [hlo _ (by omega)]; exact b3 i hi, fun i hi => by rw [hlo _ (by omega)]; exact b4 i hi, fun i hi => by rw [hlo _ (by omega)]; exact b5 i hi, fun i hi => by rw [hlo _ (by omega), hn2]; exact b6 i hi, fun p hp => ?_⟩, fun j h0 hj => (hlo j h0).trans (i2 j hj)⟩
  · show rg (imin 99999 (ρ 0 + 1)) 99999
    exact (rg_imin (rg_lit (m := 99999) 99999 (by omega)) (rg_add h.2.1 (rg_lit (m := 1) 1 (by omega))) (by omega) (by omega)).1
  · have : ∀ f, pt (endD ρ fl) p f = pt (endL ρ fl (num ρ)) p f := fun f => hlo _ (by omega)
    unfold potOK
    simp only [this]
    exact b7 p hp
theorem dayS_ok {ρ : Nat → Int32} (h : RowOK ρ) : RowOK (dayS ρ) ∧ (∀ j, 0 < j → j < 31 → dayS ρ j = ρ j) := by
  obtain ⟨hn, en⟩ := h.num
  obtain ⟨hw, -⟩ := h.ward
  obtain ⟨i1, i2, -, -⟩ := tryL_ok (win := winS ρ (wardOfDay ρ)) h hw (num ρ) hn
  obtain ⟨j1, j2⟩ := endD_ok (fl := if placeOf ρ = 5 then 1 else 0) i1
  exact ⟨j1, fun j h0 hj => (j2 j h0 hj).trans (i2 j hj)⟩
theorem daysS_ok {ρ : Nat → Int32} (h : RowOK ρ) : ∀ n, RowOK (daysS ρ n) ∧ (∀ j, 0 < j → j < 31 → daysS ρ n j = ρ j) := by
  intro n
  induction n with
  | zero => exact ⟨h, fun _ _ _ => rfl⟩
  | succ n ih =>
    obtain ⟨a, b⟩ := dayS_ok ih.1
    exact ⟨a, fun j h0 hj => (b j h0 hj).trans (ih.2 j h0 hj)⟩
