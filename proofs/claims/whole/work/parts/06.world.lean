/-! the worlds: how a heap holds the 67 objects, and how a frame holds the abstract locals -/
abbrev GW : Type := (Nat → ClassId) × (Nat → Nat → Nat) × (Nat → Nat) × (Nat → ClassId) × (Nat → Nat)
def gD (g : GW) : va_G := (g.1, g.2.1)
def gA (g : GW) : Nat → Nat := g.2.2.1
def gC (g : GW) : Nat → ClassId := g.2.2.2.1
def gV (g : GW) : Nat → Nat := g.2.2.2.2
def cv (g : GW) : Value → Value
  | .ref k => .ref (gA g k)
  | v => v
theorem cv_cat (g : GW) (v : Value) : (cv g v).category = v.category := by cases v <;> rfl
def fov (g : GW) (σ : Sg) (k j : Nat) : Option Nat → Value
  | none => .int (σ k j)
  | some r => .ref (gA g r)
def fvs (g : GW) (σ : Sg) (k : Nat) (fs : List (Option Nat)) : List Value := (List.range fs.length).map (fun j => fov g σ k j (fs.getD j none))
def cel (g : GW) (σ : Sg) (k : Nat) : va_E := match shp k with
  | (0, ci, fs) => .inr (ci, fvs g σ k fs)
  | (1, n, _) => .inl (gC g 0, n, .inl (σ k))
  | (q, n, rs) => .inl (gC g (q - 1), n, .inr (.inr (.inr (.inr (fun j => (rs.getD j none).map (gA g))))))
def wsW (g : GW) (σ : Sg) : va_W := (List.range 67).map (fun k => (gA g k, cel g σ k))
def tysW (g : GW) : List (ClassId × FieldType) := [(gC g 0, .int), (gC g 1, .object "PourElection$Teapot"), (gC g 2, .object "PourElection$Sheet"), (gC g 3, .object "java/lang/String")]
theorem ws_get (g : GW) (σ : Sg) {k : Nat} (h : k < 67) : (wsW g σ)[k]? = some (gA g k, cel g σ k) := by
  simp [wsW, h]
theorem ws_inv {g : GW} {σ : Sg} {k : Nat} {q : Nat × va_E} (h : (wsW g σ)[k]? = some q) : k < 67 ∧ q = (gA g k, cel g σ k) := by
  have hk : k < 67 := by
    rcases Nat.lt_or_ge k 67 with h1 | h1
    · exact h1
    · rw [List.getElem?_eq_none (by simp [wsW]; exact h1)] at h
      cases h
  rw [ws_get g σ hk] at h
  exact ⟨hk, (Option.some.inj h).symm⟩
theorem shp_lt {k : Nat} (h : (shp k).1 ≠ 9) : k < 67 := by
  rcases Nat.lt_or_ge k 67 with h1 | h1
  · exact h1
  · refine absurd ?_ h
    have e : shp k = (9, 0, []) := by
      unfold shp
      rw [List.getD_eq_getElem?_getD, List.getElem?_eq_none (show shpT.length ≤ k from h1)]
      rfl
    rw [e]
theorem va_D_ws {g : GW} {σ σ' : Sg} {A : Nat → Prop} (h : va_D A (wsW g σ)) : va_D A (wsW g σ') := by
  refine ⟨fun i j p q hi hj hpq => ?_, fun k q hk => ?_⟩
  · obtain ⟨h1, rfl⟩ := ws_inv hi
    obtain ⟨h2, rfl⟩ := ws_inv hj
    exact h.1 i j _ _ (ws_get g σ h1) (ws_get g σ h2) hpq
  · obtain ⟨h1, rfl⟩ := ws_inv hk
    show A (gA g k)
    exact h.2 k _ (ws_get g σ h1)
theorem va_A_ws {g : GW} {σ σ' : Sg} {sz q : Nat} (h : va_A (wsW g σ) sz q) : va_A (wsW g σ') sz q := by
  rcases h with ⟨k, e, h⟩ | h
  · obtain ⟨h1, h2⟩ := ws_inv h
    have e2 : q = gA g k := congrArg Prod.fst h2
    subst e2
    exact va_A.in (ws_get g σ' h1)
  · exact Or.inr h
/-- one cell of the world is another -/
theorem ws_set {g : GW} {σ σ' : Sg} {k : Nat} {c : va_E} (hk : k < 67) (hc : cel g σ' k = c) (ho : ∀ j, j < 67 → j ≠ k → cel g σ' j = cel g σ j) : (wsW g σ).set k (gA g k, c) = wsW g σ' := by
  apply List.ext_getElem?
  intro j
  rcases Nat.lt_or_ge j 67 with hj | hj
  · by_cases hjk : j = k
    · subst hjk
      rw [List.getElem?_set_self (by simp [wsW]; exact hj), ws_get g σ' hj, hc]
    · rw [List.getElem?_set_ne (Ne.symm hjk), ws_get g σ hj, ws_get g σ' hj, ho j hj hjk]
  · rw [List.getElem?_eq_none (by simp [wsW]; exact hj), List.getElem?_eq_none (by simp [wsW]; exact hj)]
theorem cel_ext {g : GW} {σ σ' : Sg} {k : Nat} (h : σ k = σ' k) : cel g σ k = cel g σ' k := by
  have e : ∀ j o, fov g σ k j o = fov g σ' k j o := by
    intro j o
    cases o with
    | none => simp [fov, h]
    | some r => rfl
  unfold cel fvs
  simp only [e, h]
theorem fvs_len (g : GW) (σ : Sg) (k : Nat) (fs : List (Option Nat)) : (fvs g σ k fs).length = fs.length := by simp [fvs]
theorem fvs_get (g : GW) (σ : Sg) (k : Nat) (fs : List (Option Nat)) {j : Nat} {o : Option Nat} (h : fs[j]? = some o) : (fvs g σ k fs)[j]? = some (fov g σ k j o) := by
  have hj : j < fs.length := (List.getElem?_eq_some_iff.mp h).1
  have e : fs.getD j none = o := by rw [List.getD_eq_getElem?_getD, h]; rfl
  simp only [fvs, List.getElem?_map, List.getElem?_range hj, Option.map_some, e]
theorem fvs_put {g : GW} {σ : Sg} {k : Nat} {fs : List (Option Nat)} {j : Nat} {x : Int32} (h : fs[j]? = some none) : (fvs g σ k fs).set j (.int x) = fvs g (up2 σ k j x) k fs := by
  have hj : j < fs.length := (List.getElem?_eq_some_iff.mp h).1
  apply List.ext_getElem?
  intro i
  rcases Nat.lt_or_ge i fs.length with hi | hi
  · obtain ⟨o, ho⟩ : ∃ o, fs[i]? = some o := ⟨fs[i], List.getElem?_eq_getElem hi⟩
    by_cases hij : i = j
    · subst hij
      rw [h] at ho
      cases ho
      rw [List.getElem?_set_self (by rw [fvs_len]; exact hi), fvs_get g _ k fs h]
      simp [fov, up2]
    · rw [List.getElem?_set_ne (Ne.symm hij), fvs_get g _ k fs ho, fvs_get g _ k fs ho]
      cases o with
      | none => simp [fov, up2, hij]
      | some r => rfl
  · rw [List.getElem?_eq_none (by rw [List.length_set, fvs_len]; exact hi), List.getElem?_eq_none (by rw [fvs_len]; exact hi)]
/-- what is known of the strings and statics that nobody writes -/
def SX (g : GW) (A : Nat → Prop) (U : State) (H : Heap) : Prop := vk_S 16 slen sbyt (fun i => gA g (100 + i)) (gV g) A U H ∧ va_Z "java/lang/String" "COMPACT_STRINGS" "Z" (.int 1) A U H ∧ va_Zq "jdk/internal/util/Preconditions" "SIOOBE_FORMATTER" "Ljava/util/function/BiFunction;" A U H ∧ ∀ q ∈ SRt, vk_R (cnS q.1) q.2.1 (strT.getD q.2.2 "") (gA g (100 + q.2.2)) U
theorem SX.next {g : GW} {A A' : Nat → Prop} {s U : State} {H : Heap} {locs : List Loc} (h : SX g A s s.heap) (hW : s.WarmedH U.vm) (hU : U.heap = H) (hS : va_S A s.heap H locs) (hA : ∀ q, A' q → A q) : SX g A' U U.heap := by
  obtain ⟨h1, h2, h3, h4⟩ := h
  rw [hU]
  refine ⟨?_, ?_, ?_, fun q hq => (h4 q hq).warm hW⟩
  · exact (vk_S.moved hW.alike (h1.kept hS.2.1)).narrow hA
  · exact (va_Z.moved hW.alike (h2.kept hS.2.1)).narrow hA
  · exact (va_Zq.moved hW.alike (h3.kept hS.2.1)).narrow hA
theorem SX.calling {g : GW} {A : Nat → Prop} {U : State} {f : JFrame} {mk : MethodId} {a : Array Value} (h : SX g A U U.heap) : SX g A (U.calling f mk a) (U.calling f mk a).heap := by
  obtain ⟨h1, h2, h3, h4⟩ := h
  exact ⟨vk_S.moved (u := U) (U := U.calling f mk a) (Vm.Alike.refl U.vm) h1, va_Z.moved (u := U) (U := U.calling f mk a) (Vm.Alike.refl U.vm) h2, va_Zq.moved (u := U) (U := U.calling f mk a) (Vm.Alike.refl U.vm) h3, fun q hq => (h4 q hq).same (U := U.calling f mk a) rfl⟩
-- the locals
def LR (g : GW) (L : List Value) (ls : Array Slot) (n : Nat) : Prop := ls.size = n ∧ lv_wf ls ∧ L.length ≤ n ∧ ∀ (i : Nat) (v : Value), L[i]? = some v → nn v = true → ls[i]? = some (.val (cv g v))
def lvl (g : GW) (L : List Value) : List (Nat × Value) := (List.range L.length).filterMap (fun i => if nn (L.getD i .null) then some (i, cv g (L.getD i .null)) else none)
theorem lvl_in {g : GW} {L : List Value} {i : Nat} {v : Value} (h : L[i]? = some v) (hv : nn v = true) : (i, cv g v) ∈ lvl g L := by
  have e : L.getD i .null = v := by rw [List.getD_eq_getElem?_getD, h]; rfl
  refine List.mem_filterMap.mpr ⟨i, List.mem_range.mpr (List.getElem?_eq_some_iff.mp h).1, ?_⟩
  rw [e, if_pos hv]
theorem LR_has {g : GW} {L : List Value} {ls : Array Slot} {n : Nat} (h : LR g L ls n) : lv_has ls n (lvl g L) := by
  refine ⟨h.1, h.2.1, fun q hq => ?_⟩
  obtain ⟨i, hi, hq⟩ := List.mem_filterMap.mp hq
  have hl := List.mem_range.mp hi
  by_cases hn : nn (L.getD i .null) = true
  · rw [if_pos hn] at hq
    cases hq
    refine h.2.2.2 i _ ?_ hn
    rw [List.getD_eq_getElem?_getD, List.getElem?_eq_getElem hl]
    rfl
  · rw [if_neg hn] at hq
    cases hq
theorem LR_set1 {g : GW} {L : List Value} {ls ls' : Array Slot} {n a : Nat} {v : Value} (h : LR g L ls n) (h' : lv_has ls' n ((a, cv g v) :: (lvl g L).filter (fun q => !(q.1 == a) && !(q.1 + 1 == a && q.2.category == 2)))) (hl : low1 L a = true) : LR g (L.set a v) ls' n := by
  refine ⟨h'.1, h'.2.1, by rw [List.length_set]; exact h.2.2.1, fun i w hi hw => ?_⟩
  by_cases hia : i = a
  · subst hia
    rw [List.getElem?_set_self (by have := (List.getElem?_eq_some_iff.mp hi).1; rwa [List.length_set] at this)] at hi
    cases hi
    exact h'.2.2 (i, cv g v) List.mem_cons_self
  · rw [List.getElem?_set_ne (Ne.symm hia)] at hi
    refine h'.2.2 (i, cv g w) (List.mem_cons_of_mem _ (List.mem_filter.mpr ⟨lvl_in hi hw, ?_⟩))
    simp only [cv_cat]
    by_cases h1 : i + 1 = a
    · subst h1
      simp only [low1, hi] at hl
      cases w <;> simp_all [Value.category]
    · simp [hia, h1]
theorem LR_set2 {g : GW} {L : List Value} {ls ls' : Array Slot} {n a : Nat} {x : Int64} (h : LR g L ls n) (h' : lv_has ls' n ((a, Value.long x) :: (lvl g L).filter (fun q => !(q.1 == a) && (!(q.1 == a + 1) && !(q.1 + 1 == a && q.2.category == 2))))) (hl : low1 L a = true) : LR g ((L.set a (.long x)).set (a + 1) .null) ls' n := by
  refine ⟨h'.1, h'.2.1, by rw [List.length_set, List.length_set]; exact h.2.2.1, fun i w hi hw => ?_⟩
  by_cases hi1 : i = a + 1
  · subst hi1
    rw [List.getElem?_set_self (by have := (List.getElem?_eq_some_iff.mp hi).1; rwa [List.length_set] at this)] at hi
    cases hi
    cases hw
  · rw [List.getElem?_set_ne (Ne.symm hi1)] at hi
    by_cases hia : i = a
    · subst hia
      rw [List.getElem?_set_self (by have := (List.getElem?_eq_some_iff.mp hi).1; rwa [List.length_set] at this)] at hi
      cases hi
      exact h'.2.2 (i, Value.long x) List.mem_cons_self
    · rw [List.getElem?_set_ne (Ne.symm hia)] at hi
      refine h'.2.2 (i, cv g w) (List.mem_cons_of_mem _ (List.mem_filter.mpr ⟨lvl_in hi hw, ?_⟩))
      simp only [cv_cat]
      by_cases h1 : i + 1 = a
      · subst h1
        simp only [low1, hi] at hl
        cases w <;> simp_all [Value.category]
      · simp [hia, h1, hi1]
