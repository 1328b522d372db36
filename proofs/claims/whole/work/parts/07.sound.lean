/-! each step of the abstract machine is a step of the machine -/
theorem tg0 {v : Value} (h : tg v 0 = true) : ∃ x, v = .int x := by
  cases v <;> first | exact ⟨_, rfl⟩ | (simp [tg] at h; done) | (revert h; decide)
theorem tg1 {v : Value} (h : tg v 1 = true) : ∃ x, v = .ref x := by
  cases v <;> first | exact ⟨_, rfl⟩ | (simp [tg] at h; done) | (revert h; decide)
theorem tg2 {v : Value} (h : tg v 2 = true) : ∃ x, v = .long x := by
  cases v <;> first | exact ⟨_, rfl⟩ | (simp [tg] at h; done) | (revert h; decide)
theorem c1_cat {g : GW} {v : Value} (h : c1 v = true) : (cv g v).category = 1 := by
  cases v <;> first | rfl | (simp [c1] at h)
theorem rsum_cv (g : GW) (s : List Value) : ((s.map (cv g)).map fun v => v.category).sum = rsum s := by
  unfold rsum
  rw [List.map_map]
  congr 1
  exact List.map_congr_left (fun v _ => cv_cat g v)
def FR (p : Program) (s : State) (m : MethodId) (args : Array Value) (meth : Method) (c : Code) (A : Nat → Prop) (g : GW) (y : Nat) : Prop := p.tables.exec = Jvm.exec ∧ c.code = mB y ∧ c.maxLocals = mL y ∧ s.vm.findClass (cnS (mC y)) = some m.cls ∧ (∀ w ∈ tbg, w.before args s = true) ∧ meth.locks = false ∧ meth.sig.returnType = mR y ∧ va_K (gD g) vwCl (tysW g) s ∧ SX g A s s.heap ∧ (∀ q, s.heap.size ≤ q → A q)
def IN (s : State) (A : Nat → Prop) (g : GW) (y : Nat) (L : List Value) (σ : Sg) (H : Heap) (lc : List Loc) (ls : Array Slot) : Prop := LR g L ls (mL y) ∧ va_P (gD g) vwCl (wsW g σ) H ∧ va_D A (wsW g σ) ∧ va_S A s.heap H lc
def KK (p : Program) (l : Launch) (e : Env) (s : State) (m : MethodId) (args : Array Value) (below : List Frame) (meth : Method) (c : Code) (Qf : State → Prop) (A : Nat → Prop) (g : GW) (y o : Nat) (r r' : List Ins) (pc len : Nat) (L' s' : List Value) (σ' : Sg) : Prop :=
  ∀ (q : Nat) (H1 : Heap) (lc1 : List Loc) (ls1 : Array Slot), ((term o = false ∧ r' = r ∧ q = pc + len) ∨ ∃ b, r' = blk y b ∧ bp0 y b = some q) → IN s A g y L' σ' H1 lc1 ls1 → W p l e (rmM y) s m args below meth c H1 lc1 0 0 Qf (F0 m q ls1 (s'.map (cv g)))
theorem go_inj {r r' : List Ins} {L L' s s' : List Value} {σ σ' : Sg} (h : go r L s σ = some (.inl (r', L', s', σ'))) : r = r' ∧ L = L' ∧ s = s' ∧ σ = σ' := by
  simp only [go, Option.some.injEq, Sum.inl.injEq, Prod.mk.injEq] at h
  exact h
theorem jx_eq {op len : Nat} {j i : Instr} (h : jx op j len = true) (hi : jxI op = some i) : j = i ∧ len = 1 := by
  simp only [jx, Bool.and_eq_true, decide_eq_true_eq] at h
  rw [hi] at h
  exact ⟨(Option.some.inj h.1).symm, h.2⟩
theorem jbr_eq {y a pc op len : Nat} {j : Instr} (h : jbr y a pc op j len = true) : ∃ q, bp0 y a = some q ∧ jbI ((q : Int) - pc) op = some j ∧ len = 3 := by
  unfold jbr at h
  split at h
  · rename_i q hq
    simp only [Bool.and_eq_true, decide_eq_true_eq] at h
    exact ⟨q, hq, h.1, h.2⟩
  · cases h
theorem tgt_eq {y a pc : Nat} {off : Int} (h : tgt y a pc off = true) : ∃ q : Nat, bp0 y a = some q ∧ (pc : Int) + off = (q : Int) := by
  unfold tgt at h
  split at h
  · rename_i q hq
    exact ⟨q, hq, of_decide_eq_true h⟩
  · cases h
section SND
variable {p : Program} {l : Launch} {e : Env} {s : State} {m : MethodId} {args : Array Value} {below : List Frame} {meth : Method} {c : Code} {Qf : State → Prop} {A : Nat → Prop} {g : GW} {y : Nat}
variable {pc len a : Nat} {k0 : Int32} {t : List Nat} {r r' : List Ins} {L L' st s' : List Value} {σ σ' : Sg} {j : Instr} {H : Heap} {lc : List Loc} {ls : Array Slot}
theorem so_0 (F : FR p s m args meth c A g y) (hd : decode (mB y) pc = .ok (j, len)) (hj : j0 y k0 j len = true) (hs : h0 y a k0 t r L st σ = some (.inl (r', L', s', σ'))) (I : IN s A g y L σ H lc ls) (kk : KK p l e s m args below meth c Qf A g y 0 r r' pc len L' s' σ') : W p l e (rmM y) s m args below meth c H lc 0 0 Qf (F0 m pc ls (st.map (cv g))) := by
  obtain ⟨hx, hb, hml, hown, hts, hlk, hrt, hK, hX, hA⟩ := F
  unfold h0 at hs
  obtain ⟨rfl, rfl, rfl, rfl⟩ := go_inj hs
  have hconst : ∀ ix, CLt.any (fun q => q.1 == mC y && q.2.1 == ix && decide (q.2.2.1 = k0)) = true → (Cond.constant (cnS (mC y)) ix k0).before args s = true := by
    intro ix h
    obtain ⟨q, hq, h1⟩ := List.any_eq_true.mp h
    simp only [Bool.and_eq_true, beq_iff_eq, decide_eq_true_eq] at h1
    have h2 := List.all_eq_true.mp cl_ok q hq
    unfold clOk at h2
    have h3 := hts _ (inT_mem h2)
    rw [h1.1.1, h1.1.2, h1.2] at h3
    exact h3
  unfold j0 at hj
  split at hj
  all_goals first | (cases hj; done) | skip
  · simp only [Bool.and_eq_true, decide_eq_true_eq] at hj
    obtain ⟨h1, rfl⟩ := hj
    exact lv_iconst hx hb hd h1 (kk _ _ _ _ (Or.inl ⟨rfl, rfl, rfl⟩) I)
  · simp only [Bool.and_eq_true, decide_eq_true_eq] at hj
    obtain ⟨h1, rfl⟩ := hj
    exact lv_bipush hx hb hd h1 (kk _ _ _ _ (Or.inl ⟨rfl, rfl, rfl⟩) I)
  · simp only [Bool.and_eq_true, decide_eq_true_eq] at hj
    obtain ⟨h1, rfl⟩ := hj
    exact lv_sipush hx hb hd h1 (kk _ _ _ _ (Or.inl ⟨rfl, rfl, rfl⟩) I)
  · simp only [Bool.and_eq_true, decide_eq_true_eq] at hj
    obtain ⟨h1, rfl⟩ := hj
    exact lv_ldc hx hb hown (hconst _ h1) hd (kk _ _ _ _ (Or.inl ⟨rfl, rfl, rfl⟩) I)
  · simp only [Bool.and_eq_true, decide_eq_true_eq] at hj
    obtain ⟨h1, rfl⟩ := hj
    exact lv_ldcw hx hb hown (hconst _ h1) hd (kk _ _ _ _ (Or.inl ⟨rfl, rfl, rfl⟩) I)
theorem so_1 (F : FR p s m args meth c A g y) (hd : decode (mB y) pc = .ok (j, len)) (hj : j1 a k0 j len = true) (hs : h1 y a k0 t r L st σ = some (.inl (r', L', s', σ'))) (I : IN s A g y L σ H lc ls) (kk : KK p l e s m args below meth c Qf A g y 1 r r' pc len L' s' σ') : W p l e (rmM y) s m args below meth c H lc 0 0 Qf (F0 m pc ls (st.map (cv g))) := by
  obtain ⟨hx, hb, hml, hown, hts, hlk, hrt, hK, hX, hA⟩ := F
  unfold h1 at hs
  split at hs
  · rename_i v hv
    split at hs
    · rename_i ht
      obtain ⟨rfl, rfl, rfl, rfl⟩ := go_inj hs
      unfold j1 at hj
      split at hj
      all_goals first | (cases hj; done) | skip
      · simp only [Bool.and_eq_true, decide_eq_true_eq, beq_iff_eq] at hj
        obtain ⟨⟨h1, rfl⟩, rfl⟩ := hj
        subst h1
        obtain ⟨x, rfl⟩ := tg0 ht
        exact lv_iload_n hx hb hd rfl (I.1.2.2.2 _ _ hv rfl) (kk _ _ _ _ (Or.inl ⟨rfl, rfl, rfl⟩) I)
      · simp only [Bool.and_eq_true, decide_eq_true_eq, beq_iff_eq] at hj
        obtain ⟨⟨h1, rfl⟩, rfl⟩ := hj
        subst h1
        obtain ⟨x, rfl⟩ := tg0 ht
        exact lv_iload hx hb hd (I.1.2.2.2 _ _ hv rfl) (kk _ _ _ _ (Or.inl ⟨rfl, rfl, rfl⟩) I)
      · simp only [Bool.and_eq_true, decide_eq_true_eq, beq_iff_eq] at hj
        obtain ⟨⟨h1, rfl⟩, rfl⟩ := hj
        subst h1
        obtain ⟨x, rfl⟩ := tg1 ht
        exact lv_aload_n hx hb hd rfl (I.1.2.2.2 _ _ hv rfl) (kk _ _ _ _ (Or.inl ⟨rfl, rfl, rfl⟩) I)
      · simp only [Bool.and_eq_true, decide_eq_true_eq, beq_iff_eq] at hj
        obtain ⟨⟨h1, rfl⟩, rfl⟩ := hj
        subst h1
        obtain ⟨x, rfl⟩ := tg1 ht
        exact lv_aload hx hb hd (I.1.2.2.2 _ _ hv rfl) (kk _ _ _ _ (Or.inl ⟨rfl, rfl, rfl⟩) I)
      · simp only [Bool.and_eq_true, decide_eq_true_eq, beq_iff_eq] at hj
        obtain ⟨⟨h1, rfl⟩, rfl⟩ := hj
        subst h1
        obtain ⟨x, rfl⟩ := tg2 ht
        exact lv_lload_n hx hb hd rfl (I.1.2.2.2 _ _ hv rfl) (kk _ _ _ _ (Or.inl ⟨rfl, rfl, rfl⟩) I)
      · simp only [Bool.and_eq_true, decide_eq_true_eq, beq_iff_eq] at hj
        obtain ⟨⟨h1, rfl⟩, rfl⟩ := hj
        subst h1
        obtain ⟨x, rfl⟩ := tg2 ht
        exact lv_lload hx hb hd (I.1.2.2.2 _ _ hv rfl) (kk _ _ _ _ (Or.inl ⟨rfl, rfl, rfl⟩) I)
    · cases hs
  · cases hs
theorem so_2 (F : FR p s m args meth c A g y) (hd : decode (mB y) pc = .ok (j, len)) (hj : j2 a k0 j len = true) (hs : h2 y a k0 t r L st σ = some (.inl (r', L', s', σ'))) (I : IN s A g y L σ H lc ls) (kk : KK p l e s m args below meth c Qf A g y 2 r r' pc len L' s' σ') : W p l e (rmM y) s m args below meth c H lc 0 0 Qf (F0 m pc ls (st.map (cv g))) := by
  obtain ⟨hx, hb, hml, hown, hts, hlk, hrt, hK, hX, hA⟩ := F
  unfold h2 at hs
  split at hs
  · rename_i v st0
    split at hs
    · rename_i ht
      simp only [Bool.and_eq_true, decide_eq_true_eq] at ht
      obtain ⟨rfl, rfl, rfl, rfl⟩ := go_inj hs
      unfold j2 at hj
      split at hj
      all_goals first | (cases hj; done) | skip
      · simp only [Bool.and_eq_true, decide_eq_true_eq, beq_iff_eq] at hj
        obtain ⟨⟨h1, rfl⟩, rfl⟩ := hj
        subst h1
        obtain ⟨x, rfl⟩ := tg0 ht.1.1.1
        exact lv_istore_n hx hb hd rfl (LR_has I.1) (Nat.lt_of_lt_of_le ht.2 I.1.2.2.1) rfl (fun ls' hl' => kk _ _ _ _ (Or.inl ⟨rfl, rfl, rfl⟩) ⟨LR_set1 I.1 hl' ht.1.2, I.2⟩)
      · simp only [Bool.and_eq_true, decide_eq_true_eq, beq_iff_eq] at hj
        obtain ⟨⟨h1, rfl⟩, rfl⟩ := hj
        subst h1
        obtain ⟨x, rfl⟩ := tg0 ht.1.1.1
        exact lv_istore hx hb hd (LR_has I.1) (Nat.lt_of_lt_of_le ht.2 I.1.2.2.1) rfl (fun ls' hl' => kk _ _ _ _ (Or.inl ⟨rfl, rfl, rfl⟩) ⟨LR_set1 I.1 hl' ht.1.2, I.2⟩)
      · simp only [Bool.and_eq_true, decide_eq_true_eq, beq_iff_eq] at hj
        obtain ⟨⟨h1, rfl⟩, rfl⟩ := hj
        subst h1
        obtain ⟨x, rfl⟩ := tg1 ht.1.1.1
        exact lv_astore_n hx hb hd rfl (LR_has I.1) (Nat.lt_of_lt_of_le ht.2 I.1.2.2.1) rfl (fun ls' hl' => kk _ _ _ _ (Or.inl ⟨rfl, rfl, rfl⟩) ⟨LR_set1 I.1 hl' ht.1.2, I.2⟩)
      · simp only [Bool.and_eq_true, decide_eq_true_eq, beq_iff_eq] at hj
        obtain ⟨⟨h1, rfl⟩, rfl⟩ := hj
        subst h1
        obtain ⟨x, rfl⟩ := tg1 ht.1.1.1
        exact lv_astore hx hb hd (LR_has I.1) (Nat.lt_of_lt_of_le ht.2 I.1.2.2.1) rfl (fun ls' hl' => kk _ _ _ _ (Or.inl ⟨rfl, rfl, rfl⟩) ⟨LR_set1 I.1 hl' ht.1.2, I.2⟩)
    · cases hs
  · cases hs
theorem so_3 (F : FR p s m args meth c A g y) (hd : decode (mB y) pc = .ok (j, len)) (hj : j3 a j len = true) (hs : h3 y a k0 t r L st σ = some (.inl (r', L', s', σ'))) (I : IN s A g y L σ H lc ls) (kk : KK p l e s m args below meth c Qf A g y 3 r r' pc len L' s' σ') : W p l e (rmM y) s m args below meth c H lc 0 0 Qf (F0 m pc ls (st.map (cv g))) := by
  obtain ⟨hx, hb, hml, hown, hts, hlk, hrt, hK, hX, hA⟩ := F
  unfold h3 at hs
  split at hs
  · rename_i x st0
    split at hs
    · rename_i ht
      simp only [Bool.and_eq_true, decide_eq_true_eq] at ht
      obtain ⟨rfl, rfl, rfl, rfl⟩ := go_inj hs
      unfold j3 at hj
      split at hj
      all_goals first | (cases hj; done) | skip
      · simp only [Bool.and_eq_true, decide_eq_true_eq, beq_iff_eq] at hj
        obtain ⟨h1, rfl⟩ := hj
        subst h1
        exact lv_lstore_n hx hb hd rfl (LR_has I.1) (Nat.lt_of_lt_of_le ht.2 I.1.2.2.1) rfl (fun ls' hl' => kk _ _ _ _ (Or.inl ⟨rfl, rfl, rfl⟩) ⟨LR_set2 I.1 hl' ht.1, I.2⟩)
      · simp only [Bool.and_eq_true, decide_eq_true_eq, beq_iff_eq] at hj
        obtain ⟨h1, rfl⟩ := hj
        subst h1
        exact lv_lstore hx hb hd (LR_has I.1) (Nat.lt_of_lt_of_le ht.2 I.1.2.2.1) rfl (fun ls' hl' => kk _ _ _ _ (Or.inl ⟨rfl, rfl, rfl⟩) ⟨LR_set2 I.1 hl' ht.1, I.2⟩)
    · cases hs
  · cases hs
theorem so_4 (F : FR p s m args meth c A g y) (hd : decode (mB y) pc = .ok (j, len)) (hj : j4 a k0 j len = true) (hs : h4 y a k0 t r L st σ = some (.inl (r', L', s', σ'))) (I : IN s A g y L σ H lc ls) (kk : KK p l e s m args below meth c Qf A g y 4 r r' pc len L' s' σ') : W p l e (rmM y) s m args below meth c H lc 0 0 Qf (F0 m pc ls (st.map (cv g))) := by
  obtain ⟨hx, hb, hml, hown, hts, hlk, hrt, hK, hX, hA⟩ := F
  unfold h4 at hs
  split at hs
  · rename_i x hv
    split at hs
    · rename_i ht
      obtain ⟨rfl, rfl, rfl, rfl⟩ := go_inj hs
      unfold j4 at hj
      split at hj
      · simp only [Bool.and_eq_true, decide_eq_true_eq, beq_iff_eq] at hj
        obtain ⟨⟨h1, h2⟩, rfl⟩ := hj
        subst h1
        obtain ⟨k, hk⟩ := List.getElem?_of_mem (lvl_in (g := g) hv rfl)
        exact lv_iinc hx hb hd (LR_has I.1) hk (v := x + k0) (by rw [h2]) (Nat.lt_of_lt_of_le (List.getElem?_eq_some_iff.mp hv).1 I.1.2.2.1) rfl (fun ls' hl' => kk _ _ _ _ (Or.inl ⟨rfl, rfl, rfl⟩) ⟨LR_set1 (v := .int (x + k0)) I.1 hl' ht, I.2⟩)
      · cases hj
    · cases hs
  · cases hs
theorem so_5 (F : FR p s m args meth c A g y) (hd : decode (mB y) pc = .ok (j, len)) (hj : jx 5 j len = true) (hs : h5 y a k0 t r L st σ = some (.inl (r', L', s', σ'))) (I : IN s A g y L σ H lc ls) (kk : KK p l e s m args below meth c Qf A g y 5 r r' pc len L' s' σ') : W p l e (rmM y) s m args below meth c H lc 0 0 Qf (F0 m pc ls (st.map (cv g))) := by
  obtain ⟨hx, hb, hml, hown, hts, hlk, hrt, hK, hX, hA⟩ := F
  obtain ⟨rfl, rfl⟩ := jx_eq hj rfl
  unfold h5 at hs
  split at hs
  · obtain ⟨rfl, rfl, rfl, rfl⟩ := go_inj hs
    exact lv_iadd hx hb hd (kk _ _ _ _ (Or.inl ⟨rfl, rfl, rfl⟩) I)
  · cases hs
theorem so_6 (F : FR p s m args meth c A g y) (hd : decode (mB y) pc = .ok (j, len)) (hj : jx 6 j len = true) (hs : h6 y a k0 t r L st σ = some (.inl (r', L', s', σ'))) (I : IN s A g y L σ H lc ls) (kk : KK p l e s m args below meth c Qf A g y 6 r r' pc len L' s' σ') : W p l e (rmM y) s m args below meth c H lc 0 0 Qf (F0 m pc ls (st.map (cv g))) := by
  obtain ⟨hx, hb, hml, hown, hts, hlk, hrt, hK, hX, hA⟩ := F
  obtain ⟨rfl, rfl⟩ := jx_eq hj rfl
  unfold h6 at hs
  split at hs
  · obtain ⟨rfl, rfl, rfl, rfl⟩ := go_inj hs
    exact lv_isub hx hb hd (kk _ _ _ _ (Or.inl ⟨rfl, rfl, rfl⟩) I)
  · cases hs
theorem so_7 (F : FR p s m args meth c A g y) (hd : decode (mB y) pc = .ok (j, len)) (hj : jx 7 j len = true) (hs : h7 y a k0 t r L st σ = some (.inl (r', L', s', σ'))) (I : IN s A g y L σ H lc ls) (kk : KK p l e s m args below meth c Qf A g y 7 r r' pc len L' s' σ') : W p l e (rmM y) s m args below meth c H lc 0 0 Qf (F0 m pc ls (st.map (cv g))) := by
  obtain ⟨hx, hb, hml, hown, hts, hlk, hrt, hK, hX, hA⟩ := F
  obtain ⟨rfl, rfl⟩ := jx_eq hj rfl
  unfold h7 at hs
  split at hs
  · obtain ⟨rfl, rfl, rfl, rfl⟩ := go_inj hs
    exact lv_imul hx hb hd (kk _ _ _ _ (Or.inl ⟨rfl, rfl, rfl⟩) I)
  · cases hs
theorem so_8 (F : FR p s m args meth c A g y) (hd : decode (mB y) pc = .ok (j, len)) (hj : jx 8 j len = true) (hs : h8 y a k0 t r L st σ = some (.inl (r', L', s', σ'))) (I : IN s A g y L σ H lc ls) (kk : KK p l e s m args below meth c Qf A g y 8 r r' pc len L' s' σ') : W p l e (rmM y) s m args below meth c H lc 0 0 Qf (F0 m pc ls (st.map (cv g))) := by
  obtain ⟨hx, hb, hml, hown, hts, hlk, hrt, hK, hX, hA⟩ := F
  obtain ⟨rfl, rfl⟩ := jx_eq hj rfl
  unfold h8 at hs
  split at hs
  · obtain ⟨rfl, rfl, rfl, rfl⟩ := go_inj hs
    exact lv_iand hx hb hd (kk _ _ _ _ (Or.inl ⟨rfl, rfl, rfl⟩) I)
  · cases hs
theorem so_9 (F : FR p s m args meth c A g y) (hd : decode (mB y) pc = .ok (j, len)) (hj : jx 9 j len = true) (hs : h9 y a k0 t r L st σ = some (.inl (r', L', s', σ'))) (I : IN s A g y L σ H lc ls) (kk : KK p l e s m args below meth c Qf A g y 9 r r' pc len L' s' σ') : W p l e (rmM y) s m args below meth c H lc 0 0 Qf (F0 m pc ls (st.map (cv g))) := by
  obtain ⟨hx, hb, hml, hown, hts, hlk, hrt, hK, hX, hA⟩ := F
  obtain ⟨rfl, rfl⟩ := jx_eq hj rfl
  unfold h9 at hs
  split at hs
  · obtain ⟨rfl, rfl, rfl, rfl⟩ := go_inj hs
    exact lv_ior hx hb hd (kk _ _ _ _ (Or.inl ⟨rfl, rfl, rfl⟩) I)
  · cases hs
theorem so_10 (F : FR p s m args meth c A g y) (hd : decode (mB y) pc = .ok (j, len)) (hj : jx 10 j len = true) (hs : h10 y a k0 t r L st σ = some (.inl (r', L', s', σ'))) (I : IN s A g y L σ H lc ls) (kk : KK p l e s m args below meth c Qf A g y 10 r r' pc len L' s' σ') : W p l e (rmM y) s m args below meth c H lc 0 0 Qf (F0 m pc ls (st.map (cv g))) := by
  obtain ⟨hx, hb, hml, hown, hts, hlk, hrt, hK, hX, hA⟩ := F
  obtain ⟨rfl, rfl⟩ := jx_eq hj rfl
  unfold h10 at hs
  split at hs
  · obtain ⟨rfl, rfl, rfl, rfl⟩ := go_inj hs
    exact lv_ixor hx hb hd (kk _ _ _ _ (Or.inl ⟨rfl, rfl, rfl⟩) I)
  · cases hs
theorem so_11 (F : FR p s m args meth c A g y) (hd : decode (mB y) pc = .ok (j, len)) (hj : jx 11 j len = true) (hs : h11 y a k0 t r L st σ = some (.inl (r', L', s', σ'))) (I : IN s A g y L σ H lc ls) (kk : KK p l e s m args below meth c Qf A g y 11 r r' pc len L' s' σ') : W p l e (rmM y) s m args below meth c H lc 0 0 Qf (F0 m pc ls (st.map (cv g))) := by
  obtain ⟨hx, hb, hml, hown, hts, hlk, hrt, hK, hX, hA⟩ := F
  obtain ⟨rfl, rfl⟩ := jx_eq hj rfl
  unfold h11 at hs
  split at hs
  · obtain ⟨rfl, rfl, rfl, rfl⟩ := go_inj hs
    exact lv_ishl hx hb hd (kk _ _ _ _ (Or.inl ⟨rfl, rfl, rfl⟩) I)
  · cases hs
theorem so_12 (F : FR p s m args meth c A g y) (hd : decode (mB y) pc = .ok (j, len)) (hj : jx 12 j len = true) (hs : h12 y a k0 t r L st σ = some (.inl (r', L', s', σ'))) (I : IN s A g y L σ H lc ls) (kk : KK p l e s m args below meth c Qf A g y 12 r r' pc len L' s' σ') : W p l e (rmM y) s m args below meth c H lc 0 0 Qf (F0 m pc ls (st.map (cv g))) := by
  obtain ⟨hx, hb, hml, hown, hts, hlk, hrt, hK, hX, hA⟩ := F
  obtain ⟨rfl, rfl⟩ := jx_eq hj rfl
  unfold h12 at hs
  split at hs
  · obtain ⟨rfl, rfl, rfl, rfl⟩ := go_inj hs
    exact lv_ishr hx hb hd (kk _ _ _ _ (Or.inl ⟨rfl, rfl, rfl⟩) I)
  · cases hs
theorem so_13 (F : FR p s m args meth c A g y) (hd : decode (mB y) pc = .ok (j, len)) (hj : jx 13 j len = true) (hs : h13 y a k0 t r L st σ = some (.inl (r', L', s', σ'))) (I : IN s A g y L σ H lc ls) (kk : KK p l e s m args below meth c Qf A g y 13 r r' pc len L' s' σ') : W p l e (rmM y) s m args below meth c H lc 0 0 Qf (F0 m pc ls (st.map (cv g))) := by
  obtain ⟨hx, hb, hml, hown, hts, hlk, hrt, hK, hX, hA⟩ := F
  obtain ⟨rfl, rfl⟩ := jx_eq hj rfl
  unfold h13 at hs
  split at hs
  · obtain ⟨rfl, rfl, rfl, rfl⟩ := go_inj hs
    exact lv_iushr hx hb hd rfl (kk _ _ _ _ (Or.inl ⟨rfl, rfl, rfl⟩) I)
  · cases hs
theorem so_16 (F : FR p s m args meth c A g y) (hd : decode (mB y) pc = .ok (j, len)) (hj : jx 16 j len = true) (hs : h16 y a k0 t r L st σ = some (.inl (r', L', s', σ'))) (I : IN s A g y L σ H lc ls) (kk : KK p l e s m args below meth c Qf A g y 16 r r' pc len L' s' σ') : W p l e (rmM y) s m args below meth c H lc 0 0 Qf (F0 m pc ls (st.map (cv g))) := by
  obtain ⟨hx, hb, hml, hown, hts, hlk, hrt, hK, hX, hA⟩ := F
  obtain ⟨rfl, rfl⟩ := jx_eq hj rfl
  unfold h16 at hs
  split at hs
  · obtain ⟨rfl, rfl, rfl, rfl⟩ := go_inj hs
    exact lv_ineg hx hb hd (kk _ _ _ _ (Or.inl ⟨rfl, rfl, rfl⟩) I)
  · cases hs
theorem so_17 (F : FR p s m args meth c A g y) (hd : decode (mB y) pc = .ok (j, len)) (hj : jx 17 j len = true) (hs : h17 y a k0 t r L st σ = some (.inl (r', L', s', σ'))) (I : IN s A g y L σ H lc ls) (kk : KK p l e s m args below meth c Qf A g y 17 r r' pc len L' s' σ') : W p l e (rmM y) s m args below meth c H lc 0 0 Qf (F0 m pc ls (st.map (cv g))) := by
  obtain ⟨hx, hb, hml, hown, hts, hlk, hrt, hK, hX, hA⟩ := F
  obtain ⟨rfl, rfl⟩ := jx_eq hj rfl
  unfold h17 at hs
  split at hs
  · obtain ⟨rfl, rfl, rfl, rfl⟩ := go_inj hs
    exact lv_i2b hx hb hd rfl (kk _ _ _ _ (Or.inl ⟨rfl, rfl, rfl⟩) I)
  · cases hs
theorem so_18 (F : FR p s m args meth c A g y) (hd : decode (mB y) pc = .ok (j, len)) (hj : jx 18 j len = true) (hs : h18 y a k0 t r L st σ = some (.inl (r', L', s', σ'))) (I : IN s A g y L σ H lc ls) (kk : KK p l e s m args below meth c Qf A g y 18 r r' pc len L' s' σ') : W p l e (rmM y) s m args below meth c H lc 0 0 Qf (F0 m pc ls (st.map (cv g))) := by
  obtain ⟨hx, hb, hml, hown, hts, hlk, hrt, hK, hX, hA⟩ := F
  obtain ⟨rfl, rfl⟩ := jx_eq hj rfl
  unfold h18 at hs
  split at hs
  · obtain ⟨rfl, rfl, rfl, rfl⟩ := go_inj hs
    exact lv_i2s hx hb hd rfl (kk _ _ _ _ (Or.inl ⟨rfl, rfl, rfl⟩) I)
  · cases hs
theorem so_19 (F : FR p s m args meth c A g y) (hd : decode (mB y) pc = .ok (j, len)) (hj : jx 19 j len = true) (hs : h19 y a k0 t r L st σ = some (.inl (r', L', s', σ'))) (I : IN s A g y L σ H lc ls) (kk : KK p l e s m args below meth c Qf A g y 19 r r' pc len L' s' σ') : W p l e (rmM y) s m args below meth c H lc 0 0 Qf (F0 m pc ls (st.map (cv g))) := by
  obtain ⟨hx, hb, hml, hown, hts, hlk, hrt, hK, hX, hA⟩ := F
  obtain ⟨rfl, rfl⟩ := jx_eq hj rfl
  unfold h19 at hs
  split at hs
  · obtain ⟨rfl, rfl, rfl, rfl⟩ := go_inj hs
    exact lv_i2l hx hb hd rfl (kk _ _ _ _ (Or.inl ⟨rfl, rfl, rfl⟩) I)
  · cases hs
theorem so_20 (F : FR p s m args meth c A g y) (hd : decode (mB y) pc = .ok (j, len)) (hj : jx 20 j len = true) (hs : h20 y a k0 t r L st σ = some (.inl (r', L', s', σ'))) (I : IN s A g y L σ H lc ls) (kk : KK p l e s m args below meth c Qf A g y 20 r r' pc len L' s' σ') : W p l e (rmM y) s m args below meth c H lc 0 0 Qf (F0 m pc ls (st.map (cv g))) := by
  obtain ⟨hx, hb, hml, hown, hts, hlk, hrt, hK, hX, hA⟩ := F
  obtain ⟨rfl, rfl⟩ := jx_eq hj rfl
  unfold h20 at hs
  split at hs
  · obtain ⟨rfl, rfl, rfl, rfl⟩ := go_inj hs
    exact lv_ladd hx hb hd (kk _ _ _ _ (Or.inl ⟨rfl, rfl, rfl⟩) I)
  · cases hs
theorem so_21 (F : FR p s m args meth c A g y) (hd : decode (mB y) pc = .ok (j, len)) (hj : jx 21 j len = true) (hs : h21 y a k0 t r L st σ = some (.inl (r', L', s', σ'))) (I : IN s A g y L σ H lc ls) (kk : KK p l e s m args below meth c Qf A g y 21 r r' pc len L' s' σ') : W p l e (rmM y) s m args below meth c H lc 0 0 Qf (F0 m pc ls (st.map (cv g))) := by
  obtain ⟨hx, hb, hml, hown, hts, hlk, hrt, hK, hX, hA⟩ := F
  obtain ⟨rfl, rfl⟩ := jx_eq hj rfl
  unfold h21 at hs
  split at hs
  · obtain ⟨rfl, rfl, rfl, rfl⟩ := go_inj hs
    exact lv_lmul hx hb hd (kk _ _ _ _ (Or.inl ⟨rfl, rfl, rfl⟩) I)
  · cases hs
theorem so_22 (F : FR p s m args meth c A g y) (hd : decode (mB y) pc = .ok (j, len)) (hj : jx 22 j len = true) (hs : h22 y a k0 t r L st σ = some (.inl (r', L', s', σ'))) (I : IN s A g y L σ H lc ls) (kk : KK p l e s m args below meth c Qf A g y 22 r r' pc len L' s' σ') : W p l e (rmM y) s m args below meth c H lc 0 0 Qf (F0 m pc ls (st.map (cv g))) := by
  obtain ⟨hx, hb, hml, hown, hts, hlk, hrt, hK, hX, hA⟩ := F
  obtain ⟨rfl, rfl⟩ := jx_eq hj rfl
  unfold h22 at hs
  split at hs
  · obtain ⟨rfl, rfl, rfl, rfl⟩ := go_inj hs
    exact W.lcmp hx hb hd (kk _ _ _ _ (Or.inl ⟨rfl, rfl, rfl⟩) I)
  · cases hs
theorem so_14 (F : FR p s m args meth c A g y) (hd : decode (mB y) pc = .ok (j, len)) (hj : jx 14 j len = true) (hs : h14 y a k0 t r L st σ = some (.inl (r', L', s', σ'))) (I : IN s A g y L σ H lc ls) (kk : KK p l e s m args below meth c Qf A g y 14 r r' pc len L' s' σ') : W p l e (rmM y) s m args below meth c H lc 0 0 Qf (F0 m pc ls (st.map (cv g))) := by
  obtain ⟨hx, hb, hml, hown, hts, hlk, hrt, hK, hX, hA⟩ := F
  obtain ⟨rfl, rfl⟩ := jx_eq hj rfl
  unfold h14 at hs
  split at hs
  · split at hs
    · cases hs
    · rename_i hne
      obtain ⟨rfl, rfl, rfl, rfl⟩ := go_inj hs
      exact lv_idiv hx hb hd hne (kk _ _ _ _ (Or.inl ⟨rfl, rfl, rfl⟩) I)
  · cases hs
theorem so_15 (F : FR p s m args meth c A g y) (hd : decode (mB y) pc = .ok (j, len)) (hj : jx 15 j len = true) (hs : h15 y a k0 t r L st σ = some (.inl (r', L', s', σ'))) (I : IN s A g y L σ H lc ls) (kk : KK p l e s m args below meth c Qf A g y 15 r r' pc len L' s' σ') : W p l e (rmM y) s m args below meth c H lc 0 0 Qf (F0 m pc ls (st.map (cv g))) := by
  obtain ⟨hx, hb, hml, hown, hts, hlk, hrt, hK, hX, hA⟩ := F
  obtain ⟨rfl, rfl⟩ := jx_eq hj rfl
  unfold h15 at hs
  split at hs
  · split at hs
    · cases hs
    · rename_i hne
      obtain ⟨rfl, rfl, rfl, rfl⟩ := go_inj hs
      exact lv_irem hx hb hd hne (kk _ _ _ _ (Or.inl ⟨rfl, rfl, rfl⟩) I)
  · cases hs
theorem so_23 (F : FR p s m args meth c A g y) (hd : decode (mB y) pc = .ok (j, len)) (hj : j23 k0 j len = true) (hs : h23 y a k0 t r L st σ = some (.inl (r', L', s', σ'))) (I : IN s A g y L σ H lc ls) (kk : KK p l e s m args below meth c Qf A g y 23 r r' pc len L' s' σ') : W p l e (rmM y) s m args below meth c H lc 0 0 Qf (F0 m pc ls (st.map (cv g))) := by
  obtain ⟨hx, hb, hml, hown, hts, hlk, hrt, hK, hX, hA⟩ := F
  unfold h23 at hs
  obtain ⟨rfl, rfl, rfl, rfl⟩ := go_inj hs
  unfold j23 at hj
  split at hj
  · simp only [Bool.and_eq_true, decide_eq_true_eq] at hj
    obtain ⟨h1, rfl⟩ := hj
    exact lv_lconst hx hb hd h1 (kk _ _ _ _ (Or.inl ⟨rfl, rfl, rfl⟩) I)
  · cases hj
theorem so_24 (F : FR p s m args meth c A g y) (hd : decode (mB y) pc = .ok (j, len)) (hj : jx 24 j len = true) (hs : h24 y a k0 t r L st σ = some (.inl (r', L', s', σ'))) (I : IN s A g y L σ H lc ls) (kk : KK p l e s m args below meth c Qf A g y 24 r r' pc len L' s' σ') : W p l e (rmM y) s m args below meth c H lc 0 0 Qf (F0 m pc ls (st.map (cv g))) := by
  obtain ⟨hx, hb, hml, hown, hts, hlk, hrt, hK, hX, hA⟩ := F
  obtain ⟨rfl, rfl⟩ := jx_eq hj rfl
  unfold h24 at hs
  split at hs
  · split at hs
    · rename_i ht
      obtain ⟨rfl, rfl, rfl, rfl⟩ := go_inj hs
      exact lv_dup hx hb hd (c1_cat ht) (kk _ _ _ _ (Or.inl ⟨rfl, rfl, rfl⟩) I)
    · cases hs
  · cases hs
theorem so_25 (F : FR p s m args meth c A g y) (hd : decode (mB y) pc = .ok (j, len)) (hj : jx 25 j len = true) (hs : h25 y a k0 t r L st σ = some (.inl (r', L', s', σ'))) (I : IN s A g y L σ H lc ls) (kk : KK p l e s m args below meth c Qf A g y 25 r r' pc len L' s' σ') : W p l e (rmM y) s m args below meth c H lc 0 0 Qf (F0 m pc ls (st.map (cv g))) := by
  obtain ⟨hx, hb, hml, hown, hts, hlk, hrt, hK, hX, hA⟩ := F
  obtain ⟨rfl, rfl⟩ := jx_eq hj rfl
  unfold h25 at hs
  split at hs
  · split at hs
    · rename_i ht
      simp only [Bool.and_eq_true] at ht
      obtain ⟨rfl, rfl, rfl, rfl⟩ := go_inj hs
      exact lv_dup2_11 hx hb hd (c1_cat ht.1) (c1_cat ht.2) (kk _ _ _ _ (Or.inl ⟨rfl, rfl, rfl⟩) I)
    · cases hs
  · cases hs
theorem so_26 (F : FR p s m args meth c A g y) (hd : decode (mB y) pc = .ok (j, len)) (hj : jx 26 j len = true) (hs : h26 y a k0 t r L st σ = some (.inl (r', L', s', σ'))) (I : IN s A g y L σ H lc ls) (kk : KK p l e s m args below meth c Qf A g y 26 r r' pc len L' s' σ') : W p l e (rmM y) s m args below meth c H lc 0 0 Qf (F0 m pc ls (st.map (cv g))) := by
  obtain ⟨hx, hb, hml, hown, hts, hlk, hrt, hK, hX, hA⟩ := F
  obtain ⟨rfl, rfl⟩ := jx_eq hj rfl
  unfold h26 at hs
  split at hs
  · split at hs
    · rename_i ht
      obtain ⟨rfl, rfl, rfl, rfl⟩ := go_inj hs
      exact lv_pop hx hb hd (c1_cat ht) (kk _ _ _ _ (Or.inl ⟨rfl, rfl, rfl⟩) I)
    · cases hs
  · cases hs
theorem so_30 (F : FR p s m args meth c A g y) (hd : decode (mB y) pc = .ok (j, len)) (hj : jbr y a pc 30 j len = true) (hs : h30 y a k0 t r L st σ = some (.inl (r', L', s', σ'))) (I : IN s A g y L σ H lc ls) (kk : KK p l e s m args below meth c Qf A g y 30 r r' pc len L' s' σ') : W p l e (rmM y) s m args below meth c H lc 0 0 Qf (F0 m pc ls (st.map (cv g))) := by
  obtain ⟨hx, hb, hml, hown, hts, hlk, hrt, hK, hX, hA⟩ := F
  obtain ⟨q, hq, hi, rfl⟩ := jbr_eq hj
  cases hi
  unfold h30 at hs
  split at hs
  · unfold brk at hs
    refine lv_if_eq (tgt := q) hx hb hd (by omega) (fun hc => ?_) (fun hc => ?_)
    · rw [if_pos hc] at hs
      obtain ⟨rfl, rfl, rfl, rfl⟩ := go_inj hs
      exact kk _ _ _ _ (Or.inr ⟨a, rfl, hq⟩) I
    · rw [if_neg hc] at hs
      obtain ⟨rfl, rfl, rfl, rfl⟩ := go_inj hs
      exact (kk _ _ _ _ (Or.inl ⟨rfl, rfl, rfl⟩) I)
  · cases hs
theorem so_31 (F : FR p s m args meth c A g y) (hd : decode (mB y) pc = .ok (j, len)) (hj : jbr y a pc 31 j len = true) (hs : h31 y a k0 t r L st σ = some (.inl (r', L', s', σ'))) (I : IN s A g y L σ H lc ls) (kk : KK p l e s m args below meth c Qf A g y 31 r r' pc len L' s' σ') : W p l e (rmM y) s m args below meth c H lc 0 0 Qf (F0 m pc ls (st.map (cv g))) := by
  obtain ⟨hx, hb, hml, hown, hts, hlk, hrt, hK, hX, hA⟩ := F
  obtain ⟨q, hq, hi, rfl⟩ := jbr_eq hj
  cases hi
  unfold h31 at hs
  split at hs
  · unfold brk at hs
    refine lv_if_ne (tgt := q) hx hb hd (by omega) (fun hc => ?_) (fun hc => ?_)
    · rw [if_pos hc] at hs
      obtain ⟨rfl, rfl, rfl, rfl⟩ := go_inj hs
      exact kk _ _ _ _ (Or.inr ⟨a, rfl, hq⟩) I
    · rw [if_neg (fun z => z hc)] at hs
      obtain ⟨rfl, rfl, rfl, rfl⟩ := go_inj hs
      exact (kk _ _ _ _ (Or.inl ⟨rfl, rfl, rfl⟩) I)
  · cases hs
theorem so_32 (F : FR p s m args meth c A g y) (hd : decode (mB y) pc = .ok (j, len)) (hj : jbr y a pc 32 j len = true) (hs : h32 y a k0 t r L st σ = some (.inl (r', L', s', σ'))) (I : IN s A g y L σ H lc ls) (kk : KK p l e s m args below meth c Qf A g y 32 r r' pc len L' s' σ') : W p l e (rmM y) s m args below meth c H lc 0 0 Qf (F0 m pc ls (st.map (cv g))) := by
  obtain ⟨hx, hb, hml, hown, hts, hlk, hrt, hK, hX, hA⟩ := F
  obtain ⟨q, hq, hi, rfl⟩ := jbr_eq hj
  cases hi
  unfold h32 at hs
  split at hs
  · unfold brk at hs
    refine lv_if_lt (tgt := q) hx hb hd (by omega) (fun hc => ?_) (fun hc => ?_)
    · rw [if_pos hc] at hs
      obtain ⟨rfl, rfl, rfl, rfl⟩ := go_inj hs
      exact kk _ _ _ _ (Or.inr ⟨a, rfl, hq⟩) I
    · rw [if_neg hc] at hs
      obtain ⟨rfl, rfl, rfl, rfl⟩ := go_inj hs
      exact (kk _ _ _ _ (Or.inl ⟨rfl, rfl, rfl⟩) I)
  · cases hs
theorem so_33 (F : FR p s m args meth c A g y) (hd : decode (mB y) pc = .ok (j, len)) (hj : jbr y a pc 33 j len = true) (hs : h33 y a k0 t r L st σ = some (.inl (r', L', s', σ'))) (I : IN s A g y L σ H lc ls) (kk : KK p l e s m args below meth c Qf A g y 33 r r' pc len L' s' σ') : W p l e (rmM y) s m args below meth c H lc 0 0 Qf (F0 m pc ls (st.map (cv g))) := by
  obtain ⟨hx, hb, hml, hown, hts, hlk, hrt, hK, hX, hA⟩ := F
  obtain ⟨q, hq, hi, rfl⟩ := jbr_eq hj
  cases hi
  unfold h33 at hs
  split at hs
  · unfold brk at hs
    refine lv_if_ge (tgt := q) hx hb hd (by omega) (fun hc => ?_) (fun hc => ?_)
    · rw [if_pos hc] at hs
      obtain ⟨rfl, rfl, rfl, rfl⟩ := go_inj hs
      exact kk _ _ _ _ (Or.inr ⟨a, rfl, hq⟩) I
    · rw [if_neg hc] at hs
      obtain ⟨rfl, rfl, rfl, rfl⟩ := go_inj hs
      exact (kk _ _ _ _ (Or.inl ⟨rfl, rfl, rfl⟩) I)
  · cases hs
theorem so_34 (F : FR p s m args meth c A g y) (hd : decode (mB y) pc = .ok (j, len)) (hj : jbr y a pc 34 j len = true) (hs : h34 y a k0 t r L st σ = some (.inl (r', L', s', σ'))) (I : IN s A g y L σ H lc ls) (kk : KK p l e s m args below meth c Qf A g y 34 r r' pc len L' s' σ') : W p l e (rmM y) s m args below meth c H lc 0 0 Qf (F0 m pc ls (st.map (cv g))) := by
  obtain ⟨hx, hb, hml, hown, hts, hlk, hrt, hK, hX, hA⟩ := F
  obtain ⟨q, hq, hi, rfl⟩ := jbr_eq hj
  cases hi
  unfold h34 at hs
  split at hs
  · unfold brk at hs
    refine lv_if_gt (tgt := q) hx hb hd (by omega) (fun hc => ?_) (fun hc => ?_)
    · rw [if_pos hc] at hs
      obtain ⟨rfl, rfl, rfl, rfl⟩ := go_inj hs
      exact kk _ _ _ _ (Or.inr ⟨a, rfl, hq⟩) I
    · rw [if_neg hc] at hs
      obtain ⟨rfl, rfl, rfl, rfl⟩ := go_inj hs
      exact (kk _ _ _ _ (Or.inl ⟨rfl, rfl, rfl⟩) I)
  · cases hs
theorem so_35 (F : FR p s m args meth c A g y) (hd : decode (mB y) pc = .ok (j, len)) (hj : jbr y a pc 35 j len = true) (hs : h35 y a k0 t r L st σ = some (.inl (r', L', s', σ'))) (I : IN s A g y L σ H lc ls) (kk : KK p l e s m args below meth c Qf A g y 35 r r' pc len L' s' σ') : W p l e (rmM y) s m args below meth c H lc 0 0 Qf (F0 m pc ls (st.map (cv g))) := by
  obtain ⟨hx, hb, hml, hown, hts, hlk, hrt, hK, hX, hA⟩ := F
  obtain ⟨q, hq, hi, rfl⟩ := jbr_eq hj
  cases hi
  unfold h35 at hs
  split at hs
  · unfold brk at hs
    refine lv_if_le (tgt := q) hx hb hd (by omega) (fun hc => ?_) (fun hc => ?_)
    · rw [if_pos hc] at hs
      obtain ⟨rfl, rfl, rfl, rfl⟩ := go_inj hs
      exact kk _ _ _ _ (Or.inr ⟨a, rfl, hq⟩) I
    · rw [if_neg hc] at hs
      obtain ⟨rfl, rfl, rfl, rfl⟩ := go_inj hs
      exact (kk _ _ _ _ (Or.inl ⟨rfl, rfl, rfl⟩) I)
  · cases hs
theorem so_36 (F : FR p s m args meth c A g y) (hd : decode (mB y) pc = .ok (j, len)) (hj : jbr y a pc 36 j len = true) (hs : h36 y a k0 t r L st σ = some (.inl (r', L', s', σ'))) (I : IN s A g y L σ H lc ls) (kk : KK p l e s m args below meth c Qf A g y 36 r r' pc len L' s' σ') : W p l e (rmM y) s m args below meth c H lc 0 0 Qf (F0 m pc ls (st.map (cv g))) := by
  obtain ⟨hx, hb, hml, hown, hts, hlk, hrt, hK, hX, hA⟩ := F
  obtain ⟨q, hq, hi, rfl⟩ := jbr_eq hj
  cases hi
  unfold h36 at hs
  split at hs
  · unfold brk at hs
    refine lv_icmp_eq (tgt := q) hx hb hd (by omega) (fun hc => ?_) (fun hc => ?_)
    · rw [if_pos hc] at hs
      obtain ⟨rfl, rfl, rfl, rfl⟩ := go_inj hs
      exact kk _ _ _ _ (Or.inr ⟨a, rfl, hq⟩) I
    · rw [if_neg hc] at hs
      obtain ⟨rfl, rfl, rfl, rfl⟩ := go_inj hs
      exact (kk _ _ _ _ (Or.inl ⟨rfl, rfl, rfl⟩) I)
  · cases hs
theorem so_37 (F : FR p s m args meth c A g y) (hd : decode (mB y) pc = .ok (j, len)) (hj : jbr y a pc 37 j len = true) (hs : h37 y a k0 t r L st σ = some (.inl (r', L', s', σ'))) (I : IN s A g y L σ H lc ls) (kk : KK p l e s m args below meth c Qf A g y 37 r r' pc len L' s' σ') : W p l e (rmM y) s m args below meth c H lc 0 0 Qf (F0 m pc ls (st.map (cv g))) := by
  obtain ⟨hx, hb, hml, hown, hts, hlk, hrt, hK, hX, hA⟩ := F
  obtain ⟨q, hq, hi, rfl⟩ := jbr_eq hj
  cases hi
  unfold h37 at hs
  split at hs
  · unfold brk at hs
    refine lv_icmp_ne (tgt := q) hx hb hd (by omega) (fun hc => ?_) (fun hc => ?_)
    · rw [if_pos hc] at hs
      obtain ⟨rfl, rfl, rfl, rfl⟩ := go_inj hs
      exact kk _ _ _ _ (Or.inr ⟨a, rfl, hq⟩) I
    · rw [if_neg (fun z => z hc)] at hs
      obtain ⟨rfl, rfl, rfl, rfl⟩ := go_inj hs
      exact (kk _ _ _ _ (Or.inl ⟨rfl, rfl, rfl⟩) I)
  · cases hs
theorem so_38 (F : FR p s m args meth c A g y) (hd : decode (mB y) pc = .ok (j, len)) (hj : jbr y a pc 38 j len = true) (hs : h38 y a k0 t r L st σ = some (.inl (r', L', s', σ'))) (I : IN s A g y L σ H lc ls) (kk : KK p l e s m args below meth c Qf A g y 38 r r' pc len L' s' σ') : W p l e (rmM y) s m args below meth c H lc 0 0 Qf (F0 m pc ls (st.map (cv g))) := by
  obtain ⟨hx, hb, hml, hown, hts, hlk, hrt, hK, hX, hA⟩ := F
  obtain ⟨q, hq, hi, rfl⟩ := jbr_eq hj
  cases hi
  unfold h38 at hs
  split at hs
  · unfold brk at hs
    refine lv_icmp_lt (tgt := q) hx hb hd (by omega) (fun hc => ?_) (fun hc => ?_)
    · rw [if_pos hc] at hs
      obtain ⟨rfl, rfl, rfl, rfl⟩ := go_inj hs
      exact kk _ _ _ _ (Or.inr ⟨a, rfl, hq⟩) I
    · rw [if_neg hc] at hs
      obtain ⟨rfl, rfl, rfl, rfl⟩ := go_inj hs
      exact (kk _ _ _ _ (Or.inl ⟨rfl, rfl, rfl⟩) I)
  · cases hs
theorem so_39 (F : FR p s m args meth c A g y) (hd : decode (mB y) pc = .ok (j, len)) (hj : jbr y a pc 39 j len = true) (hs : h39 y a k0 t r L st σ = some (.inl (r', L', s', σ'))) (I : IN s A g y L σ H lc ls) (kk : KK p l e s m args below meth c Qf A g y 39 r r' pc len L' s' σ') : W p l e (rmM y) s m args below meth c H lc 0 0 Qf (F0 m pc ls (st.map (cv g))) := by
  obtain ⟨hx, hb, hml, hown, hts, hlk, hrt, hK, hX, hA⟩ := F
  obtain ⟨q, hq, hi, rfl⟩ := jbr_eq hj
  cases hi
  unfold h39 at hs
  split at hs
  · unfold brk at hs
    refine lv_icmp_ge (tgt := q) hx hb hd (by omega) (fun hc => ?_) (fun hc => ?_)
    · rw [if_pos hc] at hs
      obtain ⟨rfl, rfl, rfl, rfl⟩ := go_inj hs
      exact kk _ _ _ _ (Or.inr ⟨a, rfl, hq⟩) I
    · rw [if_neg hc] at hs
      obtain ⟨rfl, rfl, rfl, rfl⟩ := go_inj hs
      exact (kk _ _ _ _ (Or.inl ⟨rfl, rfl, rfl⟩) I)
  · cases hs
theorem so_40 (F : FR p s m args meth c A g y) (hd : decode (mB y) pc = .ok (j, len)) (hj : jbr y a pc 40 j len = true) (hs : h40 y a k0 t r L st σ = some (.inl (r', L', s', σ'))) (I : IN s A g y L σ H lc ls) (kk : KK p l e s m args below meth c Qf A g y 40 r r' pc len L' s' σ') : W p l e (rmM y) s m args below meth c H lc 0 0 Qf (F0 m pc ls (st.map (cv g))) := by
  obtain ⟨hx, hb, hml, hown, hts, hlk, hrt, hK, hX, hA⟩ := F
  obtain ⟨q, hq, hi, rfl⟩ := jbr_eq hj
  cases hi
  unfold h40 at hs
  split at hs
  · unfold brk at hs
    refine lv_icmp_gt (tgt := q) hx hb hd (by omega) (fun hc => ?_) (fun hc => ?_)
    · rw [if_pos hc] at hs
      obtain ⟨rfl, rfl, rfl, rfl⟩ := go_inj hs
      exact kk _ _ _ _ (Or.inr ⟨a, rfl, hq⟩) I
    · rw [if_neg hc] at hs
      obtain ⟨rfl, rfl, rfl, rfl⟩ := go_inj hs
      exact (kk _ _ _ _ (Or.inl ⟨rfl, rfl, rfl⟩) I)
  · cases hs
theorem so_41 (F : FR p s m args meth c A g y) (hd : decode (mB y) pc = .ok (j, len)) (hj : jbr y a pc 41 j len = true) (hs : h41 y a k0 t r L st σ = some (.inl (r', L', s', σ'))) (I : IN s A g y L σ H lc ls) (kk : KK p l e s m args below meth c Qf A g y 41 r r' pc len L' s' σ') : W p l e (rmM y) s m args below meth c H lc 0 0 Qf (F0 m pc ls (st.map (cv g))) := by
  obtain ⟨hx, hb, hml, hown, hts, hlk, hrt, hK, hX, hA⟩ := F
  obtain ⟨q, hq, hi, rfl⟩ := jbr_eq hj
  cases hi
  unfold h41 at hs
  split at hs
  · unfold brk at hs
    refine lv_icmp_le (tgt := q) hx hb hd (by omega) (fun hc => ?_) (fun hc => ?_)
    · rw [if_pos hc] at hs
      obtain ⟨rfl, rfl, rfl, rfl⟩ := go_inj hs
      exact kk _ _ _ _ (Or.inr ⟨a, rfl, hq⟩) I
    · rw [if_neg hc] at hs
      obtain ⟨rfl, rfl, rfl, rfl⟩ := go_inj hs
      exact (kk _ _ _ _ (Or.inl ⟨rfl, rfl, rfl⟩) I)
  · cases hs
theorem so_42 (F : FR p s m args meth c A g y) (hd : decode (mB y) pc = .ok (j, len)) (hj : jbr y a pc 42 j len = true) (hs : h42 y a k0 t r L st σ = some (.inl (r', L', s', σ'))) (I : IN s A g y L σ H lc ls) (kk : KK p l e s m args below meth c Qf A g y 42 r r' pc len L' s' σ') : W p l e (rmM y) s m args below meth c H lc 0 0 Qf (F0 m pc ls (st.map (cv g))) := by
  obtain ⟨hx, hb, hml, hown, hts, hlk, hrt, hK, hX, hA⟩ := F
  obtain ⟨q, hq, hi, rfl⟩ := jbr_eq hj
  cases hi
  unfold h42 at hs
  obtain ⟨rfl, rfl, rfl, rfl⟩ := go_inj hs
  exact lv_goto (tgt := q) hx hb hd (by omega) (kk _ _ _ _ (Or.inr ⟨a, rfl, hq⟩) I)
end SND
