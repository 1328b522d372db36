/-! the whole: a run of the abstract machine is a run of the machine -/
def rvl (g : GW) : Value → Option Value
  | .null => none
  | v => some (cv g v)
theorem rvl_push (g : GW) (v : Value) (s : List Value) : (rvl g v).toList ++ s.map (cv g) = (pushv v s).map (cv g) := by cases v <;> rfl
def QG (g : GW) (A : Nat → Prop) (v : Value) (σ' : Sg) : Array Value → State → Outcome → State → Prop := fun _ st oc t => (oc = .returned (rvl g v) ∧ va_P (gD g) vwCl (wsW g σ') t.heap) ∧ va_F A st t
def PW (g : GW) (σ : Sg) (sz : Nat) (U : State) : Prop := U.heap.size = sz ∧ va_P (gD g) vwCl (wsW g σ) U.heap ∧ va_K (gD g) vwCl (tysW g) U ∧ va_D (fun _ => True) (wsW g σ) ∧ SX g (va_A (wsW g σ) sz) U U.heap
def MetY (l : Launch) (g : GW) (y : Nat) (as : List Value) (σ : Sg) (sz : Nat) (v : Value) (σf : Sg) : Prop := Met l (mN y) (wsM y) (rmM y) (va_Pc (as.map (cv g)) (PW g σ sz)) (QG g (va_A (wsW g σ) sz) v σf) 0 0 (va_A (wsW g σ) sz)
theorem PW_blind (g : GW) (σ : Sg) (sz : Nat) (av : List Value) : FrameBlind (va_Pc av (PW g σ sz)) := by
  intro a U f mk h
  obtain ⟨h0, h1, h2, h3, h4, h5⟩ := h
  exact ⟨h0, h1, h2, va_K.moved (u := U) (U := U.calling f mk a) (Vm.Alike.refl U.vm) h3, h4, h5.calling⟩
theorem ma_ok : (List.range 205).all (fun y => decide (mA y ≤ mL y)) = true := by decide +kernel
theorem bk_ok {y b q : Nat} (hy : y < 205) (h : bp0 y b = some q) : okS y (bkp y b) = true := by
  have h1 := ok_all hy
  unfold okM at h1
  simp only [Bool.and_eq_true] at h1
  refine List.all_eq_true.mp h1.1 _ ?_
  unfold bp0 bkp at h
  unfold bkp
  rw [List.getD_eq_getElem?_getD] at h ⊢
  cases hk : (mK y)[b]? with
  | none => rw [hk] at h; simp at h
  | some z => exact List.mem_of_getElem? hk
theorem bk_hd {y b q : Nat} (h : bp0 y b = some q) : (bkp y b).head?.map Prod.fst = some q := h
theorem mp_facts {y : Nat} (hy : y < 205) : Cond.code (mN y) (mB y) (mL y) (mR y) ∈ tbg ∧ (mS y = true → Cond.static (mN y) ∈ tbg) ∧ (mS y = false → Cond.instanceMethod (mN y) ∈ tbg ∧ Cond.selects (cnS (mC y)) (mN y) (mN y) ∈ tbg) ∧ Cond.initialized (cnS (mC y)) ∈ tbg ∧ (mN y).cls = cnS (mC y) ∧ ((mN y).cls ≠ "java/lang/invoke/MethodHandle" ∧ (mN y).cls ≠ "java/lang/invoke/VarHandle" ∧ (parseMethodDescriptor (mN y).desc).map (fun d => d.parameters.length) = some (if mS y then mA y else mA y - 1)) ∧ plainName (mN y).cls = true := by
  have h := mp_all hy
  unfold mpOk at h
  split at h
  · simp only [Bool.and_eq_true, decide_eq_true_eq] at h
    obtain ⟨⟨⟨⟨⟨⟨h1, h2⟩, h3⟩, h4⟩, h5⟩, h6⟩, h7⟩ := h
    refine ⟨inT_mem h1, fun z => ?_, fun z => ?_, inT_mem h3, h4, h5, h6⟩
    · rw [if_pos z] at h2
      exact inT_mem h2
    · rw [if_neg (by rw [z]; decide)] at h2
      simp only [Bool.and_eq_true] at h2
      exact ⟨inT_mem h2.1, inT_mem h2.2⟩
  · cases h
theorem tbg_good {w : Cond} (h : w ∈ tbg) : (w.onTables && w.keeps) = true ∨ ∃ ty, w = .arrayClass ty := good_of_word (List.mem_filter.mp h).2
theorem good_M {y : Nat} (hy : y < 205) : GoodIn tbg (wsM y) := by
  intro w hw
  have h : w ∈ tbg := by
    rcases List.mem_cons.mp hw with h | h
    · rw [h]; exact (mp_facts hy).1
    · exact h
  exact ⟨h, tbg_good h⟩
theorem good_V {y ix : Nat} {own : String} (hy : y < 205) (hs : mS y = false) (hl : Cond.methodLink own ix (mN y) ∈ tbg) : GoodIn tbg (wsV own ix (cnS (mC y)) (mN y) (wsM y)) := by
  obtain ⟨-, -, h3, h4, -⟩ := mp_facts hy
  intro w hw
  have h : w ∈ tbg := by
    rcases List.mem_append.mp hw with h | h
    · simp only [List.mem_cons, List.not_mem_nil, or_false] at h
      rcases h with rfl | rfl | rfl | rfl
      · exact hl
      · exact (h3 hs).1
      · exact (h3 hs).2
      · exact h4
    · exact (good_M hy w h).1
  exact ⟨h, tbg_good h⟩
theorem good_S {y ix : Nat} {own : String} (hy : y < 205) (hs : mS y = true) (hl : Cond.methodLink own ix (mN y) ∈ tbg) : GoodIn tbg (va_wsS own ix (mN y) (wsM y)) := by
  obtain ⟨-, h2, -, h4, h5, -⟩ := mp_facts hy
  intro w hw
  have h : w ∈ tbg := by
    rcases List.mem_append.mp hw with h | h
    · simp only [List.mem_cons, List.not_mem_nil, or_false] at h
      rcases h with rfl | rfl | rfl
      · exact hl
      · exact h2 hs
      · rw [h5]; exact h4
    · exact (good_M hy w h).1
  exact ⟨h, tbg_good h⟩
theorem sl_len (g : GW) : ∀ as : List Value, as.all c1 = true → (lg_sl (as.map (cv g))).length = as.length := by
  intro as
  induction as with
  | nil => intro _; rfl
  | cons v as ih =>
    intro h
    simp only [List.all_cons, Bool.and_eq_true] at h
    have h1 := c1_cat (g := g) h.1
    have h2 := ih h.2
    simp only [lg_sl, List.map_cons, List.flatMap_cons, List.length_append] at h2 ⊢
    rw [h2, if_neg (by omega)]
    simp only [List.length_cons, List.length_nil]
    omega
theorem args_in (g : GW) : ∀ (as : List Value) (k i : Nat) (v : Value), as.all c1 = true → as[i]? = some v → (k + i, cv g v) ∈ lv_args k (as.map (cv g)) := by
  intro as
  induction as with
  | nil => intro k i v _ h; simp at h
  | cons w as ih =>
    intro k i v h hi
    simp only [List.all_cons, Bool.and_eq_true] at h
    simp only [List.map_cons, lv_args]
    rw [if_neg (by rw [c1_cat h.1]; decide)]
    cases i with
    | zero =>
      simp only [List.getElem?_cons_zero, Option.some.injEq] at hi
      subst hi
      exact List.mem_cons_self
    | succ i =>
      rw [List.getElem?_cons_succ] at hi
      have := ih (k + 1) i v h.2 hi
      rw [show k + 1 + i = k + (i + 1) by omega] at this
      exact List.mem_cons_of_mem _ this
theorem LR_entry {g : GW} {as : List Value} {n : Nat} {ls : Array Slot} (hc : as.all c1 = true) (hl : as.length ≤ n) (h : lv_has ls n (lv_args 0 (as.map (cv g)))) : LR g (pad n as) ls n := by
  refine ⟨h.1, h.2.1, by simp [pad]; omega, fun i v hi hv => ?_⟩
  unfold pad at hi
  rcases Nat.lt_or_ge i as.length with h1 | h1
  · rw [List.getElem?_append_left h1] at hi
    have := args_in g as 0 i v hc hi
    rw [Nat.zero_add] at this
    exact h.2.2 _ this
  · rw [List.getElem?_append_right h1] at hi
    have h2 := List.mem_of_getElem? hi
    rw [(List.mem_replicate.mp h2).2] at hv
    cases hv
def Snd (n : Nat) : Prop := ∀ (y : Nat) (rp : List (Nat × Ins)) (L st : List Value) (σ σf : Sg) (v : Value), y < 205 → okS y rp = true → ev n y (rp.map Prod.snd) L st σ = some (v, σf) → ∀ (g : GW) (p : Program) (l : Launch) (e : Env) (s : State) (m : MethodId) (args : Array Value) (below : List Frame) (meth : Method) (c : Code) (A : Nat → Prop) (H : Heap) (lc : List Loc) (ls : Array Slot) (q : Nat), rp.head?.map Prod.fst = some q → FR p s m args meth c A g y → IN s A g y L σ H lc ls → W p l e (rmM y) s m args below meth c H lc 0 0 (MQ below (QG g A v σf) args s 0 0 A) (F0 m q ls (st.map (cv g)))
theorem met_of {n y : Nat} {as : List Value} {σ σf : Sg} {v : Value} (IH : Snd n) (hy : y < 205) (hl : as.length ≤ mL y) (hc : as.all c1 = true) (h : ev n y (blk y 0) (pad (mL y) as) [] σ = some (v, σf)) (l : Launch) (g : GW) (sz : Nat) : MetY l g y as σ sz v σf := by
  obtain ⟨m1, -, -, -, m5, -, m7⟩ := mp_facts hy
  have hb0 : bp0 y 0 = some 0 := by
    have h1 := ok_all hy
    unfold okM at h1
    simp only [Bool.and_eq_true, decide_eq_true_eq] at h1
    exact h1.2
  refine Met.ofW (cc := mB y) (maxL := mL y) (ret := mR y) m7 rfl ?_
  intro p e s m args below meth c s₁ B hml hv
  obtain ⟨rfl, hsz, hP, hK, hD0, hX⟩ := hv
  have hts := atoms_spec (ws := wsM y) B.pre
  have hown : s.vm.findClass (mN y).cls = some m.cls := findClass_of_methodNamed B.named
  rw [m5] at hown
  subst hsz
  have hlv := lv_entry (as.map (cv g)) (n := mL y) (by rw [sl_len g as hc]; exact hl)
  rw [lg_entry_eq]
  generalize (lg_sl (as.map (cv g)) ++ List.replicate (mL y - (lg_sl (as.map (cv g))).length) Slot.unset).toArray = ls at hlv ⊢
  exact IH y (bkp y 0) (pad (mL y) as) [] σ σf v hy (bk_ok hy hb0) h g p l e s m _ below meth c _ s.heap [] ls 0 (bk_hd hb0)
    ⟨B.exec, B.bytes, hml, hown, fun w hw => hts w (List.mem_cons_of_mem _ hw), B.notSynchronized, B.returns, hK, hX, fun q hq => Or.inr hq⟩
    ⟨LR_entry hc hl hlv, hP, hD0.self, va_S.rf⟩
section CG
variable {p : Program} {l : Launch} {e : Env} {R : Room} {s : State} {m : MethodId} {args : Array Value} {below : List Frame} {meth : Method} {c : Code} {H : Heap} {locs : List Loc} {cells slots : Nat} {Q : State → Prop}
variable {pc : Nat} {ls : Array Slot} {rest st0 : List Value} {a : Array Value} {A0 A1 : Nat → Prop} {H0 : Heap} {mc ms : Nat} {free : Addr → Prop}
theorem va_callg {g : GW} {vr : Value} {σ' : Sg} (hr : va_Run p l e R s m args below meth c H locs cells slots mc ms (F0 m pc ls st0) rest (QG g A1 vr σ' a) free) (hS : va_S A0 H0 H locs) (hA : ∀ q, q < H.size → A1 q → A0 q) (hf : ∀ q, free q → A0 q)
    (kk : ∀ (H1 : Heap) (locs1 : List Loc), va_P (gD g) vwCl (wsW g σ') H1 → va_S A0 H0 H1 locs1 → W p l e R s m args below meth c H1 locs1 (cells + mc) (slots + ms) Q (F0 m (pc + 3) ls ((rvl g vr).toList ++ rest))) : W p l e R s m args below meth c H locs cells slots Q (F0 m pc ls st0) := by
  intro T hT X
  obtain ⟨v, st₀, t, T', L, h0, X', hL, e1, e2, ⟨⟨hv, hb⟩, hz, hk⟩, st⟩ := hr T hT X
  cases hv
  rw [h0] at hz hk
  obtain ⟨t2, a1, b1⟩ := kk T'.heap (locs ++ L) (by rw [e1]; exact hb)
    ⟨Nat.le_trans hS.1 (by rw [e1]; exact hz), fun q h1 h2 => by rw [e1, hk q (Nat.lt_of_lt_of_le h1 hS.1) (fun z => h2 (hA q (Nat.lt_of_lt_of_le h1 hS.1) z))]; exact hS.2.1 q h1 h2, fun q hq => by
      rcases List.mem_append.mp hq with h | h
      · exact hS.2.2 q h
      · exact hf _ (hL q h)⟩ T' rfl X'
  exact ⟨t2, st t2 a1, b1⟩
end CG
theorem cls_spec {k ci : Nat} (h : cls k = ci) (hc : ci < 99) : k < 67 ∧ ∃ fs rr, shp k = (0, ci, fs) ∧ vwCl[ci]? = some rr ∧ rr.1 = cnS ci := by
  have h1 : (List.range 67).all (fun k => decide ((shp k).1 ≠ 0) || decide ((shp k).2.1 < 6)) = true := by decide +kernel
  have h2 : (List.range 6).all (fun ci => decide ((vwCl[ci]?).map (fun r => r.1) = some (cnS ci))) = true := by decide +kernel
  unfold cls at h
  split at h
  · rename_i z c fs hs
    subst h
    have hk := shp_lt (k := k) (by rw [hs]; simp)
    have h3 := List.all_eq_true.mp h1 k (List.mem_range.mpr hk)
    rw [hs] at h3
    simp only [Bool.or_eq_true, decide_eq_true_eq] at h3
    have h4 : c < 6 := by
      rcases h3 with h3 | h3
      · exact absurd rfl h3
      · exact h3
    have h5 := of_decide_eq_true (List.all_eq_true.mp h2 c (List.mem_range.mpr h4))
    obtain ⟨rr, h6, h7⟩ := Option.map_eq_some_iff.mp h5
    exact ⟨hk, fs, rr, hs, h6, h7⟩
  · omega
theorem mc_lt {y : Nat} (hy : y < 205) : mC y < 99 := by
  have h1 : (List.range 205).all (fun y => decide (mC y < 99)) = true := by decide +kernel
  exact of_decide_eq_true (List.all_eq_true.mp h1 y (List.mem_range.mpr hy))
section SND
variable {p : Program} {l : Launch} {e : Env} {s : State} {m : MethodId} {args : Array Value} {below : List Frame} {meth : Method} {c : Code} {Qf : State → Prop} {A : Nat → Prop} {g : GW} {y : Nat}
variable {pc len a a' : Nat} {k0 : Int32} {t : List Nat} {r r' : List Ins} {L L' st s' as : List Value} {σ σ' : Sg} {j : Instr} {H : Heap} {lc : List Loc} {ls : Array Slot}
theorem so_54 {n : Nat} {w : Value × Sg} (IH : Snd n) (F : FR p s m args meth c A g y) (hd : decode (mB y) pc = .ok (j, len)) (hj : j54 y a t j len = true) (hs : h54 y a k0 t r L st σ = some (.inr (.inl (a', as, r', L', s')))) (hw : ev n a' (blk a' 0) (pad (mL a') as) [] σ = some w) (I : IN s A g y L σ H lc ls)
    (kk : ∀ (H1 : Heap) (lc1 : List Loc), r' = r → IN s A g y L' w.2 H1 lc1 ls → W p l e (rmM y) s m args below meth c H1 lc1 0 0 Qf (F0 m (pc + len) ls ((pushv w.1 s').map (cv g)))) : W p l e (rmM y) s m args below meth c H lc 0 0 Qf (F0 m pc ls (st.map (cv g))) := by
  obtain ⟨hx, hb, hml, hown, hts, hlk, hrt, hK, hX, hA⟩ := F
  simp only [j54, Bool.and_eq_true, decide_eq_true_eq] at hj
  obtain ⟨⟨⟨⟨⟨q1, rfl⟩, q3⟩, q4⟩, q5⟩, rfl⟩ := hj
  unfold h54 at hs
  split at hs
  · rename_i hc
    change (decide (mA a ≤ st.length) && rcv a (st.take (mA a)).reverse && (st.take (mA a)).all c1 && decide (rsum (st.drop (mA a)) ≤ 8)) = true at hc
    simp only [Bool.and_eq_true, decide_eq_true_eq] at hc
    obtain ⟨⟨⟨d1, d2⟩, d3⟩, d4⟩ := hc
    simp only [Option.some.injEq, Sum.inr.injEq, Sum.inl.injEq, Prod.mk.injEq] at hs
    obtain ⟨rfl, rfl, rfl, rfl, rfl⟩ := hs
    change ev n a (blk a 0) (pad (mL a) (st.take (mA a)).reverse) [] σ = some w at hw
    have hal : ((st.take (mA a)).reverse).length = mA a := by simp; omega
    have hma : mA a ≤ mL a := of_decide_eq_true (List.all_eq_true.mp ma_ok a (List.mem_range.mpr q3))
    have hac : ((st.take (mA a)).reverse).all c1 = true := by rw [List.all_reverse]; exact d3
    have hM := met_of IH q3 (by rw [hal]; exact hma) hac hw l g H.size
    obtain ⟨m1, m2, m3, m4, m5, m6, m7⟩ := mp_facts q3
    have hst : st = ((st.take (mA a)).reverse).reverse ++ st.drop (mA a) := by rw [List.reverse_reverse, List.take_append_drop]
    have hA' : ∀ q, va_A (wsW g σ) H.size q → A q := by
      intro q hq
      rcases hq with ⟨k, e, h⟩ | h
      · exact I.2.2.1.2 k _ h
      · exact hA q (Nat.le_trans I.2.2.2.1 h)
    have hpre : ∀ U : State, U.heap = H → s.WarmedH U.vm → va_Pc (((st.take (mA a)).reverse).map (cv g)) (PW g σ H.size) (((st.take (mA a)).reverse).map (cv g)).toArray U := by
      intro U hU hW
      exact ⟨rfl, by rw [hU], by rw [hU]; exact I.2.1, va_K.moved hW.alike hK, I.2.2.1.weaken (fun _ _ _ _ => trivial), hX.next hW hU I.2.2.2 hA'⟩
    generalize (st.take (mA a)).reverse = as at hal hac hM hst hpre d2 hw
    have hml2 : ∀ ix, MLt.any (fun q => q.1 == mC y && q.2.1 == ix && q.2.2.1 == a) = true → Cond.methodLink (cnS (mC y)) ix (mN a) ∈ tbg := by
      intro ix h
      obtain ⟨q, hq, q4⟩ := List.any_eq_true.mp h
      simp only [Bool.and_eq_true, beq_iff_eq] at q4
      have q5 := List.all_eq_true.mp ml_ok q hq
      unfold mlOk at q5
      rw [q4.1.1, q4.1.2, q4.2] at q5
      exact inT_mem q5
    have hkk : ∀ (H1 : Heap) (lc1 : List Loc), va_P (gD g) vwCl (wsW g w.2) H1 → va_S A s.heap H1 lc1 → W p l e (rmM y) s m args below meth c H1 lc1 0 0 Qf (F0 m (pc + 3) ls ((rvl g w.1).toList ++ (st.drop (mA a)).map (cv g))) := by
      intro H1 lc1 hP hS
      rw [rvl_push]
      exact kk H1 lc1 rfl ⟨I.1, hP, va_D_ws I.2.2.1, hS⟩
    split at q1
    · rename_i ix
      simp only [Bool.and_eq_true, Bool.not_eq_true'] at q1
      obtain ⟨q1a, q1b⟩ := q1
      unfold rcv at d2
      rw [q1a, Bool.false_or] at d2
      split at d2
      · rename_i k as'
        obtain ⟨hk, fs, rr, hsh, hvw, hnm⟩ := cls_spec (beq_iff_eq.mp d2) (mc_lt q3)
        have he := ws_get g σ hk
        rw [cel_obj hsh] at he
        have hrv := va_recv hK I.2.1 hvw he
        rw [hnm] at hrv
        rw [q1a] at m6
        simp only [List.length_cons] at hal
        refine va_callg (va_runV (As := as'.map (cv g)) (rest := (st.drop (mA a)).map (cv g)) (C := cnS (mC a)) ⟨hx, hb, hml, hown, hts⟩ hM (cwV (mA a - 1) hts (good_V q3 q1a (hml2 ix q1b)) rfl rfl rfl ⟨m5, m6⟩ ⟨q4, q5⟩) ⟨PW_blind _ _ _ _, hrv, hpre⟩ rfl (by rw [List.length_map]; omega) I.1.1 ?_ (lv_room (by rw [rsum_cv]; exact d4)) hd ⟨Nat.zero_le _, Nat.zero_le _⟩) I.2.2.2 (fun q _ h => hA' q h) hA' hkk
        show st.map (cv g) = _
        conv => lhs; rw [hst]
        simp [cv]
      · cases d2
    · rename_i ix
      simp only [Bool.and_eq_true] at q1
      rw [q1.1] at m6
      refine va_callg (va_runS (As := as.map (cv g)) (rest := (st.drop (mA a)).map (cv g)) ⟨hx, hb, hml, hown, hts⟩ hM (va_cwS (mA a) hts (good_S q3 q1.1 (hml2 ix q1.2)) rfl rfl rfl m6 ⟨q4, q5⟩) ⟨PW_blind _ _ _ _, hpre⟩ rfl (by rw [List.length_map]; exact hal) I.1.1 ?_ (lv_room (by rw [rsum_cv]; exact d4)) hd ⟨Nat.zero_le _, Nat.zero_le _⟩) I.2.2.2 (fun q _ h => hA' q h) hA' hkk
      show st.map (cv g) = _
      conv => lhs; rw [hst]
      simp
    · cases q1
  · cases hs
theorem jr_eq {op : Nat} {i : Instr} (h : jrt y op j len = true) (hi : jxI op = some i) : jrR op (mR y) = true ∧ j = i ∧ len = 1 := by
  simp only [jrt, Bool.and_eq_true] at h
  exact ⟨h.1, jx_eq h.2 hi⟩
theorem so_60 {v : Value} (F : FR p s m args meth c A g y) (hd : decode (mB y) pc = .ok (j, len)) (hj : jrt y 60 j len = true) (hs : h60 y a k0 t r L st σ = some (.inr (.inr v))) (I : IN s A g y L σ H lc ls) : W p l e (rmM y) s m args below meth c H lc 0 0 (MQ below (QG g A v σ) args s 0 0 A) (F0 m pc ls (st.map (cv g))) := by
  obtain ⟨hx, hb, hml, hown, hts, hlk, hrt, hK, hX, hA⟩ := F
  obtain ⟨hr, rfl, rfl⟩ := jr_eq hj rfl
  have hr : mR y = none := of_decide_eq_true hr
  unfold h60 at hs
  split at hs
  · cases hs
    exact W.vret hx hb (hrt.trans hr) (fun t ht hW => ⟨⟨rfl, by rw [ht]; exact I.2.1⟩, I.2.2.2.F ht⟩) I.2.2.2.2.2 hd
  · cases hs
theorem so_61 {v : Value} (F : FR p s m args meth c A g y) (hd : decode (mB y) pc = .ok (j, len)) (hj : jrt y 61 j len = true) (hs : h61 y a k0 t r L st σ = some (.inr (.inr v))) (I : IN s A g y L σ H lc ls) : W p l e (rmM y) s m args below meth c H lc 0 0 (MQ below (QG g A v σ) args s 0 0 A) (F0 m pc ls (st.map (cv g))) := by
  obtain ⟨hx, hb, hml, hown, hts, hlk, hrt, hK, hX, hA⟩ := F
  obtain ⟨hr, rfl, rfl⟩ := jr_eq hj rfl
  have hr : mR y = some .int := of_decide_eq_true hr
  unfold h61 at hs
  split at hs
  · cases hs
    exact W.iret hx hb (hrt.trans hr) (fun t ht hW => ⟨⟨rfl, by rw [ht]; exact I.2.1⟩, I.2.2.2.F ht⟩) I.2.2.2.2.2 hd
  · cases hs
theorem so_62 {v : Value} (F : FR p s m args meth c A g y) (hd : decode (mB y) pc = .ok (j, len)) (hj : jrt y 62 j len = true) (hs : h62 y a k0 t r L st σ = some (.inr (.inr v))) (I : IN s A g y L σ H lc ls) : W p l e (rmM y) s m args below meth c H lc 0 0 (MQ below (QG g A v σ) args s 0 0 A) (F0 m pc ls (st.map (cv g))) := by
  obtain ⟨hx, hb, hml, hown, hts, hlk, hrt, hK, hX, hA⟩ := F
  obtain ⟨hr, rfl, rfl⟩ := jr_eq hj rfl
  have hr : mR y = some .long := of_decide_eq_true hr
  unfold h62 at hs
  split at hs
  · cases hs
    exact W.lret hx hb (hrt.trans hr) (fun t ht hW => ⟨⟨rfl, by rw [ht]; exact I.2.1⟩, I.2.2.2.F ht⟩) I.2.2.2.2.2 hd
  · cases hs
theorem so_63 {v : Value} (F : FR p s m args meth c A g y) (hd : decode (mB y) pc = .ok (j, len)) (hj : jrt y 63 j len = true) (hs : h63 y a k0 t r L st σ = some (.inr (.inr v))) (I : IN s A g y L σ H lc ls) : W p l e (rmM y) s m args below meth c H lc 0 0 (MQ below (QG g A v σ) args s 0 0 A) (F0 m pc ls (st.map (cv g))) := by
  obtain ⟨hx, hb, hml, hown, hts, hlk, hrt, hK, hX, hA⟩ := F
  obtain ⟨hr, rfl, rfl⟩ := jr_eq hj rfl
  have hr : ∃ n, mR y = some (.object n) := by
    change (match mR y with | some (.object _) => true | _ => false) = true at hr
    split at hr
    · rename_i n hn
      exact ⟨n, hn⟩
    · cases hr
  obtain ⟨n, hr⟩ := hr
  unfold h63 at hs
  split at hs
  · cases hs
    exact W.aret hx hb (hrt.trans hr) (Or.inl ⟨n, rfl⟩) (Or.inr ⟨_, rfl⟩) (fun t ht hW => ⟨⟨rfl, by rw [ht]; exact I.2.1⟩, I.2.2.2.F ht⟩) I.2.2.2.2.2 hd
  · cases hs
theorem so_64 {v : Value} (F : FR p s m args meth c A g y) (hd : decode (mB y) pc = .ok (j, len)) (hj : jrt y 64 j len = true) (hs : h64 y a k0 t r L st σ = some (.inr (.inr v))) (I : IN s A g y L σ H lc ls) : W p l e (rmM y) s m args below meth c H lc 0 0 (MQ below (QG g A v σ) args s 0 0 A) (F0 m pc ls (st.map (cv g))) := by
  obtain ⟨hx, hb, hml, hown, hts, hlk, hrt, hK, hX, hA⟩ := F
  obtain ⟨hr, rfl, rfl⟩ := jr_eq hj rfl
  have hr : mR y = some .boolean := of_decide_eq_true hr
  unfold h64 at hs
  split at hs
  · split at hs
    · rename_i x hx01
      cases hs
      exact W.zret hx hb (hrt.trans hr) (by rcases hx01 with h | h <;> (rw [h]; rfl)) (fun t ht hW => ⟨⟨rfl, by rw [ht]; exact I.2.1⟩, I.2.2.2.F ht⟩) I.2.2.2.2.2 hd
    · cases hs
  · cases hs
end SND
