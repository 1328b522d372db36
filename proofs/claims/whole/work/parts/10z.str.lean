/-! String.length and String.charAt of a constant: the JDK's own methods, walked -/
def rmJ (f o : Nat) : Room := { frames := f, cells := 0, slots := 0, locals := o }
/-- the start of a method that changes no object -/
def FJ (p : Program) (s : State) (m : MethodId) (args : Array Value) (meth : Method) (c : Code) (A : Nat → Prop) (g : GW) (σ : Sg) (yn : MethodName) (cc : ByteArray) (mxl : Nat) (ret : Option FieldType) : Prop := p.tables.exec = Jvm.exec ∧ c.code = cc ∧ c.maxLocals = mxl ∧ s.vm.findClass yn.cls = some m.cls ∧ (∀ w ∈ tbg, w.before args s = true) ∧ meth.locks = false ∧ meth.sig.returnType = ret ∧ va_K (gD g) vwCl (tysW g) s ∧ SX g A s s.heap ∧ (∀ q, s.heap.size ≤ q → A q) ∧ va_P (gD g) vwCl (wsW g σ) s.heap ∧ va_D A (wsW g σ)
def IJ (s : State) (A : Nat → Prop) (g : GW) (σ : Sg) (H : Heap) (lc : List Loc) : Prop := va_P (gD g) vwCl (wsW g σ) H ∧ va_D A (wsW g σ) ∧ va_S A s.heap H lc
abbrev wsJ (yn : MethodName) (cc : ByteArray) (mxl : Nat) (ret : Option FieldType) : List Cond := Cond.code yn cc mxl ret :: tbg
abbrev MetJ (l : Launch) (g : GW) (yn : MethodName) (cc : ByteArray) (mxl : Nat) (ret : Option FieldType) (rm : Room) (as : List Value) (σ : Sg) (sz : Nat) (v : Value) : Prop := Met l yn (wsJ yn cc mxl ret) rm (va_Pc as (PW g σ sz)) (QG g (va_A (wsW g σ) sz) v σ) 0 0 (va_A (wsW g σ) sz)
theorem jm {l : Launch} {g : GW} {yn : MethodName} {cc : ByteArray} {mxl : Nat} {ret : Option FieldType} {f o : Nat} {as : List Value} {σ : Sg} {sz : Nat} {v : Value} (hpl : plainName yn.cls = true) (hlen : (lg_sl as).length ≤ mxl)
    (walk : ∀ (p : Program) (e : Env) (s : State) (m : MethodId) (below : List Frame) (meth : Method) (c : Code) (A : Nat → Prop) (ls : Array Slot), FJ p s m as.toArray meth c A g σ yn cc mxl ret → lv_has ls mxl (lv_args 0 as) → W p l e (rmJ f o) s m as.toArray below meth c s.heap [] 0 0 (MQ below (QG g A v σ) as.toArray s 0 0 A) (F0 m 0 ls [])) : MetJ l g yn cc mxl ret (rmJ f o) as σ sz v := by
  refine Met.ofW (cc := cc) (maxL := mxl) (ret := ret) hpl rfl ?_
  intro p e s m args below meth c s₁ B hml hv
  obtain ⟨rfl, hsz, hP, hK, hD0, hX⟩ := hv
  have hts := atoms_spec (ws := wsJ yn cc mxl ret) B.pre
  have hown : s.vm.findClass yn.cls = some m.cls := findClass_of_methodNamed B.named
  subst hsz
  have hlv := lv_entry as (n := mxl) hlen
  rw [lg_entry_eq]
  generalize (lg_sl as ++ List.replicate (mxl - (lg_sl as).length) Slot.unset).toArray = ls at hlv ⊢
  exact walk p e s m below meth c (va_A (wsW g σ) s.heap.size) ls ⟨B.exec, B.bytes, hml, hown, fun w hw => hts w (List.mem_cons_of_mem _ hw), B.notSynchronized, B.returns, hK, hX, fun q hq => Or.inr hq, hP, hD0.self⟩ hlv
theorem inJ {w : Cond} (h1 : w ∈ lw_tbl) (h2 : goodWord w = true) : w ∈ tbg := List.mem_filter.mpr ⟨h1, h2⟩
theorem kJ_coder : Cond.code yJ0_coder_7d493 cJ0_coder_7d493 1 (some .byte) ∈ tbg := inJ (by decide +kernel) (by decide +kernel)
theorem kJ_latin : Cond.code yJ0_isLatin1_aae02 cJ0_isLatin1_aae02 1 (some .boolean) ∈ tbg := inJ (by decide +kernel) (by decide +kernel)
theorem kJ_check : Cond.code yJ0_checkIndex_df160 cJ0_checkIndex_df160 2 none ∈ tbg := inJ (by decide +kernel) (by decide +kernel)
theorem kJ_pre : Cond.code yJ3_checkIndex_8e157 cJ3_checkIndex_8e157 3 (some .int) ∈ tbg := inJ (by decide +kernel) (by decide +kernel)
theorem kJ_chr1 : Cond.code yJ1_charAt_3b067 cJ1_charAt_3b067 2 (some .char) ∈ tbg := inJ (by decide +kernel) (by decide +kernel)
theorem kJ_len : Cond.code yJ0_length_8abf5 cJ0_length_8abf5 1 (some .int) ∈ tbg := inJ (by decide +kernel) (by decide +kernel)
theorem kJ_chr : Cond.code yJ0_charAt_5068e cJ0_charAt_5068e 2 (some .char) ∈ tbg := inJ (by decide +kernel) (by decide +kernel)
theorem fJ_38 : Cond.fieldLink RJ0 38 "java/lang/String" "COMPACT_STRINGS" "Z" ∈ tbg := inJ (by decide +kernel) (by decide +kernel)
theorem fJ_15 : Cond.fieldLink RJ0 15 "java/lang/String" "coder" "B" ∈ tbg := inJ (by decide +kernel) (by decide +kernel)
theorem fJ_9 : Cond.fieldLink RJ0 9 "java/lang/String" "value" "[B" ∈ tbg := inJ (by decide +kernel) (by decide +kernel)
theorem fJ_1053 : Cond.fieldLink RJ0 1053 "jdk/internal/util/Preconditions" "SIOOBE_FORMATTER" "Ljava/util/function/BiFunction;" ∈ tbg := inJ (by decide +kernel) (by decide +kernel)
theorem lJ_335 : Cond.methodLink RJ0 335 yJ0_coder_7d493 ∈ tbg := inJ (by decide +kernel) (by decide +kernel)
theorem lJ_492 : Cond.methodLink RJ0 492 yJ0_isLatin1_aae02 ∈ tbg := inJ (by decide +kernel) (by decide +kernel)
theorem lJ_495 : Cond.methodLink RJ0 495 yJ1_charAt_3b067 ∈ tbg := inJ (by decide +kernel) (by decide +kernel)
theorem lJ_9 : Cond.methodLink RJ1 9 yJ0_checkIndex_df160 ∈ tbg := inJ (by decide +kernel) (by decide +kernel)
theorem lJ_1059 : Cond.methodLink RJ0 1059 yJ3_checkIndex_8e157 ∈ tbg := inJ (by decide +kernel) (by decide +kernel)
theorem iJ_coder : Cond.instanceMethod yJ0_coder_7d493 ∈ tbg ∧ Cond.selects RJ0 yJ0_coder_7d493 yJ0_coder_7d493 ∈ tbg := ⟨inJ (by decide +kernel) (by decide +kernel), inJ (by decide +kernel) (by decide +kernel)⟩
theorem iJ_latin : Cond.instanceMethod yJ0_isLatin1_aae02 ∈ tbg ∧ Cond.selects RJ0 yJ0_isLatin1_aae02 yJ0_isLatin1_aae02 ∈ tbg := ⟨inJ (by decide +kernel) (by decide +kernel), inJ (by decide +kernel) (by decide +kernel)⟩
theorem iJ_len : Cond.instanceMethod yJ0_length_8abf5 ∈ tbg ∧ Cond.selects RJ0 yJ0_length_8abf5 yJ0_length_8abf5 ∈ tbg := ⟨inJ (by decide +kernel) (by decide +kernel), inJ (by decide +kernel) (by decide +kernel)⟩
theorem iJ_chr : Cond.instanceMethod yJ0_charAt_5068e ∈ tbg ∧ Cond.selects RJ0 yJ0_charAt_5068e yJ0_charAt_5068e ∈ tbg := ⟨inJ (by decide +kernel) (by decide +kernel), inJ (by decide +kernel) (by decide +kernel)⟩
theorem nJ_0 : Cond.initialized RJ0 ∈ tbg := inJ (by decide +kernel) (by decide +kernel)
theorem nJ_1 : Cond.initialized RJ1 ∈ tbg := inJ (by decide +kernel) (by decide +kernel)
theorem nJ_3 : Cond.initialized RJ3 ∈ tbg := inJ (by decide +kernel) (by decide +kernel)
theorem sJ_chr1 : Cond.static yJ1_charAt_3b067 ∈ tbg := inJ (by decide +kernel) (by decide +kernel)
theorem sJ_check : Cond.static yJ0_checkIndex_df160 ∈ tbg := inJ (by decide +kernel) (by decide +kernel)
theorem sJ_pre : Cond.static yJ3_checkIndex_8e157 ∈ tbg := inJ (by decide +kernel) (by decide +kernel)
theorem goodJ {ws : List Cond} (h : ∀ w ∈ ws, w ∈ tbg) : GoodIn tbg ws := fun w hw => ⟨h w hw, tbg_good (h w hw)⟩
section JC
variable {p : Program} {l : Launch} {e : Env} {R : Room} {s : State} {m : MethodId} {args : Array Value} {below : List Frame} {meth : Method} {c : Code} {Q : State → Prop} {A : Nat → Prop} {g : GW} {σ : Sg} {H : Heap} {lc : List Loc} {ls : Array Slot} {cc cc2 : ByteArray} {own : String} {yn : MethodName} {mxl2 pc ix f o nn : Nat} {ret2 : Option FieldType} {as rest : List Value} {v : Value}
theorem hpreJ (I : IJ s A g σ H lc) (hK : va_K (gD g) vwCl (tysW g) s) (hX : SX g A s s.heap) (hA' : ∀ q, va_A (wsW g σ) H.size q → A q) : ∀ U : State, U.heap = H → s.WarmedH U.vm → va_Pc as (PW g σ H.size) as.toArray U := by
  intro U hU hW
  exact ⟨rfl, by rw [hU], by rw [hU]; exact I.1, va_K.moved hW.alike hK, I.2.1.weaken (fun _ _ _ _ => trivial), hX.next hW hU I.2.2 hA'⟩
theorem hAJ (I : IJ s A g σ H lc) (hA : ∀ q, s.heap.size ≤ q → A q) : ∀ q, va_A (wsW g σ) H.size q → A q := by
  intro q hq
  rcases hq with ⟨k, e, h⟩ | h
  · exact I.2.1.2 k _ h
  · exact hA q (Nat.le_trans I.2.2.1 h)
theorem jcS (hx : p.tables.exec = Jvm.exec) (hb : c.code = cc) (hml : c.maxLocals = ls.size) (hown : s.vm.findClass own = some m.cls) (hts : ∀ w ∈ tbg, w.before args s = true) (hK : va_K (gD g) vwCl (tysW g) s) (hX : SX g A s s.heap) (hA : ∀ q, s.heap.size ≤ q → A q) (I : IJ s A g σ H lc)
    (hM : MetJ l g yn cc2 mxl2 ret2 (rmJ f o) as σ H.size v) (w1 : Cond.methodLink own ix yn ∈ tbg) (w2 : Cond.static yn ∈ tbg) (w3 : Cond.initialized yn.cls ∈ tbg) (w4 : Cond.code yn cc2 mxl2 ret2 ∈ tbg)
    (hn : as.length = nn) (hdesc : yn.cls ≠ "java/lang/invoke/MethodHandle" ∧ yn.cls ≠ "java/lang/invoke/VarHandle" ∧ (parseMethodDescriptor yn.desc).map (fun d => d.parameters.length) = some nn) (hroom : f + 1 ≤ R.frames ∧ 8 + (mxl2 + 11) + o ≤ R.locals) (hrest : (rest.map fun v => v.category).sum ≤ 8) (hd : decode cc pc = .ok (.invokestatic ix, 3))
    (kk : ∀ (H1 : Heap) (lc1 : List Loc), IJ s A g σ H1 lc1 → W p l e R s m args below meth c H1 lc1 0 0 Q (F0 m (pc + 3) ls ((rvl g v).toList ++ rest))) : W p l e R s m args below meth c H lc 0 0 Q (F0 m pc ls (as.reverse ++ rest)) := by
  have hA' := hAJ I hA
  have hpre := hpreJ (as := as) I hK hX hA'
  have good : GoodIn tbg (va_wsS own ix yn (wsJ yn cc2 mxl2 ret2)) := goodJ (fun w hw => by
    rcases List.mem_append.mp hw with h | h
    · simp only [List.mem_cons, List.not_mem_nil, or_false] at h
      rcases h with rfl | rfl | rfl
      · exact w1
      · exact w2
      · exact w3
    · rcases List.mem_cons.mp h with h | h
      · rw [h]; exact w4
      · exact h)
  exact va_callg (va_runS (As := as) (rest := rest) ⟨hx, hb, hml, hown, hts⟩ hM (va_cwS nn hts good rfl rfl rfl hdesc hroom) ⟨PW_blind _ _ _ _, hpre⟩ rfl hn rfl rfl (lv_room hrest) hd ⟨Nat.zero_le _, Nat.zero_le _⟩) I.2.2 (fun q _ h => hA' q h) hA' (fun H1 lc1 hP hS => kk H1 lc1 ⟨hP, I.2.1, hS⟩)
theorem jcV {i : Nat} (hi : i < 16) (hx : p.tables.exec = Jvm.exec) (hb : c.code = cc) (hml : c.maxLocals = ls.size) (hown : s.vm.findClass own = some m.cls) (hts : ∀ w ∈ tbg, w.before args s = true) (hK : va_K (gD g) vwCl (tysW g) s) (hX : SX g A s s.heap) (hA : ∀ q, s.heap.size ≤ q → A q) (I : IJ s A g σ H lc)
    (hM : MetJ l g yn cc2 mxl2 ret2 (rmJ f o) (.ref (gA g (100 + i)) :: as) σ H.size v) (hcls : yn.cls = RJ0) (w1 : Cond.methodLink own ix yn ∈ tbg) (w2 : Cond.instanceMethod yn ∈ tbg ∧ Cond.selects RJ0 yn yn ∈ tbg) (w4 : Cond.code yn cc2 mxl2 ret2 ∈ tbg)
    (hn : as.length = nn) (hdesc : yn.cls ≠ "java/lang/invoke/MethodHandle" ∧ yn.cls ≠ "java/lang/invoke/VarHandle" ∧ (parseMethodDescriptor yn.desc).map (fun d => d.parameters.length) = some nn) (hroom : f + 1 ≤ R.frames ∧ 8 + (mxl2 + 11) + o ≤ R.locals) (hrest : (rest.map fun v => v.category).sum ≤ 8) (hd : decode cc pc = .ok (.invokevirtual ix, 3))
    (kk : ∀ (H1 : Heap) (lc1 : List Loc), IJ s A g σ H1 lc1 → W p l e R s m args below meth c H1 lc1 0 0 Q (F0 m (pc + 3) ls ((rvl g v).toList ++ rest))) : W p l e R s m args below meth c H lc 0 0 Q (F0 m pc ls (as.reverse ++ .ref (gA g (100 + i)) :: rest)) := by
  have hA' := hAJ I hA
  have hpre := hpreJ (as := .ref (gA g (100 + i)) :: as) I hK hX hA'
  have good : GoodIn tbg (wsV own ix RJ0 yn (wsJ yn cc2 mxl2 ret2)) := goodJ (fun w hw => by
    rcases List.mem_append.mp hw with h | h
    · simp only [List.mem_cons, List.not_mem_nil, or_false] at h
      rcases h with rfl | rfl | rfl | rfl
      · exact w1
      · exact w2.1
      · exact w2.2
      · exact nJ_0
    · rcases List.mem_cons.mp h with h | h
      · rw [h]; exact w4
      · exact h)
  have hrv := vk_recv hX.1 hi I.2.2
  exact va_callg (va_runV (As := as) (rest := rest) (C := RJ0) ⟨hx, hb, hml, hown, hts⟩ hM (cwV nn hts good rfl rfl rfl ⟨hcls, hdesc⟩ hroom) ⟨PW_blind _ _ _ _, hrv, hpre⟩ rfl hn rfl rfl (lv_room hrest) hd ⟨Nat.zero_le _, Nat.zero_le _⟩) I.2.2 (fun q _ h => hA' q h) hA' (fun H1 lc1 hP hS => kk H1 lc1 ⟨hP, I.2.1, hS⟩)
end JC
section JM
variable {l : Launch} {g : GW} {σ : Sg} {sz i : Nat}
theorem met_coder (hi : i < 16) : MetJ l g yJ0_coder_7d493 cJ0_coder_7d493 1 (some .byte) (rmJ 0 0) [.ref (gA g (100 + i))] σ sz (.int 0) := by
  refine jm (by decide +kernel) (by simp [lg_sl, Value.category]) ?_
  intro p e s m below meth c A ls F hl
  obtain ⟨hx, hb, hml, hown, hts, hlk, hrt, hK, hX, hA, hP, hD⟩ := F
  obtain ⟨z1, z2, z3, z4⟩ := hX.1.1 i hi
  refine va_gets hx hb hX.2.1 va_S.rf hown (hts _ fJ_38) (fun x h => h) (by decide +kernel) ?_
  refine lv_if_eq (tgt := 13) (off := 10) hx hb (by decide +kernel) (by decide) (fun z => absurd z (by decide)) (fun _ => ?_)
  refine lv_aload_n (k := 0) hx hb (by decide +kernel) rfl (hl.2.2 (0, .ref (gA g (100 + i))) List.mem_cons_self) ?_
  refine vk_getf hx hb z2 va_S.rf hown (hts _ fJ_15) (fun x h => h) (by decide +kernel) ?_
  refine lv_goto (tgt := 14) (off := 4) hx hb (by decide +kernel) (by decide) ?_
  exact W.zret hx hb hrt (by decide) (fun t ht hW => ⟨⟨rfl, by rw [ht]; exact hP⟩, va_S.rf.F ht⟩) (va_S.rf (A := A) (H0 := s.heap)).2.2 (by decide +kernel)
theorem met_latin (hi : i < 16) : MetJ l g yJ0_isLatin1_aae02 cJ0_isLatin1_aae02 1 (some .boolean) (rmJ 0 0) [.ref (gA g (100 + i))] σ sz (.int 1) := by
  refine jm (by decide +kernel) (by simp [lg_sl, Value.category]) ?_
  intro p e s m below meth c A ls F hl
  obtain ⟨hx, hb, hml, hown, hts, hlk, hrt, hK, hX, hA, hP, hD⟩ := F
  obtain ⟨z1, z2, z3, z4⟩ := hX.1.1 i hi
  refine va_gets hx hb hX.2.1 va_S.rf hown (hts _ fJ_38) (fun x h => h) (by decide +kernel) ?_
  refine lv_if_eq (tgt := 17) (off := 14) hx hb (by decide +kernel) (by decide) (fun z => absurd z (by decide)) (fun _ => ?_)
  refine lv_aload_n (k := 0) hx hb (by decide +kernel) rfl (hl.2.2 (0, .ref (gA g (100 + i))) List.mem_cons_self) ?_
  refine vk_getf hx hb z2 va_S.rf hown (hts _ fJ_15) (fun x h => h) (by decide +kernel) ?_
  refine lv_if_ne (tgt := 17) (off := 7) hx hb (by decide +kernel) (by decide) (fun z => absurd rfl z) (fun _ => ?_)
  refine lv_iconst (n := 1) (v := 1) hx hb (by decide +kernel) (by decide) ?_
  refine lv_goto (tgt := 18) (off := 4) hx hb (by decide +kernel) (by decide) ?_
  exact W.zret hx hb hrt (by decide) (fun t ht hW => ⟨⟨rfl, by rw [ht]; exact hP⟩, va_S.rf.F ht⟩) (va_S.rf (A := A) (H0 := s.heap)).2.2 (by decide +kernel)
theorem lenF : ∀ i, i < 16 → nI (slen.getD i 0) >>> ((0 : Int32) &&& 31) = nI (slen.getD i 0) ∧ slen.getD i 0 < 100 := by decide +kernel
theorem met_len (hi : i < 16) : MetJ l g yJ0_length_8abf5 cJ0_length_8abf5 1 (some .int) (rmJ 1 20) [.ref (gA g (100 + i))] σ sz (.int (nI (slen.getD i 0))) := by
  refine jm (by decide +kernel) (by simp [lg_sl, Value.category]) ?_
  intro p e s m below meth c A ls F hl
  obtain ⟨hx, hb, hml, hown, hts, hlk, hrt, hK, hX, hA, hP, hD⟩ := F
  obtain ⟨z1, z2, z3, z4⟩ := hX.1.1 i hi
  have hl0 := hl.2.2 (0, .ref (gA g (100 + i))) List.mem_cons_self
  refine lv_aload_n (k := 0) hx hb (by decide +kernel) rfl hl0 ?_
  refine vk_getf hx hb z3 va_S.rf hown (hts _ fJ_9) (fun x h => h) (by decide +kernel) ?_
  refine va_tlen hx hb z4 va_S.rf rfl (by decide +kernel) ?_
  refine lv_aload_n (k := 0) hx hb (by decide +kernel) rfl hl0 ?_
  refine jcV (as := []) (ix := 335) (nn := 0) (rest := [.int (nI (slen.getD i 0))]) hi hx hb (hml.trans hl.1.symm) hown hts hK hX hA ⟨hP, hD, va_S.rf⟩ (met_coder hi) rfl lJ_335 iJ_coder kJ_coder rfl (by decide +kernel) (by decide) (by simp [Value.category]) (by decide +kernel) (fun H1 lc1 I1 => ?_)
  show W p l e _ s m _ below meth c H1 lc1 0 0 _ (F0 m _ ls [.int 0, .int (nI (slen.getD i 0))])
  refine lv_ishr hx hb (by decide +kernel) ?_
  rw [(lenF i hi).1]
  exact W.iret hx hb hrt (fun t ht hW => ⟨⟨rfl, by rw [ht]; exact I1.1⟩, I1.2.2.F ht⟩) I1.2.2.2.2 (by decide +kernel)
theorem met_pre {k n : Nat} {x : Value} (hx1 : x.category = 1) (hk : k < n) (hn : n < 1000) : MetJ l g yJ3_checkIndex_8e157 cJ3_checkIndex_8e157 3 (some .int) (rmJ 0 0) [.int (nI k), .int (nI n), x] σ sz (.int (nI k)) := by
  refine jm (by decide +kernel) (by cases x <;> first | (simp [lg_sl, Value.category]; done) | (simp [Value.category] at hx1)) ?_
  intro p e s m below meth c A ls F hl
  obtain ⟨hx, hb, hml, hown, hts, hlk, hrt, hK, hX, hA, hP, hD⟩ := F
  have hl0 := hl.2.2 (0, .int (nI k)) List.mem_cons_self
  have hl1 := hl.2.2 (1, .int (nI n)) (List.mem_cons_of_mem _ List.mem_cons_self)
  refine lv_iload_n (k := 0) hx hb (by decide +kernel) rfl hl0 ?_
  refine lv_if_lt (tgt := 9) (off := 8) hx hb (by decide +kernel) (by decide) (fun z => absurd z (nI_pos (by omega))) (fun _ => ?_)
  refine lv_iload_n (k := 0) hx hb (by decide +kernel) rfl hl0 ?_
  refine lv_iload_n (k := 1) hx hb (by decide +kernel) rfl hl1 ?_
  refine lv_icmp_lt (tgt := 16) (off := 10) hx hb (by decide +kernel) (by decide) (fun _ => ?_) (fun z => absurd (nI_lt hk (by omega)) z)
  refine lv_iload_n (k := 0) hx hb (by decide +kernel) rfl hl0 ?_
  exact W.iret hx hb hrt (fun t ht hW => ⟨⟨rfl, by rw [ht]; exact hP⟩, va_S.rf.F ht⟩) (va_S.rf (A := A) (H0 := s.heap)).2.2 (by decide +kernel)
theorem met_check {k n : Nat} (hk : k < n) (hn : n < 1000) : MetJ l g yJ0_checkIndex_df160 cJ0_checkIndex_df160 2 none (rmJ 1 22) [.int (nI k), .int (nI n)] σ sz .null := by
  refine jm (by decide +kernel) (by simp [lg_sl, Value.category]) ?_
  intro p e s m below meth c A ls F hl
  obtain ⟨hx, hb, hml, hown, hts, hlk, hrt, hK, hX, hA, hP, hD⟩ := F
  have hl0 := hl.2.2 (0, .int (nI k)) List.mem_cons_self
  have hl1 := hl.2.2 (1, .int (nI n)) (List.mem_cons_of_mem _ List.mem_cons_self)
  have rest : ∀ x : Value, x.category = 1 → va_Z "jdk/internal/util/Preconditions" "SIOOBE_FORMATTER" "Ljava/util/function/BiFunction;" x A s s.heap → W p l e (rmJ 1 22) s m ([.int (nI k), .int (nI n)] : List Value).toArray below meth c s.heap [] 0 0 (MQ below (QG g A .null σ) ([.int (nI k), .int (nI n)] : List Value).toArray s 0 0 A) (F0 m 2 ls [.int (nI n), .int (nI k)]) := fun x hc hz => by
    refine va_gets hx hb hz va_S.rf hown (hts _ fJ_1053) (fun x h => h) (by decide +kernel) ?_
    refine jcS (as := [.int (nI k), .int (nI n), x]) (ix := 1059) (nn := 3) (rest := []) hx hb (hml.trans hl.1.symm) hown hts hK hX hA ⟨hP, hD, va_S.rf⟩ (met_pre hc hk hn) lJ_1059 sJ_pre nJ_3 kJ_pre rfl (by decide +kernel) (by decide) (by decide) (by decide +kernel) (fun H1 lc1 I1 => ?_)
    show W p l e _ s m _ below meth c H1 lc1 0 0 _ (F0 m _ ls [.int (nI k)])
    refine lv_pop hx hb (by decide +kernel) rfl ?_
    exact W.vret hx hb hrt (fun t ht hW => ⟨⟨rfl, by rw [ht]; exact I1.1⟩, I1.2.2.F ht⟩) I1.2.2.2.2 (by decide +kernel)
  refine lv_iload_n (k := 0) hx hb (by decide +kernel) rfl hl0 ?_
  refine lv_iload_n (k := 1) hx hb (by decide +kernel) rfl hl1 ?_
  rcases hX.2.2.1 with hz | ⟨t, hz⟩
  · exact rest .null rfl hz
  · exact rest (.ref t) rfl hz
theorem bytF : ∀ i, i < 16 → ∀ k, k < slen.getD i 0 → ((((sbyt.getD i []).getD k 0) &&& 255).toUInt32 % 65536).toInt32 = (sbyt.getD i []).getD k 0 ∧ ((sbyt.getD i []).getD k 0).toUInt32 % 65536 = ((sbyt.getD i []).getD k 0).toUInt32 := by decide +kernel
theorem nar_chr {x : Int32} (h : x.toUInt32 % 65536 = x.toUInt32) : narrow .char (.int x) = .int x := by
  show Value.int (x.toUInt32 % 65536).toInt32 = .int x
  rw [h]
  rfl
theorem met_chr1 {k : Nat} (hi : i < 16) (hk : k < slen.getD i 0) : MetJ l g yJ1_charAt_3b067 cJ1_charAt_3b067 2 (some .char) (rmJ 2 43) [.ref (gV g i), .int (nI k)] σ sz (.int ((sbyt.getD i []).getD k 0)) := by
  have h100 := (lenF i hi).2
  obtain ⟨b1, b2⟩ := bytF i hi k hk
  refine jm (by decide +kernel) (by simp [lg_sl, Value.category]) ?_
  intro p e s m below meth c A ls F hl
  obtain ⟨hx, hb, hml, hown, hts, hlk, hrt, hK, hX, hA, hP, hD⟩ := F
  obtain ⟨z1, z2, z3, z4⟩ := hX.1.1 i hi
  have hl0 := hl.2.2 (0, .ref (gV g i)) List.mem_cons_self
  have hl1 := hl.2.2 (1, .int (nI k)) (List.mem_cons_of_mem _ List.mem_cons_self)
  refine lv_iload_n (k := 1) hx hb (by decide +kernel) rfl hl1 ?_
  refine lv_aload_n (k := 0) hx hb (by decide +kernel) rfl hl0 ?_
  refine va_tlen hx hb z4 va_S.rf rfl (by decide +kernel) ?_
  refine jcS (as := [.int (nI k), .int (nI (slen.getD i 0))]) (ix := 9) (nn := 2) (rest := []) hx hb (hml.trans hl.1.symm) hown hts hK hX hA ⟨hP, hD, va_S.rf⟩ (met_check hk (by omega)) lJ_9 sJ_check nJ_0 kJ_check rfl (by decide +kernel) (by decide) (by decide) (by decide +kernel) (fun H1 lc1 I1 => ?_)
  show W p l e _ s m _ below meth c H1 lc1 0 0 _ (F0 m _ ls [])
  refine lv_aload_n (k := 0) hx hb (by decide +kernel) rfl hl0 ?_
  refine lv_iload_n (k := 1) hx hb (by decide +kernel) rfl hl1 ?_
  refine va_tb (v := .int ((sbyt.getD i []).getD k 0)) hx hb z4 I1.2.2 (vp_in_nI hk (by omega)) (by rw [nI_clamp (by omega)]) (by decide +kernel) ?_
  refine lv_sipush (n := 255) (v := 255) hx hb (by decide +kernel) (by decide) ?_
  refine lv_iand hx hb (by decide +kernel) ?_
  refine lv_i2c (v := (sbyt.getD i []).getD k 0) hx hb (by decide +kernel) b1 ?_
  exact W.zret hx hb hrt (nar_chr b2) (fun t ht hW => ⟨⟨rfl, by rw [ht]; exact I1.1⟩, I1.2.2.F ht⟩) I1.2.2.2.2 (by decide +kernel)
theorem met_chr {k : Nat} (hi : i < 16) (hk : k < slen.getD i 0) : MetJ l g yJ0_charAt_5068e cJ0_charAt_5068e 2 (some .char) (rmJ 3 64) [.ref (gA g (100 + i)), .int (nI k)] σ sz (.int ((sbyt.getD i []).getD k 0)) := by
  obtain ⟨b1, b2⟩ := bytF i hi k hk
  refine jm (by decide +kernel) (by simp [lg_sl, Value.category]) ?_
  intro p e s m below meth c A ls F hl
  obtain ⟨hx, hb, hml, hown, hts, hlk, hrt, hK, hX, hA, hP, hD⟩ := F
  obtain ⟨z1, z2, z3, z4⟩ := hX.1.1 i hi
  have hl0 := hl.2.2 (0, .ref (gA g (100 + i))) List.mem_cons_self
  have hl1 := hl.2.2 (1, .int (nI k)) (List.mem_cons_of_mem _ List.mem_cons_self)
  refine lv_aload_n (k := 0) hx hb (by decide +kernel) rfl hl0 ?_
  refine jcV (as := []) (ix := 492) (nn := 0) (rest := []) hi hx hb (hml.trans hl.1.symm) hown hts hK hX hA ⟨hP, hD, va_S.rf⟩ (met_latin hi) rfl lJ_492 iJ_latin kJ_latin rfl (by decide +kernel) (by decide) (by decide) (by decide +kernel) (fun H1 lc1 I1 => ?_)
  show W p l e _ s m _ below meth c H1 lc1 0 0 _ (F0 m _ ls [.int 1])
  refine lv_if_eq (tgt := 16) (off := 12) hx hb (by decide +kernel) (by decide) (fun z => absurd z (by decide)) (fun _ => ?_)
  refine lv_aload_n (k := 0) hx hb (by decide +kernel) rfl hl0 ?_
  refine vk_getf hx hb z3 I1.2.2 hown (hts _ fJ_9) (fun x h => h) (by decide +kernel) ?_
  refine lv_iload_n (k := 1) hx hb (by decide +kernel) rfl hl1 ?_
  refine jcS (as := [.ref (gV g i), .int (nI k)]) (ix := 495) (nn := 2) (rest := []) hx hb (hml.trans hl.1.symm) hown hts hK hX hA I1 (met_chr1 hi hk) lJ_495 sJ_chr1 nJ_1 kJ_chr1 rfl (by decide +kernel) (by decide) (by decide) (by decide +kernel) (fun H2 lc2 I2 => ?_)
  show W p l e _ s m _ below meth c H2 lc2 0 0 _ (F0 m _ ls [.int ((sbyt.getD i []).getD k 0)])
  exact W.zret hx hb hrt (nar_chr b2) (fun t ht hW => ⟨⟨rfl, by rw [ht]; exact I2.1⟩, I2.2.2.F ht⟩) I2.2.2.2.2 (by decide +kernel)
end JM
def slOk (q : Nat × Nat × Nat × Nat) : Bool := inT (Cond.methodLink (cnS q.1) q.2.1 (if q.2.2.1 = 0 then yJ0_length_8abf5 else yJ0_charAt_5068e)) q.2.2.2
theorem slk_ok : SLt.all slOk = true := by decide +kernel
section SND
variable {p : Program} {l : Launch} {e : Env} {s : State} {m : MethodId} {args : Array Value} {below : List Frame} {meth : Method} {c : Code} {Qf : State → Prop} {A : Nat → Prop} {g : GW} {y : Nat}
variable {pc len a z : Nat} {k0 : Int32} {t : List Nat} {r r' : List Ins} {L L' st s' : List Value} {σ σ' : Sg} {j : Instr} {H : Heap} {lc : List Loc} {ls : Array Slot}
theorem str_at {k : Nat} (h1 : 100 ≤ k) (h2 : k < 116) : ∃ i, i < 16 ∧ k = 100 + i := ⟨k - 100, by omega, by omega⟩
theorem j55_of (hj : j55 y z j len = true) : ∃ ix, j = .invokevirtual ix ∧ len = 3 ∧ Cond.methodLink (cnS (mC y)) ix (if z = 0 then yJ0_length_8abf5 else yJ0_charAt_5068e) ∈ tbg ∧ (4 ≤ mF y ∨ (z = 0 ∧ 2 ≤ mF y)) ∧ (85 ≤ mO y ∨ (z = 0 ∧ 40 ≤ mO y)) := by
  simp only [j55, Bool.and_eq_true, decide_eq_true_eq] at hj
  obtain ⟨⟨⟨q1, q2⟩, q3⟩, rfl⟩ := hj
  split at q1
  · rename_i ix
    obtain ⟨q, hq, q4⟩ := List.any_eq_true.mp q1
    simp only [Bool.and_eq_true, beq_iff_eq] at q4
    have q5 := List.all_eq_true.mp slk_ok q hq
    unfold slOk at q5
    rw [q4.1.1, q4.1.2, q4.2] at q5
    exact ⟨ix, rfl, rfl, inT_mem q5, q2, q3⟩
  · cases q1
theorem so_55 (F : FR p s m args meth c A g y) (hd : decode (mB y) pc = .ok (j, len)) (hj : j55 y 0 j len = true) (hs : h55 y a k0 t r L st σ = some (.inl (r', L', s', σ'))) (I : IN s A g y L σ H lc ls) (kk : KK p l e s m args below meth c Qf A g y 55 r r' pc len L' s' σ') : W p l e (rmM y) s m args below meth c H lc 0 0 Qf (F0 m pc ls (st.map (cv g))) := by
  obtain ⟨hx, hb, hml, hown, hts, hlk, hrt, hK, hX, hA⟩ := F
  obtain ⟨ix, rfl, rfl, hl, hf, ho⟩ := j55_of hj
  rw [if_pos rfl] at hl
  unfold h55 at hs
  split at hs
  · rename_i k st0
    split at hs
    · rename_i hc
      obtain ⟨rfl, rfl, rfl, rfl⟩ := go_inj hs
      obtain ⟨c1, c2, c3⟩ := hc
      obtain ⟨i, hi, rfl⟩ := str_at c1 c2
      have e1 : (100 + i : Nat) - 100 = i := Nat.add_sub_cancel_left 100 i
      refine jcV (as := []) (ix := ix) (nn := 0) (rest := st0.map (cv g)) hi hx hb (cast_ml hml I.1.1) hown hts hK hX hA ⟨I.2.1, I.2.2.1, I.2.2.2⟩ (met_len hi) rfl hl iJ_len kJ_len rfl (by decide +kernel) ⟨by show 1 + 1 ≤ mF y; omega, by show 8 + (1 + 11) + 20 ≤ mO y; omega⟩ (by rw [rsum_cv]; exact c3) hd (fun H1 lc1 I1 => ?_)
      have := kk _ _ _ _ (Or.inl ⟨rfl, rfl, rfl⟩) ⟨I.1, I1⟩
      rw [e1] at this
      exact this
    · cases hs
  · cases hs
theorem so_56 (F : FR p s m args meth c A g y) (hd : decode (mB y) pc = .ok (j, len)) (hj : j55 y 1 j len = true) (hs : h56 y a k0 t r L st σ = some (.inl (r', L', s', σ'))) (I : IN s A g y L σ H lc ls) (kk : KK p l e s m args below meth c Qf A g y 56 r r' pc len L' s' σ') : W p l e (rmM y) s m args below meth c H lc 0 0 Qf (F0 m pc ls (st.map (cv g))) := by
  obtain ⟨hx, hb, hml, hown, hts, hlk, hrt, hK, hX, hA⟩ := F
  obtain ⟨ix, rfl, rfl, hl, hf, ho⟩ := j55_of hj
  rw [if_neg (by decide)] at hl
  unfold h56 at hs
  split at hs
  · rename_i x k st0
    split at hs
    · rename_i hc
      obtain ⟨rfl, rfl, rfl, rfl⟩ := go_inj hs
      obtain ⟨c1, c2, c4, c3⟩ := hc
      obtain ⟨i, hi, rfl⟩ := str_at c1 c2
      have e1 : (100 + i : Nat) - 100 = i := Nat.add_sub_cancel_left 100 i
      rw [e1] at c4
      have h0 : ¬ x < 0 := fun z => c4 (Or.inl z)
      have hxn : x = nI x.toNatClampNeg := by
        apply Int32.toInt_inj.mp
        have h1 := x.toInt_lt
        have h2 : ¬ x.toInt < (0 : Int32).toInt := fun z => h0 (Int32.lt_iff_toInt_lt.mpr z)
        rw [Int32.toInt_zero] at h2
        have h3 : x.toNatClampNeg = x.toInt.toNat := rfl
        rw [nI_toInt (by omega), h3]
        omega
      have hk : x.toNatClampNeg < slen.getD i 0 := Nat.not_le.mp (fun z => c4 (Or.inr z))
      generalize x.toNatClampNeg = n at hxn hk kk
      subst hxn
      refine jcV (as := [.int (nI n)]) (ix := ix) (nn := 1) (rest := st0.map (cv g)) hi hx hb (cast_ml hml I.1.1) hown hts hK hX hA ⟨I.2.1, I.2.2.1, I.2.2.2⟩ (met_chr hi hk) rfl hl iJ_chr kJ_chr rfl (by decide +kernel) ⟨by show 3 + 1 ≤ mF y; omega, by show 8 + (2 + 11) + 64 ≤ mO y; omega⟩ (by rw [rsum_cv]; exact c3) hd (fun H1 lc1 I1 => ?_)
      have := kk _ _ _ _ (Or.inl ⟨rfl, rfl, rfl⟩) ⟨I.1, I1⟩
      rw [e1] at this
      exact this
    · cases hs
  · cases hs
end SND
