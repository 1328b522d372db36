/-! constructors: what they start from, what they leave -/
theorem goodC {w : Cond} (h : w ∈ tbg) : GoodIn tbg (w :: tbg) := goodJ (fun z hz => by
  rcases List.mem_cons.mp hz with g | g
  · rw [g]; exact h
  · exact g)
def arrS : List (Nat × Int32) → Nat → Int32
  | [] => fun _ => 0
  | q :: t => upd (arrS t) q.1 q.2
def arrQ : List (Nat × Nat) → Nat → Option Nat
  | [] => fun _ => none
  | q :: t => va_up (arrQ t) q.1 (some q.2)
def NX (U : State) : Prop := va_AO "PourElection$Teapot" U ∧ va_AO "PourElection$Sheet" U ∧ va_AO "java/lang/String" U ∧ va_Nw (.methodLinkNest RX0 30 yX3_init "PourElection") U ∧ va_Nw (.methodLinkNest RX4 24 yX2_init "PourElection") U ∧ va_Nw (.methodLinkNest RX4 35 yX1_init "PourElection") U
theorem NX.warm {s U : State} (hW : s.WarmedH U.vm) (h : NX s) : NX U := ⟨va_AO.moved hW.alike h.1, va_AO.moved hW.alike h.2.1, va_AO.moved hW.alike h.2.2.1, va_Nw.warmM hW h.2.2.2.1, va_Nw.warmM hW h.2.2.2.2.1, va_Nw.warmM hW h.2.2.2.2.2⟩
theorem NX.calling {U : State} {f : JFrame} {mk : MethodId} {a : Array Value} (h : NX U) : NX (U.calling f mk a) := ⟨va_AO.moved (u := U) (U := U.calling f mk a) (Vm.Alike.refl U.vm) h.1, va_AO.moved (u := U) (U := U.calling f mk a) (Vm.Alike.refl U.vm) h.2.1, va_AO.moved (u := U) (U := U.calling f mk a) (Vm.Alike.refl U.vm) h.2.2.1, va_Nw.same rfl (U := U.calling f mk a) rfl h.2.2.2.1, va_Nw.same rfl (U := U.calling f mk a) rfl h.2.2.2.2.1, va_Nw.same rfl (U := U.calling f mk a) rfl h.2.2.2.2.2⟩
def PCt (g : GW) (ws : va_W) (sz : Nat) (U : State) : Prop := U.heap.size = sz ∧ va_P (gD g) vwCl ws U.heap ∧ va_K (gD g) vwCl (tysW g) U ∧ va_D (fun _ => True) ws ∧ NX U ∧ SX g (va_A ws sz) U U.heap
theorem PCt_blind {g : GW} {ws : va_W} {sz : Nat} {av : List Value} : FrameBlind (va_Pc av (PCt g ws sz)) := by
  intro a U f mk h
  obtain ⟨h0, h1, h2, h3, h4, h5, h6⟩ := h
  exact ⟨h0, h1, h2, va_K.moved (u := U) (U := U.calling f mk a) (Vm.Alike.refl U.vm) h3, h4, h5.calling, h6.calling⟩
def QCt (g : GW) (A : Nat → Prop) (post : (Nat → Nat) → va_W) : Array Value → State → Outcome → State → Prop := fun _ st oc t => (oc = .returned none ∧ ∃ q : Nat → Nat, va_P (gD g) vwCl (post q) t.heap ∧ va_D A (post q)) ∧ va_F A st t
def rmC (f nc ns o : Nat) : Room := { frames := f, cells := nc, slots := ns, locals := o }
abbrev MetC (l : Launch) (g : GW) (yn : MethodName) (cc : ByteArray) (mxl : Nat) (f nc ns o : Nat) (h0 : Nat) (ws : va_W) (sz : Nat) (post : (Nat → Nat) → va_W) : Prop := Met l yn (wsJ yn cc mxl none) (rmC f nc ns o) (va_Pc [.ref h0] (PCt g ws sz)) (QCt g (va_A ws sz) post) nc ns (va_A ws sz)
def FC (p : Program) (s : State) (m : MethodId) (args : Array Value) (meth : Method) (c : Code) (A : Nat → Prop) (g : GW) (yn : MethodName) (cc : ByteArray) (mxl : Nat) (ws : va_W) : Prop := p.tables.exec = Jvm.exec ∧ c.code = cc ∧ c.maxLocals = mxl ∧ s.vm.findClass yn.cls = some m.cls ∧ (∀ w ∈ tbg, w.before args s = true) ∧ meth.locks = false ∧ meth.sig.returnType = none ∧ va_K (gD g) vwCl (tysW g) s ∧ NX s ∧ SX g A s s.heap ∧ (∀ q, s.heap.size ≤ q → A q) ∧ va_P (gD g) vwCl ws s.heap ∧ va_D A ws ∧ meth.name = "<init>"
theorem cmk {l : Launch} {g : GW} {yn : MethodName} {cc : ByteArray} {mxl f nc ns o h0 sz : Nat} {ws : va_W} {post : (Nat → Nat) → va_W} (hpl : plainName yn.cls = true) (hnm : yn.name = "<init>") (hlen : 1 ≤ mxl)
    (walk : ∀ (p : Program) (e : Env) (s : State) (m : MethodId) (below : List Frame) (meth : Method) (c : Code) (A : Nat → Prop) (ls : Array Slot), FC p s m ([Value.ref h0] : List Value).toArray meth c A g yn cc mxl ws → lv_has ls mxl [(0, .ref h0)] → W p l e (rmC f nc ns o) s m ([Value.ref h0] : List Value).toArray below meth c s.heap [] 0 0 (MQ below (QCt g A post) ([Value.ref h0] : List Value).toArray s nc ns A) (F0 m 0 ls [])) : MetC l g yn cc mxl f nc ns o h0 ws sz post := by
  refine Met.ofW (cc := cc) (maxL := mxl) (ret := none) hpl rfl ?_
  intro p e s m args below meth c s₁ B hml hv
  obtain ⟨rfl, hsz, hP, hK, hD0, hN, hX⟩ := hv
  have hts := atoms_spec (ws := wsJ yn cc mxl none) B.pre
  have hown : s.vm.findClass yn.cls = some m.cls := findClass_of_methodNamed B.named
  have hin : meth.name = yn.name := (name_of_methodNamed B.named B.method).1
  subst hsz
  have hlv := lv_entry ([Value.ref h0]) (n := mxl) (by simp [lg_sl, Value.category]; omega)
  rw [lg_entry_eq]
  generalize (lg_sl ([Value.ref h0]) ++ List.replicate (mxl - (lg_sl ([Value.ref h0])).length) Slot.unset).toArray = ls at hlv ⊢
  exact walk p e s m below meth c (va_A ws s.heap.size) ls ⟨B.exec, B.bytes, hml, hown, fun w hw => hts w (List.mem_cons_of_mem _ hw), B.notSynchronized, B.returns, hK, hN, hX, fun q hq => Or.inr hq, hP, hD0.self, hin.trans hnm⟩ hlv
section CT
variable {p : Program} {l : Launch} {e : Env} {R : Room} {s : State} {m : MethodId} {args : Array Value} {below : List Frame} {meth : Method} {c : Code} {Q : State → Prop} {A : Nat → Prop} {g : GW} {H H0 : Heap} {locs : List Loc} {ls : Array Slot} {cc : ByteArray} {own : String} {pc ix cells slots : Nat} {rest : List Value} {ws : va_W}
theorem nwI (hx : p.tables.exec = Jvm.exec) (hb : c.code = cc) (harr : (Cond.arrayClass .int).before args s = true) (hK : va_K (gD g) vwCl (tysW g) s) (hP : va_P (gD g) vwCl ws H) (hD : va_D A ws) (hS : va_S A H0 H locs) (hA : ∀ q, H0.size ≤ q → A q) {n : Int32} {N : Nat} (hn : n = nI N) (hN : N < 1000) (hcells : cells + 1 ≤ R.cells) (hslots : slots + N ≤ R.slots) (hdg : decode cc pc = .ok (.newarray .int, 2))
    (kk : ∀ (q : Nat) (H1 : Heap), va_P (gD g) vwCl (ws ++ [(q, .inl (gC g 0, N, .inl (arrS [])))]) H1 → va_D A (ws ++ [(q, .inl (gC g 0, N, .inl (arrS [])))]) → va_S A H0 H1 locs → W p l e R s m args below meth c H1 locs (cells + 1) (slots + N) Q (F0 m (pc + 2) ls (.ref q :: rest))) : W p l e R s m args below meth c H locs cells slots Q (F0 m pc ls (.int n :: rest)) := by
  subst hn
  refine va_newa (atype := .int) (ty := .int) (a0 := (N, .inl (arrS []))) hx hb harr rfl hK hP hD hS hA (fun _ => rfl) (nI_pos (by omega)) (nI_clamp (by omega)) (by show N * 4 ≤ _; omega) hcells hslots hdg (fun q cA H1 hK1 hP1 hD1 hS1 => ?_)
  have h1 : va_RA s cA .int := (hK1.2 4 (cA, .int) rfl).2
  have h2 : va_RA s (gC g 0) .int := (hK.2 0 (gC g 0, .int) rfl).2
  have : cA = gC g 0 := Option.some.inj (h1.symm.trans h2)
  subst this
  exact kk q H1 hP1 hD1 hS1
theorem nwQ {C : String} {z : Nat} (hx : p.tables.exec = Jvm.exec) (hb : c.code = cc) (hown : s.vm.findClass own = some m.cls) (hcl : (Cond.classLink own ix C).before args s = true) (hover : va_AO C s) (hK : va_K (gD g) vwCl (tysW g) s) (hz : (tysW g)[z]? = some (gC g z, .object C)) (hP : va_P (gD g) vwCl ws H) (hD : va_D A ws) (hS : va_S A H0 H locs) (hA : ∀ q, H0.size ≤ q → A q) {n : Int32} {N : Nat} (hn : n = nI N) (hN : N < 1000) (hcells : cells + 1 ≤ R.cells) (hslots : slots + N ≤ R.slots) (hdg : decode cc pc = .ok (.anewarray ix, 3))
    (kk : ∀ (q : Nat) (H1 : Heap), va_P (gD g) vwCl (ws ++ [(q, .inl (gC g z, N, .inr (.inr (.inr (.inr (arrQ []))))))]) H1 → va_D A (ws ++ [(q, .inl (gC g z, N, .inr (.inr (.inr (.inr (arrQ []))))))]) → va_S A H0 H1 locs → W p l e R s m args below meth c H1 locs (cells + 1) (slots + N) Q (F0 m (pc + 3) ls (.ref q :: rest))) : W p l e R s m args below meth c H locs cells slots Q (F0 m pc ls (.int n :: rest)) := by
  subst hn
  refine va_newq hx hb hown hcl hover hK hP hD hS hA (nI_pos (by omega)) (nI_clamp (by omega)) (by omega) hcells hslots hdg (fun q cA H1 hK1 hP1 hD1 hS1 => ?_)
  obtain ⟨-, -, -, -, -, h1⟩ := (hK1.2 4 (cA, .object C) rfl).2
  obtain ⟨-, -, -, -, -, h2⟩ := (hK.2 z (gC g z, .object C) hz).2
  have : cA = gC g z := Option.some.inj (h1.symm.trans h2)
  subst this
  exact kk q H1 hP1 hD1 hS1
theorem wIs (hx : p.tables.exec = Jvm.exec) (hb : c.code = cc) (hK : va_K (gD g) vwCl (tysW g) s) (hP : va_P (gD g) vwCl ws H) (hD : va_D A ws) (hS : va_S A H0 H locs) (q0 : Nat) {a n k : Nat} {t : List (Nat × Int32)} {i x : Int32} (ha : ws[q0]? = some (a, .inl (gC g 0, n, .inl (arrS t)))) (hi : i = nI k) (hk : k < n) (hn : n < 1000) (hdg : decode cc pc = .ok (.iastore, 1))
    (kk : ∀ (H1 : Heap) (locs1 : List Loc), va_P (gD g) vwCl (ws.set q0 (a, .inl (gC g 0, n, .inl (arrS ((k, x) :: t))))) H1 → va_D A (ws.set q0 (a, .inl (gC g 0, n, .inl (arrS ((k, x) :: t))))) → va_S A H0 H1 locs1 → W p l e R s m args below meth c H1 locs1 cells slots Q (F0 m (pc + 1) ls rest)) : W p l e R s m args below meth c H locs cells slots Q (F0 m pc ls (.int x :: .int i :: .ref a :: rest)) := by
  subst hi
  refine va_iast hx hb hK hP hD hS q0 0 ha rfl (vp_in_nI hk (by omega)) hdg (fun H1 locs1 h1 h2 h3 => ?_)
  rw [nI_clamp (by omega)] at h1 h2
  exact kk H1 locs1 h1 h2 h3
theorem wQs {z ci : Nat} {r : vw_C} (hx : p.tables.exec = Jvm.exec) (hb : c.code = cc) (hK : va_K (gD g) vwCl (tysW g) s) (hP : va_P (gD g) vwCl ws H) (hD : va_D A ws) (hS : va_S A H0 H locs) (q0 qk : Nat) {a n k v : Nat} {vs : List Value} {t : List (Nat × Nat)} {i : Int32} (ha : ws[q0]? = some (a, .inl (gC g z, n, .inr (.inr (.inr (.inr (arrQ t))))))) (hz : (tysW g)[z]? = some (gC g z, .object r.1)) (hv : ws[qk]? = some (v, .inr (ci, vs))) (hc : vwCl[ci]? = some r) (hi : i = nI k) (hk : k < n) (hn : n < 1000) (hdg : decode cc pc = .ok (.aastore, 1))
    (kk : ∀ (H1 : Heap) (locs1 : List Loc), va_P (gD g) vwCl (ws.set q0 (a, .inl (gC g z, n, .inr (.inr (.inr (.inr (arrQ ((k, v) :: t)))))))) H1 → va_D A (ws.set q0 (a, .inl (gC g z, n, .inr (.inr (.inr (.inr (arrQ ((k, v) :: t)))))))) → va_S A H0 H1 locs1 → W p l e R s m args below meth c H1 locs1 cells slots Q (F0 m (pc + 1) ls rest)) : W p l e R s m args below meth c H locs cells slots Q (F0 m pc ls (.ref v :: .int i :: .ref a :: rest)) := by
  subst hi
  refine va_astq hx hb hK hP hD hS q0 z qk ci ha hz hv hc (vp_in_nI hk (by omega)) hdg (fun H1 locs1 h1 h2 h3 => ?_)
  rw [nI_clamp (by omega)] at h1 h2
  exact kk H1 locs1 h1 h2 h3
theorem asg_self (vm : Vm) (c : ClassId) : vm.assignable c c = true := by
  show vm.assignableAux (255 + 1) c c = true
  rw [Vm.assignableAux]
  simp only [beq_self_eq_true, Bool.true_or]
theorem wSs {j : Nat} (hj : j < 16) (hX : SX g A s s.heap) (hx : p.tables.exec = Jvm.exec) (hb : c.code = cc) (hK : va_K (gD g) vwCl (tysW g) s) (hP : va_P (gD g) vwCl ws H) (hD : va_D A ws) (hS : va_S A s.heap H locs) (q0 : Nat) {a n k : Nat} {t : List (Nat × Nat)} {i : Int32} (ha : ws[q0]? = some (a, .inl (gC g 3, n, .inr (.inr (.inr (.inr (arrQ t))))))) (hi : i = nI k) (hk : k < n) (hn : n < 1000) (hdg : decode cc pc = .ok (.aastore, 1))
    (kk : ∀ (H1 : Heap) (locs1 : List Loc), va_P (gD g) vwCl (ws.set q0 (a, .inl (gC g 3, n, .inr (.inr (.inr (.inr (arrQ ((k, gA g (100 + j)) :: t)))))))) H1 → va_D A (ws.set q0 (a, .inl (gC g 3, n, .inr (.inr (.inr (.inr (arrQ ((k, gA g (100 + j)) :: t)))))))) → va_S A s.heap H1 locs1 → W p l e R s m args below meth c H1 locs1 cells slots Q (F0 m (pc + 1) ls rest)) : W p l e R s m args below meth c H locs cells slots Q (F0 m pc ls (.ref (gA g (100 + j)) :: .int i :: .ref a :: rest)) := by
  subst hi
  refine vb_astq (E := "java/lang/String") (C := "java/lang/String") hx hb hK hP hD hS q0 3 ha rfl (vk_recv hX.1 hj hS) (fun comp c0 h1 h2 => ?_) (vp_in_nI hk (by omega)) hdg (fun H1 locs1 h1 h2 h3 => ?_)
  · rw [h1] at h2
    cases h2
    exact asg_self _ _
  · rw [nI_clamp (by omega)] at h1 h2
    exact kk H1 locs1 h1 h2 h3
theorem hpreC {H : Heap} {wc : va_W} {q : Nat} (hP : va_P (gD g) vwCl wc H) (hD : va_D A wc) (hK : va_K (gD g) vwCl (tysW g) s) (hN : NX s) (hX : SX g A s s.heap) (hS : va_S A s.heap H locs) (hF : ∀ q, va_A wc H.size q → A q) : ∀ U : State, U.heap = H → s.WarmedH U.vm → va_Pc [.ref q] (PCt g wc H.size) ([Value.ref q] : List Value).toArray U := by
  intro U hU hW
  exact ⟨rfl, by rw [hU], by rw [hU]; exact hP, va_K.moved hW.alike hK, hD.weaken (fun _ _ _ _ => trivial), hN.warm hW, hX.next hW hU hS hF⟩
theorem va_callc {a : Array Value} {A1 : Nat → Prop} {mc ms : Nat} {free : Addr → Prop} {post : (Nat → Nat) → va_W} {st0 : List Value} (hr : va_Run p l e R s m args below meth c H locs cells slots mc ms (F0 m pc ls st0) rest (QCt g A1 post a) free) (hS : va_S A H0 H locs) (hA : ∀ q, q < H.size → A1 q → A q) (hf : ∀ q, free q → A q)
    (kk : ∀ (q : Nat → Nat) (H1 : Heap) (locs1 : List Loc), va_P (gD g) vwCl (post q) H1 → va_D A1 (post q) → (∀ x, x < H.size → ¬ A1 x → H1[x]? = H[x]?) → va_S A H0 H1 locs1 → W p l e R s m args below meth c H1 locs1 (cells + mc) (slots + ms) Q (F0 m (pc + 3) ls rest)) : W p l e R s m args below meth c H locs cells slots Q (F0 m pc ls st0) := by
  intro T hT X
  obtain ⟨v, st₀, t, T', L, h0, X', hL, e1, e2, ⟨⟨hv, q, hb, hd⟩, hz, hk⟩, st⟩ := hr T hT X
  cases hv
  rw [h0] at hz hk
  obtain ⟨t2, a1, b1⟩ := kk q T'.heap (locs ++ L) (by rw [e1]; exact hb) hd (fun x h1 h2 => by rw [e1]; exact hk x h1 h2)
    ⟨Nat.le_trans hS.1 (by rw [e1]; exact hz), fun q h1 h2 => by rw [e1, hk q (Nat.lt_of_lt_of_le h1 hS.1) (fun z => h2 (hA q (Nat.lt_of_lt_of_le h1 hS.1) z))]; exact hS.2.1 q h1 h2, fun q hq => by
      rcases List.mem_append.mp hq with h | h
      · exact hS.2.2 q h
      · exact hf _ (hL q h)⟩ T' rfl X'
  exact ⟨t2, st t2 a1, b1⟩
end CT
