/-! the tables' words, and the check that the abstract code is what the class file's bytes decode to -/
def cnS (k : Nat) : String := cnT.getD k ""
def tbg : List Cond := lw_tbl.filter goodWord
def wsM (y : Nat) : List Cond := Cond.code (mN y) (mB y) (mL y) (mR y) :: tbg
def inT (w : Cond) (i : Nat) : Bool := decide (lw_tbl[i]? = some w) && goodWord w
theorem inT_mem {w : Cond} {i : Nat} (h : inT w i = true) : w ∈ tbg := by
  simp only [inT, Bool.and_eq_true, decide_eq_true_eq] at h
  exact List.mem_filter.mpr ⟨List.mem_of_getElem? h.1, h.2⟩
def rmM (y : Nat) : Room := { frames := mF y, cells := 0, slots := 0, locals := mO y }
def flOk (q : Nat × Nat × Nat × Nat × Nat) : Bool := match vwCl[q.2.2.1]? with
  | some r => inT (.fieldLink (cnS q.1) q.2.1 r.1 (r.2.1 q.2.2.2.1).2.1 (r.2.1 q.2.2.2.1).2.2.1) q.2.2.2.2 && decide (q.2.2.2.1 < r.2.2) && decide ((r.2.1 q.2.2.2.1).1 = r.1)
  | none => false
theorem fl_ok : FLt.all flOk = true := by decide +kernel
def mlOk (q : Nat × Nat × Nat × Nat) : Bool := inT (.methodLink (cnS q.1) q.2.1 (mN q.2.2.1)) q.2.2.2
theorem ml_ok : MLt.all mlOk = true := by decide +kernel
def clOk (q : Nat × Nat × Int32 × Nat) : Bool := inT (.constant (cnS q.1) q.2.1 q.2.2.1) q.2.2.2
theorem cl_ok : CLt.all clOk = true := by decide +kernel
def mpOk (y : Nat) : Bool := match MPt[y]? with
  | some q => inT (.code (mN y) (mB y) (mL y) (mR y)) q.1 && (if mS y then inT (.static (mN y)) q.2.1 else inT (.instanceMethod (mN y)) q.2.1 && inT (.selects (cnS (mC y)) (mN y) (mN y)) q.2.2.1) && inT (.initialized (cnS (mC y))) q.2.2.2 && decide ((mN y).cls = cnS (mC y)) && decide ((mN y).cls ≠ "java/lang/invoke/MethodHandle" ∧ (mN y).cls ≠ "java/lang/invoke/VarHandle" ∧ (parseMethodDescriptor (mN y).desc).map (fun d => d.parameters.length) = some (if mS y then mA y else mA y - 1)) && plainName (mN y).cls && (mS y || decide (0 < mA y))
  | none => false
def nfOk (q : Nat × Nat × Bool) : Bool := match vwCl[q.1]? with
  | some r => decide (q.2.1 < r.2.2) && decide ((r.2.1 q.2.1).2.2.2 = false) && decide (parseFieldDescriptor (r.2.1 q.2.1).2.2.1 = some (if q.2.2 then .boolean else .int))
  | none => false
theorem nf_ok : nfT.all nfOk = true := by decide +kernel
theorem acy_ok : (inT (.native arraycopyName) acyP.1 && inT (.static arraycopyName) acyP.2.1 && inT (.initialized "java/lang/System") acyP.2.2) = true := by decide +kernel
def mhN (z : Nat) : MethodName := if z = 0 then Lib.Math.max.name else if z = 1 then Lib.Math.min.name else Lib.Math.abs.name
def mhOk (q : Nat × Nat × Nat × Nat) : Bool := inT (.methodLink (cnS q.1) q.2.1 (mhN q.2.2.1)) q.2.2.2
theorem mh_ok : MHt.all mhOk = true := by decide +kernel
theorem mhp_ok : (inT (.code Lib.Math.max.name Lib.Math.max.code 2 (some .int)) (MHp.getD 0 0) && inT (.static Lib.Math.max.name) (MHp.getD 1 0) && inT (.code Lib.Math.min.name Lib.Math.min.code 2 (some .int)) (MHp.getD 2 0) && inT (.static Lib.Math.min.name) (MHp.getD 3 0) && inT (.code Lib.Math.abs.name Lib.Math.abs.code 1 (some .int)) (MHp.getD 4 0) && inT (.static Lib.Math.abs.name) (MHp.getD 5 0) && inT (.initialized "java/lang/Math") MHi) = true := by decide +kernel
def acOk (q : Nat × Nat × Nat) : Bool := inT (.methodLink (cnS q.1) q.2.1 arraycopyName) q.2.2
theorem ac_ok : ACt.all acOk = true := by decide +kernel
theorem ic_good : (vwCl.all fun q => (u_ws q.1 q.2.1 q.2.2).all goodWord) = true := by decide +kernel
theorem in_clg {ci : Nat} {q : vw_C} (h : vwCl[ci]? = some q) : ∀ w ∈ u_ws q.1 q.2.1 q.2.2, w ∈ tbg := fun w hw =>
  List.mem_filter.mpr ⟨in_cl ci q h w hw, List.all_eq_true.mp (List.all_eq_true.mp ic_good q (List.mem_of_getElem? h)) w hw⟩
-- what an instruction must be
def bp0 (y a : Nat) : Option Nat := (bkp y a).head?.map Prod.fst
def tgt (y a pc : Nat) (off : Int) : Bool := match bp0 y a with
  | some q => decide ((pc : Int) + off = (q : Int))
  | none => false
def j0 (y : Nat) (k0 : Int32) (j : Instr) (len : Nat) : Bool := match j with
  | .iconst n => decide (Int32.ofInt n = k0) && decide (len = 1)
  | .bipush n => decide ((Int8.ofInt n).toInt32 = k0) && decide (len = 2)
  | .sipush n => decide ((Int16.ofInt n).toInt32 = k0) && decide (len = 3)
  | .ldc ix => CLt.any (fun q => q.1 == mC y && q.2.1 == ix && decide (q.2.2.1 = k0)) && decide (len = 2)
  | .ldc_w ix => CLt.any (fun q => q.1 == mC y && q.2.1 == ix && decide (q.2.2.1 = k0)) && decide (len = 3)
  | _ => false
def j1 (a : Nat) (k0 : Int32) (j : Instr) (len : Nat) : Bool := match j with
  | .iload_n k => k.val == a && decide (k0 = 0) && decide (len = 1)
  | .iload k => k == a && decide (k0 = 0) && decide (len = 2)
  | .aload_n k => k.val == a && decide (k0 = 1) && decide (len = 1)
  | .aload k => k == a && decide (k0 = 1) && decide (len = 2)
  | .lload_n k => k.val == a && decide (k0 = 2) && decide (len = 1)
  | .lload k => k == a && decide (k0 = 2) && decide (len = 2)
  | _ => false
def j2 (a : Nat) (k0 : Int32) (j : Instr) (len : Nat) : Bool := match j with
  | .istore_n k => k.val == a && decide (k0 = 0) && decide (len = 1)
  | .istore k => k == a && decide (k0 = 0) && decide (len = 2)
  | .astore_n k => k.val == a && decide (k0 = 1) && decide (len = 1)
  | .astore k => k == a && decide (k0 = 1) && decide (len = 2)
  | _ => false
def j3 (a : Nat) (j : Instr) (len : Nat) : Bool := match j with
  | .lstore_n k => k.val == a && decide (len = 1)
  | .lstore k => k == a && decide (len = 2)
  | _ => false
def j4 (a : Nat) (k0 : Int32) (j : Instr) (len : Nat) : Bool := match j with
  | .iinc i n => i == a && decide (Int32.ofInt n = k0) && decide (len = 3)
  | _ => false
def jxI : Nat → Option Instr
  | 5 => some .iadd
  | 6 => some .isub
  | 7 => some .imul
  | 8 => some .iand
  | 9 => some .ior
  | 10 => some .ixor
  | 11 => some .ishl
  | 12 => some .ishr
  | 13 => some .iushr
  | 14 => some .idiv
  | 15 => some .irem
  | 16 => some .ineg
  | 17 => some .i2b
  | 18 => some .i2s
  | 19 => some .i2l
  | 20 => some .ladd
  | 21 => some .lmul
  | 22 => some .lcmp
  | 24 => some .dup
  | 25 => some .dup2
  | 26 => some .pop
  | 49 => some .iaload
  | 50 => some .iastore
  | 51 => some .aaload
  | 52 => some .arraylength
  | 60 => some .return_
  | 61 => some .ireturn
  | 62 => some .lreturn
  | 63 => some .areturn
  | 64 => some .ireturn
  | _ => none
def jx (op : Nat) (j : Instr) (len : Nat) : Bool := decide (jxI op = some j) && decide (len = 1)
def j23 (k0 : Int32) (j : Instr) (len : Nat) : Bool := match j with
  | .lconst n => decide (Int64.ofNat (n : Nat) = k0.toInt64) && decide (len = 1)
  | _ => false
def jbI (off : Int) : Nat → Option Instr
  | 30 => some (.ifCond .eq off)
  | 31 => some (.ifCond .ne off)
  | 32 => some (.ifCond .lt off)
  | 33 => some (.ifCond .ge off)
  | 34 => some (.ifCond .gt off)
  | 35 => some (.ifCond .le off)
  | 36 => some (.if_icmp .eq off)
  | 37 => some (.if_icmp .ne off)
  | 38 => some (.if_icmp .lt off)
  | 39 => some (.if_icmp .ge off)
  | 40 => some (.if_icmp .gt off)
  | 41 => some (.if_icmp .le off)
  | 42 => some (.goto off)
  | _ => none
def jbr (y a pc op : Nat) (j : Instr) (len : Nat) : Bool := match bp0 y a with
  | some q => decide (jbI ((q : Int) - pc) op = some j) && decide (len = 3)
  | none => false
/-- a switch by a table: the first key, the blocks in their order -/
def j44 (y a pc : Nat) (k0 : Int32) (t : List Nat) (j : Instr) : Bool := match j with
  | .tableswitch d lo hi offs => tgt y a pc d && decide (k0.toInt = lo) && decide (hi = lo + t.length - 1) && decide (offs.size = t.length) && (List.range t.length).all (fun i => match offs[i]? with
    | some off => tgt y (t.getD i 0) pc off
    | none => false) && decide (0 ≤ lo) && decide (t.length < 1000) && decide (lo < 1000)
  | _ => false
def j45 (y a pc : Nat) (t : List Nat) (j : Instr) : Bool := match j with
  | .lookupswitch d ps => tgt y a pc d && decide ((ps.toList.zip (ps.toList.drop 1)).all (fun (a, next) => a.1 < next.1) = true) && (match ps.toList, t with
    | [(k1, o1), (k2, o2)], [q1, b1, q2, b2] => decide (k1 = (q1 : Int)) && decide (k2 = (q2 : Int)) && decide (q1 < 1000) && decide (q2 < 1000) && tgt y b1 pc o1 && tgt y b2 pc o2
    | _, _ => false)
  | _ => false
def j46 (y a : Nat) (t : List Nat) (j : Instr) (len : Nat) : Bool := match j with
  | .getfield ix => FLt.any (fun q => q.1 == mC y && q.2.1 == ix && q.2.2.1 == t.headD 99 && q.2.2.2.1 == a) && decide (len = 3)
  | _ => false
def j47 (y a : Nat) (b : Bool) (t : List Nat) (j : Instr) (len : Nat) : Bool := match j with
  | .putfield ix => FLt.any (fun q => q.1 == mC y && q.2.1 == ix && q.2.2.1 == t.headD 99 && q.2.2.2.1 == a) && nfT.any (fun q => q.1 == t.headD 99 && q.2.1 == a && q.2.2 == b) && decide (len = 3)
  | _ => false
def j53 (y a : Nat) (j : Instr) (len : Nat) : Bool := match j with
  | .ldc ix => SRt.any (fun q => q.1 == mC y && q.2.1 == ix && q.2.2 == a) && decide (len = 2)
  | .ldc_w ix => SRt.any (fun q => q.1 == mC y && q.2.1 == ix && q.2.2 == a) && decide (len = 3)
  | _ => false
def j54 (y a : Nat) (t : List Nat) (j : Instr) (len : Nat) : Bool := (match j with
  | .invokevirtual ix => !mS a && MLt.any (fun q => q.1 == mC y && q.2.1 == ix && q.2.2.1 == a)
  | .invokestatic ix => mS a && MLt.any (fun q => q.1 == mC y && q.2.1 == ix && q.2.2.1 == a)
  | _ => false) && decide (t = [mA a]) && decide (a < 205) && decide (mF a + 1 ≤ mF y) && decide (8 + (mL a + 11) + mO a ≤ mO y) && decide (len = 3)
def j55 (y z : Nat) (j : Instr) (len : Nat) : Bool := (match j with
  | .invokevirtual ix => SLt.any (fun q => q.1 == mC y && q.2.1 == ix && q.2.2.1 == z)
  | _ => false) && decide (4 ≤ mF y ∨ (z = 0 ∧ 2 ≤ mF y)) && decide (85 ≤ mO y ∨ (z = 0 ∧ 40 ≤ mO y)) && decide (len = 3)
def j57 (y : Nat) (j : Instr) (len : Nat) : Bool := (match j with
  | .invokestatic ix => ACt.any (fun q => q.1 == mC y && q.2.1 == ix)
  | _ => false) && decide (1 ≤ mF y) && decide (26 ≤ mO y) && decide (len = 3)
def jrR : Nat → Option FieldType → Bool
  | 60, r => decide (r = none)
  | 61, r => decide (r = some .int)
  | 62, r => decide (r = some .long)
  | 63, r => match r with
    | some (.object _) => true
    | _ => false
  | 64, r => decide (r = some .boolean)
  | _, _ => false
def jrt (y op : Nat) (j : Instr) (len : Nat) : Bool := jrR op (mR y) && jx op j len
def j27 (y z : Nat) (j : Instr) (len : Nat) : Bool := (match j with
  | .invokestatic ix => MHt.any (fun q => q.1 == mC y && q.2.1 == ix && q.2.2.1 == z)
  | _ => false) && decide (1 ≤ mF y) && decide (21 ≤ mO y) && decide (len = 3)
def okJ (y pc : Nat) (i : Ins) (j : Instr) (len : Nat) : Bool := match i.1 with
  | 0 => j0 y i.2.2.1 j len
  | 1 => j1 i.2.1 i.2.2.1 j len
  | 2 => j2 i.2.1 i.2.2.1 j len
  | 3 => j3 i.2.1 j len
  | 4 => j4 i.2.1 i.2.2.1 j len
  | 23 => j23 i.2.2.1 j len
  | 27 => j27 y 0 j len
  | 28 => j27 y 1 j len
  | 29 => j27 y 2 j len
  | 44 => j44 y i.2.1 pc i.2.2.1 i.2.2.2 j
  | 45 => j45 y i.2.1 pc i.2.2.2 j
  | 46 => j46 y i.2.1 i.2.2.2 j len
  | 47 => j47 y i.2.1 false i.2.2.2 j len
  | 48 => j47 y i.2.1 true i.2.2.2 j len
  | 53 => j53 y i.2.1 j len
  | 54 => j54 y i.2.1 i.2.2.2 j len
  | 55 => j55 y 0 j len
  | 56 => j55 y 1 j len
  | 57 => j57 y j len
  | n => if n < 30 then jx n j len else if n < 43 then jbr y i.2.1 pc n j len else if n < 53 then jx n j len else jrt y n j len
def term (op : Nat) : Bool := op == 42 || op == 43 || op == 44 || op == 45 || decide (60 ≤ op)
def okI (y pc : Nat) (i : Ins) (nx : Option Nat) : Bool := if i.1 = 43 then decide (bp0 y i.2.1 = some pc) else match decode (mB y) pc with
  | .ok (j, len) => okJ y pc i j len && (term i.1 || decide (nx = some (pc + len)))
  | .error _ => false
def okS (y : Nat) : List (Nat × Ins) → Bool
  | [] => false
  | (pc, i) :: r => okI y pc i (r.head?.map Prod.fst) && (term i.1 || okS y r)
def okM (y : Nat) : Bool := (mK y).all (okS y) && decide (bp0 y 0 = some 0)

theorem om_0 : ((List.range 8).drop 0).all okM = true := by decide +kernel
theorem on_0 : ((List.range 8).drop 0).all mpOk = true := by decide +kernel
theorem om_1 : ((List.range 16).drop 8).all okM = true := by decide +kernel
theorem on_1 : ((List.range 16).drop 8).all mpOk = true := by decide +kernel
theorem om_2 : ((List.range 24).drop 16).all okM = true := by decide +kernel
theorem on_2 : ((List.range 24).drop 16).all mpOk = true := by decide +kernel
theorem om_3 : ((List.range 32).drop 24).all okM = true := by decide +kernel
theorem on_3 : ((List.range 32).drop 24).all mpOk = true := by decide +kernel
theorem om_4 : ((List.range 40).drop 32).all okM = true := by decide +kernel
theorem on_4 : ((List.range 40).drop 32).all mpOk = true := by decide +kernel
theorem om_5 : ((List.range 48).drop 40).all okM = true := by decide +kernel
theorem on_5 : ((List.range 48).drop 40).all mpOk = true := by decide +kernel
theorem om_6 : ((List.range 56).drop 48).all okM = true := by decide +kernel
theorem on_6 : ((List.range 56).drop 48).all mpOk = true := by decide +kernel
theorem om_7 : ((List.range 64).drop 56).all okM = true := by decide +kernel
theorem on_7 : ((List.range 64).drop 56).all mpOk = true := by decide +kernel
theorem om_8 : ((List.range 72).drop 64).all okM = true := by decide +kernel
theorem on_8 : ((List.range 72).drop 64).all mpOk = true := by decide +kernel
theorem om_9 : ((List.range 80).drop 72).all okM = true := by decide +kernel
theorem on_9 : ((List.range 80).drop 72).all mpOk = true := by decide +kernel
theorem om_10 : ((List.range 88).drop 80).all okM = true := by decide +kernel
theorem on_10 : ((List.range 88).drop 80).all mpOk = true := by decide +kernel
theorem om_11 : ((List.range 96).drop 88).all okM = true := by decide +kernel
theorem on_11 : ((List.range 96).drop 88).all mpOk = true := by decide +kernel
theorem om_12 : ((List.range 104).drop 96).all okM = true := by decide +kernel
theorem on_12 : ((List.range 104).drop 96).all mpOk = true := by decide +kernel
theorem om_13 : ((List.range 112).drop 104).all okM = true := by decide +kernel
theorem on_13 : ((List.range 112).drop 104).all mpOk = true := by decide +kernel
theorem om_14 : ((List.range 120).drop 112).all okM = true := by decide +kernel
theorem on_14 : ((List.range 120).drop 112).all mpOk = true := by decide +kernel
theorem om_15 : ((List.range 128).drop 120).all okM = true := by decide +kernel
theorem on_15 : ((List.range 128).drop 120).all mpOk = true := by decide +kernel
theorem om_16 : ((List.range 136).drop 128).all okM = true := by decide +kernel
theorem on_16 : ((List.range 136).drop 128).all mpOk = true := by decide +kernel
theorem om_17 : ((List.range 144).drop 136).all okM = true := by decide +kernel
theorem on_17 : ((List.range 144).drop 136).all mpOk = true := by decide +kernel
theorem om_18 : ((List.range 152).drop 144).all okM = true := by decide +kernel
theorem on_18 : ((List.range 152).drop 144).all mpOk = true := by decide +kernel
theorem om_19 : ((List.range 160).drop 152).all okM = true := by decide +kernel
theorem on_19 : ((List.range 160).drop 152).all mpOk = true := by decide +kernel
theorem om_20 : ((List.range 168).drop 160).all okM = true := by decide +kernel
theorem on_20 : ((List.range 168).drop 160).all mpOk = true := by decide +kernel
theorem om_21 : ((List.range 176).drop 168).all okM = true := by decide +kernel
theorem on_21 : ((List.range 176).drop 168).all mpOk = true := by decide +kernel
theorem om_22 : ((List.range 184).drop 176).all okM = true := by decide +kernel
theorem on_22 : ((List.range 184).drop 176).all mpOk = true := by decide +kernel
theorem om_23 : ((List.range 192).drop 184).all okM = true := by decide +kernel
theorem on_23 : ((List.range 192).drop 184).all mpOk = true := by decide +kernel
theorem om_24 : ((List.range 200).drop 192).all okM = true := by decide +kernel
theorem on_24 : ((List.range 200).drop 192).all mpOk = true := by decide +kernel
theorem om_25 : ((List.range 205).drop 200).all okM = true := by decide +kernel
theorem on_25 : ((List.range 205).drop 200).all mpOk = true := by decide +kernel
theorem ok_all {y : Nat} (h : y < 205) : okM y = true := by
  have key : ∀ (a b : Nat), ((List.range b).drop a).all okM = true → a ≤ y → y < b → okM y = true := by
    intro a b h1 h2 h3
    refine List.all_eq_true.mp h1 y ?_
    refine List.mem_of_getElem? (i := y - a) ?_
    rw [List.getElem?_drop, List.getElem?_range (by omega)]
    congr 1; omega
  by_cases q0 : y < 8
  · exact key 0 8 om_0 (by omega) q0
  by_cases q1 : y < 16
  · exact key 8 16 om_1 (by omega) q1
  by_cases q2 : y < 24
  · exact key 16 24 om_2 (by omega) q2
  by_cases q3 : y < 32
  · exact key 24 32 om_3 (by omega) q3
  by_cases q4 : y < 40
  · exact key 32 40 om_4 (by omega) q4
  by_cases q5 : y < 48
  · exact key 40 48 om_5 (by omega) q5
  by_cases q6 : y < 56
  · exact key 48 56 om_6 (by omega) q6
  by_cases q7 : y < 64
  · exact key 56 64 om_7 (by omega) q7
  by_cases q8 : y < 72
  · exact key 64 72 om_8 (by omega) q8
  by_cases q9 : y < 80
  · exact key 72 80 om_9 (by omega) q9
  by_cases q10 : y < 88
  · exact key 80 88 om_10 (by omega) q10
  by_cases q11 : y < 96
  · exact key 88 96 om_11 (by omega) q11
  by_cases q12 : y < 104
  · exact key 96 104 om_12 (by omega) q12
  by_cases q13 : y < 112
  · exact key 104 112 om_13 (by omega) q13
  by_cases q14 : y < 120
  · exact key 112 120 om_14 (by omega) q14
  by_cases q15 : y < 128
  · exact key 120 128 om_15 (by omega) q15
  by_cases q16 : y < 136
  · exact key 128 136 om_16 (by omega) q16
  by_cases q17 : y < 144
  · exact key 136 144 om_17 (by omega) q17
  by_cases q18 : y < 152
  · exact key 144 152 om_18 (by omega) q18
  by_cases q19 : y < 160
  · exact key 152 160 om_19 (by omega) q19
  by_cases q20 : y < 168
  · exact key 160 168 om_20 (by omega) q20
  by_cases q21 : y < 176
  · exact key 168 176 om_21 (by omega) q21
  by_cases q22 : y < 184
  · exact key 176 184 om_22 (by omega) q22
  by_cases q23 : y < 192
  · exact key 184 192 om_23 (by omega) q23
  by_cases q24 : y < 200
  · exact key 192 200 om_24 (by omega) q24
  exact key 200 205 om_25 (by omega) h
theorem mp_all {y : Nat} (h : y < 205) : mpOk y = true := by
  have key : ∀ (a b : Nat), ((List.range b).drop a).all mpOk = true → a ≤ y → y < b → mpOk y = true := by
    intro a b h1 h2 h3
    refine List.all_eq_true.mp h1 y ?_
    refine List.mem_of_getElem? (i := y - a) ?_
    rw [List.getElem?_drop, List.getElem?_range (by omega)]
    congr 1; omega
  by_cases q0 : y < 8
  · exact key 0 8 on_0 (by omega) q0
  by_cases q1 : y < 16
  · exact key 8 16 on_1 (by omega) q1
  by_cases q2 : y < 24
  · exact key 16 24 on_2 (by omega) q2
  by_cases q3 : y < 32
  · exact key 24 32 on_3 (by omega) q3
  by_cases q4 : y < 40
  · exact key 32 40 on_4 (by omega) q4
  by_cases q5 : y < 48
  · exact key 40 48 on_5 (by omega) q5
  by_cases q6 : y < 56
  · exact key 48 56 on_6 (by omega) q6
  by_cases q7 : y < 64
  · exact key 56 64 on_7 (by omega) q7
  by_cases q8 : y < 72
  · exact key 64 72 on_8 (by omega) q8
  by_cases q9 : y < 80
  · exact key 72 80 on_9 (by omega) q9
  by_cases q10 : y < 88
  · exact key 80 88 on_10 (by omega) q10
  by_cases q11 : y < 96
  · exact key 88 96 on_11 (by omega) q11
  by_cases q12 : y < 104
  · exact key 96 104 on_12 (by omega) q12
  by_cases q13 : y < 112
  · exact key 104 112 on_13 (by omega) q13
  by_cases q14 : y < 120
  · exact key 112 120 on_14 (by omega) q14
  by_cases q15 : y < 128
  · exact key 120 128 on_15 (by omega) q15
  by_cases q16 : y < 136
  · exact key 128 136 on_16 (by omega) q16
  by_cases q17 : y < 144
  · exact key 136 144 on_17 (by omega) q17
  by_cases q18 : y < 152
  · exact key 144 152 on_18 (by omega) q18
  by_cases q19 : y < 160
  · exact key 152 160 on_19 (by omega) q19
  by_cases q20 : y < 168
  · exact key 160 168 on_20 (by omega) q20
  by_cases q21 : y < 176
  · exact key 168 176 on_21 (by omega) q21
  by_cases q22 : y < 184
  · exact key 176 184 on_22 (by omega) q22
  by_cases q23 : y < 192
  · exact key 184 192 on_23 (by omega) q23
  by_cases q24 : y < 200
  · exact key 192 200 on_24 (by omega) q24
  exact key 200 205 on_25 (by omega) h
