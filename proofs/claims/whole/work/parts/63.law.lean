/-! the law: its cases, its loop -/
def cdA (pc n : Nat) : Bool := (List.range n).all fun j => decide (decode code (pc + 5 * j) = .ok (.aload_n 0, 1)) && decide (decode code (pc + 5 * j + 1) = .ok (.iload_n 3, 1)) && decide (decode code (pc + 5 * j + 1 + 1) = .ok (.iconst ((j + 1 : Nat) : Int), 1)) && decide (decode code (pc + 5 * j + 1 + 1 + 1) = .ok (.iadd, 1)) && decide (decode code (pc + 5 * j + 1 + 1 + 1 + 1) = .ok (.iaload, 1))
def cdM (y cl n : Nat) : Bool := decide (y < 205) && !mS y && decide (mC y = cl) && decide (n + 1 = mA y) && decide (mA y ≤ mL y) && decide (mF y + 1 ≤ 13) && decide (8 + (mL y + 11) + mO y ≤ 500)
def cdL (pc n i1 i2 y y' : Nat) : Bool := decide (n ≤ 5) && decide (decode code pc = .ok (.aload_n 1, 1)) && cdA (pc + 1) n && decide (decode code (pc + 1 + 5 * n) = .ok (.invokevirtual i1, 3)) && decide (decode code (pc + 1 + 5 * n + 3) = .ok (.aload_n 2, 1)) && cdA (pc + 1 + 5 * n + 3 + 1) n && decide (decode code (pc + 1 + 5 * n + 3 + 1 + 5 * n) = .ok (.invokevirtual i2, 3)) && cdM y 4 n && cdM y' 5 n && decide (Cond.methodLink RL i1 (mN y) ∈ lw_tbl) && goodWord (Cond.methodLink RL i1 (mN y)) && decide (Cond.methodLink RL i2 (mN y') ∈ lw_tbl) && goodWord (Cond.methodLink RL i2 (mN y'))
def cdI (pc n y : Nat) : Bool := decide (decode code (pc + 1 + 5 * n + 3 + 1 + 5 * n + 3) = .ok (.if_icmp .eq ((1446 : Int) - ((pc + 1 + 5 * n + 3 + 1 + 5 * n + 3 : Nat) : Int)), 3)) && ((mK y).all fun b => b.all fun p => retI p.2)
def cdJ (pc n y : Nat) : Bool := decide (decode code (pc + 1 + 5 * n + 3 + 1 + 5 * n + 3) = .ok (.lcmp, 1)) && decide (decode code (pc + 1 + 5 * n + 3 + 1 + 5 * n + 3 + 1) = .ok (.ifCond .eq ((1446 : Int) - ((pc + 1 + 5 * n + 3 + 1 + 5 * n + 3 + 1 : Nat) : Int)), 3)) && ((mK y).all fun b => b.all fun p => retL p.2)
theorem kL_0 : cdL 212 3 13 17 40 114 = true := by decide +kernel
theorem kE_0 : cdI 212 3 40 = true := by decide +kernel
theorem kL_1 : cdL 255 2 18 22 41 115 = true := by decide +kernel
theorem kE_1 : cdI 255 2 41 = true := by decide +kernel
theorem kL_2 : cdL 288 2 23 26 42 117 = true := by decide +kernel
theorem kE_2 : cdI 288 2 42 = true := by decide +kernel
theorem kL_3 : cdL 321 1 27 31 43 118 = true := by decide +kernel
theorem kE_3 : cdI 321 1 43 = true := by decide +kernel
theorem kL_4 : cdL 344 2 32 35 44 125 = true := by decide +kernel
theorem kE_4 : cdI 344 2 44 = true := by decide +kernel
theorem kL_5 : cdL 377 2 36 39 45 131 = true := by decide +kernel
theorem kE_5 : cdI 377 2 45 = true := by decide +kernel
theorem kL_6 : cdL 410 3 40 43 46 133 = true := by decide +kernel
theorem kE_6 : cdI 410 3 46 = true := by decide +kernel
theorem kL_7 : cdL 453 2 44 47 47 134 = true := by decide +kernel
theorem kE_7 : cdI 453 2 47 = true := by decide +kernel
theorem kL_8 : cdL 486 1 48 51 48 143 = true := by decide +kernel
theorem kE_8 : cdI 486 1 48 = true := by decide +kernel
theorem kL_9 : cdL 509 1 52 55 49 147 = true := by decide +kernel
theorem kE_9 : cdI 509 1 49 = true := by decide +kernel
theorem kL_10 : cdL 532 3 56 59 50 150 = true := by decide +kernel
theorem kE_10 : cdI 532 3 50 = true := by decide +kernel
theorem kL_11 : cdL 575 1 60 63 51 151 = true := by decide +kernel
theorem kE_11 : cdI 575 1 51 = true := by decide +kernel
theorem kL_12 : cdL 598 1 64 67 52 152 = true := by decide +kernel
theorem kE_12 : cdI 598 1 52 = true := by decide +kernel
theorem kL_13 : cdL 621 2 68 71 53 153 = true := by decide +kernel
theorem kE_13 : cdI 621 2 53 = true := by decide +kernel
theorem kL_14 : cdL 654 0 72 76 54 154 = true := by decide +kernel
theorem kE_14 : cdI 654 0 54 = true := by decide +kernel
theorem kL_15 : cdL 667 2 77 80 55 157 = true := by decide +kernel
theorem kE_15 : cdI 667 2 55 = true := by decide +kernel
theorem kL_16 : cdL 700 2 81 84 56 160 = true := by decide +kernel
theorem kE_16 : cdI 700 2 56 = true := by decide +kernel
theorem kL_17 : cdL 733 2 85 88 57 158 = true := by decide +kernel
theorem kE_17 : cdI 733 2 57 = true := by decide +kernel
theorem kL_18 : cdL 766 2 89 92 58 161 = true := by decide +kernel
theorem kE_18 : cdI 766 2 58 = true := by decide +kernel
theorem kL_19 : cdL 799 2 93 96 59 163 = true := by decide +kernel
theorem kE_19 : cdI 799 2 59 = true := by decide +kernel
theorem kL_20 : cdL 832 2 97 100 60 165 = true := by decide +kernel
theorem kE_20 : cdI 832 2 60 = true := by decide +kernel
theorem kL_21 : cdL 865 3 101 104 61 168 = true := by decide +kernel
theorem kE_21 : cdI 865 3 61 = true := by decide +kernel
theorem kL_22 : cdL 908 2 105 108 62 169 = true := by decide +kernel
theorem kE_22 : cdI 908 2 62 = true := by decide +kernel
theorem kL_23 : cdL 941 1 109 112 63 171 = true := by decide +kernel
theorem kE_23 : cdI 941 1 63 = true := by decide +kernel
theorem kL_24 : cdL 964 4 113 117 64 172 = true := by decide +kernel
theorem kE_24 : cdJ 964 4 64 = true := by decide +kernel
theorem kL_25 : cdL 1018 1 118 121 65 173 = true := by decide +kernel
theorem kE_25 : cdI 1018 1 65 = true := by decide +kernel
theorem kL_26 : cdL 1041 2 122 125 66 174 = true := by decide +kernel
theorem kE_26 : cdI 1041 2 66 = true := by decide +kernel
theorem kL_27 : cdL 1074 0 126 129 67 175 = true := by decide +kernel
theorem kE_27 : cdI 1074 0 67 = true := by decide +kernel
theorem kL_28 : cdL 1087 0 130 133 68 186 = true := by decide +kernel
theorem kE_28 : cdI 1087 0 68 = true := by decide +kernel
theorem kL_29 : cdL 1100 2 134 137 69 188 = true := by decide +kernel
theorem kE_29 : cdI 1100 2 69 = true := by decide +kernel
theorem kL_30 : cdL 1133 2 138 141 70 189 = true := by decide +kernel
theorem kE_30 : cdI 1133 2 70 = true := by decide +kernel
theorem kL_31 : cdL 1166 3 142 145 71 192 = true := by decide +kernel
theorem kE_31 : cdI 1166 3 71 = true := by decide +kernel
theorem kL_32 : cdL 1209 3 146 149 72 193 = true := by decide +kernel
theorem kE_32 : cdI 1209 3 72 = true := by decide +kernel
theorem kL_33 : cdL 1252 5 150 154 73 194 = true := by decide +kernel
theorem kE_33 : cdI 1252 5 73 = true := by decide +kernel
theorem kL_34 : cdL 1315 1 155 158 74 197 = true := by decide +kernel
theorem kE_34 : cdI 1315 1 74 = true := by decide +kernel
theorem kL_35 : cdL 1338 1 159 162 75 198 = true := by decide +kernel
theorem kE_35 : cdI 1338 1 75 = true := by decide +kernel
theorem kL_36 : cdL 1361 0 163 166 76 199 = true := by decide +kernel
theorem kE_36 : cdI 1361 0 76 = true := by decide +kernel
theorem kL_37 : cdL 1374 0 167 170 77 200 = true := by decide +kernel
theorem kE_37 : cdI 1374 0 77 = true := by decide +kernel
theorem kL_38 : cdL 1387 0 171 174 78 201 = true := by decide +kernel
theorem kE_38 : cdI 1387 0 78 = true := by decide +kernel
theorem kL_39 : cdL 1400 1 175 178 79 202 = true := by decide +kernel
theorem kE_39 : cdI 1400 1 79 = true := by decide +kernel
theorem kL_40 : cdL 1423 1 179 182 80 203 = true := by decide +kernel
theorem kE_40 : cdI 1423 1 80 = true := by decide +kernel
def caT : List Nat := [212, 255, 288, 321, 344, 377, 410, 453, 486, 509, 532, 575, 598, 621, 654, 667, 700, 733, 766, 799, 832, 865, 908, 941, 964, 1018, 1041, 1074, 1087, 1100, 1133, 1166, 1209, 1252, 1315, 1338, 1361, 1374, 1387, 1400, 1423]
def ofT : List Int := [179, 222, 255, 288, 311, 344, 377, 420, 453, 476, 499, 542, 565, 588, 621, 634, 667, 700, 733, 766, 799, 832, 875, 908, 931, 985, 1008, 1041, 1054, 1067, 1100, 1133, 1176, 1219, 1282, 1305, 1328, 1341, 1354, 1367, 1390]
theorem of_at : ∀ c, c < 41 → (#[179, 222, 255, 288, 311, 344, 377, 420, 453, 476, 499, 542, 565, 588, 621, 634, 667, 700, 733, 766, 799, 832, 875, 908, 931, 985, 1008, 1041, 1054, 1067, 1100, 1133, 1176, 1219, 1282, 1305, 1328, 1341, 1354, 1367, 1390] : Array Int)[c]? = some (ofT.getD c 0) ∧ (33 : Int) + ofT.getD c 0 = ((caT.getD c 0 : Nat) : Int) := by decide +kernel
theorem dL_33 : decode code 33 = .ok (.tableswitch 1413 0 40 #[179, 222, 255, 288, 311, 344, 377, 420, 453, 476, 499, 542, 565, 588, 621, 634, 667, 700, 733, 766, 799, 832, 875, 908, 931, 985, 1008, 1041, 1054, 1067, 1100, 1133, 1176, 1219, 1282, 1305, 1328, 1341, 1354, 1367, 1390], 179) := by decide +kernel
theorem dL_0 : decode code 0 = .ok (.new 7, 3) := by decide +kernel
theorem dL_3 : decode code 3 = .ok (.dup, 1) := by decide +kernel
theorem dL_4 : decode code 4 = .ok (.invokespecial 9, 3) := by decide +kernel
theorem dL_7 : decode code 7 = .ok (.astore_n 1, 1) := by decide +kernel
theorem dL_8 : decode code 8 = .ok (.new 10, 3) := by decide +kernel
theorem dL_11 : decode code 11 = .ok (.dup, 1) := by decide +kernel
theorem dL_12 : decode code 12 = .ok (.invokespecial 12, 3) := by decide +kernel
theorem dL_15 : decode code 15 = .ok (.astore_n 2, 1) := by decide +kernel
theorem dL_16 : decode code 16 = .ok (.iconst 0, 1) := by decide +kernel
theorem dL_17 : decode code 17 = .ok (.istore_n 3, 1) := by decide +kernel
theorem dL_18 : decode code 18 = .ok (.iload_n 3, 1) := by decide +kernel
theorem dL_19 : decode code 19 = .ok (.aload_n 0, 1) := by decide +kernel
theorem dL_20 : decode code 20 = .ok (.arraylength, 1) := by decide +kernel
theorem dL_21 : decode code 21 = .ok (.bipush 6, 2) := by decide +kernel
theorem dL_23 : decode code 23 = .ok (.isub, 1) := by decide +kernel
theorem dL_24 : decode code 24 = .ok (.if_icmp .gt 1428, 3) := by decide +kernel
theorem dL_27 : decode code 27 = .ok (.aload_n 0, 1) := by decide +kernel
theorem dL_28 : decode code 28 = .ok (.iload_n 3, 1) := by decide +kernel
theorem dL_29 : decode code 29 = .ok (.iaload, 1) := by decide +kernel
theorem dL_30 : decode code 30 = .ok (.bipush 63, 2) := by decide +kernel
theorem dL_32 : decode code 32 = .ok (.iand, 1) := by decide +kernel
theorem dL_1446 : decode code 1446 = .ok (.iinc 3 6, 3) := by decide +kernel
theorem dL_1449 : decode code 1449 = .ok (.goto (-1431), 3) := by decide +kernel
theorem dL_1452 : decode code 1452 = .ok (.iconst 1, 1) := by decide +kernel
theorem dL_1453 : decode code 1453 = .ok (.ireturn, 1) := by decide +kernel
def argL (xs : Nat → Int32) (k n : Nat) : List Value := (List.range n).map (fun j => Value.int (xs (k + (j + 1))))
theorem argL_succ {xs : Nat → Int32} {k n : Nat} : (argL xs k (n + 1)).reverse = Value.int (xs (k + (n + 1))) :: (argL xs k n).reverse := by
  unfold argL
  rw [List.range_succ, List.map_append, List.reverse_append]
  rfl
theorem argL_len {xs : Nat → Int32} {k n : Nat} : (argL xs k n).length = n := by simp [argL]
theorem argL_c1 {xs : Nat → Int32} {k n : Nat} : (argL xs k n).all c1 = true := by
  unfold argL
  rw [List.all_map, List.all_eq_true]
  intro j _
  rfl
theorem argL_cv {g : GW} {xs : Nat → Int32} {k n : Nat} : (argL xs k n).map (cv g) = argL xs k n := by
  unfold argL
  rw [List.map_map]
  rfl
theorem and63 (x : Int32) : ∃ c, c < 64 ∧ x &&& 63 = nI c := by
  refine ⟨(x.toBitVec &&& 63#32).toNat, ?_, ?_⟩
  · rw [BitVec.toNat_and]
    have : (63#32).toNat = 2 ^ 6 - 1 := rfl
    rw [this, Nat.and_two_pow_sub_one_eq_mod]
    omega
  · apply Int32.toBitVec.inj
    show (x.toBitVec &&& 63#32) = BitVec.ofNat 32 (x.toBitVec &&& 63#32).toNat
    rw [BitVec.ofNat_toNat, BitVec.setWidth_eq]
def LF (p : Program) (s : State) (m : MethodId) (meth : Method) (c : Code) (b L : Nat) (xs : Nat → Int32) (g : GW) : Prop := p.tables.exec = Jvm.exec ∧ c.code = code ∧ c.maxLocals = 4 ∧ s.vm.findClass RL = some m.cls ∧ (∀ w ∈ lw_tbl, w.before #[Value.ref b] s = true) ∧ va_X b L xs s s.heap ∧ b < s.heap.size ∧ L ≤ 3072 ∧ va_K (gD g) vwCl (tysW g) s ∧ SX g (fun q => s.heap.size ≤ q) s s.heap
section LW
variable {p : Program} {l : Launch} {e : Env} {s : State} {m : MethodId} {below : List Frame} {meth : Method} {c : Code} {Q : State → Prop} {g : GW} {H : Heap} {lc : List Loc} {ls : Array Slot} {b L k n nc ns pc i1 i2 y y' : Nat} {xs : Nat → Int32} {σ σf : Sg} {v : Value} {rest st : List Value}
theorem larg (F : LF p s m meth c b L xs g) (hl : lv_has ls 4 [(3, .int (nI k)), (2, .ref (gA g 55)), (1, .ref (gA g 42)), (0, .ref b)]) (hS : va_S (fun q => s.heap.size ≤ q) s.heap H lc) : ∀ n, n ≤ 5 → k + n < L → cdA pc n = true → W p l e room_1 s m #[Value.ref b] below meth c H lc nc ns Q (F0 m (pc + 5 * n) ls ((argL xs k n).reverse ++ st)) → W p l e room_1 s m #[Value.ref b] below meth c H lc nc ns Q (F0 m pc ls st) := by
  obtain ⟨hx, hb, hml, hown, hts, hX, hbl, hL, hK, hSX⟩ := F
  have hbA : ¬ (fun q : Nat => s.heap.size ≤ q) b := Nat.not_le.mpr hbl
  intro n
  induction n with
  | zero => intro _ _ _ h; exact h
  | succ n ih =>
    intro hn hk hA h
    have hall := List.all_eq_true.mp hA
    have hA' : cdA pc n = true := List.all_eq_true.mpr (fun j hj => hall j (List.mem_range.mpr (by have := List.mem_range.mp hj; omega)))
    have h5 := hall n (List.mem_range.mpr (by omega))
    simp only [Bool.and_eq_true, decide_eq_true_eq] at h5
    obtain ⟨⟨⟨⟨d0, d1⟩, d2⟩, d3⟩, d4⟩ := h5
    refine ih (by omega) (by omega) hA' ?_
    have hv : Int32.ofInt ((n + 1 : Nat) : Int) = nI (n + 1) := by
      have : ∀ n, n < 5 → Int32.ofInt ((n + 1 : Nat) : Int) = nI (n + 1) := by decide
      exact this n (by omega)
    refine lv_aload_n (k := 0) hx hb d0 rfl (lv_at hl 3 rfl) ?_
    refine lv_iload_n (k := 3) hx hb d1 rfl (lv_at hl 0 rfl) ?_
    refine lv_iconst (v := nI (n + 1)) hx hb d2 hv ?_
    refine lv_iadd hx hb d3 ?_
    rw [nI_add]
    refine va_sld hx hb hX hbl hbA hS (vp_in_nI (by omega) (by omega)) d4 ?_
    rw [nI_clamp (by omega), show pc + 5 * n + 1 + 1 + 1 + 1 + 1 = pc + 5 * (n + 1) by omega]
    rw [argL_succ] at h
    exact h
theorem lcall {k0 : Nat} {as' : List Value} (F : LF p s m meth c b L xs g) (hls : ls.size = 4) (hnc : nc ≤ 600000) (hns : ns ≤ 7302250) (I : IJ s (fun q => s.heap.size ≤ q) g σ H lc) (okm : cdM y (cls k0) as'.length = true) (hcl : cls k0 < 99) (hl : Cond.methodLink RL i1 (mN y) ∈ tbg) (hac : as'.all c1 = true) (has : as'.map (cv g) = as') (hev : ∃ n, ev n y (blk y 0) (pad (mL y) (.ref k0 :: as')) [] σ = some (v, σf)) (hd : decode code pc = .ok (.invokevirtual i1, 3)) (hrest : (rest.map fun v => v.category).sum ≤ 8)
    (kk : ∀ (H1 : Heap) (lc1 : List Loc), IJ s (fun q => s.heap.size ≤ q) g σf H1 lc1 → W p l e room_1 s m #[Value.ref b] below meth c H1 lc1 nc ns Q (F0 m (pc + 3) ls ((rvl g v).toList ++ rest))) : W p l e room_1 s m #[Value.ref b] below meth c H lc nc ns Q (F0 m pc ls (as'.reverse ++ .ref (gA g k0) :: rest)) := by
  obtain ⟨hx, hb, hml, hown, hts, hX, hbl, hL, hK, hSX⟩ := F
  obtain ⟨n, hev⟩ := hev
  simp only [cdM, Bool.and_eq_true, decide_eq_true_eq, Bool.not_eq_true'] at okm
  obtain ⟨⟨⟨⟨⟨⟨q1, q2⟩, q3⟩, q4⟩, q5⟩, q6⟩, q7⟩ := okm
  have hts' : ∀ w ∈ tbg, w.before #[Value.ref b] s = true := fun w hw => hts w (List.mem_filter.mp hw).1
  have hM := met_of (snd_all n) q1 (as := .ref k0 :: as') (by rw [List.length_cons, q4]; exact q5) (by rw [List.all_cons, hac]; rfl) hev l g H.size
  obtain ⟨m1, m2, m3, m4, m5, m6, m7⟩ := mp_facts q1
  obtain ⟨hk, fs, rr, hsh, hvw, hnm⟩ := cls_spec (k := k0) (ci := cls k0) rfl hcl
  have he := ws_get g σ hk
  rw [cel_obj hsh] at he
  have hrv := va_recv hK I.1 hvw he
  rw [hnm] at hrv
  have hA' := hAJ I (fun q h => h)
  have hpre : ∀ U : State, U.heap = H → s.WarmedH U.vm → va_Pc ((.ref k0 :: as').map (cv g)) (PW g σ H.size) ((.ref k0 :: as').map (cv g)).toArray U := by
    intro U hU hW
    exact ⟨rfl, by rw [hU], by rw [hU]; exact I.1, va_K.moved hW.alike hK, I.2.1.weaken (fun _ _ _ _ => trivial), hSX.next hW hU I.2.2 hA'⟩
  rw [q2] at m6
  have hn1 : mA y - 1 = as'.length := by omega
  rw [hn1] at m6
  refine va_callg (va_runV (As := as'.map (cv g)) (rest := rest) (C := cnS (mC y)) ⟨hx, hb, hml, hown, hts'⟩ hM (cwV as'.length hts' (good_V q1 q2 hl) rfl rfl rfl ⟨m5, m6⟩ ⟨q6, q7⟩) ⟨PW_blind _ _ _ _, by rw [q3]; exact hrv, hpre⟩ rfl (by rw [List.length_map]) hls (by rw [has]) (lv_room hrest) hd ⟨hnc, hns⟩) I.2.2 (fun q _ h => hA' q h) hA' (fun H1 lc1 hP hS => kk H1 lc1 ⟨hP, va_D_ws I.2.1, hS⟩)
theorem lcaseI {n : Nat} (F : LF p s m meth c b L xs g) (hl : lv_has ls 4 [(3, .int (nI k)), (2, .ref (gA g 55)), (1, .ref (gA g 42)), (0, .ref b)]) (hk : k + 6 ≤ L) (hnc : nc ≤ 600000) (hns : ns ≤ 7302250) (I : IJ s (fun q => s.heap.size ≤ q) g σ H lc) (ok : cdL pc n i1 i2 y y' = true) (okE : cdI pc n y = true) (hp : Pair y y' (argL xs k n) σ)
    (st : ∀ (σ2 : Sg) (H1 : Heap) (lc1 : List Loc), Inv σ2 → IJ s (fun q => s.heap.size ≤ q) g σ2 H1 lc1 → W p l e room_1 s m #[Value.ref b] below meth c H1 lc1 nc ns Q (F0 m 1446 ls [])) : W p l e room_1 s m #[Value.ref b] below meth c H lc nc ns Q (F0 m pc ls []) := by
  simp only [cdL, Bool.and_eq_true, decide_eq_true_eq] at ok
  obtain ⟨⟨⟨⟨⟨⟨⟨⟨⟨⟨⟨⟨k1, k2⟩, k3⟩, k4⟩, k5⟩, k6⟩, k7⟩, k8⟩, k9⟩, k10⟩, k11⟩, k12⟩, k13⟩ := ok
  simp only [cdI, Bool.and_eq_true, decide_eq_true_eq] at okE
  obtain ⟨r1, r2⟩ := okE
  obtain ⟨n1, v1, σ1, h1, n2, v2, σ2, h2, rfl, hI2⟩ := hp
  obtain ⟨x, rfl⟩ := ev_int_call r2 h1
  refine lv_aload_n (k := 1) F.1 F.2.1 k2 rfl (lv_at hl 2 rfl) ?_
  refine larg F hl I.2.2 n k1 (by omega) k3 ?_
  refine lcall (k0 := 42) (as' := argL xs k n) (rest := []) F hl.1 hnc hns I (by rw [argL_len]; exact k8) (by decide) (inJ k10 k11) argL_c1 argL_cv ⟨n1, h1⟩ k4 (by decide) (fun H1 lc1 I1 => ?_)
  show W p l e room_1 s m _ below meth c H1 lc1 nc ns Q (F0 m _ ls [.int x])
  refine lv_aload_n (k := 2) F.1 F.2.1 k5 rfl (lv_at hl 1 rfl) ?_
  refine larg F hl I1.2.2 n k1 (by omega) k6 ?_
  refine lcall (k0 := 55) (as' := argL xs k n) (rest := [.int x]) F hl.1 hnc hns I1 (by rw [argL_len]; exact k9) (by decide) (inJ k12 k13) argL_c1 argL_cv ⟨n2, h2⟩ k7 (by simp [Value.category]) (fun H2 lc2 I2 => ?_)
  show W p l e room_1 s m _ below meth c H2 lc2 nc ns Q (F0 m _ ls [.int x, .int x])
  exact lv_icmp_eq (tgt := 1446) F.1 F.2.1 r1 (by omega) (fun _ => st σ2 H2 lc2 hI2 I2) (fun z => absurd rfl z)
theorem lcaseJ {n : Nat} (F : LF p s m meth c b L xs g) (hl : lv_has ls 4 [(3, .int (nI k)), (2, .ref (gA g 55)), (1, .ref (gA g 42)), (0, .ref b)]) (hk : k + 6 ≤ L) (hnc : nc ≤ 600000) (hns : ns ≤ 7302250) (I : IJ s (fun q => s.heap.size ≤ q) g σ H lc) (ok : cdL pc n i1 i2 y y' = true) (okE : cdJ pc n y = true) (hp : Pair y y' (argL xs k n) σ)
    (st : ∀ (σ2 : Sg) (H1 : Heap) (lc1 : List Loc), Inv σ2 → IJ s (fun q => s.heap.size ≤ q) g σ2 H1 lc1 → W p l e room_1 s m #[Value.ref b] below meth c H1 lc1 nc ns Q (F0 m 1446 ls [])) : W p l e room_1 s m #[Value.ref b] below meth c H lc nc ns Q (F0 m pc ls []) := by
  simp only [cdL, Bool.and_eq_true, decide_eq_true_eq] at ok
  obtain ⟨⟨⟨⟨⟨⟨⟨⟨⟨⟨⟨⟨k1, k2⟩, k3⟩, k4⟩, k5⟩, k6⟩, k7⟩, k8⟩, k9⟩, k10⟩, k11⟩, k12⟩, k13⟩ := ok
  simp only [cdJ, Bool.and_eq_true, decide_eq_true_eq] at okE
  obtain ⟨⟨r1, r3⟩, r2⟩ := okE
  obtain ⟨n1, v1, σ1, h1, n2, v2, σ2, h2, rfl, hI2⟩ := hp
  obtain ⟨x, rfl⟩ := ev_long_call r2 h1
  refine lv_aload_n (k := 1) F.1 F.2.1 k2 rfl (lv_at hl 2 rfl) ?_
  refine larg F hl I.2.2 n k1 (by omega) k3 ?_
  refine lcall (k0 := 42) (as' := argL xs k n) (rest := []) F hl.1 hnc hns I (by rw [argL_len]; exact k8) (by decide) (inJ k10 k11) argL_c1 argL_cv ⟨n1, h1⟩ k4 (by decide) (fun H1 lc1 I1 => ?_)
  show W p l e room_1 s m _ below meth c H1 lc1 nc ns Q (F0 m _ ls [.long x])
  refine lv_aload_n (k := 2) F.1 F.2.1 k5 rfl (lv_at hl 1 rfl) ?_
  refine larg F hl I1.2.2 n k1 (by omega) k6 ?_
  refine lcall (k0 := 55) (as' := argL xs k n) (rest := [.long x]) F hl.1 hnc hns I1 (by rw [argL_len]; exact k9) (by decide) (inJ k12 k13) argL_c1 argL_cv ⟨n2, h2⟩ k7 (by simp [Value.category]) (fun H2 lc2 I2 => ?_)
  show W p l e room_1 s m _ below meth c H2 lc2 nc ns Q (F0 m _ ls [.long x, .long x])
  refine W.lcmp F.1 F.2.1 r1 ?_
  have hz : lg_cmp x x = 0 := (lg_cmp_eq x x).mpr rfl
  rw [hz]
  exact lv_if_eq (tgt := 1446) F.1 F.2.1 r3 (by omega) (fun _ => st σ2 H2 lc2 hI2 I2) (fun z => absurd rfl z)
set_option maxRecDepth 40000 in
set_option maxHeartbeats 8000000 in
theorem lcases (F : LF p s m meth c b L xs g) (hl : lv_has ls 4 [(3, .int (nI k)), (2, .ref (gA g 55)), (1, .ref (gA g 42)), (0, .ref b)]) (hk : k + 6 ≤ L) (hnc : nc ≤ 600000) (hns : ns ≤ 7302250) (hI : Inv σ) (I : IJ s (fun q => s.heap.size ≤ q) g σ H lc)
    (st : ∀ (σ2 : Sg) (H1 : Heap) (lc1 : List Loc), Inv σ2 → IJ s (fun q => s.heap.size ≤ q) g σ2 H1 lc1 → W p l e room_1 s m #[Value.ref b] below meth c H1 lc1 nc ns Q (F0 m 1446 ls [])) : ∀ i ∈ ([0, 1, 2, 3, 4, 5, 6, 7, 8, 9, 10, 11, 12, 13, 14, 15, 16, 17, 18, 19, 20, 21, 22, 23, 24, 25, 26, 27, 28, 29, 30, 31, 32, 33, 34, 35, 36, 37, 38, 39, 40] : List Nat), W p l e room_1 s m #[Value.ref b] below meth c H lc nc ns Q (F0 m (caT.getD i 0) ls []) :=
  List.forall_mem_cons.mpr ⟨lcaseI (n := 3) F hl hk hnc hns I kL_0 kE_0 (show Pair 40 114 (argL xs k 3) σ from by rw [show argL xs k 3 = [Value.int (xs (k + 1)), Value.int (xs (k + 2)), Value.int (xs (k + 3))] from rfl]; exact p_ward hI) st, List.forall_mem_cons.mpr ⟨lcaseI (n := 2) F hl hk hnc hns I kL_1 kE_1 (show Pair 41 115 (argL xs k 2) σ from by rw [show argL xs k 2 = [Value.int (xs (k + 1)), Value.int (xs (k + 2))] from rfl]; exact p_wardOf hI) st, List.forall_mem_cons.mpr ⟨lcaseI (n := 2) F hl hk hnc hns I kL_2 kE_2 (show Pair 42 117 (argL xs k 2) σ from by rw [show argL xs k 2 = [Value.int (xs (k + 1)), Value.int (xs (k + 2))] from rfl]; exact p_trial hI) st, List.forall_mem_cons.mpr ⟨lcaseI (n := 1) F hl hk hnc hns I kL_3 kE_3 (show Pair 43 118 (argL xs k 1) σ from by rw [show argL xs k 1 = [Value.int (xs (k + 1))] from rfl]; exact p_listed hI) st, List.forall_mem_cons.mpr ⟨lcaseI (n := 2) F hl hk hnc hns I kL_4 kE_4 (show Pair 44 125 (argL xs k 2) σ from by rw [show argL xs k 2 = [Value.int (xs (k + 1)), Value.int (xs (k + 2))] from rfl]; exact p_teapot hI) st, List.forall_mem_cons.mpr ⟨lcaseI (n := 2) F hl hk hnc hns I kL_5 kE_5 (show Pair 45 131 (argL xs k 2) σ from by rw [show argL xs k 2 = [Value.int (xs (k + 1)), Value.int (xs (k + 2))] from rfl]; exact p_of hI) st, List.forall_mem_cons.mpr ⟨lcaseI (n := 3) F hl hk hnc hns I kL_6 kE_6 (show Pair 46 133 (argL xs k 3) σ from by rw [show argL xs k 3 = [Value.int (xs (k + 1)), Value.int (xs (k + 2)), Value.int (xs (k + 3))] from rfl]; exact p_change hI) st, List.forall_mem_cons.mpr ⟨lcaseI (n := 2) F hl hk hnc hns I kL_7 kE_7 (show Pair 47 134 (argL xs k 2) σ from by rw [show argL xs k 2 = [Value.int (xs (k + 1)), Value.int (xs (k + 2))] from rfl]; exact p_merit hI) st, List.forall_mem_cons.mpr ⟨lcaseI (n := 1) F hl hk hnc hns I kL_8 kE_8 (show Pair 48 143 (argL xs k 1) σ from by rw [show argL xs k 1 = [Value.int (xs (k + 1))] from rfl]; exact p_go hI) st, List.forall_mem_cons.mpr ⟨lcaseI (n := 1) F hl hk hnc hns I kL_9 kE_9 (show Pair 49 147 (argL xs k 1) σ from by rw [show argL xs k 1 = [Value.int (xs (k + 1))] from rfl]; exact p_now hI) st, List.forall_mem_cons.mpr ⟨lcaseI (n := 3) F hl hk hnc hns I kL_10 kE_10 (show Pair 50 150 (argL xs k 3) σ from by rw [show argL xs k 3 = [Value.int (xs (k + 1)), Value.int (xs (k + 2)), Value.int (xs (k + 3))] from rfl]; exact p_ahead hI) st, List.forall_mem_cons.mpr ⟨lcaseI (n := 1) F hl hk hnc hns I kL_11 kE_11 (show Pair 51 151 (argL xs k 1) σ from by rw [show argL xs k 1 = [Value.int (xs (k + 1))] from rfl]; exact p_leads hI) st, List.forall_mem_cons.mpr ⟨lcaseI (n := 1) F hl hk hnc hns I kL_12 kE_12 (show Pair 52 152 (argL xs k 1) σ from by rw [show argL xs k 1 = [Value.int (xs (k + 1))] from rfl]; exact p_when hI) st, List.forall_mem_cons.mpr ⟨lcaseI (n := 2) F hl hk hnc hns I kL_13 kE_13 (show Pair 53 153 (argL xs k 2) σ from by rw [show argL xs k 2 = [Value.int (xs (k + 1)), Value.int (xs (k + 2))] from rfl]; exact p_votes hI) st, List.forall_mem_cons.mpr ⟨lcaseI (n := 0) F hl hk hnc hns I kL_14 kE_14 (show Pair 54 154 (argL xs k 0) σ from by rw [show argL xs k 0 = [] from rfl]; exact p_dry hI) st, List.forall_mem_cons.mpr ⟨lcaseI (n := 2) F hl hk hnc hns I kL_15 kE_15 (show Pair 55 157 (argL xs k 2) σ from by rw [show argL xs k 2 = [Value.int (xs (k + 1)), Value.int (xs (k + 2))] from rfl]; exact p_heatFor hI) st, List.forall_mem_cons.mpr ⟨lcaseI (n := 2) F hl hk hnc hns I kL_16 kE_16 (show Pair 56 160 (argL xs k 2) σ from by rw [show argL xs k 2 = [Value.int (xs (k + 1)), Value.int (xs (k + 2))] from rfl]; exact p_kindFor hI) st, List.forall_mem_cons.mpr ⟨lcaseI (n := 2) F hl hk hnc hns I kL_17 kE_17 (show Pair 57 158 (argL xs k 2) σ from by rw [show argL xs k 2 = [Value.int (xs (k + 1)), Value.int (xs (k + 2))] from rfl]; exact p_cupsFor hI) st, List.forall_mem_cons.mpr ⟨lcaseI (n := 2) F hl hk hnc hns I kL_18 kE_18 (show Pair 58 161 (argL xs k 2) σ from by rw [show argL xs k 2 = [Value.int (xs (k + 1)), Value.int (xs (k + 2))] from rfl]; exact p_tryFor hI) st, List.forall_mem_cons.mpr ⟨lcaseI (n := 2) F hl hk hnc hns I kL_19 kE_19 (show Pair 59 163 (argL xs k 2) σ from by rw [show argL xs k 2 = [Value.int (xs (k + 1)), Value.int (xs (k + 2))] from rfl]; exact p_smash hI) st, List.forall_mem_cons.mpr ⟨lcaseI (n := 2) F hl hk hnc hns I kL_20 kE_20 (show Pair 60 165 (argL xs k 2) σ from by rw [show argL xs k 2 = [Value.int (xs (k + 1)), Value.int (xs (k + 2))] from rfl]; exact p_liked hI) st, List.forall_mem_cons.mpr ⟨lcaseI (n := 3) F hl hk hnc hns I kL_21 kE_21 (show Pair 61 168 (argL xs k 3) σ from by rw [show argL xs k 3 = [Value.int (xs (k + 1)), Value.int (xs (k + 2)), Value.int (xs (k + 3))] from rfl]; exact p_fits hI) st, List.forall_mem_cons.mpr ⟨lcaseI (n := 2) F hl hk hnc hns I kL_22 kE_22 (show Pair 62 169 (argL xs k 2) σ from by rw [show argL xs k 2 = [Value.int (xs (k + 1)), Value.int (xs (k + 2))] from rfl]; exact p_kinds hI) st, List.forall_mem_cons.mpr ⟨lcaseI (n := 1) F hl hk hnc hns I kL_23 kE_23 (show Pair 63 171 (argL xs k 1) σ from by rw [show argL xs k 1 = [Value.int (xs (k + 1))] from rfl]; exact p_elect hI) st, List.forall_mem_cons.mpr ⟨lcaseJ (n := 4) F hl hk hnc hns I kL_24 kE_24 (show Pair 64 172 (argL xs k 4) σ from by rw [show argL xs k 4 = [Value.int (xs (k + 1)), Value.int (xs (k + 2)), Value.int (xs (k + 3)), Value.int (xs (k + 4))] from rfl]; exact p_odds hI) st, List.forall_mem_cons.mpr ⟨lcaseI (n := 1) F hl hk hnc hns I kL_25 kE_25 (show Pair 65 173 (argL xs k 1) σ from by rw [show argL xs k 1 = [Value.int (xs (k + 1))] from rfl]; exact p_seed hI) st, List.forall_mem_cons.mpr ⟨lcaseI (n := 2) F hl hk hnc hns I kL_26 kE_26 (show Pair 66 174 (argL xs k 2) σ from by rw [show argL xs k 2 = [Value.int (xs (k + 1)), Value.int (xs (k + 2))] from rfl]; exact p_feed hI) st, List.forall_mem_cons.mpr ⟨lcaseI (n := 0) F hl hk hnc hns I kL_27 kE_27 (show Pair 67 175 (argL xs k 0) σ from by rw [show argL xs k 0 = [] from rfl]; exact p_wipe hI) st, List.forall_mem_cons.mpr ⟨lcaseI (n := 0) F hl hk hnc hns I kL_28 kE_28 (show Pair 68 186 (argL xs k 0) σ from by rw [show argL xs k 0 = [] from rfl]; exact p_text hI) st, List.forall_mem_cons.mpr ⟨lcaseI (n := 2) F hl hk hnc hns I kL_29 kE_29 (show Pair 69 188 (argL xs k 2) σ from by rw [show argL xs k 2 = [Value.int (xs (k + 1)), Value.int (xs (k + 2))] from rfl]; exact p_hold hI) st, List.forall_mem_cons.mpr ⟨lcaseI (n := 2) F hl hk hnc hns I kL_30 kE_30 (show Pair 70 189 (argL xs k 2) σ from by rw [show argL xs k 2 = [Value.int (xs (k + 1)), Value.int (xs (k + 2))] from rfl]; exact p_as hI) st, List.forall_mem_cons.mpr ⟨lcaseI (n := 3) F hl hk hnc hns I kL_31 kE_31 (show Pair 71 192 (argL xs k 3) σ from by rw [show argL xs k 3 = [Value.int (xs (k + 1)), Value.int (xs (k + 2)), Value.int (xs (k + 3))] from rfl]; exact p_sheet hI) st, List.forall_mem_cons.mpr ⟨lcaseI (n := 3) F hl hk hnc hns I kL_32 kE_32 (show Pair 72 193 (argL xs k 3) σ from by rw [show argL xs k 3 = [Value.int (xs (k + 1)), Value.int (xs (k + 2)), Value.int (xs (k + 3))] from rfl]; exact p_write hI) st, List.forall_mem_cons.mpr ⟨lcaseI (n := 5) F hl hk hnc hns I kL_33 kE_33 (show Pair 73 194 (argL xs k 5) σ from by rw [show argL xs k 5 = [Value.int (xs (k + 1)), Value.int (xs (k + 2)), Value.int (xs (k + 3)), Value.int (xs (k + 4)), Value.int (xs (k + 5))] from rfl]; exact p_copy hI) st, List.forall_mem_cons.mpr ⟨lcaseI (n := 1) F hl hk hnc hns I kL_34 kE_34 (show Pair 74 197 (argL xs k 1) σ from by rw [show argL xs k 1 = [Value.int (xs (k + 1))] from rfl]; exact p_load hI) st, List.forall_mem_cons.mpr ⟨lcaseI (n := 1) F hl hk hnc hns I kL_35 kE_35 (show Pair 75 198 (argL xs k 1) σ from by rw [show argL xs k 1 = [Value.int (xs (k + 1))] from rfl]; exact p_judge hI) st, List.forall_mem_cons.mpr ⟨lcaseI (n := 0) F hl hk hnc hns I kL_36 kE_36 (show Pair 76 199 (argL xs k 0) σ from by rw [show argL xs k 0 = [] from rfl]; exact p_image hI) st, List.forall_mem_cons.mpr ⟨lcaseI (n := 0) F hl hk hnc hns I kL_37 kE_37 (show Pair 77 200 (argL xs k 0) σ from by rw [show argL xs k 0 = [] from rfl]; exact p_undo hI) st, List.forall_mem_cons.mpr ⟨lcaseI (n := 0) F hl hk hnc hns I kL_38 kE_38 (show Pair 78 201 (argL xs k 0) σ from by rw [show argL xs k 0 = [] from rfl]; exact p_tear hI) st, List.forall_mem_cons.mpr ⟨lcaseI (n := 1) F hl hk hnc hns I kL_39 kE_39 (show Pair 79 202 (argL xs k 1) σ from by rw [show argL xs k 1 = [Value.int (xs (k + 1))] from rfl]; exact p_count hI) st, List.forall_mem_cons.mpr ⟨lcaseI (n := 1) F hl hk hnc hns I kL_40 kE_40 (show Pair 80 203 (argL xs k 1) σ from by rw [show argL xs k 1 = [Value.int (xs (k + 1))] from rfl]; exact p_status hI) st, (fun _ z => by cases z)⟩⟩⟩⟩⟩⟩⟩⟩⟩⟩⟩⟩⟩⟩⟩⟩⟩⟩⟩⟩⟩⟩⟩⟩⟩⟩⟩⟩⟩⟩⟩⟩⟩⟩⟩⟩⟩⟩⟩⟩⟩
theorem law_loop (F : LF p s m meth c b L xs g) (hnc : nc ≤ 600000) (hns : ns ≤ 7302250)
    (fin : ∀ (H1 : Heap) (lc1 : List Loc) (ls1 : Array Slot), va_S (fun q => s.heap.size ≤ q) s.heap H1 lc1 → W p l e room_1 s m #[Value.ref b] below meth c H1 lc1 nc ns Q (F0 m 1452 ls1 [])) : ∀ (n k : Nat) (σ : Sg) (H : Heap) (lc : List Loc) (ls : Array Slot), L ≤ k + n → k ≤ L + 6 → Inv σ → IJ s (fun q => s.heap.size ≤ q) g σ H lc → lv_has ls 4 [(3, .int (nI k)), (2, .ref (gA g 55)), (1, .ref (gA g 42)), (0, .ref b)] → W p l e room_1 s m #[Value.ref b] below meth c H lc nc ns Q (F0 m 18 ls []) := by
  obtain ⟨hx, hb, hml, hown, hts, hX, hbl, hL, hK, hSX⟩ := id F
  have hbA : ¬ (fun q : Nat => s.heap.size ≤ q) b := Nat.not_le.mpr hbl
  intro n
  induction n with
  | zero =>
    intro k σ H lc ls h1 h2 hI I hl
    refine lv_iload_n (k := 3) hx hb dL_18 rfl (lv_at hl 0 rfl) ?_
    refine lv_aload_n (k := 0) hx hb dL_19 rfl (lv_at hl 3 rfl) ?_
    refine va_slen hx hb hX hbl hbA I.2.2 dL_20 ?_
    refine lv_bipush (n := 6) (v := nI 6) hx hb dL_21 (by decide) ?_
    refine lv_isub hx hb dL_23 ?_
    refine lv_icmp_gt (tgt := 1452) hx hb dL_24 (by decide) (fun _ => fin _ _ _ I.2.2) (fun z => ?_)
    refine absurd ?_ z
    rw [Int32.lt_iff_toInt_lt]
    have e1 : (Int32.ofNat L - nI 6).toInt = (L : Int) - 6 := pk_sub_toInt (a := L) (b := 6) (by omega) (by omega)
    rw [e1, nI_toInt (by omega)]
    omega
  | succ n ih =>
    intro k σ H lc ls h1 h2 hI I hl
    refine lv_iload_n (k := 3) hx hb dL_18 rfl (lv_at hl 0 rfl) ?_
    refine lv_aload_n (k := 0) hx hb dL_19 rfl (lv_at hl 3 rfl) ?_
    refine va_slen hx hb hX hbl hbA I.2.2 dL_20 ?_
    refine lv_bipush (n := 6) (v := nI 6) hx hb dL_21 (by decide) ?_
    refine lv_isub hx hb dL_23 ?_
    refine lv_icmp_gt (tgt := 1452) hx hb dL_24 (by decide) (fun _ => fin _ _ _ I.2.2) (fun z => ?_)
    have hk6 : k + 6 ≤ L := by
      rw [Int32.lt_iff_toInt_lt] at z
      have e1 : (Int32.ofNat L - nI 6).toInt = (L : Int) - 6 := pk_sub_toInt (a := L) (b := 6) (by omega) (by omega)
      rw [e1, nI_toInt (by omega)] at z
      omega
    refine lv_aload_n (k := 0) hx hb dL_27 rfl (lv_at hl 3 rfl) ?_
    refine lv_iload_n (k := 3) hx hb dL_28 rfl (lv_at hl 0 rfl) ?_
    refine va_sld hx hb hX hbl hbA I.2.2 (vp_in_nI (n := k) (by omega) (by omega)) dL_29 ?_
    refine lv_bipush (n := 63) (v := 63) hx hb dL_30 (by decide) ?_
    refine lv_iand hx hb dL_32 ?_
    obtain ⟨i, hi, ei⟩ := and63 (xs (nI k).toNatClampNeg)
    rw [ei]
    have stp : ∀ (σ2 : Sg) (H1 : Heap) (lc1 : List Loc), Inv σ2 → IJ s (fun q => s.heap.size ≤ q) g σ2 H1 lc1 → W p l e room_1 s m #[Value.ref b] below meth c H1 lc1 nc ns Q (F0 m 1446 ls []) := fun σ2 H1 lc1 hI2 I2 => by
      refine lv_iinc (k := 0) (v := nI (k + 6)) (lv' := [(3, .int (nI (k + 6))), (2, .ref (gA g 55)), (1, .ref (gA g 42)), (0, .ref b)]) hx hb dL_1446 hl rfl (nI_add k 6) (by decide) rfl (fun ls hl => ?_)
      refine lv_goto (tgt := 18) hx hb dL_1449 (by decide) ?_
      exact ih (k + 6) σ2 H1 lc1 ls (by omega) (by omega) hI2 I2 hl
    have ti : (nI i).toInt = (i : Int) := nI_toInt (by omega)
    by_cases hi41 : i < 41
    · obtain ⟨o1, o2⟩ := of_at i hi41
      refine lv_tableIn (tgt := caT.getD i 0) (off := ofT.getD i 0) hx hb dL_33 (by rw [ti]; omega) (by rw [ti]; omega) (by rw [ti, show ((i : Int) - 0).toNat = i by omega]; exact o1) o2 ?_
      exact lcases F hl hk6 hnc hns hI I stp i (by have := List.mem_range.mpr hi41; exact this)
    · exact lv_tableOut (tgt := 1446) hx hb dL_33 (Or.inr (by rw [ti]; omega)) (by decide) (stp σ H lc hI I)
end LW
