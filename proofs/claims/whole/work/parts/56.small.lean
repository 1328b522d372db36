/-! constructors of a teapot, a sheet, the tape -/
theorem wd_0 : Cond.methodLink RX3 3 Lib.objectInit ∈ tbg := inJ (by decide +kernel) (by decide +kernel)
theorem wd_1 : Cond.instanceMethod Lib.objectInit ∈ tbg := inJ (by decide +kernel) (by decide +kernel)
theorem wd_2 : Cond.code Lib.objectInit ⟨#[0xb1]⟩ 1 none ∈ tbg := inJ (by decide +kernel) (by decide +kernel)
theorem wd_3 : Cond.methodLink RX1 3 Lib.objectInit ∈ tbg := inJ (by decide +kernel) (by decide +kernel)
theorem wd_4 : Cond.arrayClass .int ∈ tbg := inJ (by decide +kernel) (by decide +kernel)
theorem wd_5 : Cond.fieldLink RX1 9 "PourElection$Sheet" "numbers" "[I" ∈ tbg := inJ (by decide +kernel) (by decide +kernel)
theorem wd_6 : Cond.methodLink RX2 3 Lib.objectInit ∈ tbg := inJ (by decide +kernel) (by decide +kernel)
theorem wd_7 : Cond.fieldLink RX2 9 "PourElection$Tape" "bytes" "[I" ∈ tbg := inJ (by decide +kernel) (by decide +kernel)
def wC3 (g : GW) (h0 : Nat) (q : Nat → Nat) : va_W := [(h0, .inr (3, [.int 0, .int 0, .int 0, .int 0, .int 0, .int 0, .int 0]))]
theorem dc3_0 : decode cX3_init 0 = .ok (.aload_n 0, 1) := by decide +kernel
theorem dc3_1 : decode cX3_init 1 = .ok (.invokespecial 3, 3) := by decide +kernel
theorem dc3_4 : decode cX3_init 4 = .ok (.return_, 1) := by decide +kernel
def wC1 (g : GW) (h0 : Nat) (q : Nat → Nat) : va_W := [(h0, .inr (1, [.ref (q 1), .int 0, .int 0])), ((q 1), .inl (gC g 0, 40, .inl (arrS [])))]
theorem dc1_0 : decode cX1_init 0 = .ok (.aload_n 0, 1) := by decide +kernel
theorem dc1_1 : decode cX1_init 1 = .ok (.invokespecial 3, 3) := by decide +kernel
theorem dc1_4 : decode cX1_init 4 = .ok (.aload_n 0, 1) := by decide +kernel
theorem dc1_5 : decode cX1_init 5 = .ok (.bipush 40, 2) := by decide +kernel
theorem dc1_7 : decode cX1_init 7 = .ok (.newarray .int, 2) := by decide +kernel
theorem dc1_9 : decode cX1_init 9 = .ok (.putfield 9, 3) := by decide +kernel
theorem dc1_12 : decode cX1_init 12 = .ok (.return_, 1) := by decide +kernel
def wC2 (g : GW) (h0 : Nat) (q : Nat → Nat) : va_W := [(h0, .inr (2, [.ref (q 1), .int 0, .int 0, .int 0, .int 0, .int 0])), ((q 1), .inl (gC g 0, 120, .inl (arrS [])))]
theorem dc2_0 : decode cX2_init 0 = .ok (.aload_n 0, 1) := by decide +kernel
theorem dc2_1 : decode cX2_init 1 = .ok (.invokespecial 3, 3) := by decide +kernel
theorem dc2_4 : decode cX2_init 4 = .ok (.aload_n 0, 1) := by decide +kernel
theorem dc2_5 : decode cX2_init 5 = .ok (.bipush 120, 2) := by decide +kernel
theorem dc2_7 : decode cX2_init 7 = .ok (.newarray .int, 2) := by decide +kernel
theorem dc2_9 : decode cX2_init 9 = .ok (.putfield 9, 3) := by decide +kernel
theorem dc2_12 : decode cX2_init 12 = .ok (.return_, 1) := by decide +kernel
set_option maxHeartbeats 40000000 in
set_option maxRecDepth 20000 in
theorem ct_X3 {l : Launch} {g : GW} {h0 sz : Nat} : MetC l g yX3_init cX3_init 1 1 0 0 12 h0 [(h0, .inr (3, [.int 0, .int 0, .int 0, .int 0, .int 0, .int 0, .int 0]))] sz (wC3 g h0) := by
  refine cmk (by decide +kernel) rfl (by decide) ?_
  intro p e s m below meth c A ls F hl
  obtain ⟨hx, hb, hml, hown, hts, hlk, hrt, hK, hN, hX, hA, hP, hD, hin⟩ := F
  have hS : va_S A s.heap s.heap [] := va_S.rf
  refine lv_aload_n (k := 0) hx hb dc3_0 rfl (lv_at hl 0 rfl) ?_
  refine W.objInit hx hb hown (hts _ wd_0) (hts _ wd_1) (hts _ wd_2) rfl (by rw [hml]; exact hl.1) rfl dc3_1 (Nat.le_of_ble_eq_true rfl) (Nat.le_of_ble_eq_true rfl) ?_
  refine W.eq (g2 := F0 m 4 ls []) rfl ?_
  have hP9 := hP.sub (ws' := wC3 g h0 (fun i => [0].getD i 0)) [0] rfl
  have hD9 := hD.sub (ws' := wC3 g h0 (fun i => [0].getD i 0)) [0] (by decide) rfl
  refine W.widen (k := 0) (n := 0) (Nat.le_of_ble_eq_true rfl) (Nat.le_of_ble_eq_true rfl) ?_
  exact W.vret hx hb hrt (fun t ht hW => ⟨⟨rfl, _, by rw [ht]; exact hP9, hD9⟩, hS.F ht⟩) hS.2.2 dc3_4
set_option maxHeartbeats 40000000 in
set_option maxRecDepth 20000 in
theorem ct_X1 {l : Launch} {g : GW} {h0 sz : Nat} : MetC l g yX1_init cX1_init 1 1 1 40 12 h0 [(h0, .inr (1, [.null, .int 0, .int 0]))] sz (wC1 g h0) := by
  refine cmk (by decide +kernel) rfl (by decide) ?_
  intro p e s m below meth c A ls F hl
  obtain ⟨hx, hb, hml, hown, hts, hlk, hrt, hK, hN, hX, hA, hP, hD, hin⟩ := F
  have hS : va_S A s.heap s.heap [] := va_S.rf
  refine lv_aload_n (k := 0) hx hb dc1_0 rfl (lv_at hl 0 rfl) ?_
  refine W.objInit hx hb hown (hts _ wd_3) (hts _ wd_1) (hts _ wd_2) rfl (by rw [hml]; exact hl.1) rfl dc1_1 (Nat.le_of_ble_eq_true rfl) (Nat.le_of_ble_eq_true rfl) ?_
  refine W.eq (g2 := F0 m 4 ls []) rfl ?_
  refine lv_aload_n (k := 0) hx hb dc1_4 rfl (lv_at hl 0 rfl) ?_
  refine lv_bipush (n := 40) (v := 40) hx hb dc1_5 (by decide) ?_
  refine nwI (N := 40) hx hb (hts _ wd_4) hK hP hD hS hA (by decide) (by decide) (Nat.le_of_ble_eq_true rfl) (Nat.le_of_ble_eq_true rfl) dc1_7 (fun q1 H hP hD hS => ?_)
  have hP : va_P (gD g) vwCl [(h0, .inr (1, [.null, .int 0, .int 0])), (q1, .inl (gC g 0, 40, .inl (arrS [])))] H := hP
  have hD : va_D A [(h0, .inr (1, [.null, .int 0, .int 0])), (q1, .inl (gC g 0, 40, .inl (arrS [])))] := hD
  refine va_putF (D := gD g) (ci := 1) (v := .ref q1) (ty := .array .int) (C := RX1) (T := TX1) (N := 3) hx hb hts (in_clg (ci := 1) (q := (RX1, TX1, 3)) rfl) tyX1 tyX1_ok nmX1 hown hK hP hD hS 0 rfl rfl 0 (by decide) (hts _ wd_5) (fun _ h9 => h9) rfl hin rfl (by decide +kernel) rfl rfl (Nat.le_of_ble_eq_true rfl) dc1_9 (fun H locs hP hD hS => ?_)
  have hP : va_P (gD g) vwCl [(h0, .inr (1, [.ref q1, .int 0, .int 0])), (q1, .inl (gC g 0, 40, .inl (arrS [])))] H := hP
  have hD : va_D A [(h0, .inr (1, [.ref q1, .int 0, .int 0])), (q1, .inl (gC g 0, 40, .inl (arrS [])))] := hD
  have hP9 := hP.sub (ws' := wC1 g h0 (fun i => [0, q1].getD i 0)) [0, 1] rfl
  have hD9 := hD.sub (ws' := wC1 g h0 (fun i => [0, q1].getD i 0)) [0, 1] (by decide) rfl
  refine W.widen (k := 1) (n := 40) (Nat.le_of_ble_eq_true rfl) (Nat.le_of_ble_eq_true rfl) ?_
  exact W.vret hx hb hrt (fun t ht hW => ⟨⟨rfl, _, by rw [ht]; exact hP9, hD9⟩, hS.F ht⟩) hS.2.2 dc1_12
set_option maxHeartbeats 40000000 in
set_option maxRecDepth 20000 in
theorem ct_X2 {l : Launch} {g : GW} {h0 sz : Nat} : MetC l g yX2_init cX2_init 1 1 1 120 12 h0 [(h0, .inr (2, [.null, .int 0, .int 0, .int 0, .int 0, .int 0]))] sz (wC2 g h0) := by
  refine cmk (by decide +kernel) rfl (by decide) ?_
  intro p e s m below meth c A ls F hl
  obtain ⟨hx, hb, hml, hown, hts, hlk, hrt, hK, hN, hX, hA, hP, hD, hin⟩ := F
  have hS : va_S A s.heap s.heap [] := va_S.rf
  refine lv_aload_n (k := 0) hx hb dc2_0 rfl (lv_at hl 0 rfl) ?_
  refine W.objInit hx hb hown (hts _ wd_6) (hts _ wd_1) (hts _ wd_2) rfl (by rw [hml]; exact hl.1) rfl dc2_1 (Nat.le_of_ble_eq_true rfl) (Nat.le_of_ble_eq_true rfl) ?_
  refine W.eq (g2 := F0 m 4 ls []) rfl ?_
  refine lv_aload_n (k := 0) hx hb dc2_4 rfl (lv_at hl 0 rfl) ?_
  refine lv_bipush (n := 120) (v := 120) hx hb dc2_5 (by decide) ?_
  refine nwI (N := 120) hx hb (hts _ wd_4) hK hP hD hS hA (by decide) (by decide) (Nat.le_of_ble_eq_true rfl) (Nat.le_of_ble_eq_true rfl) dc2_7 (fun q1 H hP hD hS => ?_)
  have hP : va_P (gD g) vwCl [(h0, .inr (2, [.null, .int 0, .int 0, .int 0, .int 0, .int 0])), (q1, .inl (gC g 0, 120, .inl (arrS [])))] H := hP
  have hD : va_D A [(h0, .inr (2, [.null, .int 0, .int 0, .int 0, .int 0, .int 0])), (q1, .inl (gC g 0, 120, .inl (arrS [])))] := hD
  refine va_putF (D := gD g) (ci := 2) (v := .ref q1) (ty := .array .int) (C := RX2) (T := TX2) (N := 6) hx hb hts (in_clg (ci := 2) (q := (RX2, TX2, 6)) rfl) tyX2 tyX2_ok nmX2 hown hK hP hD hS 0 rfl rfl 0 (by decide) (hts _ wd_7) (fun _ h9 => h9) rfl hin rfl (by decide +kernel) rfl rfl (Nat.le_of_ble_eq_true rfl) dc2_9 (fun H locs hP hD hS => ?_)
  have hP : va_P (gD g) vwCl [(h0, .inr (2, [.ref q1, .int 0, .int 0, .int 0, .int 0, .int 0])), (q1, .inl (gC g 0, 120, .inl (arrS [])))] H := hP
  have hD : va_D A [(h0, .inr (2, [.ref q1, .int 0, .int 0, .int 0, .int 0, .int 0])), (q1, .inl (gC g 0, 120, .inl (arrS [])))] := hD
  have hP9 := hP.sub (ws' := wC2 g h0 (fun i => [0, q1].getD i 0)) [0, 1] rfl
  have hD9 := hD.sub (ws' := wC2 g h0 (fun i => [0, q1].getD i 0)) [0, 1] (by decide) rfl
  refine W.widen (k := 1) (n := 120) (Nat.le_of_ble_eq_true rfl) (Nat.le_of_ble_eq_true rfl) ?_
  exact W.vret hx hb hrt (fun t ht hW => ⟨⟨rfl, _, by rw [ht]; exact hP9, hD9⟩, hS.F ht⟩) hS.2.2 dc2_12
