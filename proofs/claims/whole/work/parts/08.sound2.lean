/-! steps: switches, fields, rows of numbers, strings, returns -/
theorem toInt_succ {k : Int32} (h0 : 0 ≤ k.toInt) (h : k.toInt + 1 < 2147483648) : (k + 1).toInt = k.toInt + 1 := by
  rw [Int32.toInt_add, show (1 : Int32).toInt = 1 from rfl]
  exact Int.bmod_eq_of_le (by omega) (by omega)
theorem tsw_out {x : Int32} {d : Nat} : ∀ (t : List Nat) (k : Int32), 0 ≤ k.toInt → k.toInt + t.length < 2147483648 → (x.toInt < k.toInt ∨ k.toInt + t.length ≤ x.toInt) → tsw x d k t = d := by
  intro t
  induction t with
  | nil => intro k _ _ _; rfl
  | cons b t ih =>
    intro k h0 h1 h2
    simp only [List.length_cons, Int.natCast_add, Int.natCast_one] at h1 h2
    have hs := toInt_succ h0 (by omega)
    have hne : ¬ x = k := by
      intro h
      subst h
      omega
    rw [tsw, if_neg hne]
    exact ih (k + 1) (by omega) (by omega) (by omega)
theorem tsw_in {x : Int32} {d : Nat} : ∀ (t : List Nat) (k : Int32) (i : Nat), 0 ≤ k.toInt → k.toInt + t.length < 2147483648 → i < t.length → x.toInt = k.toInt + i → tsw x d k t = t.getD i 0 := by
  intro t
  induction t with
  | nil => intro k i _ _ h _; simp at h
  | cons b t ih =>
    intro k i h0 h1 h2 h3
    simp only [List.length_cons, Int.natCast_add, Int.natCast_one] at h1 h2
    have hs := toInt_succ h0 (by omega)
    rw [tsw]
    cases i with
    | zero =>
      rw [if_pos (Int32.toInt_inj.mp (by omega))]
      rfl
    | succ i =>
      have hne : ¬ x = k := by
        intro h
        subst h
        omega
      rw [if_neg hne]
      exact ih (k + 1) i (by omega) (by omega) (by omega) (by omega)
theorem shp_in {k : Nat} (h : k < 67) : (shp k).1 ≤ 4 := by
  have h1 : (List.range 67).all (fun k => decide ((shp k).1 ≤ 4)) = true := by decide +kernel
  exact of_decide_eq_true (List.all_eq_true.mp h1 k (List.mem_range.mpr h))
theorem getf_spec {k ci j : Nat} {σ : Sg} {v : Value} (h : getf k ci j σ = some v) : ∃ fs o, shp k = (0, ci, fs) ∧ fs[j]? = some o ∧ v = (match o with
  | none => Value.int (σ k j)
  | some r => .ref r) := by
  unfold getf at h
  split at h
  · rename_i c fs hs
    split at h
    · rename_i hc
      subst hc
      split at h
      · rename_i ho
        cases h
        exact ⟨fs, none, hs, ho, rfl⟩
      · rename_i r ho
        cases h
        exact ⟨fs, some r, hs, ho, rfl⟩
      · cases h
    · cases h
  · cases h
theorem canp_spec {k ci j : Nat} (h : canp k ci j = true) : ∃ fs, shp k = (0, ci, fs) ∧ fs[j]? = some none := by
  unfold canp at h
  split at h
  · rename_i c fs hs
    simp only [Bool.and_eq_true, beq_iff_eq] at h
    obtain ⟨rfl, h⟩ := h
    exact ⟨fs, hs, h⟩
  · cases h
theorem alen_spec {k : Nat} (h : 0 < alen k) : k < 67 ∧ ∃ rs, shp k = (1, alen k, rs) := by
  have e : ∃ n rs, shp k = (1, n, rs) := by
    unfold alen at h
    split at h
    · rename_i n rs hs
      exact ⟨n, rs, hs⟩
    · omega
  obtain ⟨n, rs, hs⟩ := e
  refine ⟨shp_lt (by rw [hs]; simp), rs, ?_⟩
  have : alen k = n := by simp [alen, hs]
  rw [this]
  exact hs
theorem cel_obj {g : GW} {σ : Sg} {k ci : Nat} {fs : List (Option Nat)} (h : shp k = (0, ci, fs)) : cel g σ k = .inr (ci, fvs g σ k fs) := by
  unfold cel
  rw [h]
  rfl
theorem cel_arr {g : GW} {σ : Sg} {k n : Nat} {rs : List (Option Nat)} (h : shp k = (1, n, rs)) : cel g σ k = .inl (gC g 0, n, .inl (σ k)) := by
  unfold cel
  rw [h]
  rfl
theorem aref_spec {k i q : Nat} (h : aref k i = some q) : ∃ z n rs, (z = 2 ∨ z = 3 ∨ z = 4) ∧ shp k = (z, n, rs) ∧ i < n ∧ rs.getD i none = some q := by
  unfold aref at h
  split at h
  · rename_i n rs hs
    split at h
    · exact ⟨2, n, rs, Or.inl rfl, hs, by assumption, h⟩
    · cases h
  · rename_i n rs hs
    split at h
    · exact ⟨3, n, rs, Or.inr (Or.inl rfl), hs, by assumption, h⟩
    · cases h
  · rename_i n rs hs
    split at h
    · exact ⟨4, n, rs, Or.inr (Or.inr rfl), hs, by assumption, h⟩
    · cases h
  · cases h
theorem cel_ref {g : GW} {σ : Sg} {k z n : Nat} {rs : List (Option Nat)} (hz : z = 2 ∨ z = 3 ∨ z = 4) (h : shp k = (z, n, rs)) : cel g σ k = .inl (gC g (z - 1), n, .inr (.inr (.inr (.inr (fun j => (rs.getD j none).map (gA g)))))) := by
  unfold cel
  rw [h]
  rcases hz with rfl | rfl | rfl <;> rfl
theorem fl_of {y ix ci a : Nat} (h : FLt.any (fun q => q.1 == mC y && q.2.1 == ix && q.2.2.1 == ci && q.2.2.2.1 == a) = true) : ∃ rr : vw_C, vwCl[ci]? = some rr ∧ Cond.fieldLink (cnS (mC y)) ix rr.1 (rr.2.1 a).2.1 (rr.2.1 a).2.2.1 ∈ tbg ∧ a < rr.2.2 ∧ (rr.2.1 a).1 = rr.1 := by
  obtain ⟨q, hq, h1⟩ := List.any_eq_true.mp h
  simp only [Bool.and_eq_true, beq_iff_eq] at h1
  obtain ⟨⟨⟨e1, e2⟩, e3⟩, e4⟩ := h1
  have h2 := List.all_eq_true.mp fl_ok q hq
  unfold flOk at h2
  rw [e3, e1, e2, e4] at h2
  split at h2
  · rename_i rr hr
    simp only [Bool.and_eq_true, decide_eq_true_eq] at h2
    exact ⟨rr, hr, inT_mem h2.1.1, h2.1.2, h2.2⟩
  · cases h2
theorem nf_of {ci a : Nat} {b : Bool} {rr : vw_C} (hr : vwCl[ci]? = some rr) (h : nfT.any (fun q => q.1 == ci && q.2.1 == a && q.2.2 == b) = true) : (rr.2.1 a).2.2.2 = false ∧ parseFieldDescriptor (rr.2.1 a).2.2.1 = some (if b then .boolean else .int) := by
  obtain ⟨q, hq, h1⟩ := List.any_eq_true.mp h
  simp only [Bool.and_eq_true, beq_iff_eq] at h1
  obtain ⟨⟨e1, e2⟩, e3⟩ := h1
  have h2 := List.all_eq_true.mp nf_ok q hq
  unfold nfOk at h2
  rw [e1, hr, e2, e3] at h2
  simp only [Bool.and_eq_true, decide_eq_true_eq] at h2
  exact ⟨h2.1.2, h2.2⟩
theorem up2_ne {σ : Sg} {k j : Nat} {x : Int32} {i : Nat} (h : i ≠ k) : up2 σ k j x i = σ i := by
  funext b
  simp [up2, h]
theorem up2_row {σ : Sg} {k j : Nat} {x : Int32} : up2 σ k j x k = upd (σ k) j x := by
  funext b
  simp [up2, upd]
theorem upA_ne {σ : Sg} {k : Nat} {f : Nat → Int32} {i : Nat} (h : i ≠ k) : upA σ k f i = σ i := by
  simp [upA, h]
theorem upA_eq {σ : Sg} {k : Nat} {f : Nat → Int32} : upA σ k f k = f := by
  simp [upA]
theorem ws_put {g : GW} {σ : Sg} {k j ci : Nat} {x : Int32} {fs : List (Option Nat)} (hs : shp k = (0, ci, fs)) (hj : fs[j]? = some none) : (wsW g σ).set k (gA g k, .inr (ci, (fvs g σ k fs).set j (.int x))) = wsW g (up2 σ k j x) := by
  refine ws_set (shp_lt (by rw [hs]; simp)) ?_ (fun i _ hi => cel_ext (up2_ne hi))
  rw [cel_obj hs, fvs_put hj]
theorem ws_ast {g : GW} {σ : Sg} {k n : Nat} {f : Nat → Int32} {rs : List (Option Nat)} (hs : shp k = (1, n, rs)) : (wsW g σ).set k (gA g k, .inl (gC g 0, n, .inl f)) = wsW g (upA σ k f) := by
  refine ws_set (shp_lt (by rw [hs]; simp)) ?_ (fun i _ hi => cel_ext (upA_ne hi))
  rw [cel_arr hs, upA_eq]
theorem up2_upA {σ : Sg} {k j : Nat} {x : Int32} : up2 σ k j x = upA σ k (upd (σ k) j x) := by
  funext i
  by_cases h : i = k
  · subst h; rw [up2_row, upA_eq]
  · rw [up2_ne h, upA_ne h]
theorem cast_ml {ls : Array Slot} {c : Code} {n : Nat} (h : c.maxLocals = n) (h2 : ls.size = n) : c.maxLocals = ls.size := h.trans h2.symm
section SND
variable {p : Program} {l : Launch} {e : Env} {s : State} {m : MethodId} {args : Array Value} {below : List Frame} {meth : Method} {c : Code} {Qf : State → Prop} {A : Nat → Prop} {g : GW} {y : Nat}
variable {pc len a : Nat} {k0 : Int32} {t : List Nat} {r r' : List Ins} {L L' st s' : List Value} {σ σ' : Sg} {j : Instr} {H : Heap} {lc : List Loc} {ls : Array Slot}
theorem so_43 (hq : bp0 y a = some pc) (hs : h43 y a k0 t r L st σ = some (.inl (r', L', s', σ'))) (I : IN s A g y L σ H lc ls) (kk : KK p l e s m args below meth c Qf A g y 43 r r' pc len L' s' σ') : W p l e (rmM y) s m args below meth c H lc 0 0 Qf (F0 m pc ls (st.map (cv g))) := by
  unfold h43 at hs
  obtain ⟨rfl, rfl, rfl, rfl⟩ := go_inj hs
  exact kk _ _ _ _ (Or.inr ⟨a, rfl, hq⟩) I
theorem so_27 (F : FR p s m args meth c A g y) (hd : decode (mB y) pc = .ok (j, len)) (hj : j27 y 0 j len = true) (hs : h27 y a k0 t r L st σ = some (.inl (r', L', s', σ'))) (I : IN s A g y L σ H lc ls) (kk : KK p l e s m args below meth c Qf A g y 27 r r' pc len L' s' σ') : W p l e (rmM y) s m args below meth c H lc 0 0 Qf (F0 m pc ls (st.map (cv g))) := by
  obtain ⟨hx, hb, hml, hown, hts, hlk, hrt, hK, hX, hA⟩ := F
  simp only [j27, Bool.and_eq_true, decide_eq_true_eq] at hj
  obtain ⟨⟨⟨q1, q2⟩, q3⟩, rfl⟩ := hj
  split at q1
  · rename_i ix
    obtain ⟨q, hq, q4⟩ := List.any_eq_true.mp q1
    simp only [Bool.and_eq_true, beq_iff_eq] at q4
    have q5 := List.all_eq_true.mp mh_ok q hq
    unfold mhOk at q5
    rw [q4.1.1, q4.1.2, q4.2] at q5
    have hl := hts _ (inT_mem q5)
    have hw := mhp_ok
    simp only [Bool.and_eq_true] at hw
    obtain ⟨⟨⟨⟨⟨⟨m1, m2⟩, m3⟩, m4⟩, m5⟩, m6⟩, m7⟩ := hw
    unfold h27 at hs
    split at hs
    · split at hs
      · rename_i hr
        obtain ⟨rfl, rfl, rfl, rfl⟩ := go_inj hs
        exact va_mmax hx hb (cast_ml hml I.1.1) hown hl (hts _ (inT_mem m2)) (hts _ (inT_mem m7)) (hts _ (inT_mem m1)) q2 (by rw [rsum_cv]; show _ + 13 ≤ mO y; omega) (Nat.zero_le _) (Nat.zero_le _) hd (kk _ _ _ _ (Or.inl ⟨rfl, rfl, rfl⟩) I)
      · cases hs
    · cases hs
  · cases q1
theorem so_28 (F : FR p s m args meth c A g y) (hd : decode (mB y) pc = .ok (j, len)) (hj : j27 y 1 j len = true) (hs : h28 y a k0 t r L st σ = some (.inl (r', L', s', σ'))) (I : IN s A g y L σ H lc ls) (kk : KK p l e s m args below meth c Qf A g y 28 r r' pc len L' s' σ') : W p l e (rmM y) s m args below meth c H lc 0 0 Qf (F0 m pc ls (st.map (cv g))) := by
  obtain ⟨hx, hb, hml, hown, hts, hlk, hrt, hK, hX, hA⟩ := F
  simp only [j27, Bool.and_eq_true, decide_eq_true_eq] at hj
  obtain ⟨⟨⟨q1, q2⟩, q3⟩, rfl⟩ := hj
  split at q1
  · rename_i ix
    obtain ⟨q, hq, q4⟩ := List.any_eq_true.mp q1
    simp only [Bool.and_eq_true, beq_iff_eq] at q4
    have q5 := List.all_eq_true.mp mh_ok q hq
    unfold mhOk at q5
    rw [q4.1.1, q4.1.2, q4.2] at q5
    have hl := hts _ (inT_mem q5)
    have hw := mhp_ok
    simp only [Bool.and_eq_true] at hw
    obtain ⟨⟨⟨⟨⟨⟨m1, m2⟩, m3⟩, m4⟩, m5⟩, m6⟩, m7⟩ := hw
    unfold h28 at hs
    split at hs
    · split at hs
      · rename_i hr
        obtain ⟨rfl, rfl, rfl, rfl⟩ := go_inj hs
        exact va_mmin hx hb (cast_ml hml I.1.1) hown hl (hts _ (inT_mem m4)) (hts _ (inT_mem m7)) (hts _ (inT_mem m3)) q2 (by rw [rsum_cv]; show _ + 13 ≤ mO y; omega) (Nat.zero_le _) (Nat.zero_le _) hd (kk _ _ _ _ (Or.inl ⟨rfl, rfl, rfl⟩) I)
      · cases hs
    · cases hs
  · cases q1
theorem so_29 (F : FR p s m args meth c A g y) (hd : decode (mB y) pc = .ok (j, len)) (hj : j27 y 2 j len = true) (hs : h29 y a k0 t r L st σ = some (.inl (r', L', s', σ'))) (I : IN s A g y L σ H lc ls) (kk : KK p l e s m args below meth c Qf A g y 29 r r' pc len L' s' σ') : W p l e (rmM y) s m args below meth c H lc 0 0 Qf (F0 m pc ls (st.map (cv g))) := by
  obtain ⟨hx, hb, hml, hown, hts, hlk, hrt, hK, hX, hA⟩ := F
  simp only [j27, Bool.and_eq_true, decide_eq_true_eq] at hj
  obtain ⟨⟨⟨q1, q2⟩, q3⟩, rfl⟩ := hj
  split at q1
  · rename_i ix
    obtain ⟨q, hq, q4⟩ := List.any_eq_true.mp q1
    simp only [Bool.and_eq_true, beq_iff_eq] at q4
    have q5 := List.all_eq_true.mp mh_ok q hq
    unfold mhOk at q5
    rw [q4.1.1, q4.1.2, q4.2] at q5
    have hl := hts _ (inT_mem q5)
    have hw := mhp_ok
    simp only [Bool.and_eq_true] at hw
    obtain ⟨⟨⟨⟨⟨⟨m1, m2⟩, m3⟩, m4⟩, m5⟩, m6⟩, m7⟩ := hw
    unfold h29 at hs
    split at hs
    · split at hs
      · rename_i hr
        obtain ⟨rfl, rfl, rfl, rfl⟩ := go_inj hs
        exact va_mabs hx hb (cast_ml hml I.1.1) hown hl (hts _ (inT_mem m6)) (hts _ (inT_mem m7)) (hts _ (inT_mem m5)) q2 (by rw [rsum_cv]; show _ + 13 ≤ mO y; omega) (Nat.zero_le _) (Nat.zero_le _) hd (kk _ _ _ _ (Or.inl ⟨rfl, rfl, rfl⟩) I)
      · cases hs
    · cases hs
  · cases q1
theorem so_44 (F : FR p s m args meth c A g y) (hd : decode (mB y) pc = .ok (j, len)) (hj : j44 y a pc k0 t j = true) (hs : h44 y a k0 t r L st σ = some (.inl (r', L', s', σ'))) (I : IN s A g y L σ H lc ls) (kk : KK p l e s m args below meth c Qf A g y 44 r r' pc len L' s' σ') : W p l e (rmM y) s m args below meth c H lc 0 0 Qf (F0 m pc ls (st.map (cv g))) := by
  obtain ⟨hx, hb, hml, hown, hts, hlk, hrt, hK, hX, hA⟩ := F
  unfold j44 at hj
  split at hj
  · rename_i d lo hi offs
    simp only [Bool.and_eq_true, decide_eq_true_eq] at hj
    obtain ⟨⟨⟨⟨⟨⟨⟨q1, q2⟩, q3⟩, q4⟩, q5⟩, q6⟩, q7⟩, q8⟩ := hj
    unfold h44 at hs
    split at hs
    · rename_i x st0
      obtain ⟨rfl, rfl, rfl, rfl⟩ := go_inj hs
      by_cases hr : x.toInt < lo ∨ hi < x.toInt
      · obtain ⟨q, hq, e⟩ := tgt_eq q1
        refine lv_tableOut (tgt := q) hx hb hd hr e (kk _ _ _ _ (Or.inr ⟨a, ?_, hq⟩) I)
        rw [tsw_out t k0 (by omega) (by omega) (by omega)]
      · have h1 : ¬ x.toInt < lo := fun z => hr (Or.inl z)
        have h2 : ¬ hi < x.toInt := fun z => hr (Or.inr z)
        have hi3 : (x.toInt - lo).toNat < t.length := by omega
        have h4 := List.all_eq_true.mp q5 _ (List.mem_range.mpr hi3)
        split at h4
        · rename_i off hoff
          obtain ⟨q, hq, e⟩ := tgt_eq h4
          refine lv_tableIn (tgt := q) hx hb hd h1 h2 hoff e (kk _ _ _ _ (Or.inr ⟨_, ?_, hq⟩) I)
          rw [tsw_in t k0 (x.toInt - lo).toNat (by omega) (by omega) hi3 (by omega)]
        · cases h4
    · cases hs
  · cases hj
theorem so_45 (F : FR p s m args meth c A g y) (hd : decode (mB y) pc = .ok (j, len)) (hj : j45 y a pc t j = true) (hs : h45 y a k0 t r L st σ = some (.inl (r', L', s', σ'))) (I : IN s A g y L σ H lc ls) (kk : KK p l e s m args below meth c Qf A g y 45 r r' pc len L' s' σ') : W p l e (rmM y) s m args below meth c H lc 0 0 Qf (F0 m pc ls (st.map (cv g))) := by
  obtain ⟨hx, hb, hml, hown, hts, hlk, hrt, hK, hX, hA⟩ := F
  unfold j45 at hj
  split at hj
  · rename_i d ps
    simp only [Bool.and_eq_true] at hj
    obtain ⟨⟨q1, q2⟩, q3⟩ := hj
    split at q3
    · rename_i k1 o1 k2 o2 n1 b1 n2 b2 hps
      simp only [Bool.and_eq_true, decide_eq_true_eq] at q3
      obtain ⟨⟨⟨⟨⟨e1, e2⟩, e3⟩, e4⟩, e5⟩, e6⟩ := q3
      unfold h45 at hs
      split at hs
      · rename_i x st0
        obtain ⟨rfl, rfl, rfl, rfl⟩ := go_inj hs
        have a1 : (nI n1).toInt = k1 := by rw [nI_toInt (by omega), e1]
        have a2 : (nI n2).toInt = k2 := by rw [nI_toInt (by omega), e2]
        by_cases c1 : x = nI n1
        · obtain ⟨q, hq, e⟩ := tgt_eq e5
          refine lv_lookup (tgt := q) hx hb hd (of_decide_eq_true q2) (off := o1) ?_ e (kk _ _ _ _ (Or.inr ⟨b1, ?_, hq⟩) I)
          · rw [hps, Op.lookupswitch.offset_cons, if_pos (by rw [c1, a1])]
          · rw [lsw, if_pos c1]
        · by_cases c2 : x = nI n2
          · obtain ⟨q, hq, e⟩ := tgt_eq e6
            refine lv_lookup (tgt := q) hx hb hd (of_decide_eq_true q2) (off := o2) ?_ e (kk _ _ _ _ (Or.inr ⟨b2, ?_, hq⟩) I)
            · rw [hps, lv_osw c1 a1, Op.lookupswitch.offset_cons, if_pos (by rw [c2, a2])]
            · rw [lsw, if_neg c1, lsw, if_pos c2]
          · obtain ⟨q, hq, e⟩ := tgt_eq q1
            refine lv_lookup (tgt := q) hx hb hd (of_decide_eq_true q2) (off := d) ?_ e (kk _ _ _ _ (Or.inr ⟨a, ?_, hq⟩) I)
            · rw [hps, lv_osw c1 a1, lv_osw c2 a2, Op.lookupswitch.offset_nil]
            · rw [lsw, if_neg c1, lsw, if_neg c2, lsw]
              intro k b t h
              cases h
      · cases hs
    · cases q3
  · cases hj
theorem so_46 (F : FR p s m args meth c A g y) (hd : decode (mB y) pc = .ok (j, len)) (hj : j46 y a t j len = true) (hs : h46 y a k0 t r L st σ = some (.inl (r', L', s', σ'))) (I : IN s A g y L σ H lc ls) (kk : KK p l e s m args below meth c Qf A g y 46 r r' pc len L' s' σ') : W p l e (rmM y) s m args below meth c H lc 0 0 Qf (F0 m pc ls (st.map (cv g))) := by
  obtain ⟨hx, hb, hml, hown, hts, hlk, hrt, hK, hX, hA⟩ := F
  unfold j46 at hj
  split at hj
  · rename_i ix
    simp only [Bool.and_eq_true, decide_eq_true_eq] at hj
    obtain ⟨q1, rfl⟩ := hj
    obtain ⟨rr, hr, hl, ha, hC⟩ := fl_of q1
    unfold h46 at hs
    split at hs
    · rename_i k st0
      split at hs
      · rename_i v hv
        obtain ⟨rfl, rfl, rfl, rfl⟩ := go_inj hs
        obtain ⟨fs, o, hsh, ho, rfl⟩ := getf_spec hv
        have hk := shp_lt (k := k) (by rw [hsh]; simp)
        have he := ws_get g σ hk
        rw [cel_obj hsh] at he
        refine va_get (own := cnS (mC y)) (ref := rr.1) (C := rr.1) (T := rr.2.1) (N := rr.2.2) hx hb hts (in_clg hr) hown hK I.2.1 k he hr a ha (hts _ hl) (fun x hx => by rw [← hC]; exact hx) (fvs_get g σ k fs ho) hd ?_
        have hkk := (kk _ _ _ _ (Or.inl ⟨rfl, rfl, rfl⟩) I)
        cases o <;> exact hkk
      · cases hs
    · cases hs
  · cases hj
theorem so_47 (F : FR p s m args meth c A g y) (hd : decode (mB y) pc = .ok (j, len)) (hj : j47 y a false t j len = true) (hs : h47 y a k0 t r L st σ = some (.inl (r', L', s', σ'))) (I : IN s A g y L σ H lc ls) (kk : KK p l e s m args below meth c Qf A g y 47 r r' pc len L' s' σ') : W p l e (rmM y) s m args below meth c H lc 0 0 Qf (F0 m pc ls (st.map (cv g))) := by
  obtain ⟨hx, hb, hml, hown, hts, hlk, hrt, hK, hX, hA⟩ := F
  unfold j47 at hj
  split at hj
  · rename_i ix
    simp only [Bool.and_eq_true, decide_eq_true_eq] at hj
    obtain ⟨⟨q1, q0⟩, rfl⟩ := hj
    obtain ⟨rr, hr, hl, ha, hC⟩ := fl_of q1
    obtain ⟨hfin, hdes⟩ := nf_of hr q0
    unfold h47 at hs
    split at hs
    · rename_i x k st0
      split at hs
      · rename_i hv
        skip
        obtain ⟨rfl, rfl, rfl, rfl⟩ := go_inj hs
        obtain ⟨fs, hsh, ho⟩ := canp_spec hv
        have hk := shp_lt (k := k) (by rw [hsh]; simp)
        have he := ws_get g σ hk
        rw [cel_obj hsh] at he
        have hln : a < (fvs g σ k fs).length := by rw [fvs_len]; exact (List.getElem?_eq_some_iff.mp ho).1
        refine va_put (own := cnS (mC y)) (ref := rr.1) (C := rr.1) (T := rr.2.1) (N := rr.2.2) hx hb hts (in_clg hr) _ (ty_cl _ rr hr) (nm_cl _ rr hr) hown hK I.2.1 I.2.2.1 I.2.2.2 k he hr a ha (hts _ hl) (fun x hx => by rw [← hC]; exact hx) hfin hdes (v := .int x) rfl rfl hln hd (fun H1 lc1 hP hD hS => ?_)
        rw [ws_put hsh ho] at hP hD
        exact kk _ _ _ _ (Or.inl ⟨rfl, rfl, rfl⟩) ⟨I.1, hP, hD, hS⟩
      · cases hs
    · cases hs
  · cases hj
theorem so_48 (F : FR p s m args meth c A g y) (hd : decode (mB y) pc = .ok (j, len)) (hj : j47 y a true t j len = true) (hs : h48 y a k0 t r L st σ = some (.inl (r', L', s', σ'))) (I : IN s A g y L σ H lc ls) (kk : KK p l e s m args below meth c Qf A g y 48 r r' pc len L' s' σ') : W p l e (rmM y) s m args below meth c H lc 0 0 Qf (F0 m pc ls (st.map (cv g))) := by
  obtain ⟨hx, hb, hml, hown, hts, hlk, hrt, hK, hX, hA⟩ := F
  unfold j47 at hj
  split at hj
  · rename_i ix
    simp only [Bool.and_eq_true, decide_eq_true_eq] at hj
    obtain ⟨⟨q1, q0⟩, rfl⟩ := hj
    obtain ⟨rr, hr, hl, ha, hC⟩ := fl_of q1
    obtain ⟨hfin, hdes⟩ := nf_of hr q0
    unfold h48 at hs
    split at hs
    · rename_i x k st0
      split at hs
      · rename_i hv
        simp only [Bool.and_eq_true, Bool.or_eq_true, beq_iff_eq] at hv
        obtain ⟨rfl, rfl, rfl, rfl⟩ := go_inj hs
        obtain ⟨fs, hsh, ho⟩ := canp_spec hv.1
        have hk := shp_lt (k := k) (by rw [hsh]; simp)
        have he := ws_get g σ hk
        rw [cel_obj hsh] at he
        have hln : a < (fvs g σ k fs).length := by rw [fvs_len]; exact (List.getElem?_eq_some_iff.mp ho).1
        refine va_put (own := cnS (mC y)) (ref := rr.1) (C := rr.1) (T := rr.2.1) (N := rr.2.2) hx hb hts (in_clg hr) _ (ty_cl _ rr hr) (nm_cl _ rr hr) hown hK I.2.1 I.2.2.1 I.2.2.2 k he hr a ha (hts _ hl) (fun x hx => by rw [← hC]; exact hx) hfin hdes (v := .int x) (by rcases hv.2 with h | h <;> (rw [h]; rfl)) (by rcases hv.2 with h | h <;> (rw [h]; rfl)) hln hd (fun H1 lc1 hP hD hS => ?_)
        rw [ws_put hsh ho] at hP hD
        exact kk _ _ _ _ (Or.inl ⟨rfl, rfl, rfl⟩) ⟨I.1, hP, hD, hS⟩
      · cases hs
    · cases hs
  · cases hj
theorem so_49 (F : FR p s m args meth c A g y) (hd : decode (mB y) pc = .ok (j, len)) (hj : jx 49 j len = true) (hs : h49 y a k0 t r L st σ = some (.inl (r', L', s', σ'))) (I : IN s A g y L σ H lc ls) (kk : KK p l e s m args below meth c Qf A g y 49 r r' pc len L' s' σ') : W p l e (rmM y) s m args below meth c H lc 0 0 Qf (F0 m pc ls (st.map (cv g))) := by
  obtain ⟨hx, hb, hml, hown, hts, hlk, hrt, hK, hX, hA⟩ := F
  obtain ⟨rfl, rfl⟩ := jx_eq hj rfl
  unfold h49 at hs
  split at hs
  · rename_i x k st0
    split at hs
    · cases hs
    · rename_i hv
      obtain ⟨rfl, rfl, rfl, rfl⟩ := go_inj hs
      obtain ⟨hk, rs, hsh⟩ := alen_spec (k := k) (by omega)
      have he := ws_get g σ hk
      rw [cel_arr hsh] at he
      exact va_iald hx hb hK I.2.1 k 0 he rfl hv hd (kk _ _ _ _ (Or.inl ⟨rfl, rfl, rfl⟩) I)
  · cases hs
theorem so_50 (F : FR p s m args meth c A g y) (hd : decode (mB y) pc = .ok (j, len)) (hj : jx 50 j len = true) (hs : h50 y a k0 t r L st σ = some (.inl (r', L', s', σ'))) (I : IN s A g y L σ H lc ls) (kk : KK p l e s m args below meth c Qf A g y 50 r r' pc len L' s' σ') : W p l e (rmM y) s m args below meth c H lc 0 0 Qf (F0 m pc ls (st.map (cv g))) := by
  obtain ⟨hx, hb, hml, hown, hts, hlk, hrt, hK, hX, hA⟩ := F
  obtain ⟨rfl, rfl⟩ := jx_eq hj rfl
  unfold h50 at hs
  split at hs
  · rename_i z x k st0
    split at hs
    · cases hs
    · rename_i hv
      obtain ⟨rfl, rfl, rfl, rfl⟩ := go_inj hs
      obtain ⟨hk, rs, hsh⟩ := alen_spec (k := k) (by omega)
      have he := ws_get g σ hk
      rw [cel_arr hsh] at he
      refine va_iast hx hb hK I.2.1 I.2.2.1 I.2.2.2 k 0 he rfl hv hd (fun H1 lc1 hP hD hS => ?_)
      rw [ws_ast hsh, ← up2_upA] at hP hD
      exact kk _ _ _ _ (Or.inl ⟨rfl, rfl, rfl⟩) ⟨I.1, hP, hD, hS⟩
  · cases hs
theorem so_51 (F : FR p s m args meth c A g y) (hd : decode (mB y) pc = .ok (j, len)) (hj : jx 51 j len = true) (hs : h51 y a k0 t r L st σ = some (.inl (r', L', s', σ'))) (I : IN s A g y L σ H lc ls) (kk : KK p l e s m args below meth c Qf A g y 51 r r' pc len L' s' σ') : W p l e (rmM y) s m args below meth c H lc 0 0 Qf (F0 m pc ls (st.map (cv g))) := by
  obtain ⟨hx, hb, hml, hown, hts, hlk, hrt, hK, hX, hA⟩ := F
  obtain ⟨rfl, rfl⟩ := jx_eq hj rfl
  unfold h51 at hs
  split at hs
  · rename_i x k st0
    split at hs
    · cases hs
    · rename_i hneg
      split at hs
      · rename_i q hq
        obtain ⟨rfl, rfl, rfl, rfl⟩ := go_inj hs
        obtain ⟨z, n, rs, hz, hsh, hi, hv⟩ := aref_spec hq
        have hk := shp_lt (k := k) (by rw [hsh]; rcases hz with rfl | rfl | rfl <;> simp)
        have he := ws_get g σ hk
        rw [cel_ref hz hsh] at he
        have hin : vp_in x n := fun w => by
          rcases w with w | w
          · exact hneg w
          · omega
        have hkk := (kk _ _ _ _ (Or.inl ⟨rfl, rfl, rfl⟩) I)
        have hcv : va_rf ((rs.getD x.toNatClampNeg none).map (gA g)) = .ref (gA g q) := by rw [hv]; rfl
        rcases hz with rfl | rfl | rfl
        · exact va_aldq hx hb hK I.2.1 k 1 he rfl hin hd (by rw [hcv]; exact hkk)
        · exact va_aldq hx hb hK I.2.1 k 2 he rfl hin hd (by rw [hcv]; exact hkk)
        · exact va_aldq hx hb hK I.2.1 k 3 he rfl hin hd (by rw [hcv]; exact hkk)
      · cases hs
  · cases hs
theorem so_52 (F : FR p s m args meth c A g y) (hd : decode (mB y) pc = .ok (j, len)) (hj : jx 52 j len = true) (hs : h52 y a k0 t r L st σ = some (.inl (r', L', s', σ'))) (I : IN s A g y L σ H lc ls) (kk : KK p l e s m args below meth c Qf A g y 52 r r' pc len L' s' σ') : W p l e (rmM y) s m args below meth c H lc 0 0 Qf (F0 m pc ls (st.map (cv g))) := by
  obtain ⟨hx, hb, hml, hown, hts, hlk, hrt, hK, hX, hA⟩ := F
  obtain ⟨rfl, rfl⟩ := jx_eq hj rfl
  unfold h52 at hs
  split at hs
  · rename_i k st0
    split at hs
    · rename_i n hn
      obtain ⟨rfl, rfl, rfl, rfl⟩ := go_inj hs
      have hkk := (kk _ _ _ _ (Or.inl ⟨rfl, rfl, rfl⟩) I)
      unfold rlen at hn
      split at hn
      · cases hn
      · cases hn
      · rename_i z n' rs h0 h9 hsh
        cases hn
        have hk := shp_lt (k := k) (by rw [hsh]; intro h; exact h9 h)
        have h4 := shp_in hk
        rw [hsh] at h4
        have he := ws_get g σ hk
        have hz : z = 1 ∨ z = 2 ∨ z = 3 ∨ z = 4 := by
          have : z ≠ 0 := fun h => h0 h
          have h4 : z ≤ 4 := h4
          omega
        rcases hz with rfl | hz
        · rw [cel_arr hsh] at he
          exact va_alen hx hb hK I.2.1 k 0 he (ty := .int) rfl rfl hd hkk
        · rw [cel_ref hz hsh] at he
          rcases hz with rfl | rfl | rfl
          · exact va_alen hx hb hK I.2.1 k 1 he (ty := .object "PourElection$Teapot") rfl rfl hd hkk
          · exact va_alen hx hb hK I.2.1 k 2 he (ty := .object "PourElection$Sheet") rfl rfl hd hkk
          · exact va_alen hx hb hK I.2.1 k 3 he (ty := .object "java/lang/String") rfl rfl hd hkk
    · cases hs
  · cases hs
theorem ldcwString {T : State} {locs : List Loc} {R : Room} {cells slots : Nat} (X : Stand p l e R s m args below meth c T locs cells slots) (hexec : p.tables.exec = Jvm.exec) {own text : String} {index : Nat} {a : Addr} (hown : s.vm.findClass own = some m.cls)
    (hconst : (Cond.stringRef own index text).before args s = true) (hev : (Term.string own index).eval args s none [] s = some (.ref a)) {f : JFrame} (hg : f.method = m) (hdg : decode c.code f.pc = .ok (.ldc_w index, 3)) :
    ∀ target, Steps p.tables e below (T.setTop { f with pc := f.pc + 3, stack := .ref a :: f.stack }) target → Steps p.tables e below (T.setTop f) target := by
  obtain ⟨k, cf, i, a', hk, hcf, hcp, -, hr, hev'⟩ := Cond.stringRef_spec hown hconst
  cases hev.symm.trans hev'
  obtain ⟨k', hk', he⟩ := X.warmed.alike.2.2 _ _ hk
  have hr' : k'.resolved[index]? = some (some (.string a)) := by
    rcases X.warmed.entry hk hk' index with h | ⟨h, -⟩
    · rw [h]; exact hr
    · rw [hr] at h; cases h
  intro target hrest
  subst hg
  jvm_step X.here [hexec, hdg, ldc_w.wp_string (e := e) (s := T) (f := f) X.here.top hk' (by rw [he]; exact hcf) hcp hr']
  exact hrest
theorem va_ldcwS {R : Room} {cells slots : Nat} {cc : ByteArray} {rest : List Value} (hexec : p.tables.exec = Jvm.exec) (hb : c.code = cc) {own tx : String} {index q : Nat} (hown : s.vm.findClass own = some m.cls) (hZ : vk_R own index tx q s) (hdg : decode cc pc = .ok (.ldc_w index, 3))
    (k : W p l e R s m args below meth c H lc cells slots Qf (F0 m (pc + 3) ls (.ref q :: rest))) : W p l e R s m args below meth c H lc cells slots Qf (F0 m pc ls rest) := by
  intro T hT X
  obtain ⟨t, a1, b1⟩ := k T hT X
  exact ⟨t, ldcwString X hexec hown (text := tx) (a := q) hZ.1 hZ.2 (f := F0 m pc ls rest) rfl (by rw [hb]; exact hdg) t a1, b1⟩
theorem so_53 (F : FR p s m args meth c A g y) (hd : decode (mB y) pc = .ok (j, len)) (hj : j53 y a j len = true) (hs : h53 y a k0 t r L st σ = some (.inl (r', L', s', σ'))) (I : IN s A g y L σ H lc ls) (kk : KK p l e s m args below meth c Qf A g y 53 r r' pc len L' s' σ') : W p l e (rmM y) s m args below meth c H lc 0 0 Qf (F0 m pc ls (st.map (cv g))) := by
  obtain ⟨hx, hb, hml, hown, hts, hlk, hrt, hK, hX, hA⟩ := F
  have hR : ∀ ix, SRt.any (fun q => q.1 == mC y && q.2.1 == ix && q.2.2 == a) = true → ∃ tx, vk_R (cnS (mC y)) ix tx (gA g (100 + a)) s := by
    intro ix h
    obtain ⟨q, hq, h1⟩ := List.any_eq_true.mp h
    simp only [Bool.and_eq_true, beq_iff_eq] at h1
    have h2 := hX.2.2.2 q hq
    rw [h1.1.1, h1.1.2, h1.2] at h2
    exact ⟨_, h2⟩
  unfold h53 at hs
  obtain ⟨rfl, rfl, rfl, rfl⟩ := go_inj hs
  unfold j53 at hj
  split at hj
  · simp only [Bool.and_eq_true, decide_eq_true_eq] at hj
    obtain ⟨q1, rfl⟩ := hj
    obtain ⟨tx, hz⟩ := hR _ q1
    exact va_ldcS hx hb hown hz hd (kk _ _ _ _ (Or.inl ⟨rfl, rfl, rfl⟩) I)
  · simp only [Bool.and_eq_true, decide_eq_true_eq] at hj
    obtain ⟨q1, rfl⟩ := hj
    obtain ⟨tx, hz⟩ := hR _ q1
    exact va_ldcwS hx hb hown hz hd (kk _ _ _ _ (Or.inl ⟨rfl, rfl, rfl⟩) I)
  · cases hj
theorem so_57 (F : FR p s m args meth c A g y) (hd : decode (mB y) pc = .ok (j, len)) (hj : j57 y j len = true) (hs : h57 y a k0 t r L st σ = some (.inl (r', L', s', σ'))) (I : IN s A g y L σ H lc ls) (kk : KK p l e s m args below meth c Qf A g y 57 r r' pc len L' s' σ') : W p l e (rmM y) s m args below meth c H lc 0 0 Qf (F0 m pc ls (st.map (cv g))) := by
  obtain ⟨hx, hb, hml, hown, hts, hlk, hrt, hK, hX, hA⟩ := F
  simp only [j57, Bool.and_eq_true, decide_eq_true_eq] at hj
  obtain ⟨⟨⟨q1, q2⟩, q3⟩, rfl⟩ := hj
  split at q1
  · rename_i ix
    obtain ⟨q, hq, q4⟩ := List.any_eq_true.mp q1
    simp only [Bool.and_eq_true, beq_iff_eq] at q4
    have q5 := List.all_eq_true.mp ac_ok q hq
    unfold acOk at q5
    rw [q4.1, q4.2] at q5
    have hl := hts _ (inT_mem q5)
    have hw := acy_ok
    simp only [Bool.and_eq_true] at hw
    obtain ⟨⟨m1, m2⟩, m3⟩ := hw
    unfold h57 at hs
    split at hs
    · rename_i n dp k1 sp k2 st0
      split at hs
      · rename_i hc
        obtain ⟨rfl, rfl, rfl, rfl⟩ := go_inj hs
        obtain ⟨c1, c2, c3, c4, c5, c6, c7, c8⟩ := hc
        obtain ⟨hk1, rs1, hsh1⟩ := alen_spec c6
        obtain ⟨hk2, rs2, hsh2⟩ := alen_spec c7
        have he1 := ws_get g σ hk1
        rw [cel_arr hsh1] at he1
        have he2 := ws_get g σ hk2
        rw [cel_arr hsh2] at he2
        refine va_copyi hx hb (cast_ml hml I.1.1) hown hl (hts _ (inT_mem m1)) (hts _ (inT_mem m2)) (hts _ (inT_mem m3)) hK I.2.1 I.2.2.1 I.2.2.2 k2 k1 0 0 he2 he1 (ty := .int) rfl rfl rfl c1 c2 c3 c4 c5 (fun _ _ => rfl) q2 ?_ hd (fun H1 lc1 hP hD hS => ?_)
        · rw [rsum_cv]
          have : nativeFrameWords "java/lang/System" "arraycopy" 5 = 7 := by decide +kernel
          rw [this]
          show _ ≤ mO y
          omega
        · rw [ws_ast hsh1] at hP hD
          exact kk _ _ _ _ (Or.inl ⟨rfl, rfl, rfl⟩) ⟨I.1, hP, hD, hS⟩
      · cases hs
    · cases hs
  · cases q1
end SND
