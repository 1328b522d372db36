/-! what the law's start gives: the strings, the statics, the classes, the links -/
abbrev cG : Cond := Cond.and given_1 narrow_1
def enT : List Nat := [288, 290, 292, 294, 296, 298, 300, 270, 279, 302, 308, 310, 312, 313, 321, 326]
def emT : List Nat := [27, 29, 31, 33, 35, 37, 39, 293, 299, 270, 278, 280, 282, 284, 295, 297]
def sT (i : Nat) : Term := Term.string "PourElection" (enT.getD i 0)
def peT : List Nat := [21, 31, 40, 50, 58, 66, 73, 127, 154, 81, 89, 97, 108, 117, 135, 145]
def pcT : List Nat := [22, 32, 41, 51, 59, 67, 74, 128, 155, 82, 90, 98, 109, 118, 136, 146]
def paT : List Nat := [23, 33, 42, 52, 60, 68, 75, 129, 156, 83, 91, 99, 110, 119, 137, 147]
def plT : List Nat := [24, 34, 43, 53, 61, 69, 76, 130, 157, 84, 92, 100, 111, 120, 138, 148]
def pxT : List (List Nat) := [[25, 26, 27, 28, 29, 30], [35, 36, 37, 38, 39], [44, 45, 46, 47, 48, 49], [54, 55, 56, 57], [62, 63, 64, 65], [70, 71, 72], [77, 78, 79, 80], [131, 132, 133, 134], [158, 159, 160, 161, 162], [85, 86, 87, 88], [93, 94, 95, 96], [101, 102, 103, 104, 105, 106, 107], [112, 113, 114, 115, 116], [121, 122, 123, 124, 125, 126], [139, 140, 141, 142, 143, 144], [149, 150, 151, 152, 153]]
def pmT : List Nat := [173, 183, 194, 203, 212, 220, 229, 289, 320, 238, 247, 259, 269, 280, 300, 310]
theorem g_ex : ∀ i, i < 16 → (flatC cG)[peT.getD i 0]? = some (Cond.exactly (sT i) "java/lang/String") := by decide +kernel
theorem g_co : ∀ i, i < 16 → (flatC cG)[pcT.getD i 0]? = some (Cond.eq (.field (sT i) "java/lang/String" "coder" "B") (.int 0)) := by decide +kernel
theorem g_ar : ∀ i, i < 16 → (flatC cG)[paT.getD i 0]? = some (Cond.arrayOf (.field (sT i) "java/lang/String" "value" "[B") .byte) := by decide +kernel
theorem g_le : ∀ i, i < 16 → (flatC cG)[plT.getD i 0]? = some (Cond.eq (.length (.field (sT i) "java/lang/String" "value" "[B")) (.int (Int32.ofNat (slen.getD i 0)))) := by decide +kernel
theorem g_el : ∀ i, i < 16 → ∀ j, j < slen.getD i 0 → (flatC cG)[(pxT.getD i []).getD j 0]? = some (Cond.eq (.elem (.field (sT i) "java/lang/String" "value" "[B") (.int (Int32.ofNat j))) (.int ((sbyt.getD i []).getD j 0))) := by decide +kernel
theorem g_em : ∀ i, i < 16 → (flatC cG)[pmT.getD i 0]? = some (Cond.eq (sT i) (Term.string "PourElectionModel" (emT.getD i 0))) := by decide +kernel
theorem g_cs : (flatC cG)[4]? = some (Cond.eq (.static "java/lang/String" "COMPACT_STRINGS" "Z") (.int 1)) := by decide +kernel
theorem g_sf : (flatC cG)[5]? = some (Cond.isRef (.static "jdk/internal/util/Preconditions" "SIOOBE_FORMATTER" "Ljava/util/function/BiFunction;")) := by decide +kernel
theorem str_ne : ∀ i, i < 16 → ∀ j, j < 16 → (slen.getD i 0 = slen.getD j 0 ∧ ∀ t, t < slen.getD i 0 → (sbyt.getD i []).getD t 0 = (sbyt.getD j []).getD t 0) → i = j := by decide +kernel
theorem w_cs : Cond.laysStatic "java/lang/String" "COMPACT_STRINGS" "Z" ∈ lw_tbl := by decide +kernel
theorem w_sf : Cond.laysStatic "jdk/internal/util/Preconditions" "SIOOBE_FORMATTER" "Ljava/util/function/BiFunction;" ∈ lw_tbl := by decide +kernel
theorem w_i0 : Cond.initialized "java/lang/String" ∈ lw_tbl := by decide +kernel
theorem w_i3 : Cond.initialized "jdk/internal/util/Preconditions" ∈ lw_tbl := by decide +kernel
theorem w_sr : ∀ q ∈ SRt, Cond.stringRef (cnS q.1) q.2.1 (strT.getD q.2.2 "") ∈ lw_tbl := by decide +kernel
theorem sr_at : ∀ q ∈ SRt, q.2.2 < 16 ∧ ((cnS q.1 = "PourElection" ∧ q.2.1 = enT.getD q.2.2 0) ∨ (cnS q.1 = "PourElectionModel" ∧ q.2.1 = emT.getD q.2.2 0)) := by decide +kernel
section ST
variable {b : Nat} {s : State} {A : Nat → Prop}
theorem SX_start (hgv : cG.before #[Value.ref b] s = true) (hts : ∀ w ∈ lw_tbl, w.before #[Value.ref b] s = true) (hA : ∀ a : Nat, a < s.heap.size → ¬ A a) : ∃ sa sv : Nat → Nat, ∀ g : GW, (∀ i, i < 16 → gA g (100 + i) = sa i) → (∀ i, i < 16 → gV g i = sv i) → SX g A s s.heap := by
  have hs := flat_of_before _ hgv
  have at' : ∀ {k : Nat} {c : Cond}, (flatC cG)[k]? = some c → c.before #[Value.ref b] s = true := fun h => hs _ (List.mem_of_getElem? h)
  have h0 : ∀ i : Nat, ∃ q : Nat × Nat, i < 16 → (sT i).eval #[Value.ref b] s none [] s = some (.ref q.1) ∧ va_O "java/lang/String" q.1 A s s.heap ∧ va_OF "java/lang/String" "coder" "B" (.int 0) q.1 A s s.heap ∧ va_OF "java/lang/String" "value" "[B" (.ref q.2) q.1 A s s.heap ∧ va_T .byte q.2 (slen.getD i 0) (fun j => .int ((sbyt.getD i []).getD j 0)) A s s.heap := by
    intro i
    by_cases hi : i < 16
    · have h100 := (lenF i hi).2
      obtain ⟨ad, av, h1, h2⟩ := vk_Sof (args := #[Value.ref b]) (s := s) (N := 1) (tm := fun _ => sT i) (len := [slen.getD i 0]) (byt := [sbyt.getD i []]) (A := A)
        (fun k hk => by
          have : k = 0 := by omega
          subst this
          show slen.getD i 0 < _
          omega)
        (fun k hk => at' (g_ex i hi)) (fun k hk => at' (g_co i hi)) (fun k hk => at' (g_ar i hi))
        (fun k hk => by
          have : k = 0 := by omega
          subst this
          exact at' (g_le i hi))
        (fun k hk j hj => by
          have : k = 0 := by omega
          subst this
          exact at' (g_el i hi j hj))
        (fun k j hk hj hne => absurd (by omega) hne) hA
      exact ⟨(ad 0, av 0), fun _ => ⟨h2 0 (by omega), h1.1 0 (by omega)⟩⟩
    · exact ⟨(0, 0), fun h => absurd h hi⟩
  obtain ⟨ad, had⟩ := Classical.axiomOfChoice h0
  refine ⟨fun i => (ad i).1, fun i => (ad i).2, fun g ga gv => ⟨⟨fun i hi => ?_, fun i j hi hj e => ?_⟩, ?_, ?_, fun q hq => ?_⟩⟩
  · show va_O "java/lang/String" (gA g (100 + i)) A s s.heap ∧ va_OF "java/lang/String" "coder" "B" (.int 0) (gA g (100 + i)) A s s.heap ∧ va_OF "java/lang/String" "value" "[B" (.ref (gV g i)) (gA g (100 + i)) A s s.heap ∧ va_T .byte (gV g i) _ _ A s s.heap
    rw [ga i hi, gv i hi]
    exact (had i hi).2
  · change gA g (100 + i) = gA g (100 + j) at e
    rw [ga i hi, ga j hj] at e
    obtain ⟨-, -, -, ⟨cf, k, fi, f, cell, f1, f2, f3, f4, f5, f6⟩, ⟨ce, t1, t2, t3, t4, t5, t6, t7⟩⟩ := had i hi
    obtain ⟨-, -, -, ⟨cf', k', fi', f', cell', u1, u2, u3, u4, u5, u6⟩, ⟨ce', v1, v2, v3, v4, v5, v6, v7⟩⟩ := had j hj
    rw [f1] at u1
    cases u1
    have e' : (ad i).1 = (ad j).1 := e
    rw [← e', f3] at u3
    cases u3
    rw [f5] at u5
    have hv : (ad i).2 = (ad j).2 := Value.ref.inj (Option.some.inj u5)
    rw [hv, v1] at t1
    cases t1
    have l1 := (lenF i hi).2
    have l2 := (lenF j hj).2
    have hl : slen.getD i 0 = slen.getD j 0 := by
      have h1 : nI (slen.getD i 0) = nI (slen.getD j 0) := t5.symm.trans v5
      have h2 := congrArg Int32.toInt h1
      rw [nI_toInt (by omega), nI_toInt (by omega)] at h2
      omega
    refine str_ne i hi j hj ⟨hl, fun t ht => ?_⟩
    have w1 := t6 t ht
    have w2 := v6 t (by omega)
    rw [w1] at w2
    exact Value.int.inj (Option.some.inj w2)
  · exact va_Zof (hts _ w_cs) (hts _ w_i0) (va_eqt (at' g_cs)) hA
  · exact va_Zqof (hts _ w_sf) (hts _ w_i3) (at' g_sf) hA
  · obtain ⟨hi, hc⟩ := sr_at q hq
    have hw := hts _ (w_sr q hq)
    rw [ga _ hi]
    refine vk_R.of hw ?_
    rcases hc with ⟨e1, e2⟩ | ⟨e1, e2⟩
    · rw [e1, e2]
      exact (had _ hi).1
    · rw [e1, e2]
      obtain ⟨y, y1, y2⟩ := Cond.eq_one (at' (g_em _ hi))
      have := (had _ hi).1
      rw [y1] at this
      rw [y2, Option.some.inj this]
theorem K_start (hts : ∀ w ∈ lw_tbl, w.before #[Value.ref b] s = true) : ∃ (D : va_G) (gc : Nat → ClassId), va_K D vwCl [(gc 0, .int), (gc 1, .object "PourElection$Teapot"), (gc 2, .object "PourElection$Sheet"), (gc 3, .object "java/lang/String")] s := by
  have kn : ∀ ci : Nat, ∃ q : ClassId × (Nat → Nat), ∀ r : vw_C, vwCl[ci]? = some r → u_Kn s r.1 r.2.1 r.2.2 q.1 q.2 := by
    intro ci
    cases h : vwCl[ci]? with
    | none => exact ⟨(0, fun _ => 0), fun r hr => by cases hr⟩
    | some r =>
      have hin : Cond.instantiable r.1 r.2.2 ∈ lw_tbl := by
        have : ∀ (ci : Nat) (r : vw_C), vwCl[ci]? = some r → Cond.instantiable r.1 r.2.2 ∈ lw_tbl := by
          intro ci r h
          match ci, h with
          | 0, h => cases h; decide +kernel
          | 1, h => cases h; decide +kernel
          | 2, h => cases h; decide +kernel
          | 3, h => cases h; decide +kernel
          | 4, h => cases h; decide +kernel
          | 5, h => cases h; decide +kernel
          | n + 6, h => cases h
        exact this ci r h
      obtain ⟨cC, iS, hk⟩ := u_known (C := r.1) (T := r.2.1) (N := r.2.2) (n := r.2.2) hts (in_cl ci r h) (hts _ hin)
      exact ⟨(cC, iS), fun r' hr => by cases hr; exact hk⟩
  obtain ⟨F, hF⟩ := Classical.axiomOfChoice kn
  obtain ⟨c0, k0, m0, a1, a2, a3⟩ := Cond.arrayClass_spec (hts (.arrayClass .int) (by decide +kernel))
  have ob : ∀ C : String, Cond.arrayOver (.object C) ∈ lw_tbl → ∃ c1, ArrOfT s c1 (.object C) ∧ va_RA s c1 (.object C) := by
    intro C hC
    obtain ⟨comp, c1, k1, b1, b2, b3, b4, b5⟩ := Cond.arrayOver_spec (hts _ hC)
    exact ⟨c1, fun n z => ⟨fun k h => (by cases h), k1, b3, comp, b4⟩, k1, comp, b3, b4, b1, b5⟩
  obtain ⟨c1, d1, e1⟩ := ob "PourElection$Teapot" (by decide +kernel)
  obtain ⟨c2, d2, e2⟩ := ob "PourElection$Sheet" (by decide +kernel)
  obtain ⟨c3, d3, e3⟩ := ob "java/lang/String" (by decide +kernel)
  refine ⟨(fun ci => (F ci).1, fun ci => (F ci).2), fun k => [c0, c1, c2, c3].getD k 0, fun c q hq => hF c q hq, fun k q hk => ?_⟩
  match k, hk with
  | 0, hk => cases hk; exact ⟨fun n z => ⟨fun k h => (by cases h), k0, a2, m0, a3⟩, a1⟩
  | 1, hk => cases hk; exact ⟨d1, e1⟩
  | 2, hk => cases hk; exact ⟨d2, e2⟩
  | 3, hk => cases hk; exact ⟨d3, e3⟩
  | n + 4, hk => cases hk
theorem NX_start (hts : ∀ w ∈ lw_tbl, w.before #[Value.ref b] s = true) : NX s := ⟨va_AO.of (hts _ (by decide +kernel)), va_AO.of (hts _ (by decide +kernel)), va_AO.of (hts _ (by decide +kernel)), va_Nw.of rfl (hts _ (by decide +kernel)), va_Nw.of rfl (hts _ (by decide +kernel)), va_Nw.of rfl (hts _ (by decide +kernel))⟩
end ST
