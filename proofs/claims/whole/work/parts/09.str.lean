/-! String.length and String.charAt of a constant -/
section SND
variable {p : Program} {l : Launch} {e : Env} {s : State} {m : MethodId} {args : Array Value} {below : List Frame} {meth : Method} {c : Code} {Qf : State → Prop} {A : Nat → Prop} {g : GW} {y : Nat}
variable {pc len a : Nat} {k0 : Int32} {t : List Nat} {r r' : List Ins} {L L' st s' : List Value} {σ σ' : Sg} {j : Instr} {H : Heap} {lc : List Loc} {ls : Array Slot}
theorem so_55 (F : FR p s m args meth c A g y) (hd : decode (mB y) pc = .ok (j, len)) (hj : j55 y 0 j len = true) (hs : h55 y a k0 t r L st σ = some (.inl (r', L', s', σ'))) (I : IN s A g y L σ H lc ls) (kk : KK p l e s m args below meth c Qf A g y 55 r r' pc len L' s' σ') : W p l e (rmM y) s m args below meth c H lc 0 0 Qf (F0 m pc ls (st.map (cv g))) := by
  sorry
theorem so_56 (F : FR p s m args meth c A g y) (hd : decode (mB y) pc = .ok (j, len)) (hj : j55 y 1 j len = true) (hs : h56 y a k0 t r L st σ = some (.inl (r', L', s', σ'))) (I : IN s A g y L σ H lc ls) (kk : KK p l e s m args below meth c Qf A g y 56 r r' pc len L' s' σ') : W p l e (rmM y) s m args below meth c H lc 0 0 Qf (F0 m pc ls (st.map (cv g))) := by
  sorry
end SND
