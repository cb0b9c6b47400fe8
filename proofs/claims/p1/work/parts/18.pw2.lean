/-! p1: the law: more roads of the abstract walk: the script's length and ints, memory told anew -/
section
variable {E : Ev} {p : Program} {l : Launch} {e : Env} {R : Room} {s : State} {m : MethodId} {args : Array Value} {below : List Frame} {meth : Method} {c : Code} {Qm : State → Prop} {nL Ne : Nat} {cc : ByteArray}
theorem pw_slen (hx : p.tables.exec = Jvm.exec) (hb : c.code = cc) {L : Nat} {xs : Nat → Int32} (hX : va_X (e_sc E) L xs s s.heap) (hbl : e_sc E < s.heap.size) (hA : ¬ e_A E (e_sc E)) {pc : Nat} {ls st : List Value} {N : Nat} {lg : LGt} {it : ITt} {rf : RFt} (hdg : decode cc pc = .ok (.arraylength, 1))
    (kk : PW E p l e R s m args below meth c Qm nL Ne (pc + 1) ls (.int (Int32.ofNat L) :: st) N lg it rf) : PW E p l e R s m args below meth c Qm nL Ne pc ls (.retAddr 1 :: st) N lg it rf :=
  fun a1 a2 H locs cells slots arr a3 a4 a5 a6 a7 a8 => va_slen hx hb hX hbl hA a5 hdg (kk a1 a2 H locs cells slots arr a3 a4 a5 a6 a7 a8)
theorem pw_sld (hx : p.tables.exec = Jvm.exec) (hb : c.code = cc) {L : Nat} {xs : Nat → Int32} (hX : va_X (e_sc E) L xs s s.heap) (hbl : e_sc E < s.heap.size) (hA : ¬ e_A E (e_sc E)) {pc : Nat} {ls st : List Value} {N : Nat} {lg : LGt} {it : ITt} {rf : RFt} {i : Int32} (hdg : decode cc pc = .ok (.iaload, 1)) (hin : vp_in i L)
    (kk : PW E p l e R s m args below meth c Qm nL Ne (pc + 1) ls (.int (xs i.toNatClampNeg) :: st) N lg it rf) : PW E p l e R s m args below meth c Qm nL Ne pc ls (.int i :: .retAddr 1 :: st) N lg it rf :=
  fun a1 a2 H locs cells slots arr a3 a4 a5 a6 a7 a8 => va_sld hx hb hX hbl hA a5 hin hdg (kk a1 a2 H locs cells slots arr a3 a4 a5 a6 a7 a8)
theorem pw_mem {pc : Nat} {ls st : List Value} {N : Nat} {lg lg' : LGt} {it it' : ITt} {rf rf' : RFt} (h : ∀ j, j < N → lg' j = lg j ∧ it' j = it j ∧ rf' j = rf j)
    (kk : PW E p l e R s m args below meth c Qm nL Ne pc ls st N lg' it' rf') : PW E p l e R s m args below meth c Qm nL Ne pc ls st N lg it rf := by
  have hw : WL E N lg it rf = WL E N lg' it' rf' := by
    unfold WL
    refine List.map_congr_left fun j hj => ?_
    obtain ⟨h1, h2, h3⟩ := h j (List.mem_range.mp hj)
    rw [cellv_eq h1 h2 h3]
  intro a1 a2 H locs cells slots arr a3 a4 a5 a6 a7 a8
  rw [hw] at a4
  exact kk a1 a2 H locs cells slots arr a3 a4 a5 a6 a7 a8
end
