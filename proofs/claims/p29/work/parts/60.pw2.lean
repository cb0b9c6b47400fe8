/-! p1: the law: more roads of the abstract walk: the script's length and ints, memory told anew -/
section
variable {E : Ev} {p : Program} {l : Launch} {e : Env} {R : Room} {s : State} {m : MethodId} {args : Array Value} {below : List Frame} {meth : Method} {c : Code} {Qm : State → Prop} {nL Ne : Nat} {cc : ByteArray}
theorem pw_slen (hx : p.tables.exec = Jvm.exec) (hb : c.code = cc) {L : Nat} {xs : Nat → Int32} (hX : va_X (e_sc E) L xs s s.heap) (hbl : e_sc E < s.heap.size) (hA : ¬ e_A E (e_sc E)) {pc : Nat} {ls st : List Value} {N : Nat} {lg : LGt} {it : ITt} {rf : RFt} (hdg : decode cc pc = .ok (.arraylength, 1))
    (kk : PW E p l e R s m args below meth c Qm nL Ne (pc + 1) ls (.int (Int32.ofNat L) :: st) N lg it rf) : PW E p l e R s m args below meth c Qm nL Ne pc ls (.retAddr 1 :: st) N lg it rf :=
  fun a1 a2 H locs cells slots arr a3 a4 a5 a6 a7 a8 => va_slen hx hb hX hbl hA a5 hdg (kk a1 a2 H locs cells slots arr a3 a4 a5 a6 a7 a8)
theorem pw_sld (hx : p.tables.exec = Jvm.exec) (hb : c.code = cc) {L : Nat} {xs : Nat → Int32} (hX : va_X (e_sc E) L xs s s.heap) (hbl : e_sc E < s.heap.size) (hA : ¬ e_A E (e_sc E)) {pc : Nat} {ls st : List Value} {N : Nat} {lg : LGt} {it : ITt} {rf : RFt} {i : Int32} (hdg : decode cc pc = .ok (.iaload, 1)) (hin : vp_in i L)
    (kk : PW E p l e R s m args below meth c Qm nL Ne (pc + 1) ls (.int (xs i.toNatClampNeg) :: st) N lg it rf) : PW E p l e R s m args below meth c Qm nL Ne pc ls (.int i :: .retAddr 1 :: st) N lg it rf :=
  fun a1 a2 H locs cells slots arr a3 a4 a5 a6 a7 a8 => va_sld hx hb hX hbl hA a5 hin hdg (kk a1 a2 H locs cells slots arr a3 a4 a5 a6 a7 a8)
theorem pw_mem {pc : Nat} {ls st : List Value} {N : Nat} {lg lg' : LGt} {it it' : ITt} {rf rf' : RFt} (h : ∀ j, j < N → lg' j = lg j ∧ it' j = it j ∧ rf' j = rf j)
    (kk : PW E p l e R s m args below meth c Qm nL Ne pc ls st N lg' it' rf') : PW E p l e R s m args below meth c Qm nL Ne pc ls st N lg it rf := by
  have hw : WL E N lg it rf = WL E N lg' it' rf' := by
    unfold WL
    refine List.map_congr_left fun j hj => ?_
    obtain ⟨h1, h2, h3⟩ := h j (List.mem_range.mp hj)
    rw [cellv_eq h1 h2 h3]
  intro a1 a2 H locs cells slots arr a3 a4 a5 a6 a7 a8
  rw [hw] at a4
  exact kk a1 a2 H locs cells slots arr a3 a4 a5 a6 a7 a8
end
theorem fr_nil {s t : State} {o : Outcome} {L : List Loc} {k n : Nat} (h : FrameEnd s o t L k n) (hb : ∀ q ∈ L, s.heap.size ≤ q.base) : Framed s o t [] k n := by
  obtain ⟨h1, h2, h3, h4, h5, h6, h7, h8⟩ := h
  refine ⟨h1, h2, h3, h4, h5, h6, h7, fun a c hc => ?_⟩
  obtain ⟨c', e1, e2, e3, e4⟩ := h8 a c hc
  have ha : a < s.heap.size := (Array.getElem?_eq_some_iff.mp hc).1
  exact ⟨c', e1, e2, e3, fun i _ => e4 i fun q => absurd (hb ⟨a, i⟩ q) (Nat.not_le.mpr ha)⟩
theorem w_mono {p : Program} {l : Launch} {e : Env} {R : Room} {s : State} {m : MethodId} {args : Array Value} {below : List Frame} {meth : Method} {c : Code} {H : Heap} {locs : List Loc} {cells slots : Nat} {Qm Qn : State → Prop} {g : JFrame} (h : W p l e R s m args below meth c H locs cells slots Qm g) (f : ∀ t, Qm t → Qn t) : W p l e R s m args below meth c H locs cells slots Qn g := by
  intro T hT X
  obtain ⟨t, a1, b1⟩ := h T hT X
  exact ⟨t, a1, f t b1⟩
theorem arr_p {s : State} {args : Array Value} {t : FieldType} (h : (Cond.arrayClass t).before args s = true) : ∃ cA, ArrOfT s cA t ∧ s.vm.findClass ("[" ++ t.toString) = some cA := by
  obtain ⟨c, k, comp, h1, h2, h3⟩ := Cond.arrayClass_spec h
  exact ⟨c, fun N z => ⟨(fun k h => by cases h), k, h2, comp, h3⟩, h1⟩
theorem arr_o {s : State} {args : Array Value} {C : String} (h : (Cond.arrayOver (.object C)).before args s = true) : ∃ cA, ArrOfT s cA (.object C) ∧ va_RA s cA (.object C) := by
  obtain ⟨comp, c, k, h1, h2, h3, h4, h5⟩ := Cond.arrayOver_spec h
  exact ⟨c, fun N z => ⟨(fun k h => by cases h), k, h3, comp, h4⟩, k, comp, h3, h4, h1, h5⟩
theorem ao_in : Cond.arrayOver (.object RX1) ∈ lw_tbl ∧ Cond.arrayOver (.object RX3) ∈ lw_tbl ∧ Cond.arrayOver (.object RX6) ∈ lw_tbl := by decide +kernel
theorem kw_of {s : State} {args : Array Value} (hts : ∀ w ∈ lw_tbl, w.before args s = true) : ∃ (cs : Nat → ClassId) (ix : Nat → Nat → Nat) (cy : Nat → ClassId), ∀ b sc, KW (cs, ix, cy, b, sc) s := by
  have hom : ∀ w ∈ OM, w ∈ lw_tbl := fun w h => (List.mem_filter.mp h).1
  have h : ∀ c : Nat, ∃ q : ClassId × (Nat → Nat), c < 10 → u_Kn s (clr c).1 (clr c).2.1 (clr c).2.2 q.1 q.2 := by
    intro c
    by_cases hc : c < 10
    · obtain ⟨cC, iS, hk⟩ := u_known hts (fun w hw => hom w (cl_om hc w hw)) (hts _ (cl_in c hc).1)
      exact ⟨(cC, iS), fun _ => hk⟩
    · exact ⟨((0 : Nat), fun _ => 0), fun q => absurd q hc⟩
  obtain ⟨f, hf⟩ := Classical.axiomOfChoice h
  obtain ⟨c0, a0, r0⟩ := arr_p (hts _ (hom _ (ar_in .byte (by simp))))
  obtain ⟨c1, a1, r1⟩ := arr_p (hts _ (hom _ (ar_in .int (by simp))))
  obtain ⟨c2, a2, r2⟩ := arr_p (hts _ (hom _ (ar_in .long (by simp))))
  obtain ⟨c3, a3, r3⟩ := arr_o (hts _ ao_in.1)
  obtain ⟨c4, a4, r4⟩ := arr_o (hts _ ao_in.2.1)
  obtain ⟨c5, a5, r5⟩ := arr_o (hts _ ao_in.2.2)
  refine ⟨fun c => (f c).1, fun c => (f c).2, fun k => match k with | 0 => c0 | 1 => c1 | 2 => c2 | 3 => c3 | 4 => c4 | _ => c5, fun b sc => ⟨⟨fun c q hq => ?_, fun k q hq => ?_⟩, va_AO.of (hts _ ao_in.1), va_AO.of (hts _ ao_in.2.1), va_AO.of (hts _ ao_in.2.2)⟩⟩
  · have hc : c < 10 := (List.getElem?_eq_some_iff.mp hq).1
    have e : q = clr c := by rw [cl_get hc] at hq; exact (Option.some.inj hq).symm
    subst e
    exact hf c hc
  · match k, hq with
    | 0, hq => cases hq; exact ⟨a0, r0⟩
    | 1, hq => cases hq; exact ⟨a1, r1⟩
    | 2, hq => cases hq; exact ⟨a2, r2⟩
    | 3, hq => cases hq; exact ⟨a3, r3⟩
    | 4, hq => cases hq; exact ⟨a4, r4⟩
    | 5, hq => cases hq; exact ⟨a5, r5⟩
    | k + 6, hq => simp [tyl] at hq
section
variable {E : Ev} {p : Program} {l : Launch} {e : Env} {R : Room} {s : State} {m : MethodId} {args : Array Value} {below : List Frame} {meth : Method} {c : Code} {Qm : State → Prop} {nL Ne : Nat} {cc : ByteArray}
theorem pw_pop (hx : p.tables.exec = Jvm.exec) (hb : c.code = cc) {pc : Nat} {ls st : List Value} {N : Nat} {lg : LGt} {it : ITt} {rf : RFt} {x : Int32} (hdg : decode cc pc = .ok (.pop, 1))
    (kk : PW E p l e R s m args below meth c Qm nL Ne (pc + 1) ls st N lg it rf) : PW E p l e R s m args below meth c Qm nL Ne pc ls (.int x :: st) N lg it rf :=
  fun a1 a2 H locs cells slots arr a3 a4 a5 a6 a7 a8 => lv_pop hx hb (va := .int x) hdg rfl (kk a1 a2 H locs cells slots arr a3 a4 a5 a6 a7 a8)
theorem pw_pop2 (hx : p.tables.exec = Jvm.exec) (hb : c.code = cc) {pc : Nat} {ls st : List Value} {N : Nat} {lg : LGt} {it : ITt} {rf : RFt} {x : Int64} (hdg : decode cc pc = .ok (.pop2, 1))
    (kk : PW E p l e R s m args below meth c Qm nL Ne (pc + 1) ls st N lg it rf) : PW E p l e R s m args below meth c Qm nL Ne pc ls (.long x :: st) N lg it rf :=
  fun a1 a2 H locs cells slots arr a3 a4 a5 a6 a7 a8 => lv_pop2_2 hx hb (va := .long x) hdg rfl (kk a1 a2 H locs cells slots arr a3 a4 a5 a6 a7 a8)
end

