section SO
variable {E : Ev} {p : Program} {l : Launch} {e : Env} {R : Room} {s : State} {m : MethodId} {args : Array Value} {below : List Frame} {meth : Method} {c : Code} {nL Ne : Nat} {cc : ByteArray} {own : String} {T : Tab} {Qp : Post} {Qc : Array Value → State → Outcome → State → Prop}
theorem so_getf (hx : p.tables.exec = Jvm.exec) (hb : c.code = cc) (hown : s.vm.findClass own = some m.cls) (hts : ∀ w ∈ OM, w.before args s = true) (hK : KW E s) {ci k t idx pc j N : Nat} {lg : LGt} {it : ITt} {rf : RFt} {H : Heap} {locs : List Loc} {cells slots : Nat} {arr : Array Slot} {rest : List Value} {Qm : State → Prop}
    (hd : decode cc pc = .ok (.getfield idx, 3)) (hF : FOK own (idx, ci, k)) (hO : Ob N j ci) (ht : (fk ci)[k]? = some t) (hP : va_P (e_D E) vwCl (WL E N lg it rf) H)
    (kk : W p l e R s m args below meth c H locs cells slots Qm (F0 m (pc + 3) arr (cv E (fva lg it rf j k t) :: rest))) : W p l e R s m args below meth c H locs cells slots Qm (F0 m pc arr (.ref (e_b E + j) :: rest)) := by
  obtain ⟨h1, h2, h3⟩ := hF
  obtain ⟨ho1, ho2⟩ := hO
  refine va_get (D := e_D E) (ci := ci) (v := cv E (fva lg it rf j k t)) (C := (clr ci).1) (T := (clr ci).2.1) (N := (clr ci).2.2) hx hb hts (cl_om h1) hown hK.1 hP j ((WL_get ho1).trans (by rw [cell_obj ho2 h1])) (cl_get h1) k h2 (hts _ h3) ?_ ?_ hd kk
  · rw [((cl_fk ci h1).2.2.2 k h2).2.2]
    exact fun _ h => h
  · rw [List.getElem?_map, fvs_get ht]
    rfl
theorem so_putf (hx : p.tables.exec = Jvm.exec) (hb : c.code = cc) (hown : s.vm.findClass own = some m.cls) (hts : ∀ w ∈ OM, w.before args s = true) (hK : KW E s) {ci k t idx pc j N : Nat} {v : Value} {fin : Bool} {lg lg' : LGt} {it it' : ITt} {rf rf' : RFt} {H : Heap} {locs : List Loc} {cells slots : Nat} {arr : Array Slot} {rest : List Value} {Qm : State → Prop}
    (hd : decode cc pc = .ok (.putfield idx, 3)) (hF : FOK own (idx, ci, k)) (hO : Ob N j ci) (ht : (fk ci)[k]? = some t) (hfin : (ff ci)[k]? = some fin) (hini : fin = true → meth.name = "<init>" ∧ (clr ci).1 = own) (hz : H.size = e_b E + N) (hP : va_P (e_D E) vwCl (WL E N lg it rf) H) (hS : va_S (e_A E) s.heap H locs)
    (hv : fva lg' it' rf' j k t = v) (ho : ∀ i, i ≠ j → lg' i = lg i ∧ it' i = it i ∧ rf' i = rf i) (hi : ∀ i, i ≠ k → lg' j i = lg j i ∧ it' j i = it j i ∧ rf' j i = rf j i) (hty : ∀ (E : Ev) (ty : FieldType), kdo ty = t → narrow ty (cv E v) = cv E v ∧ fits ty (cv E v) = true)
    (kk : ∀ (H1 : Heap) (locs1 : List Loc), H1.size = e_b E + N → va_P (e_D E) vwCl (WL E N lg' it' rf') H1 → va_S (e_A E) s.heap H1 locs1 → W p l e R s m args below meth c H1 locs1 cells slots Qm (F0 m (pc + 3) arr rest)) : W p l e R s m args below meth c H locs cells slots Qm (F0 m pc arr (cv E v :: .ref (e_b E + j) :: rest)) := by
  obtain ⟨h1, h2, h3⟩ := hF
  obtain ⟨ho1, ho2⟩ := hO
  have hts' := hts
  obtain ⟨q1, q2, q3, q4⟩ := cl_fk ci h1
  obtain ⟨q5, q6, q7⟩ := q4 k h2
  have hc := cl_get h1
  have he := (WL_get (E := E) (lg := lg) (it := it) (rf := rf) ho1).trans (by rw [cell_obj ho2 h1])
  have hap := va_apart (own := own) hts (cl_om h1) (clty ci) (cl_ty h1) (cl_nm h1) hK.1 hc
  obtain ⟨r, g1, cell, g2, g3, g4, g5⟩ := hP j _ he
  have hr : r = clr ci := Option.some.inj (g1.symm.trans hc)
  subst hr
  obtain ⟨hSl, hfc, kC, hkC, hkind⟩ := hK.1.1 ci _ hc
  obtain ⟨cf, kf, fi, f, hff, hsl⟩ := hSl k h2
  have hlay := hts _ (cl_om h1 _ (u_in_lay h2))
  have hst := (u_facts hfc hkC (u_lays hts (cl_om h1) h2) hff).1
  have ht' : kdo (clty ci k) = t := by rw [ht] at q5; exact (Option.some.inj q5).symm
  obtain ⟨hn, hft⟩ := hty E (clty ci k) ht'
  have hfin' : ((clr ci).2.1 k).2.2.2 = fin := by rw [hfin] at q6; exact (Option.some.inj q6).symm
  have hsame : s.fieldFound? (clr ci).1 ((clr ci).2.1 k).2.1 ((clr ci).2.1 k).2.2.1 = some (cf, kf, fi, f) := by rw [q7] at hff; exact hff
  have hlen : k < ((fvs lg it rf j (fk ci)).map (cv E)).length := by rw [List.length_map, fvs_len, q1]; exact h2
  have step : ∀ (H' : Heap), H'[e_b E + j]? = some (cell.setSlot f.slot (cv E v)) → H'.size = H.size → (∀ q, q ≠ e_b E + j → H'[q]? = H[q]?) → W p l e R s m args below meth c H' (locs ++ [⟨e_b E + j, f.slot⟩]) cells slots Qm (F0 m (pc + 3) arr rest) := by
    intro H' e1 e2 e3
    rw [hsl] at e1 ⊢
    refine kk H' _ (by rw [e2, hz]) ?_ (hS.put e2 e3 (Nat.le_add_right _ _))
    have hset := hP.set (p := j) (e := .inr (ci, ((fvs lg it rf j (fk ci)).map (cv E)).set k (cv E v))) WL_D he ⟨_, hc, t_OB.to (V := updV (vp_V ((fvs lg it rf j (fk ci)).map (cv E))) k (cv E v)) ⟨_, e1, g3, g4, t_set g5 hap h2 (cv E v)⟩ (fun i _ => vp_updV_set hlen (cv E v) i)⟩ e3
    rw [WL_set ho1 (by rw [cell_obj ho2 h1, fvs_set ht hi, hv, List.map_set]) ho] at hset
    exact hset
  cases hf : fin with
  | false =>
    rw [hf] at hfin'
    unfold u_lay at hlay
    rw [if_neg (by rw [hfin']; decide)] at hlay
    have h6 := u_store hfc hkC hkind hlay hff (cl_ty h1 k h2) hn hft
    exact W.putK hx hb (f := f) ⟨hown, hts _ h3, ⟨_, _, _, hsame⟩, hst⟩ (by rw [g3]; exact h6) g2 g4 (by rw [hsl]; exact k2_hasslot (g5 k h2)) rfl rfl hd step
  | true =>
    obtain ⟨hin2, hown2⟩ := hini hf
    rw [hf] at hfin'
    unfold u_lay at hlay
    rw [if_pos hfin'] at hlay
    have hcf : m.cls = cf := by
      obtain ⟨_, _, c', _, _, _, -, -, hf', -, -, -, hown3, -⟩ := Cond.laysFinal_spec hlay
      have e1 : c' = cf := by have := hff.symm.trans hf'; simp at this; exact this.1.symm
      rw [q7, hown2] at hown3
      rw [← e1]; exact Option.some.inj (hown.symm.trans hown3)
    have h6 := u_fits hfc hkC hkind (Or.inr hlay) hff (cl_ty h1 k h2) hn hft
    exact W.putFinK hx hb hown (hts _ h3) hsame hst hcf hin2 (by rw [g3]; exact h6) g2 g4 (by rw [hsl]; exact k2_hasslot (g5 k h2)) rfl rfl hd step
theorem so_new (hx : p.tables.exec = Jvm.exec) (hb : c.code = cc) (hown : s.vm.findClass own = some m.cls) (hts : ∀ w ∈ OM, w.before args s = true) (hK : KW E s) {ci idx pc N : Nat} {lg : LGt} {it : ITt} {rf : RFt} {H : Heap} {locs : List Loc} {cells slots : Nat} {arr : Array Slot} {rest : List Value} {Qm : State → Prop}
    (hbs : e_b E ≤ s.heap.size) (hd : decode cc pc = .ok (.new idx, 3)) (h1 : ci < 10) (hl : Cond.classLink own idx (clr ci).1 ∈ OM) (hL : LAY N = (ci, (fk ci).length)) (hz : H.size = e_b E + N) (hP : va_P (e_D E) vwCl (WL E N lg it rf) H) (hS : va_S (e_A E) s.heap H locs) (hc1 : cells + 1 ≤ R.cells) (hc2 : slots + 400 ≤ R.slots)
    (kk : ∀ (H1 : Heap), H1.size = e_b E + (N + 1) → va_P (e_D E) vwCl (WL E (N + 1) (zr 0 lg N) (zr 0 it N) (zr none rf N)) H1 → va_S (e_A E) s.heap H1 locs → W p l e R s m args below meth c H1 locs (cells + 1) (slots + 400) Qm (F0 m (pc + 3) arr (.ref (e_b E + N) :: rest))) : W p l e R s m args below meth c H locs cells slots Qm (F0 m pc arr rest) := by
  have hKn := hK.1.1 ci _ (cl_get h1)
  obtain ⟨q1, q2, q3, q4⟩ := cl_fk ci h1
  refine W.newcK hx hb hown (hts _ hl) (hts _ (cl_ins h1).1) (hts _ (cl_ins h1).2) rfl hd hc1 (by omega) hKn.2.1 hz fun H1 kC hkC e1 z1 o1 => ?_
  refine W.widen (k := cells + 1) (n := slots + 400) (Nat.le_refl _) (by omega) ?_
  refine kk H1 (by rw [z1]; omega) (WL_P1 hP o1 (fun i hi => ⟨zr_row hi, zr_row hi, zr_row hi⟩) ?_) ⟨Nat.le_trans hS.1 (by omega), fun q a b => (o1 q (by have := hS.1; omega)).trans (hS.2.1 q a b), hS.2.2⟩
  rw [cell_obj (ci := ci) (by rw [hL]) h1]
  refine ⟨_, cl_get h1, (u_born (clty ci) hts (cl_om h1) hKn hkC e1 (cl_ty h1)).to (fun k hk => ?_)⟩
  obtain ⟨q5, -, -⟩ := q4 k hk
  show defaultValue (clty ci k) = vp_V _ k
  unfold vp_V
  rw [List.getD_eq_getElem?_getD, List.getElem?_map, fvs_get q5]
  have h3 := cl_k3 ci h1 k hk
  revert h3
  cases clty ci k <;> simp [fva, kdo, zr, rfv, cv, defaultValue]
theorem so_arr (hx : p.tables.exec = Jvm.exec) (hb : c.code = cc) (hts : ∀ w ∈ OM, w.before args s = true) (hK : KW E s) {t : ArrayType} {pc N : Nat} {x : Int32} {lg : LGt} {it : ITt} {rf : RFt} {H : Heap} {locs : List Loc} {cells slots : Nat} {arr : Array Slot} {rest : List Value} {Qm : State → Prop}
    (hbs : e_b E ≤ s.heap.size) (hd : decode cc pc = .ok (.newarray t, 2)) (hx0 : ¬ x < 0) (hL : LAY N = (akd t, x.toNatClampNeg)) (hz : H.size = e_b E + N) (hP : va_P (e_D E) vwCl (WL E N lg it rf) H) (hS : va_S (e_A E) s.heap H locs) (hc1 : cells + 1 ≤ R.cells) (hc2 : slots + 400 ≤ R.slots)
    (kk : ∀ (H1 : Heap), H1.size = e_b E + (N + 1) → va_P (e_D E) vwCl (WL E (N + 1) (zr 0 lg N) (zr 0 it N) (zr none rf N)) H1 → va_S (e_A E) s.heap H1 locs → W p l e R s m args below meth c H1 locs (cells + 1) (slots + 400) Qm (F0 m (pc + 2) arr (.ref (e_b E + N) :: rest))) : W p l e R s m args below meth c H locs cells slots Qm (F0 m pc arr (.int x :: rest)) := by
  have hle : x.toNatClampNeg ≤ 400 := by have := lay_le N; rw [hL] at this; exact this
  have key : ∀ (k : Nat) (ty : FieldType) (a0 : vp_A), newarray.typeOf t = ty → (tyl E)[k]? = some (e_cy E k, ty) → ty.isReference = false → Cond.arrayClass ty ∈ OM → componentBytes ty ≤ 8 → cellv E (zr 0 lg N) (zr 0 it N) (zr none rf N) N = .inl (e_cy E k, a0) → (∀ cA, vp_cell cA a0 = arrV cA x.toNatClampNeg (fun _ => defaultValue ty)) → va_RA s (e_cy E k) ty = (s.vm.findClass ("[" ++ ty.toString) = some (e_cy E k)) → W p l e R s m args below meth c H locs cells slots Qm (F0 m pc arr (.int x :: rest)) := by
    intro k ty a0 ht htl hri hw hcb hcell ha hra
    subst ht
    refine va_newaK hx hb (hts _ hw) rfl hd rfl hx0 rfl (by have := Nat.mul_le_mul hle hcb; omega) hc1 (by omega) hz fun H1 cA e1 z1 o1 hAr hNm => ?_
    refine W.widen (k := cells + 1) (n := slots + 400) (Nat.le_refl _) (by omega) ?_
    refine kk H1 (by rw [z1]; omega) (WL_P1 hP o1 (fun i hi => ⟨zr_row hi, zr_row hi, zr_row hi⟩) ?_) ⟨Nat.le_trans hS.1 (by omega), fun q a b => (o1 q (by have := hS.1; omega)).trans (hS.2.1 q a b), hS.2.2⟩
    rw [hcell]
    show H1[_]? = some (vp_cell _ _)
    have h2 := (hK.1.2 k _ htl).2
    rw [hra] at h2
    have hc : cA = e_cy E k := Option.some.inj (hNm.symm.trans h2)
    rw [ha, ← hc]
    exact e1
  have hk : (LAY N).1 = akd t := congrArg Prod.fst hL
  have hn : (LAY N).2 = x.toNatClampNeg := congrArg Prod.snd hL
  have hcl : cellv E (zr 0 lg N) (zr 0 it N) (zr none rf N) N = cellK E (zr 0 lg N) (zr 0 it N) (zr none rf N) (akd t) x.toNatClampNeg N := by unfold cellv; rw [hk, hn]
  cases t <;> try exact absurd hk (lay_ne N).1
  · exact key 0 .byte (x.toNatClampNeg, .inl (fun _ => 0)) rfl rfl rfl (ar_in _ (by decide)) (by decide) (by rw [hcl]; show (Sum.inl (e_cy E 0, x.toNatClampNeg, Sum.inl (zr 0 it N N)) : va_E) = _; rw [zr_self]) (fun _ => rfl) rfl
  · exact key 1 .int (x.toNatClampNeg, .inl (fun _ => 0)) rfl rfl rfl (ar_in _ (by decide)) (by decide) (by rw [hcl]; show (Sum.inl (e_cy E 1, x.toNatClampNeg, Sum.inl (zr 0 it N N)) : va_E) = _; rw [zr_self]) (fun _ => rfl) rfl
  · exact key 2 .long (x.toNatClampNeg, .inr (.inl (fun _ => 0))) rfl rfl rfl (ar_in _ (by decide)) (by decide) (by rw [hcl]; show (Sum.inl (e_cy E 2, x.toNatClampNeg, Sum.inr (Sum.inl (zr 0 lg N N))) : va_E) = _; rw [zr_self]) (fun _ => rfl) rfl
theorem so_anew (hx : p.tables.exec = Jvm.exec) (hb : c.code = cc) (hown : s.vm.findClass own = some m.cls) (hts : ∀ w ∈ OM, w.before args s = true) (hK : KW E s) {ci idx pc N : Nat} {x : Int32} {lg : LGt} {it : ITt} {rf : RFt} {H : Heap} {locs : List Loc} {cells slots : Nat} {arr : Array Slot} {rest : List Value} {Qm : State → Prop}
    (hbs : e_b E ≤ s.heap.size) (hd : decode cc pc = .ok (.anewarray idx, 3)) (h1 : ci < 10) (hl : Cond.classLink own idx (clr ci).1 ∈ OM) (hx0 : ¬ x < 0) (hL : LAY N = (ako ci, x.toNatClampNeg)) (hz : H.size = e_b E + N) (hP : va_P (e_D E) vwCl (WL E N lg it rf) H) (hS : va_S (e_A E) s.heap H locs) (hc1 : cells + 1 ≤ R.cells) (hc2 : slots + 400 ≤ R.slots)
    (kk : ∀ (H1 : Heap), H1.size = e_b E + (N + 1) → va_P (e_D E) vwCl (WL E (N + 1) (zr 0 lg N) (zr 0 it N) (zr none rf N)) H1 → va_S (e_A E) s.heap H1 locs → W p l e R s m args below meth c H1 locs (cells + 1) (slots + 400) Qm (F0 m (pc + 3) arr (.ref (e_b E + N) :: rest))) : W p l e R s m args below meth c H locs cells slots Qm (F0 m pc arr (.int x :: rest)) := by
  have hle : x.toNatClampNeg ≤ 400 := by have := lay_le N; rw [hL] at this; exact this
  have hk : (LAY N).1 = ako ci := congrArg Prod.fst hL
  have hn : (LAY N).2 = x.toNatClampNeg := congrArg Prod.snd hL
  have hcl : cellv E (zr 0 lg N) (zr 0 it N) (zr none rf N) N = cellK E (zr 0 lg N) (zr 0 it N) (zr none rf N) (ako ci) x.toNatClampNeg N := by unfold cellv; rw [hk, hn]
  have key : ∀ (k : Nat) (C : String), (clr ci).1 = C → (tyl E)[k]? = some (e_cy E k, .object C) → va_AO C s → cellv E (zr 0 lg N) (zr 0 it N) (zr none rf N) N = .inl (e_cy E k, x.toNatClampNeg, .inr (.inr (.inr (.inr (fun _ => none))))) → W p l e R s m args below meth c H locs cells slots Qm (F0 m pc arr (.int x :: rest)) := by
    intro k C hC htl hao hcell
    subst hC
    refine W.anew hx hb hown (hts _ hl) (va_AO.use hao) rfl hd rfl hx0 (by omega) hc1 (by omega) fun cA kA comp f1 f2 f3 f4 => ?_
    generalize hH1 : H.push ({ cls := cA, slots := Array.replicate x.toNatClampNeg .null, vm := .none } : Cell) = H1
    have z1 : H1.size = H.size + 1 := by rw [← hH1, Array.size_push]
    have e1 : H1[H.size]? = some (arrV cA x.toNatClampNeg (fun _ => .null)) := by rw [← hH1, Array.getElem?_push_size, ← arrV_new]
    have o1 : ∀ q : Nat, q < H.size → H1[q]? = H[q]? := fun q hq => by rw [← hH1, Array.getElem?_push, if_neg (Nat.ne_of_lt hq)]
    rw [hz] at e1 o1
    obtain ⟨kA', comp', g1, g2, g3, g4⟩ := (hK.1.2 k _ htl).2
    have hc : cA = e_cy E k := Option.some.inj (f1.symm.trans g4)
    rw [hz]
    refine W.widen (k := cells + 1) (n := slots + 400) (Nat.le_refl _) (by omega) ?_
    refine kk H1 (by rw [z1, hz]; omega) (WL_P1 hP o1 (fun i hi => ⟨zr_row hi, zr_row hi, zr_row hi⟩) ?_) ⟨Nat.le_trans hS.1 (by omega), fun q a b => (o1 q (by have := hS.1; omega)).trans (hS.2.1 q a b), hS.2.2⟩
    rw [hcell]
    show H1[_]? = some (vp_cell _ _)
    rw [vp_cell_q, ← hc]
    exact e1
  have hs : ∀ k, k = 13 ∨ k = 14 ∨ k = 15 → cellK E (zr 0 lg N) (zr 0 it N) (zr none rf N) k x.toNatClampNeg N = .inl (e_cy E (k - 10), x.toNatClampNeg, .inr (.inr (.inr (.inr (fun _ => none))))) := by
    intro k hk
    rcases hk with rfl | rfl | rfl
    · show (Sum.inl (e_cy E 3, x.toNatClampNeg, Sum.inr (Sum.inr (Sum.inr (Sum.inr fun i => (zr none rf N N i).map fun q => e_b E + q)))) : va_E) = _
      rw [zr_self]
      rfl
    · show (Sum.inl (e_cy E 4, x.toNatClampNeg, Sum.inr (Sum.inr (Sum.inr (Sum.inr fun i => (zr none rf N N i).map fun q => e_b E + q)))) : va_E) = _
      rw [zr_self]
      rfl
    · show (Sum.inl (e_cy E 5, x.toNatClampNeg, Sum.inr (Sum.inr (Sum.inr (Sum.inr fun i => (zr none rf N N i).map fun q => e_b E + q)))) : va_E) = _
      rw [zr_self]
      rfl
  have hnn := (lay_ne N).2
  revert hk hcl hl key h1
  refine fun h1 => lt10 (P := fun ci => Cond.classLink own idx (clr ci).1 ∈ OM → (LAY N).1 = ako ci → cellv E (zr 0 lg N) (zr 0 it N) (zr none rf N) N = cellK E (zr 0 lg N) (zr 0 it N) (zr none rf N) (ako ci) x.toNatClampNeg N → (∀ (k : Nat) (C : String), (clr ci).1 = C → (tyl E)[k]? = some (e_cy E k, .object C) → va_AO C s → cellv E (zr 0 lg N) (zr 0 it N) (zr none rf N) N = .inl (e_cy E k, x.toNatClampNeg, .inr (.inr (.inr (.inr (fun _ => none))))) → W p l e R s m args below meth c H locs cells slots Qm (F0 m pc arr (.int x :: rest))) → W p l e R s m args below meth c H locs cells slots Qm (F0 m pc arr (.int x :: rest))) ?_ ?_ ?_ ?_ ?_ ?_ ?_ ?_ ?_ ?_ h1
  · exact fun _ a => absurd a hnn
  · exact fun _ _ a b => b 3 RX1 rfl rfl hK.2.1 (a.trans (hs 13 (Or.inl rfl)))
  · exact fun _ a => absurd a hnn
  · exact fun _ _ a b => b 4 RX3 rfl rfl hK.2.2.1 (a.trans (hs 14 (Or.inr (Or.inl rfl))))
  · exact fun _ a => absurd a hnn
  · exact fun _ a => absurd a hnn
  · exact fun _ _ a b => b 5 RX6 rfl rfl hK.2.2.2 (a.trans (hs 15 (Or.inr (Or.inr rfl))))
  · exact fun _ a => absurd a hnn
  · exact fun _ a => absurd a hnn
  · exact fun _ a => absurd a hnn
end SO
