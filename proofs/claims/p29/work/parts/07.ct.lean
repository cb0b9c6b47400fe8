/-! CONTRACTS: what a method does, from what its body was shown to do; and the calls of it -/
def WD (E : Ev) (N : Nat) (lg : LGt) (it : ITt) (rf : RFt) (U : State) : Prop := U.heap.size = e_b E + N ∧ va_P (e_D E) vwCl (WL E N lg it rf) U.heap ∧ KW E U
def CQ (E : Ev) (N : Nat) (Q : Post) : Array Value → State → Outcome → State → Prop := fun _ st oc t => (∃ (r : Option Value) (lg : LGt) (it : ITt) (rf : RFt), oc = .returned (r.map (cv E)) ∧ Q r lg it rf ∧ t.heap.size = e_b E + N ∧ va_P (e_D E) vwCl (WL E N lg it rf) t.heap) ∧ va_F (e_A E) st t
def wsY (y : MethodName) (cc : ByteArray) (nL : Nat) (ret : Option FieldType) : List Cond := .code y cc nL ret :: OM
def CT (E : Ev) (l : Launch) (y : MethodName) (ws : List Cond) (rm : Room) (mc : Nat) (sp : Spc) : Prop :=
  rm.cells = mc ∧ rm.slots = 400 * mc ∧ ∀ (as : List Value) (N : Nat) (lg : LGt) (it : ITt) (rf : RFt) (Q : Post), sp as N lg it rf Q → Met l y ws rm (va_Pc (as.map (cv E)) (WD E N lg it rf)) (CQ E (N + mc) Q) mc (400 * mc) (e_A E)
theorem lflat_mem {E : Ev} : ∀ {as : List Value} {i k : Nat} {v : Value}, (lflat as)[k]? = some v → isU v = false → (i + k, cv E v) ∈ lv_args i (as.map (cv E))
  | [], i, k, v, h, _ => by simp [lflat] at h
  | a :: t, i, k, v, h, hu => by
    unfold lflat at h
    show _ ∈ (i, cv E a) :: lv_args (if (cv E a).category = 2 then i + 2 else i + 1) (t.map (cv E))
    cases hb : Nat.beq a.category 2 with
    | true =>
      have hc := Nat.eq_of_beq_eq_true hb
      rw [hb, cond_true] at h
      rw [cv_cat, if_pos hc]
      match k with
      | 0 =>
        simp only [List.getElem?_cons_zero, Option.some.injEq] at h
        subst h
        exact List.mem_cons_self
      | 1 =>
        simp only [List.getElem?_cons_succ, List.getElem?_cons_zero, Option.some.injEq] at h
        subst h
        cases hu
      | k + 2 =>
        simp only [List.getElem?_cons_succ] at h
        have := lflat_mem (E := E) (i := i + 2) h hu
        rw [show i + (k + 2) = i + 2 + k by omega]
        exact List.mem_cons_of_mem _ this
    | false =>
      have hc : ¬ a.category = 2 := fun q => by rw [show Nat.beq a.category 2 = true from by rw [q]; rfl] at hb; cases hb
      rw [hb, cond_false] at h
      rw [cv_cat, if_neg hc]
      match k with
      | 0 =>
        simp only [List.getElem?_cons_zero, Option.some.injEq] at h
        subst h
        exact List.mem_cons_self
      | k + 1 =>
        simp only [List.getElem?_cons_succ] at h
        have := lflat_mem (E := E) (i := i + 1) h hu
        rw [show i + (k + 1) = i + 1 + k by omega]
        exact List.mem_cons_of_mem _ this
theorem lflat_len {E : Ev} : ∀ {as : List Value}, (lg_sl (as.map (cv E))).length = (lflat as).length
  | [] => rfl
  | a :: t => by
    have ih := lflat_len (E := E) (as := t)
    unfold lflat
    rw [List.map_cons]
    unfold lg_sl at ih ⊢
    rw [List.flatMap_cons, cv_cat, List.length_append, ih]
    cases hb : Nat.beq a.category 2 with
    | true => rw [if_pos (Nat.eq_of_beq_eq_true hb), cond_true]; simp only [List.length_cons, List.length_nil]; omega
    | false =>
      rw [if_neg (fun q => by rw [show Nat.beq a.category 2 = true from by rw [q]; rfl] at hb; cases hb), cond_false]
      simp only [List.length_cons, List.length_nil]; omega
theorem lini_len {as : List Value} {nL : Nat} (h : (lflat as).length ≤ nL) : (lini as nL).length = nL := by
  unfold lini
  rw [List.length_append, List.length_replicate]
  omega
theorem lini_has {E : Ev} {as : List Value} {nL : Nat} {arr : Array Slot} (h : lv_has arr nL (lv_args 0 (as.map (cv E)))) : lv_has arr nL (lva E 0 (lini as nL)) := by
  refine ⟨h.1, h.2.1, fun q hq => h.2.2 q ?_⟩
  obtain ⟨k, w⟩ := q
  obtain ⟨d, v, e1, e2, e3, e4⟩ := lva_mem.mp hq
  have e1 : k = d := by omega
  subst e1
  unfold lini at e2
  by_cases hk : k < (lflat as).length
  · rw [List.getElem?_append_left hk] at e2
    have := lflat_mem (E := E) (i := 0) e2 e3
    rw [e4]
    simpa using this
  · rw [List.getElem?_append_right (by omega)] at e2
    have := List.eq_of_mem_replicate (List.mem_of_getElem? e2)
    subst this
    cases e3
theorem fls_len : ∀ {ls ls' : List Value}, fls ls ls' → ls'.length = ls.length
  | [], [], _ => rfl
  | _ :: _, _ :: _, h => by simp only [List.length_cons, fls_len h.2]
  | [], _ :: _, h => h.elim
  | _ :: _, [], h => h.elim
theorem fls_lva {E : Ev} : ∀ {ls ls' : List Value} {i : Nat} {q : Nat × Value}, fls ls ls' → q ∈ lva E i ls' → q ∈ lva E i ls
  | [], [], _, _, _, h => h
  | a :: t, b :: u, i, q, h, hq => by
    obtain ⟨hb, ht⟩ := h
    have up : q ∈ lva E (i + 1) t → q ∈ lva E i (a :: t) := fun hm => by
      unfold lva
      cases isU a with
      | true => exact hm
      | false => exact List.mem_cons_of_mem _ hm
    rcases hb with rfl | rfl
    · exact up (fls_lva ht hq)
    · unfold lva at hq ⊢
      cases hu : isU b with
      | true => rw [hu] at hq; exact fls_lva (i := i + 1) ht hq
      | false =>
        rw [hu] at hq
        rcases List.mem_cons.mp hq with e | e
        · exact e ▸ List.mem_cons_self
        · exact List.mem_cons_of_mem _ (fls_lva ht e)
  | [], _ :: _, _, _, h, _ => h.elim
  | _ :: _, [], _, _, h, _ => h.elim
theorem pw_fg {E : Ev} {p : Program} {l : Launch} {e : Env} {R : Room} {s : State} {m : MethodId} {args : Array Value} {below : List Frame} {meth : Method} {c : Code} {Qm : State → Prop} {nL Ne : Nat} : Fg (PW E p l e R s m args below meth c Qm nL Ne) := fun ls' hf kk a1 a2 H locs cells slots arr a3 a4 a5 a6 a7 a8 =>
  kk a1 ((fls_len hf).trans a2) H locs cells slots arr a3 a4 a5 ⟨a6.1, a6.2.1, fun q hq => a6.2.2 q (fls_lva hf hq)⟩ a7 a8
theorem ct_of {E : Ev} {l : Launch} {y : MethodName} {own : String} {T : Tab} {cc : ByteArray} {nL mc : Nat} {rm : Room} {sp : Spc} (hy : plainName y.cls = true) (hcls : y.cls = own) (hI : ∀ ci, ci < 10 → Nat.beq T.2.2.2.2.1 ci = true → y.name = "<init>" ∧ (clr ci).1 = own) (hrm : rm.cells = mc ∧ rm.slots = 400 * mc) (hT : TOK E l rm own T)
    (hb : ∀ (as : List Value) (N : Nat) (lg : LGt) (it : ITt) (rf : RFt) (Q : Post), sp as N lg it rf Q → Bd T cc nL mc as N lg it rf Q) : CT E l y (wsY y cc nL T.2.2.2.2.2) rm mc sp := by
  refine ⟨hrm.1, hrm.2, fun as N lg it rf Q hs => ?_⟩
  obtain ⟨hlen, hbody⟩ := hb as N lg it rf Q hs
  refine Met.ofW (cc := cc) (maxL := nL) (ret := T.2.2.2.2.2) hy rfl ?_
  intro p e s m args below meth c s₁ B hml hv
  obtain ⟨rfl, hz, hP, hK⟩ := hv
  have hts0 := atoms_spec (ws := wsY y cc nL T.2.2.2.2.2) B.pre
  have hts : ∀ w ∈ OM, w.before (as.map (cv E)).toArray s = true := fun w hw => hts0 w (List.mem_cons_of_mem _ hw)
  have hown : s.vm.findClass own = some m.cls := hcls ▸ findClass_of_methodNamed B.named
  have hname : meth.name = y.name := (name_of_methodNamed B.named B.method).1
  have hbs : e_b E ≤ s.heap.size := by omega
  have hS := sound (E := E) (l := l) (R := rm) (T := T) (Qp := Q) (Qc := CQ E (N + mc) Q) (nL := nL) (Ne := N + mc) (below := below) (e := e) B.exec B.bytes hml hown hts hK hbs B.notSynchronized B.returns (fun ci h10 hc => by rw [hname]; exact hI ci h10 hc) hT
    (fun r lg' it' rf' t hq z1 z2 _ z4 => ⟨⟨r, lg', it', rf', rfl, hq, z1, z2⟩, z4⟩)
  have hw := hbody _ hS.1 hS.2 pw_fg
  rw [lg_entry_eq]
  have hl := lv_entry (as.map (cv E)) (n := nL) (by rw [lflat_len]; exact hlen)
  have := hw (Nat.le_add_right _ _) (lini_len hlen) s.heap [] 0 0 _ hz hP va_S.rf (lini_has hl) (by omega) (by omega)
  rw [hrm.1, hrm.2] at this
  exact this
theorem om_goodIn {y : MethodName} {cc : ByteArray} {nL : Nat} {ret : Option FieldType} {L : List Cond} (hL : ∀ w ∈ L, w ∈ OM) (hc : Cond.code y cc nL ret ∈ OM) : GoodIn OM (L ++ wsY y cc nL ret) := by
  intro w hw
  have h : w ∈ OM := by
    rcases List.mem_append.mp hw with h | h
    · exact hL w h
    · rcases List.mem_cons.mp h with rfl | h
      · exact hc
      · exact h
  exact ⟨h, om_good h⟩
def MOK (y : MethodName) (n : Nat) : Prop := y.cls ≠ "java/lang/invoke/MethodHandle" ∧ y.cls ≠ "java/lang/invoke/VarHandle" ∧ (parseMethodDescriptor y.desc).map (fun d => d.parameters.length) = some n
theorem wd_blind {E : Ev} {N : Nat} {lg : LGt} {it : ITt} {rf : RFt} {av : List Value} : FrameBlind (va_Pc av (WD E N lg it rf)) := fun a U g mk q => by
  obtain ⟨q0, q1, qP, qK⟩ := q
  exact ⟨q0, q1, qP, KW.moved (u := U) (U := U.calling g mk a) (Vm.Alike.refl U.vm) qK⟩
section CK
variable {E : Ev} {l : Launch} {R : Room} {own : String} {idx : Nat} {y : MethodName} {cc : ByteArray} {nL na mc ci : Nat} {ret : Option FieldType} {rm : Room} {sp : Spc}
theorem ck_end {p : Program} {e : Env} {s : State} {m : MethodId} {args : Array Value} {below : List Frame} {meth : Method} {c : Code} {Qm : State → Prop} {H : Heap} {locs : List Loc} {cells slots N : Nat} {pc : Nat} {arr : Array Slot} {rest stk : List Value} {K : Post} {a : Array Value}
    (hr : va_Run p l e R s m args below meth c H locs cells slots mc (400 * mc) (F0 m pc arr stk) (rest.map (cv E)) (CQ E (N + mc) K a) (e_A E)) (hz : H.size = e_b E + N) (hS : va_S (e_A E) s.heap H locs)
    (kk : ∀ (r : Option Value) (lg' : LGt) (it' : ITt) (rf' : RFt) (H' : Heap) (locs' : List Loc), K r lg' it' rf' → H'.size = e_b E + (N + mc) → va_P (e_D E) vwCl (WL E (N + mc) lg' it' rf') H' → va_S (e_A E) s.heap H' locs' →
        W p l e R s m args below meth c H' locs' (cells + mc) (slots + 400 * mc) Qm (F0 m (pc + 3) arr ((r.toList ++ rest).map (cv E)))) : W p l e R s m args below meth c H locs cells slots Qm (F0 m pc arr stk) := by
  intro T hT X
  obtain ⟨v, st₀, t, T', L, h0, X', hL, e1, e2, ⟨⟨r, lg', it', rf', hv, hk, hz', hP'⟩, hF⟩, st⟩ := hr T hT X
  have hv : v = r.map (cv E) := by cases hv; rfl
  subst hv
  have hF1 : H.size ≤ t.heap.size ∧ ∀ q : Nat, q < H.size → ¬ e_A E q → t.heap[q]? = H[q]? := by rw [← h0]; exact hF
  obtain ⟨t2, a1, b1⟩ := kk r lg' it' rf' T'.heap (locs ++ L) hk (by rw [e1]; exact hz') (by rw [e1]; exact hP') ⟨Nat.le_trans hS.1 (by rw [e1]; exact hF1.1), fun q z1 z2 => by rw [e1, hF1.2 q (Nat.lt_of_lt_of_le z1 hS.1) z2]; exact hS.2.1 q z1 z2, fun q hq => by
      rcases List.mem_append.mp hq with h | h
      · exact hS.2.2 q h
      · exact hL q h⟩ T' rfl X'
  refine ⟨t2, st t2 ?_, b1⟩
  have e : (r.toList ++ rest).map (cv E) = (r.map (cv E)).toList ++ rest.map (cv E) := by cases r <;> simp
  rw [e] at a1
  exact a1
theorem ctgs_cv {rest : List Value} (h : ctgs rest ≤ 8) : ((rest.map (cv E)).map fun v => v.category).sum ≤ 8 := by
  rw [List.map_map]
  have : ((fun v => v.category) ∘ cv E) = fun v => v.category := by funext v; exact cv_cat E v
  rw [this]
  exact h
theorem cok_V (ct : CT E l y (wsY y cc nL ret) rm mc sp) (hci : ci < 10) (hyc : y.cls = (clr ci).1) (h1 : Cond.methodLink own idx y ∈ OM) (h2 : Cond.instanceMethod y ∈ OM) (h3 : Cond.selects (clr ci).1 y y ∈ OM) (h4 : Cond.code y cc nL ret ∈ OM) (hd : MOK y na) (hR : rm.frames + 1 ≤ R.frames ∧ 8 + (nL + 11) + rm.locals ≤ R.locals) :
    COK E l R own idx (0, na + 1, ci, mc, sp) := by
  intro p e s m args below meth c cc' nL' Qm hx hb hml hown hts hK hbs pc arr H locs cells slots as rest N lg it rf K hdec harr hlen hrec hz hP hS hct hc1 hc2 hsp kk
  obtain ⟨j, t, rfl, hO⟩ := hrec
  obtain ⟨hrc, hrs, hM⟩ := ct
  have hg : GoodIn OM (wsV own idx (clr ci).1 y (wsY y cc nL ret)) := om_goodIn (L := [.methodLink own idx y, .instanceMethod y, .selects (clr ci).1 y y, .initialized (clr ci).1]) (fun w hw => by
    simp only [List.mem_cons, List.not_mem_nil, or_false] at hw
    rcases hw with rfl | rfl | rfl | rfl
    · exact h1
    · exact h2
    · exact h3
    · exact (cl_ins hci).2) h4
  have e : ((Value.ref j :: t).reverse ++ rest).map (cv E) = (t.map (cv E)).reverse ++ .ref (e_b E + j) :: rest.map (cv E) := by simp [cv]
  rw [e]
  refine ck_end (N := N) (K := K) (va_runV (As := t.map (cv E)) (rest := rest.map (cv E)) (b := e_b E + j) ⟨hx, hb, hml, hown, hts⟩ (hM _ N lg it rf K hsp) (cwV na hts hg rfl hrc hrs ⟨hyc, hd.1, hd.2.1, hd.2.2⟩ hR) ⟨wd_blind, ?_, fun U hU hW => ⟨rfl, by rw [hU]; exact hz, by rw [hU]; exact hP, KW.moved hW.alike hK⟩⟩ rfl (by rw [List.length_map]; simpa using hlen) harr rfl (lv_room (ctgs_cv hct)) hdec ⟨hc1, hc2⟩) hz hS kk
  exact va_recv (q0 := j) hK.1 hP (cl_get hci) ((WL_get hO.1).trans (by rw [cell_obj hO.2 hci]))
theorem cok_S (ct : CT E l y (wsY y cc nL ret) rm mc sp) (h0 : Cond.initialized y.cls ∈ OM) (h1 : Cond.methodLink own idx y ∈ OM) (h2 : Cond.static y ∈ OM) (h4 : Cond.code y cc nL ret ∈ OM) (hd : MOK y na) (hR : rm.frames + 1 ≤ R.frames ∧ 8 + (nL + 11) + rm.locals ≤ R.locals) :
    COK E l R own idx (1, na, ci, mc, sp) := by
  intro p e s m args below meth c cc' nL' Qm hx hb hml hown hts hK hbs pc arr H locs cells slots as rest N lg it rf K hdec harr hlen hrec hz hP hS hct hc1 hc2 hsp kk
  obtain ⟨hrc, hrs, hM⟩ := ct
  have hg : GoodIn OM (va_wsS own idx y (wsY y cc nL ret)) := om_goodIn (L := [.methodLink own idx y, .static y, .initialized y.cls]) (fun w hw => by
    simp only [List.mem_cons, List.not_mem_nil, or_false] at hw
    rcases hw with rfl | rfl | rfl
    · exact h1
    · exact h2
    · exact h0) h4
  have e : (as.reverse ++ rest).map (cv E) = (as.map (cv E)).reverse ++ rest.map (cv E) := by simp
  rw [e]
  exact ck_end (N := N) (K := K) (va_runS (As := as.map (cv E)) (rest := rest.map (cv E)) ⟨hx, hb, hml, hown, hts⟩ (hM _ N lg it rf K hsp) (va_cwS na hts hg rfl hrc hrs ⟨hd.1, hd.2.1, hd.2.2⟩ hR) ⟨wd_blind, fun U hU hW => ⟨rfl, by rw [hU]; exact hz, by rw [hU]; exact hP, KW.moved hW.alike hK⟩⟩ rfl (by rw [List.length_map]; exact hlen) harr rfl (lv_room (ctgs_cv hct)) hdec ⟨hc1, hc2⟩) hz hS kk
theorem cok_I (ct : CT E l y (wsY y cc nL none) rm mc sp) (hsh : ∀ as N lg it rf K, sp as N lg it rf K → ∃ j t, as = .ref j :: t) (hyn : y.name = "<init>") (h0 : Cond.initialized y.cls ∈ OM) (h1 : Cond.methodLink own idx y ∈ OM) (h2 : Cond.instanceMethod y ∈ OM) (h4 : Cond.code y cc nL none ∈ OM) (hd : MOK y na) (hR : rm.frames + 1 ≤ R.frames ∧ 8 + (nL + 11) + rm.locals ≤ R.locals) :
    COK E l R own idx (2, na + 1, ci, mc, sp) := by
  intro p e s m args below meth c cc' nL' Qm hx hb hml hown hts hK hbs pc arr H locs cells slots as rest N lg it rf K hdec harr hlen hrec hz hP hS hct hc1 hc2 hsp kk
  obtain ⟨j, t, rfl⟩ := hsh as N lg it rf K hsp
  obtain ⟨hrc, hrs, hM⟩ := ct
  have hg : GoodIn OM (wsY y cc nL none) := om_goodIn (L := []) (fun w hw => by cases hw) h4
  have e : ((Value.ref j :: t).reverse ++ rest).map (cv E) = (t.map (cv E)).reverse ++ .ref (e_b E + j) :: rest.map (cv E) := by simp [cv]
  rw [e]
  exact ck_end (N := N) (K := K) (va_runI (As := t.map (cv E)) (rest := rest.map (cv E)) (b := e_b E + j) ⟨hx, hb, hml, hown, hts⟩ (hM _ N lg it rf K hsp) (cwI na hts hg rfl hrc hrs (hts _ h0) (hts _ h1) (hts _ h2) hyn ⟨hd.1, hd.2.1, hd.2.2⟩ hR) ⟨wd_blind, fun U hU hW => ⟨rfl, by rw [hU]; exact hz, by rw [hU]; exact hP, KW.moved hW.alike hK⟩⟩ rfl (by rw [List.length_map]; simpa using hlen) harr rfl (lv_room (ctgs_cv hct)) hdec ⟨hc1, hc2⟩) hz hS kk
def sp_obj : Spc := fun as _ lg it rf K => match as with | [.ref _] => K none lg it rf | _ => False
def sp_min : Spc := fun as _ lg it rf K => match as with | [.int x, .int y] => K (some (.int (if y < x then y else x))) lg it rf | _ => False
def sp_max : Spc := fun as _ lg it rf K => match as with | [.int x, .int y] => K (some (.int (if x < y then y else x))) lg it rf | _ => False
theorem cok_obj (h1 : Cond.methodLink own idx Lib.objectInit ∈ OM) (h2 : Cond.instanceMethod Lib.objectInit ∈ OM) (h3 : Cond.code Lib.objectInit ⟨#[0xb1]⟩ 1 none ∈ OM) (hR : 1 ≤ R.frames ∧ 20 ≤ R.locals) : COK E l R own idx (2, 1, ci, 0, sp_obj) := by
  intro p e s m args below meth c cc' nL' Qm hx hb hml hown hts hK hbs pc arr H locs cells slots as rest N lg it rf K hdec harr hlen hrec hz hP hS hct hc1 hc2 hsp kk
  change sp_obj as N lg it rf K at hsp
  unfold sp_obj at hsp
  split at hsp
  · rename_i a0
    show W p l e R s m args below meth c H locs cells slots Qm (F0 m pc arr (.ref (e_b E + a0) :: rest.map (cv E)))
    have h8 := ctgs_cv (E := E) hct
    exact W.objInit hx hb hown (hts _ h1) (hts _ h2) (hts _ h3) rfl (by rw [hml]; exact harr) rfl hdec hR.1 (by show 2 * 0 + _ + 12 ≤ _; omega) (kk none lg it rf H locs hsp hz hP hS)
  · exact hsp.elim
theorem cok_min (h1 : Cond.methodLink own idx Lib.Math.min.name ∈ OM) (h2 : Cond.static Lib.Math.min.name ∈ OM) (h3 : Cond.initialized "java/lang/Math" ∈ OM) (h4 : Cond.code Lib.Math.min.name Lib.Math.min.code 2 (some .int) ∈ OM) (hR : 1 ≤ R.frames ∧ 21 ≤ R.locals) : COK E l R own idx (1, 2, ci, 0, sp_min) := by
  intro p e s m args below meth c cc' nL' Qm hx hb hml hown hts hK hbs pc arr H locs cells slots as rest N lg it rf K hdec harr hlen hrec hz hP hS hct hc1 hc2 hsp kk
  change sp_min as N lg it rf K at hsp
  unfold sp_min at hsp
  split at hsp
  · rename_i x0 y0
    show W p l e R s m args below meth c H locs cells slots Qm (F0 m pc arr (.int y0 :: .int x0 :: rest.map (cv E)))
    have h8 := ctgs_cv (E := E) hct
    exact va_mmin hx hb (by rw [hml]; exact harr.symm) hown (hts _ h1) (hts _ h2) (hts _ h3) (hts _ h4) hR.1 (by omega) (by omega) (by omega) hdec (kk _ lg it rf H locs hsp hz hP hS)
  · exact hsp.elim
theorem cok_max (h1 : Cond.methodLink own idx Lib.Math.max.name ∈ OM) (h2 : Cond.static Lib.Math.max.name ∈ OM) (h3 : Cond.initialized "java/lang/Math" ∈ OM) (h4 : Cond.code Lib.Math.max.name Lib.Math.max.code 2 (some .int) ∈ OM) (hR : 1 ≤ R.frames ∧ 21 ≤ R.locals) : COK E l R own idx (1, 2, ci, 0, sp_max) := by
  intro p e s m args below meth c cc' nL' Qm hx hb hml hown hts hK hbs pc arr H locs cells slots as rest N lg it rf K hdec harr hlen hrec hz hP hS hct hc1 hc2 hsp kk
  change sp_max as N lg it rf K at hsp
  unfold sp_max at hsp
  split at hsp
  · rename_i x0 y0
    show W p l e R s m args below meth c H locs cells slots Qm (F0 m pc arr (.int y0 :: .int x0 :: rest.map (cv E)))
    have h8 := ctgs_cv (E := E) hct
    exact va_mmax hx hb (by rw [hml]; exact harr.symm) hown (hts _ h1) (hts _ h2) (hts _ h3) (hts _ h4) hR.1 (by omega) (by omega) (by omega) hdec (kk _ lg it rf H locs hsp hz hP hS)
  · exact hsp.elim
def rcp {α : Type} (f : Nat → Nat → α) (a0 a1 sp dp n : Nat) : Nat → Nat → α := fun a => if a = a1 then va_cpy (f a0) (f a1) sp dp n else f a
theorem rcp_row {α : Type} {f : Nat → Nat → α} {a0 a1 sp dp n i : Nat} (h : i ≠ a1) : rcp f a0 a1 sp dp n i = f i := by simp [rcp, h]
theorem rcp_eq {α : Type} {f : Nat → Nat → α} {a0 a1 sp dp n : Nat} : rcp f a0 a1 sp dp n a1 = va_cpy (f a0) (f a1) sp dp n := by simp [rcp]
def cpc (a0 a1 N k : Nat) (sp dp n : Int32) : Prop := (Ob N a0 k ∧ Ob N a1 k) ∧ (¬ sp < 0 ∧ ¬ dp < 0 ∧ ¬ n < 0) ∧ sp.toNatClampNeg + n.toNatClampNeg ≤ (LAY a0).2 ∧ dp.toNatClampNeg + n.toNatClampNeg ≤ (LAY a1).2
def sp_cpi : Spc := fun as N lg it rf K => match as with | [.ref a0, .int sp, .ref a1, .int dp, .int n] => cpc a0 a1 N 11 sp dp n ∧ K none lg (rcp it a0 a1 sp.toNatClampNeg dp.toNatClampNeg n.toNatClampNeg) rf | _ => False
def sp_cpl : Spc := fun as N lg it rf K => match as with | [.ref a0, .int sp, .ref a1, .int dp, .int n] => cpc a0 a1 N 12 sp dp n ∧ K none (rcp lg a0 a1 sp.toNatClampNeg dp.toNatClampNeg n.toNatClampNeg) it rf | _ => False

theorem cok_cpi (h1 : Cond.methodLink own idx arraycopyName ∈ OM) (h2 : Cond.native arraycopyName ∈ OM) (h3 : Cond.static arraycopyName ∈ OM) (h4 : Cond.initialized "java/lang/System" ∈ OM) (hR : 1 ≤ R.frames ∧ 26 ≤ R.locals) : COK E l R own idx (1, 5, ci, 0, sp_cpi) := by
  intro p e s m args below meth c cc' nL' Qm hx hb hml hown hts hK hbs pc arr H locs cells slots as rest N lg it rf K hdec harr hlen hrec hz hP hS hct hc1 hc2 hsp kk
  change sp_cpi as N lg it rf K at hsp
  unfold sp_cpi at hsp
  split at hsp
  · rename_i a0 sp a1 dp n
    obtain ⟨⟨⟨⟨p1, p2⟩, ⟨p3, p4⟩⟩, ⟨q1, q2, q3⟩, q4, q5⟩, hk⟩ := hsp
    have h8 := ctgs_cv (E := E) hct
    have nn : ∀ z : Int32, ¬ z < 0 → z.toInt = (z.toNatClampNeg : Int) := by
      intro z hz
      have hz0 : (0 : Int) ≤ z.toInt := by simpa using Int32.le_iff_toInt_le.mp (Int32.not_lt.mp hz)
      show z.toInt = ((z.toInt.toNat : Nat) : Int)
      omega
    have hca : H[e_b E + a0]? = some (vp_cell (e_cy E 1) ((LAY a0).2, .inl (it a0))) := by
      have hh := hP a0 _ (WL_get p1)
      unfold cellv at hh
      rw [p2] at hh
      exact hh
    have hcb : H[e_b E + a1]? = some (vp_cell (e_cy E 1) ((LAY a1).2, .inl (it a1))) := by
      have hh := hP a1 _ (WL_get p3)
      unfold cellv at hh
      rw [p4] at hh
      exact hh
    have htl : (tyl E)[1]? = some (e_cy E 1, .int) := rfl
    obtain ⟨-, k0, hk0, cm0, hkk0⟩ := (hK.1.2 1 _ htl).1 (LAY a0).2 (fun j => .int (it a0 j))
    obtain ⟨-, k1, hk1, cm1, hkk1⟩ := (hK.1.2 1 _ htl).1 (LAY a1).2 (fun j => .int (it a1 j))
    intro T hT X
    obtain ⟨vm', X', step⟩ := X.arraycopy hx hown (hts _ h1) (hts _ h2) (hts _ h3) (hts _ h4) (src := e_b E + a0) (dst := e_b E + a1) (cs := vp_cell (e_cy E 1) ((LAY a0).2, .inl (it a0))) (cd := vp_cell (e_cy E 1) ((LAY a1).2, .inl (it a1))) (srcPos := sp) (destPos := dp) (n := n) (by rw [hT]; exact hca) (by rw [hT]; exact hcb)
      (fun _ h => by cases h) (fun _ h => by cases h) (fun h => by cases h) (fun h => by cases h) hk0 hk1 hkk0 hkk1 (by simp [refKind]) q1 q2 q3
      (by rw [nn sp q1, nn n q3]; show ¬ _ > ((arrV _ _ (fun j => .int (it a0 j))).slots.size : Int); rw [arrV_size]; omega)
      (by rw [nn dp q2, nn n q3]; show ¬ _ > ((arrV _ _ (fun j => .int (it a1 j))).slots.size : Int); rw [arrV_size]; omega)
      (fun vm₁ _ i hi => by
        have ev : (vp_cell (e_cy E 1) ((LAY a0).2, .inl (it a0))).slots.getD (sp.toNatClampNeg + i) .null = .int (it a0 (sp.toNatClampNeg + i)) := by
          show (arrV _ _ (fun j => .int (it a0 j))).slots.getD _ _ = _
          rw [Array.getD_eq_getD_getElem?, arrV_read _ _ (by omega)]
          rfl
        refine ⟨?_, ?_⟩
        · rw [ev]
          rfl
        · rw [ev]
          exact trivial)
      (g := F0 m pc arr (.int n :: .int dp :: .ref (e_b E + a1) :: .int sp :: .ref (e_b E + a0) :: rest.map (cv E))) rfl (by rw [hml]; exact harr) (rest := rest.map (cv E)) rfl (by rw [hb]; exact hdec) hR.1 (by
        have hw : nativeFrameWords "java/lang/System" "arraycopy" 5 = 7 := by decide +kernel
        show 2 * 0 + _ + _ ≤ _
        rw [hw]
        omega)
    have e1 : copied (vp_cell (e_cy E 1) ((LAY a0).2, .inl (it a0))) (vp_cell (e_cy E 1) ((LAY a1).2, .inl (it a1))) sp dp n = vp_cell (e_cy E 1) ((LAY a1).2, .inl (va_cpy (it a0) (it a1) sp.toNatClampNeg dp.toNatClampNeg n.toNatClampNeg)) := va_copied (fun z => .int z) _ _ (it a0) (it a1) q4
    rw [e1] at X' step
    have hl : e_b E + a1 < H.size := by have := p3; omega
    have hheap : ((T.setVm vm').setCell (e_b E + a1) (vp_cell (e_cy E 1) ((LAY a1).2, .inl (va_cpy (it a0) (it a1) sp.toNatClampNeg dp.toNatClampNeg n.toNatClampNeg)))).heap = H.setIfInBounds (e_b E + a1) (vp_cell (e_cy E 1) ((LAY a1).2, .inl (va_cpy (it a0) (it a1) sp.toNatClampNeg dp.toNatClampNeg n.toNatClampNeg))) := by rw [← hT]; rfl
    have oq : ∀ q : Nat, q ≠ e_b E + a1 → (H.setIfInBounds (e_b E + a1) (vp_cell (e_cy E 1) ((LAY a1).2, .inl (va_cpy (it a0) (it a1) sp.toNatClampNeg dp.toNatClampNeg n.toNatClampNeg))))[q]? = H[q]? := fun q hq => by simp [Array.getElem?_setIfInBounds, Ne.symm hq]
    have hset := hP.set (p := a1) (e := cellv E lg (rcp it a0 a1 sp.toNatClampNeg dp.toNatClampNeg n.toNatClampNeg) rf a1) (H1 := H.setIfInBounds (e_b E + a1) (vp_cell (e_cy E 1) ((LAY a1).2, .inl (va_cpy (it a0) (it a1) sp.toNatClampNeg dp.toNatClampNeg n.toNatClampNeg)))) WL_D (WL_get p3) ?_ oq
    · rw [WL_set (lg' := lg) (it' := (rcp it a0 a1 sp.toNatClampNeg dp.toNatClampNeg n.toNatClampNeg)) (rf' := rf) p3 rfl (fun q hq => ⟨rfl, rcp_row hq, rfl⟩)] at hset
      obtain ⟨t, a1', b1⟩ := kk none _ _ _ _ _ hk (by rw [Array.size_setIfInBounds]; exact hz) hset ⟨by rw [Array.size_setIfInBounds]; exact hS.1, fun q g1 g2 => by
        rw [oq q (fun ee => g2 (by rw [ee]; exact Nat.le_add_right _ _))]
        exact hS.2.1 q g1 g2, fun q hq => by
        rcases List.mem_append.mp hq with h | h
        · exact hS.2.2 q h
        · obtain ⟨z, -, hz2⟩ := List.mem_map.mp h
          rw [← hz2]
          exact Nat.le_add_right _ _⟩ _ hheap X'
      exact ⟨t, step t a1', b1⟩
    · unfold cellv
      rw [p4]
      show (H.setIfInBounds (e_b E + a1) _)[e_b E + a1]? = some (vp_cell (e_cy E 1) ((LAY a1).2, .inl (rcp it a0 a1 sp.toNatClampNeg dp.toNatClampNeg n.toNatClampNeg a1)))
      rw [rcp_eq]
      simp [Array.getElem?_setIfInBounds, hl]
  · exact hsp.elim

theorem cok_cpl (h1 : Cond.methodLink own idx arraycopyName ∈ OM) (h2 : Cond.native arraycopyName ∈ OM) (h3 : Cond.static arraycopyName ∈ OM) (h4 : Cond.initialized "java/lang/System" ∈ OM) (hR : 1 ≤ R.frames ∧ 26 ≤ R.locals) : COK E l R own idx (1, 5, ci, 0, sp_cpl) := by
  intro p e s m args below meth c cc' nL' Qm hx hb hml hown hts hK hbs pc arr H locs cells slots as rest N lg it rf K hdec harr hlen hrec hz hP hS hct hc1 hc2 hsp kk
  change sp_cpl as N lg it rf K at hsp
  unfold sp_cpl at hsp
  split at hsp
  · rename_i a0 sp a1 dp n
    obtain ⟨⟨⟨⟨p1, p2⟩, ⟨p3, p4⟩⟩, ⟨q1, q2, q3⟩, q4, q5⟩, hk⟩ := hsp
    have h8 := ctgs_cv (E := E) hct
    have nn : ∀ z : Int32, ¬ z < 0 → z.toInt = (z.toNatClampNeg : Int) := by
      intro z hz
      have hz0 : (0 : Int) ≤ z.toInt := by simpa using Int32.le_iff_toInt_le.mp (Int32.not_lt.mp hz)
      show z.toInt = ((z.toInt.toNat : Nat) : Int)
      omega
    have hca : H[e_b E + a0]? = some (vp_cell (e_cy E 2) ((LAY a0).2, .inr (.inl (lg a0)))) := by
      have hh := hP a0 _ (WL_get p1)
      unfold cellv at hh
      rw [p2] at hh
      exact hh
    have hcb : H[e_b E + a1]? = some (vp_cell (e_cy E 2) ((LAY a1).2, .inr (.inl (lg a1)))) := by
      have hh := hP a1 _ (WL_get p3)
      unfold cellv at hh
      rw [p4] at hh
      exact hh
    have htl : (tyl E)[2]? = some (e_cy E 2, .long) := rfl
    obtain ⟨-, k0, hk0, cm0, hkk0⟩ := (hK.1.2 2 _ htl).1 (LAY a0).2 (fun j => .long (lg a0 j))
    obtain ⟨-, k1, hk1, cm1, hkk1⟩ := (hK.1.2 2 _ htl).1 (LAY a1).2 (fun j => .long (lg a1 j))
    intro T hT X
    obtain ⟨vm', X', step⟩ := X.arraycopy hx hown (hts _ h1) (hts _ h2) (hts _ h3) (hts _ h4) (src := e_b E + a0) (dst := e_b E + a1) (cs := vp_cell (e_cy E 2) ((LAY a0).2, .inr (.inl (lg a0)))) (cd := vp_cell (e_cy E 2) ((LAY a1).2, .inr (.inl (lg a1)))) (srcPos := sp) (destPos := dp) (n := n) (by rw [hT]; exact hca) (by rw [hT]; exact hcb)
      (fun _ h => by cases h) (fun _ h => by cases h) (fun h => by cases h) (fun h => by cases h) hk0 hk1 hkk0 hkk1 (by simp [refKind]) q1 q2 q3
      (by rw [nn sp q1, nn n q3]; show ¬ _ > ((arrV _ _ (fun j => .long (lg a0 j))).slots.size : Int); rw [arrV_size]; omega)
      (by rw [nn dp q2, nn n q3]; show ¬ _ > ((arrV _ _ (fun j => .long (lg a1 j))).slots.size : Int); rw [arrV_size]; omega)
      (fun vm₁ _ i hi => by
        have ev : (vp_cell (e_cy E 2) ((LAY a0).2, .inr (.inl (lg a0)))).slots.getD (sp.toNatClampNeg + i) .null = .long (lg a0 (sp.toNatClampNeg + i)) := by
          show (arrV _ _ (fun j => .long (lg a0 j))).slots.getD _ _ = _
          rw [Array.getD_eq_getD_getElem?, arrV_read _ _ (by omega)]
          rfl
        refine ⟨?_, ?_⟩
        · rw [ev]
          rfl
        · rw [ev]
          exact trivial)
      (g := F0 m pc arr (.int n :: .int dp :: .ref (e_b E + a1) :: .int sp :: .ref (e_b E + a0) :: rest.map (cv E))) rfl (by rw [hml]; exact harr) (rest := rest.map (cv E)) rfl (by rw [hb]; exact hdec) hR.1 (by
        have hw : nativeFrameWords "java/lang/System" "arraycopy" 5 = 7 := by decide +kernel
        show 2 * 0 + _ + _ ≤ _
        rw [hw]
        omega)
    have e1 : copied (vp_cell (e_cy E 2) ((LAY a0).2, .inr (.inl (lg a0)))) (vp_cell (e_cy E 2) ((LAY a1).2, .inr (.inl (lg a1)))) sp dp n = vp_cell (e_cy E 2) ((LAY a1).2, .inr (.inl (va_cpy (lg a0) (lg a1) sp.toNatClampNeg dp.toNatClampNeg n.toNatClampNeg))) := va_copied (fun z => .long z) _ _ (lg a0) (lg a1) q4
    rw [e1] at X' step
    have hl : e_b E + a1 < H.size := by have := p3; omega
    have hheap : ((T.setVm vm').setCell (e_b E + a1) (vp_cell (e_cy E 2) ((LAY a1).2, .inr (.inl (va_cpy (lg a0) (lg a1) sp.toNatClampNeg dp.toNatClampNeg n.toNatClampNeg))))).heap = H.setIfInBounds (e_b E + a1) (vp_cell (e_cy E 2) ((LAY a1).2, .inr (.inl (va_cpy (lg a0) (lg a1) sp.toNatClampNeg dp.toNatClampNeg n.toNatClampNeg)))) := by rw [← hT]; rfl
    have oq : ∀ q : Nat, q ≠ e_b E + a1 → (H.setIfInBounds (e_b E + a1) (vp_cell (e_cy E 2) ((LAY a1).2, .inr (.inl (va_cpy (lg a0) (lg a1) sp.toNatClampNeg dp.toNatClampNeg n.toNatClampNeg)))))[q]? = H[q]? := fun q hq => by simp [Array.getElem?_setIfInBounds, Ne.symm hq]
    have hset := hP.set (p := a1) (e := cellv E (rcp lg a0 a1 sp.toNatClampNeg dp.toNatClampNeg n.toNatClampNeg) it rf a1) (H1 := H.setIfInBounds (e_b E + a1) (vp_cell (e_cy E 2) ((LAY a1).2, .inr (.inl (va_cpy (lg a0) (lg a1) sp.toNatClampNeg dp.toNatClampNeg n.toNatClampNeg))))) WL_D (WL_get p3) ?_ oq
    · rw [WL_set (lg' := (rcp lg a0 a1 sp.toNatClampNeg dp.toNatClampNeg n.toNatClampNeg)) (it' := it) (rf' := rf) p3 rfl (fun q hq => ⟨rcp_row hq, rfl, rfl⟩)] at hset
      obtain ⟨t, a1', b1⟩ := kk none _ _ _ _ _ hk (by rw [Array.size_setIfInBounds]; exact hz) hset ⟨by rw [Array.size_setIfInBounds]; exact hS.1, fun q g1 g2 => by
        rw [oq q (fun ee => g2 (by rw [ee]; exact Nat.le_add_right _ _))]
        exact hS.2.1 q g1 g2, fun q hq => by
        rcases List.mem_append.mp hq with h | h
        · exact hS.2.2 q h
        · obtain ⟨z, -, hz2⟩ := List.mem_map.mp h
          rw [← hz2]
          exact Nat.le_add_right _ _⟩ _ hheap X'
      exact ⟨t, step t a1', b1⟩
    · unfold cellv
      rw [p4]
      show (H.setIfInBounds (e_b E + a1) _)[e_b E + a1]? = some (vp_cell (e_cy E 2) ((LAY a1).2, .inr (.inl (rcp lg a0 a1 sp.toNatClampNeg dp.toNatClampNeg n.toNatClampNeg a1))))
      rw [rcp_eq]
      simp [Array.getElem?_setIfInBounds, hl]
  · exact hsp.elim

end CK
