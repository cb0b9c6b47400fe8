theorem swt_s {pc : Nat} {x : Int32} {K : Nat → Prop} : ∀ {L : List Int} {lo : Int} {i : Nat} {o : Int}, swt pc x K lo L → L[i]? = some o → x.toInt = lo + i → tg pc o K
  | [], _, _, _, _, h, _ => by simp at h
  | a :: t, lo, i, o, h, hi, hx => by
    cases i with
    | zero =>
      simp only [List.getElem?_cons_zero, Option.some.injEq] at hi
      subst hi
      exact h.1 (by simpa using hx)
    | succ i =>
      simp only [List.getElem?_cons_succ] at hi
      exact swt_s h.2 hi (by omega)
theorem swl_s {pc : Nat} {x : Int32} {K : Nat → Prop} {d : Int} : ∀ (L : List (Int × Int)), swl pc x K (L ++ [(x.toInt, d)]) → tg pc (Op.lookupswitch.offset L d x.toInt) K
  | [], h => h.1 rfl
  | a :: t, h => by
    by_cases e : x.toInt = a.1
    · have h1 := h.1 e
      unfold Op.lookupswitch.offset
      simpa [e] using h1
    · have h1 := swl_s t (h.2 e)
      show tg pc (if a.1 = x.toInt then a.2 else Op.lookupswitch.offset t d x.toInt) K
      rw [if_neg (fun q => e q.symm)]
      exact h1
set_option maxHeartbeats 4000000 in
/-- EVERY INSTRUCTION THAT THE ENGINE KNOWS -/
theorem sound {E : Ev} {p : Program} {l : Launch} {e : Env} {R : Room} {s : State} {m : MethodId} {args : Array Value} {below : List Frame} {meth : Method} {c : Code} {nL Ne : Nat} {cc : ByteArray} {own : String} {T : Tab} {Qp : Post} {Qc : Array Value → State → Outcome → State → Prop} (hx : p.tables.exec = Jvm.exec) (hb : c.code = cc) (hml : c.maxLocals = nL) (hown : s.vm.findClass own = some m.cls) (hts : ∀ w ∈ OM, w.before args s = true) (hK : KW E s) (hbs : e_b E ≤ s.heap.size) (hlocks : meth.locks = false) (hr : meth.sig.returnType = T.2.2.2.2.2)
    (hI : ∀ ci, ci < 10 → Nat.beq T.2.2.2.2.1 ci = true → meth.name = "<init>" ∧ (clr ci).1 = own) (hT : TOK E l R own T)
    (hq : ∀ (r : Option Value) (lg : LGt) (it : ITt) (rf : RFt) (t : State), Qp r lg it rf → t.heap.size = e_b E + Ne → va_P (e_D E) vwCl (WL E Ne lg it rf) t.heap → s.WarmedH t.vm → va_F (e_A E) s t → Qc args s (.returned (r.map (cv E))) t) :
    Rl T cc Ne Qp (PW E p l e R s m args below meth c (MQ below Qc args s R.cells R.slots (e_A E)) nL Ne) ∧ RlS T cc Ne Qp (PW E p l e R s m args below meth c (MQ below Qc args s R.cells R.slots (e_A E)) nL Ne) := by
  obtain ⟨hF, hC, hJ, hM⟩ := hT
  have wid : ∀ {H : Heap} {locs : List Loc} {cells slots : Nat} {g : JFrame}, cells + (Ne - Ne) ≤ R.cells → slots + 400 * (Ne - Ne) ≤ R.slots → W p l e R s m args below meth c H locs R.cells R.slots (MQ below Qc args s R.cells R.slots (e_A E)) g → W p l e R s m args below meth c H locs cells slots (MQ below Qc args s R.cells R.slots (e_A E)) g := fun h1 h2 h3 => W.widen (by omega) (by omega) h3
  have call : ∀ (kd idx pc : Nat) (ls st : List Value) (N : Nat) (lg : LGt) (it : ITt) (rf : RFt), decode cc pc = .ok (xinv kd idx, 3) → inv T Ne (PW E p l e R s m args below meth c (MQ below Qc args s R.cells R.slots (e_A E)) nL Ne) kd idx pc ls st N lg it rf → PW E p l e R s m args below meth c (MQ below Qc args s R.cells R.slots (e_A E)) nL Ne pc ls st N lg it rf := by
    intro kd idx pc ls st N lg it rf hd h a1 a2 H locs cells slots arr a3 a4 a5 a6 a7 a8
    replace h := o_o_s h
    obtain ⟨q, hq1, h⟩ := h
    replace h := isB_s h
    obtain ⟨hkd, h⟩ := h
    replace h := pa_s h
    obtain ⟨as, rest, rfl, hl, h⟩ := h
    rw [List.append_nil] at h
    replace h := isB_s h
    obtain ⟨hct, hrec, h⟩ := h
    have hkd := Nat.eq_of_beq_eq_true hkd
    have hmem : COK E l R own idx q := hM _ (xlk_mem hq1)
    have hfit : N + q.2.2.2.1 ≤ Ne ∧ q.2.2.2.2 as N lg it rf (fun r lg' it' rf' => PW E p l e R s m args below meth c (MQ below Qc args s R.cells R.slots (e_A E)) nL Ne (pc + 3) ls (r.toList ++ rest) (N + q.2.2.2.1) lg' it' rf') := by
      unfold lec at h
      split at h
      · rename_i h0
        exact ⟨by rw [h0]; exact a1, h⟩
      · exact h
    clear h
    obtain ⟨hfit, h⟩ := hfit
    subst hkd
    · refine hmem p e s m args below meth c cc nL _ hx hb hml hown hts hK hbs pc arr H locs cells slots as rest N lg it rf _ hd a6.1 hl ?_ a3 a4 a5 (Nat.le_of_ble_eq_true hct) (by omega) (by omega) h (fun r lg' it' rf' H' locs' hk z1 z2 z3 => ?_)
      · obtain ⟨k0, k1, k2, k3, k4⟩ := q
        cases k0 with
        | zero =>
          obtain ⟨v, hv, hv2⟩ := o_o_s hrec
          cases as with
          | nil => cases hv
          | cons w t =>
            cases hv
            cases v <;> first | exact ⟨_, _, rfl, hv2⟩ | exact hv2.elim
        | succ k => trivial
      · exact hk hfit a2 H' locs' _ _ arr z1 z2 z3 a6 (by omega) (by omega)
  have tsw : ∀ (n pc : Nat) (d lo hi2 : Int) (offs : Array Int) (ls st : List Value) (N : Nat) (lg : LGt) (it : ITt) (rf : RFt), decode cc pc = .ok (.tableswitch d lo hi2 offs, n) → stp T Ne Qp (PW E p l e R s m args below meth c (MQ below Qc args s R.cells R.slots (e_A E)) nL Ne) (.tableswitch d lo hi2 offs) pc ls st N lg it rf → PW E p l e R s m args below meth c (MQ below Qc args s R.cells R.slots (e_A E)) nL Ne pc ls st N lg it rf := by
    intro n pc d lo hi2 offs ls st N lg it rf hd h a1 a2 H locs cells slots arr a3 a4 a5 a6 a7 a8
    replace h := p_i_s h
    obtain ⟨x, r, rfl, ho, h⟩ := h
    obtain ⟨hsz, h⟩ := isB_s h
    have hsz := of_decide_eq_true hsz
    by_cases hc : x.toInt < lo ∨ hi2 < x.toInt
    · obtain ⟨t, ht, h⟩ := tg_s (ho hc)
      exact lv_tableOut hx hb hd hc ht (h a1 a2 H locs cells slots arr a3 a4 a5 a6 a7 a8)
    · have h1 : ¬ x.toInt < lo := fun z => hc (Or.inl z)
      have h2 : ¬ hi2 < x.toInt := fun z => hc (Or.inr z)
      have hlt : (x.toInt - lo).toNat < offs.size := by omega
      have hget : offs.toList[(x.toInt - lo).toNat]? = some offs[(x.toInt - lo).toNat] := by rw [Array.getElem?_toList]; exact Array.getElem?_eq_getElem hlt
      obtain ⟨t, ht, h⟩ := tg_s (swt_s h hget (by omega))
      exact lv_tableIn hx hb hd h1 h2 (Array.getElem?_eq_getElem hlt) ht (h a1 a2 H locs cells slots arr a3 a4 a5 a6 a7 a8)
  have lsw : ∀ (n pc : Nat) (d : Int) (ps : Array (Int × Int)) (ls st : List Value) (N : Nat) (lg : LGt) (it : ITt) (rf : RFt), decode cc pc = .ok (.lookupswitch d ps, n) → stp T Ne Qp (PW E p l e R s m args below meth c (MQ below Qc args s R.cells R.slots (e_A E)) nL Ne) (.lookupswitch d ps) pc ls st N lg it rf → PW E p l e R s m args below meth c (MQ below Qc args s R.cells R.slots (e_A E)) nL Ne pc ls st N lg it rf := by
    intro n pc d ps ls st N lg it rf hd h a1 a2 H locs cells slots arr a3 a4 a5 a6 a7 a8
    replace h := p_i_s h
    obtain ⟨x, r, rfl, h⟩ := h
    obtain ⟨hps, h⟩ := isB_s h
    obtain ⟨t, ht, h⟩ := tg_s (swl_s ps.toList h)
    exact lv_lookup hx hb hd hps rfl ht (h a1 a2 H locs cells slots arr a3 a4 a5 a6 a7 a8)
  constructor
  · intro pc i ls st N lg it rf hd h a1 a2 H locs cells slots arr a3 a4 a5 a6 a7 a8
    cases i with
    | iconst k =>
      exact lv_iconst hx hb hd rfl (h a1 a2 H locs cells slots arr a3 a4 a5 a6 a7 a8)
    | bipush k =>
      exact lv_bipush hx hb hd rfl (h a1 a2 H locs cells slots arr a3 a4 a5 a6 a7 a8)
    | sipush k =>
      exact lv_sipush hx hb hd rfl (h a1 a2 H locs cells slots arr a3 a4 a5 a6 a7 a8)
    | lconst k =>
      exact lv_lconst hx hb hd rfl (h a1 a2 H locs cells slots arr a3 a4 a5 a6 a7 a8)
    | ldc2_w k =>
      obtain ⟨v, hv, h⟩ := o_o_s h
      exact lv_ldc2 hx hb hown (hts _ (hJ _ (xlk_mem hv))) hd (h a1 a2 H locs cells slots arr a3 a4 a5 a6 a7 a8)
    | iload_n k =>
      replace h := g_i_s h
      obtain ⟨x, hk, h⟩ := h
      exact lv_iload_n hx hb hd rfl (lv_ld a6 hk rfl) (h a1 a2 H locs cells slots arr a3 a4 a5 a6 a7 a8)
    | iload k =>
      replace h := g_i_s h
      obtain ⟨x, hk, h⟩ := h
      exact lv_iload hx hb hd (lv_ld a6 hk rfl) (h a1 a2 H locs cells slots arr a3 a4 a5 a6 a7 a8)
    | lload_n k =>
      replace h := g_l_s h
      obtain ⟨x, hk, h⟩ := h
      exact lv_lload_n hx hb hd rfl (lv_ld a6 hk rfl) (h a1 a2 H locs cells slots arr a3 a4 a5 a6 a7 a8)
    | lload k =>
      replace h := g_l_s h
      obtain ⟨x, hk, h⟩ := h
      exact lv_lload hx hb hd (lv_ld a6 hk rfl) (h a1 a2 H locs cells slots arr a3 a4 a5 a6 a7 a8)
    | aload_n k =>
      replace h : g_r ls k (fun x => PW E p l e R s m args below meth c (MQ below Qc args s R.cells R.slots (e_A E)) nL Ne (pc + 1) ls (x :: st) N lg it rf) := h
      replace h := g_r_s h
      obtain ⟨x, hk, hx2, h⟩ := h
      rcases hx2 with ⟨j, rfl⟩ | rfl
      · exact lv_aload_n hx hb hd rfl (lv_ld a6 hk rfl) (h a1 a2 H locs cells slots arr a3 a4 a5 a6 a7 a8)
      · exact lv_aload_n hx hb hd rfl (lv_ld a6 hk rfl) (h a1 a2 H locs cells slots arr a3 a4 a5 a6 a7 a8)
    | aload k =>
      replace h : g_r ls k (fun x => PW E p l e R s m args below meth c (MQ below Qc args s R.cells R.slots (e_A E)) nL Ne (pc + 2) ls (x :: st) N lg it rf) := h
      replace h := g_r_s h
      obtain ⟨x, hk, hx2, h⟩ := h
      rcases hx2 with ⟨j, rfl⟩ | rfl
      · exact lv_aload hx hb hd (lv_ld a6 hk rfl) (h a1 a2 H locs cells slots arr a3 a4 a5 a6 a7 a8)
      · exact lv_aload hx hb hd (lv_ld a6 hk rfl) (h a1 a2 H locs cells slots arr a3 a4 a5 a6 a7 a8)
    | istore_n k =>
      replace h := p_i_s h
      obtain ⟨x, r, rfl, h⟩ := h
      replace h := p_s1_s h
      obtain ⟨hk, h⟩ := h
      exact lv_istore_n hx hb hd rfl a6 (by rw [a2] at hk; exact hk) rfl (fun arr hl => h a1 (st1_len.trans a2) H locs cells slots arr a3 a4 a5 (st1_has hl) a7 a8)
    | istore k =>
      replace h := p_i_s h
      obtain ⟨x, r, rfl, h⟩ := h
      replace h := p_s1_s h
      obtain ⟨hk, h⟩ := h
      exact lv_istore hx hb hd a6 (by rw [a2] at hk; exact hk) rfl (fun arr hl => h a1 (st1_len.trans a2) H locs cells slots arr a3 a4 a5 (st1_has hl) a7 a8)
    | lstore_n k =>
      replace h := p_l_s h
      obtain ⟨x, r, rfl, h⟩ := h
      replace h := p_s2_s h
      obtain ⟨hk, h⟩ := h
      exact lv_lstore_n hx hb hd rfl a6 (by rw [a2] at hk; exact hk) rfl (fun arr hl => h a1 (st2_len.trans a2) H locs cells slots arr a3 a4 a5 (st2_has hl) a7 a8)
    | lstore k =>
      replace h := p_l_s h
      obtain ⟨x, r, rfl, h⟩ := h
      replace h := p_s2_s h
      obtain ⟨hk, h⟩ := h
      exact lv_lstore hx hb hd a6 (by rw [a2] at hk; exact hk) rfl (fun arr hl => h a1 (st2_len.trans a2) H locs cells slots arr a3 a4 a5 (st2_has hl) a7 a8)
    | astore_n k =>
      replace h := p_r_s h
      obtain ⟨x, r, rfl, h⟩ := h
      replace h := p_s1_s h
      obtain ⟨hk, h⟩ := h
      exact lv_astore_n hx hb hd rfl a6 (by rw [a2] at hk; exact hk) rfl (fun arr hl => h a1 (st1_len.trans a2) H locs cells slots arr a3 a4 a5 (st1_has hl) a7 a8)
    | astore k =>
      replace h := p_r_s h
      obtain ⟨x, r, rfl, h⟩ := h
      replace h := p_s1_s h
      obtain ⟨hk, h⟩ := h
      exact lv_astore hx hb hd a6 (by rw [a2] at hk; exact hk) rfl (fun arr hl => h a1 (st1_len.trans a2) H locs cells slots arr a3 a4 a5 (st1_has hl) a7 a8)
    | iinc k n =>
      replace h := g_i_s h
      obtain ⟨x, hk0, h⟩ := h
      replace h := p_s1_s h
      obtain ⟨hk, h⟩ := h
      have hm : (k, Value.int x) ∈ lva E 0 ls := lva_mem.mpr ⟨k, .int x, by omega, hk0, rfl, rfl⟩
      obtain ⟨d, hdd⟩ := List.getElem?_of_mem hm
      exact lv_iinc hx hb hd a6 hdd rfl (by rw [a2] at hk; exact hk) rfl (fun arr hl => h a1 (st1_len.trans a2) H locs cells slots arr a3 a4 a5 (st1_has hl) a7 a8)
    | iadd =>
      replace h := p_i_s h
      obtain ⟨y, r, rfl, h⟩ := h
      replace h := p_i_s h
      obtain ⟨x, r, rfl, h⟩ := h
      exact lv_iadd hx hb hd (h a1 a2 H locs cells slots arr a3 a4 a5 a6 a7 a8)
    | isub =>
      replace h := p_i_s h
      obtain ⟨y, r, rfl, h⟩ := h
      replace h := p_i_s h
      obtain ⟨x, r, rfl, h⟩ := h
      exact lv_isub hx hb hd (h a1 a2 H locs cells slots arr a3 a4 a5 a6 a7 a8)
    | imul =>
      replace h := p_i_s h
      obtain ⟨y, r, rfl, h⟩ := h
      replace h := p_i_s h
      obtain ⟨x, r, rfl, h⟩ := h
      exact lv_imul hx hb hd (h a1 a2 H locs cells slots arr a3 a4 a5 a6 a7 a8)
    | iand =>
      replace h := p_i_s h
      obtain ⟨y, r, rfl, h⟩ := h
      replace h := p_i_s h
      obtain ⟨x, r, rfl, h⟩ := h
      exact lv_iand hx hb hd (h a1 a2 H locs cells slots arr a3 a4 a5 a6 a7 a8)
    | ior =>
      replace h := p_i_s h
      obtain ⟨y, r, rfl, h⟩ := h
      replace h := p_i_s h
      obtain ⟨x, r, rfl, h⟩ := h
      exact lv_ior hx hb hd (h a1 a2 H locs cells slots arr a3 a4 a5 a6 a7 a8)
    | ladd =>
      replace h := p_l_s h
      obtain ⟨y, r, rfl, h⟩ := h
      replace h := p_l_s h
      obtain ⟨x, r, rfl, h⟩ := h
      exact lv_ladd hx hb hd (h a1 a2 H locs cells slots arr a3 a4 a5 a6 a7 a8)
    | lsub =>
      replace h := p_l_s h
      obtain ⟨y, r, rfl, h⟩ := h
      replace h := p_l_s h
      obtain ⟨x, r, rfl, h⟩ := h
      exact lv_lsub hx hb hd (h a1 a2 H locs cells slots arr a3 a4 a5 a6 a7 a8)
    | lmul =>
      replace h := p_l_s h
      obtain ⟨y, r, rfl, h⟩ := h
      replace h := p_l_s h
      obtain ⟨x, r, rfl, h⟩ := h
      exact lv_lmul hx hb hd (h a1 a2 H locs cells slots arr a3 a4 a5 a6 a7 a8)
    | land =>
      replace h := p_l_s h
      obtain ⟨y, r, rfl, h⟩ := h
      replace h := p_l_s h
      obtain ⟨x, r, rfl, h⟩ := h
      exact lv_land hx hb hd (h a1 a2 H locs cells slots arr a3 a4 a5 a6 a7 a8)
    | lor =>
      replace h := p_l_s h
      obtain ⟨y, r, rfl, h⟩ := h
      replace h := p_l_s h
      obtain ⟨x, r, rfl, h⟩ := h
      exact lv_lor hx hb hd (h a1 a2 H locs cells slots arr a3 a4 a5 a6 a7 a8)
    | lxor =>
      replace h := p_l_s h
      obtain ⟨y, r, rfl, h⟩ := h
      replace h := p_l_s h
      obtain ⟨x, r, rfl, h⟩ := h
      exact lv_lxor hx hb hd (h a1 a2 H locs cells slots arr a3 a4 a5 a6 a7 a8)
    | ldiv =>
      replace h := p_l_s h
      obtain ⟨y, r, rfl, h⟩ := h
      replace h := p_l_s h
      obtain ⟨x, r, rfl, hne, h⟩ := h
      exact lv_ldiv hx hb hd hne (h a1 a2 H locs cells slots arr a3 a4 a5 a6 a7 a8)
    | lrem =>
      replace h := p_l_s h
      obtain ⟨y, r, rfl, h⟩ := h
      replace h := p_l_s h
      obtain ⟨x, r, rfl, hne, h⟩ := h
      exact lv_lrem hx hb hd hne (h a1 a2 H locs cells slots arr a3 a4 a5 a6 a7 a8)
    | ineg =>
      replace h := p_i_s h
      obtain ⟨x, r, rfl, h⟩ := h
      exact lv_ineg hx hb hd (h a1 a2 H locs cells slots arr a3 a4 a5 a6 a7 a8)
    | lneg =>
      replace h := p_l_s h
      obtain ⟨x, r, rfl, h⟩ := h
      exact lv_lneg hx hb hd (h a1 a2 H locs cells slots arr a3 a4 a5 a6 a7 a8)
    | lshl =>
      replace h := p_i_s h
      obtain ⟨y, r, rfl, h⟩ := h
      replace h := p_l_s h
      obtain ⟨x, r, rfl, h⟩ := h
      exact lv_lshl hx hb hd rfl (h a1 a2 H locs cells slots arr a3 a4 a5 a6 a7 a8)
    | i2l =>
      replace h := p_i_s h
      obtain ⟨x, r, rfl, h⟩ := h
      exact lv_i2l hx hb hd rfl (h a1 a2 H locs cells slots arr a3 a4 a5 a6 a7 a8)
    | l2i =>
      replace h := p_l_s h
      obtain ⟨x, r, rfl, h⟩ := h
      exact lv_l2i hx hb hd rfl (h a1 a2 H locs cells slots arr a3 a4 a5 a6 a7 a8)
    | i2b =>
      replace h := p_i_s h
      obtain ⟨x, r, rfl, h⟩ := h
      exact lv_i2b hx hb hd rfl (h a1 a2 H locs cells slots arr a3 a4 a5 a6 a7 a8)
    | i2s =>
      replace h := p_i_s h
      obtain ⟨x, r, rfl, h⟩ := h
      exact lv_i2s hx hb hd rfl (h a1 a2 H locs cells slots arr a3 a4 a5 a6 a7 a8)
    | lcmp =>
      replace h := p_l_s h
      obtain ⟨y, r, rfl, h⟩ := h
      replace h := p_l_s h
      obtain ⟨x, r, rfl, h⟩ := h
      exact W.lcmp hx hb hd (h a1 a2 H locs cells slots arr a3 a4 a5 a6 a7 a8)
    | dup =>
      replace h : p_d st (fun v r => PW E p l e R s m args below meth c (MQ below Qc args s R.cells R.slots (e_A E)) nL Ne (pc + 1) ls (v :: v :: r) N lg it rf) := h
      replace h := p_d_s h
      obtain ⟨v, r, rfl, hv, h⟩ := h
      exact lv_dup hx hb hd ((cv_cat E v).trans hv) (h a1 a2 H locs cells slots arr a3 a4 a5 a6 a7 a8)
    | ifCond k o =>
      replace h := p_i_s h
      obtain ⟨x, r, rfl, h⟩ := h
      obtain ⟨t, ht, h⟩ := tg_s h
      cases k
      · exact lv_if_eq hx hb hd ht (fun z => h.1 z a1 a2 H locs cells slots arr a3 a4 a5 a6 a7 a8) (fun z => h.2 z a1 a2 H locs cells slots arr a3 a4 a5 a6 a7 a8)
      · exact lv_if_ne hx hb hd ht (fun z => h.1 z a1 a2 H locs cells slots arr a3 a4 a5 a6 a7 a8) (fun z => h.2 z a1 a2 H locs cells slots arr a3 a4 a5 a6 a7 a8)
      · exact lv_if_lt hx hb hd ht (fun z => h.1 z a1 a2 H locs cells slots arr a3 a4 a5 a6 a7 a8) (fun z => h.2 z a1 a2 H locs cells slots arr a3 a4 a5 a6 a7 a8)
      · exact lv_if_ge hx hb hd ht (fun z => h.1 z a1 a2 H locs cells slots arr a3 a4 a5 a6 a7 a8) (fun z => h.2 z a1 a2 H locs cells slots arr a3 a4 a5 a6 a7 a8)
      · exact lv_if_gt hx hb hd ht (fun z => h.1 z a1 a2 H locs cells slots arr a3 a4 a5 a6 a7 a8) (fun z => h.2 z a1 a2 H locs cells slots arr a3 a4 a5 a6 a7 a8)
      · exact lv_if_le hx hb hd ht (fun z => h.1 z a1 a2 H locs cells slots arr a3 a4 a5 a6 a7 a8) (fun z => h.2 z a1 a2 H locs cells slots arr a3 a4 a5 a6 a7 a8)
    | if_icmp k o =>
      replace h := p_i_s h
      obtain ⟨y, r, rfl, h⟩ := h
      replace h := p_i_s h
      obtain ⟨x, r, rfl, h⟩ := h
      obtain ⟨t, ht, h⟩ := tg_s h
      cases k
      · exact lv_icmp_eq hx hb hd ht (fun z => h.1 z a1 a2 H locs cells slots arr a3 a4 a5 a6 a7 a8) (fun z => h.2 z a1 a2 H locs cells slots arr a3 a4 a5 a6 a7 a8)
      · exact lv_icmp_ne hx hb hd ht (fun z => h.1 z a1 a2 H locs cells slots arr a3 a4 a5 a6 a7 a8) (fun z => h.2 z a1 a2 H locs cells slots arr a3 a4 a5 a6 a7 a8)
      · exact lv_icmp_lt hx hb hd ht (fun z => h.1 z a1 a2 H locs cells slots arr a3 a4 a5 a6 a7 a8) (fun z => h.2 z a1 a2 H locs cells slots arr a3 a4 a5 a6 a7 a8)
      · exact lv_icmp_ge hx hb hd ht (fun z => h.1 z a1 a2 H locs cells slots arr a3 a4 a5 a6 a7 a8) (fun z => h.2 z a1 a2 H locs cells slots arr a3 a4 a5 a6 a7 a8)
      · exact lv_icmp_gt hx hb hd ht (fun z => h.1 z a1 a2 H locs cells slots arr a3 a4 a5 a6 a7 a8) (fun z => h.2 z a1 a2 H locs cells slots arr a3 a4 a5 a6 a7 a8)
      · exact lv_icmp_le hx hb hd ht (fun z => h.1 z a1 a2 H locs cells slots arr a3 a4 a5 a6 a7 a8) (fun z => h.2 z a1 a2 H locs cells slots arr a3 a4 a5 a6 a7 a8)
    | goto o =>
      obtain ⟨t, ht, h⟩ := tg_s h
      exact lv_goto hx hb hd ht (h a1 a2 H locs cells slots arr a3 a4 a5 a6 a7 a8)
    | getfield idx =>
      obtain ⟨q, hq1, h⟩ := o_o_s h
      replace h := p_r_s h
      obtain ⟨j, r, rfl, hO, h⟩ := h
      obtain ⟨t, ht, h⟩ := o_o_s h
      exact so_getf hx hb hown hts hK hd (hF _ (xlk_mem hq1)) hO ht a4 (h a1 a2 H locs cells slots arr a3 a4 a5 a6 a7 a8)
    | putfield idx =>
      obtain ⟨q, hq1, h⟩ := o_o_s h
      cases st with
      | nil => exact h.elim
      | cons v r =>
        replace h := p_r_s h
        obtain ⟨j, r, rfl, hO, h⟩ := h
        obtain ⟨fin, hfin, h⟩ := o_o_s h
        obtain ⟨hb1, h⟩ := isB_s h
        obtain ⟨t, ht, h⟩ := o_o_s h
        obtain ⟨lg2, it2, rf2, h, w1, w2, w3, w4⟩ := wr_s h
        exact so_putf hx hb hown hts hK hd (hF _ (xlk_mem hq1)) hO ht hfin (fun z => hI _ (hF _ (xlk_mem hq1)).1 (by rw [z] at hb1; exact hb1)) a3 a4 a5 w1 w2 w3 w4 (fun H1 locs1 z1 z2 z3 => h a1 a2 H1 locs1 cells slots arr z1 z2 z3 a6 a7 a8)
    | iaload =>
      replace h := p_i_s h
      obtain ⟨i, r, rfl, h⟩ := h
      replace h := p_r_s h
      obtain ⟨j, r, rfl, hO, hin, h⟩ := h
      exact va_iald hx hb hK.1 a4 j 1 ((WL_get hO.1).trans (by unfold cellv; rw [hO.2]; rfl)) (tyl_get (by decide)) hin hd (h a1 a2 H locs cells slots arr a3 a4 a5 a6 a7 a8)
    | baload =>
      replace h := p_i_s h
      obtain ⟨i, r, rfl, h⟩ := h
      replace h := p_r_s h
      obtain ⟨j, r, rfl, hO, hin, h⟩ := h
      exact va_bald hx hb hK.1 a4 j 0 ((WL_get hO.1).trans (by unfold cellv; rw [hO.2]; rfl)) (tyl_get (by decide)) hin hd (h a1 a2 H locs cells slots arr a3 a4 a5 a6 a7 a8)
    | laload =>
      replace h := p_i_s h
      obtain ⟨i, r, rfl, h⟩ := h
      replace h := p_r_s h
      obtain ⟨j, r, rfl, hO, hin, h⟩ := h
      exact va_lald hx hb hK.1 a4 j 2 ((WL_get hO.1).trans (by unfold cellv; rw [hO.2]; rfl)) (tyl_get (by decide)) hin hd (h a1 a2 H locs cells slots arr a3 a4 a5 a6 a7 a8)
    | aaload =>
      replace h := p_i_s h
      obtain ⟨i, r, rfl, h⟩ := h
      replace h := p_r_s h
      obtain ⟨j, r, rfl, hO, hin, h⟩ := h
      obtain ⟨o1, o2, o3⟩ := hO
      have h2 : W p l e R s m args below meth c H locs cells slots (MQ below Qc args s R.cells R.slots (e_A E)) (F0 m (pc + 1) arr (va_rf ((rf j i.toNatClampNeg).map fun q => e_b E + q) :: r.map (cv E))) := by
        rw [← cv_rfv]
        exact h a1 a2 H locs cells slots arr a3 a4 a5 a6 a7 a8
      rcases (show (LAY j).1 = 13 ∨ (LAY j).1 = 14 ∨ (LAY j).1 = 15 by omega) with e1 | e1 | e1
      · exact va_aldq (f := fun i => (rf j i).map fun q => e_b E + q) hx hb hK.1 a4 j 3 ((WL_get o1).trans (by unfold cellv; rw [e1]; rfl)) (tyl_get (by decide)) hin hd h2
      · exact va_aldq (f := fun i => (rf j i).map fun q => e_b E + q) hx hb hK.1 a4 j 4 ((WL_get o1).trans (by unfold cellv; rw [e1]; rfl)) (tyl_get (by decide)) hin hd h2
      · exact va_aldq (f := fun i => (rf j i).map fun q => e_b E + q) hx hb hK.1 a4 j 5 ((WL_get o1).trans (by unfold cellv; rw [e1]; rfl)) (tyl_get (by decide)) hin hd h2
    | iastore =>
      replace h := p_i_s h
      obtain ⟨x, r, rfl, h⟩ := h
      replace h := p_i_s h
      obtain ⟨i, r, rfl, h⟩ := h
      replace h := p_r_s h
      obtain ⟨j, r, rfl, hO, hin, h⟩ := h
      have hcell : H[e_b E + j]? = some (vp_cell (e_cy E 1) ((LAY j).2, .inl (it j))) := by
        have hh := a4 j _ (WL_get hO.1)
        unfold cellv at hh
        rw [hO.2] at hh
        exact hh
      refine W.iast hx hb hcell ((hK.1.2 1 _ (tyl_get (by decide))).1 (LAY j).2 (fun z => .int (it j z))) (fun q => by cases q) (by show ¬ (i < 0 ∨ (arrV _ _ _).slots.size ≤ _); rw [arrV_size]; exact hin) rfl rfl hd fun H1 e1 z oq => ?_
      refine h a1 a2 H1 _ cells slots arr (by rw [z, a3]) ?_ (a5.put z oq (Nat.le_add_right _ _)) a6 a7 a8
      have hset := a4.set (p := j) (e := cellv E lg (u2 it j i.toNatClampNeg x) rf j) WL_D (WL_get hO.1) ?_ oq
      · rw [WL_set (lg' := lg) (it' := (u2 it j i.toNatClampNeg x)) (rf' := rf) hO.1 rfl (fun q hq => ⟨rfl, u2_row hq, rfl⟩)] at hset
        exact hset
      · unfold cellv
        rw [hO.2]
        show H1[e_b E + j]? = some (vp_cell _ _)
        rw [e1]
        rw [vp_cell_i, vp_cell_i, arrV_store]
        congr 2
        funext b
        by_cases hbq : b = i.toNatClampNeg
        · subst hbq
          simp [updV, u2, narrow]
        · simp [updV, u2, hbq]
    | bastore =>
      replace h := p_i_s h
      obtain ⟨x, r, rfl, h⟩ := h
      replace h := p_i_s h
      obtain ⟨i, r, rfl, h⟩ := h
      replace h := p_r_s h
      obtain ⟨j, r, rfl, hO, hin, h⟩ := h
      have hcell : H[e_b E + j]? = some (vp_cell (e_cy E 0) ((LAY j).2, .inl (it j))) := by
        have hh := a4 j _ (WL_get hO.1)
        unfold cellv at hh
        rw [hO.2] at hh
        exact hh
      refine W.bast hx hb hcell ((hK.1.2 0 _ (tyl_get (by decide))).1 (LAY j).2 (fun z => .int (it j z))) (fun q => by cases q) (by show ¬ (i < 0 ∨ (arrV _ _ _).slots.size ≤ _); rw [arrV_size]; exact hin) rfl rfl hd fun H1 e1 z oq => ?_
      refine h a1 a2 H1 _ cells slots arr (by rw [z, a3]) ?_ (a5.put z oq (Nat.le_add_right _ _)) a6 a7 a8
      have hset := a4.set (p := j) (e := cellv E lg (u2 it j i.toNatClampNeg x.toInt8.toInt32) rf j) WL_D (WL_get hO.1) ?_ oq
      · rw [WL_set (lg' := lg) (it' := (u2 it j i.toNatClampNeg x.toInt8.toInt32)) (rf' := rf) hO.1 rfl (fun q hq => ⟨rfl, u2_row hq, rfl⟩)] at hset
        exact hset
      · unfold cellv
        rw [hO.2]
        show H1[e_b E + j]? = some (vp_cell _ _)
        rw [e1]
        rw [vp_cell_i, vp_cell_i, arrV_store]
        congr 2
        funext b
        by_cases hbq : b = i.toNatClampNeg
        · subst hbq
          simp [updV, u2, narrow]
        · simp [updV, u2, hbq]
    | lastore =>
      replace h := p_l_s h
      obtain ⟨x, r, rfl, h⟩ := h
      replace h := p_i_s h
      obtain ⟨i, r, rfl, h⟩ := h
      replace h := p_r_s h
      obtain ⟨j, r, rfl, hO, hin, h⟩ := h
      have hcell : H[e_b E + j]? = some (vp_cell (e_cy E 2) ((LAY j).2, .inr (.inl (lg j)))) := by
        have hh := a4 j _ (WL_get hO.1)
        unfold cellv at hh
        rw [hO.2] at hh
        exact hh
      refine W.last hx hb hcell ((hK.1.2 2 _ (tyl_get (by decide))).1 (LAY j).2 (fun z => .long (lg j z))) (fun q => by cases q) (by show ¬ (i < 0 ∨ (arrV _ _ _).slots.size ≤ _); rw [arrV_size]; exact hin) rfl rfl hd fun H1 e1 z oq => ?_
      refine h a1 a2 H1 _ cells slots arr (by rw [z, a3]) ?_ (a5.put z oq (Nat.le_add_right _ _)) a6 a7 a8
      have hset := a4.set (p := j) (e := cellv E (u2 lg j i.toNatClampNeg x) it rf j) WL_D (WL_get hO.1) ?_ oq
      · rw [WL_set (lg' := (u2 lg j i.toNatClampNeg x)) (it' := it) (rf' := rf) hO.1 rfl (fun q hq => ⟨u2_row hq, rfl, rfl⟩)] at hset
        exact hset
      · unfold cellv
        rw [hO.2]
        show H1[e_b E + j]? = some (vp_cell _ _)
        rw [e1]
        rw [vp_cell_l, vp_cell_l, arrV_store]
        congr 2
        funext b
        by_cases hbq : b = i.toNatClampNeg
        · subst hbq
          simp [updV, u2, narrow]
        · simp [updV, u2, hbq]
    | aastore =>
      replace h := p_r_s h
      obtain ⟨x, r, rfl, h⟩ := h
      replace h := p_i_s h
      obtain ⟨i, r, rfl, h⟩ := h
      replace h := p_r_s h
      obtain ⟨j, r, rfl, hO, hin, h⟩ := h
      obtain ⟨o1, o2, o3, o4, o5⟩ := hO
      have hci : ∃ ci k, ci < 10 ∧ (LAY x).1 = ci ∧ k < 6 ∧ cellv E lg it rf j = .inl (e_cy E k, (LAY j).2, .inr (.inr (.inr (.inr fun i => (rf j i).map fun q => e_b E + q)))) ∧ (∀ rf2 : RFt, cellv E lg it rf2 j = .inl (e_cy E k, (LAY j).2, .inr (.inr (.inr (.inr fun i => (rf2 j i).map fun q => e_b E + q))))) ∧ (tyl E)[k]? = some (e_cy E k, .object (clr ci).1) := by
        unfold ako at o3
        split at o3
        · rename_i hx1
          exact ⟨1, 3, by decide, hx1, by decide, by unfold cellv; rw [← o3]; rfl, fun rf2 => by unfold cellv; rw [← o3]; rfl, rfl⟩
        · rename_i hx1
          exact ⟨3, 4, by decide, hx1, by decide, by unfold cellv; rw [← o3]; rfl, fun rf2 => by unfold cellv; rw [← o3]; rfl, rfl⟩
        · rename_i hx1
          exact ⟨6, 5, by decide, hx1, by decide, by unfold cellv; rw [← o3]; rfl, fun rf2 => by unfold cellv; rw [← o3]; rfl, rfl⟩
        · omega
      obtain ⟨ci, k, hc10, hLx, hk6, hcj, hcj2, htl⟩ := hci
      have hlt : i.toNatClampNeg < (LAY j).2 := Nat.not_le.mp fun q => hin (Or.inr q)
      have h0 : ¬ i < 0 := fun q => hin (Or.inl q)
      have hvx := (WL_get (E := E) (lg := lg) (it := it) (rf := rf) o2).trans (by rw [cell_obj hLx hc10])
      obtain ⟨r2, hr2, cellV, g1, g2, g3, -⟩ := a4 x _ hvx
      have hcls := (hK.1.1 ci _ (cl_get hc10)).2
      obtain ⟨kA, comp, k1, k2, k3, -⟩ := (hK.1.2 k _ htl).2
      have hcomp : comp = (e_D E).1 ci := Option.some.inj (k3.symm.trans hcls.1)
      subst hcomp
      obtain ⟨kC, hkC, -⟩ := hcls.2
      have hcell := a4 j _ ((WL_get o1).trans (by rw [hcj]))
      refine W.aast hx hb hcell (fun q h => by cases h) (fun h => by cases h) k1 k2 rfl hkC ⟨h0, by show _ < (arrV _ _ _).slots.size; rw [arrV_size]; exact hlt⟩ g1 (fun q h => by rw [g3] at h; cases h) (by rw [g2]; exact hkC) (by rw [g2]; exact va_assign hcls) rfl rfl hd fun H1 e1 z oq => ?_
      refine h a1 a2 H1 _ cells slots arr (by rw [z, a3]) ?_ (a5.put z oq (Nat.le_add_right _ _)) a6 a7 a8
      have hset := a4.set (p := j) (e := cellv E lg it (u2 rf j i.toNatClampNeg (some x)) j) WL_D (WL_get o1) ?_ oq
      · rw [WL_set (lg' := lg) (it' := it) (rf' := u2 rf j i.toNatClampNeg (some x)) o1 rfl (fun q hq => ⟨rfl, rfl, u2_row hq⟩)] at hset
        exact hset
      · rw [hcj2]
        show H1[e_b E + j]? = some (vp_cell _ _)
        rw [e1]
        rw [vp_cell_q, vp_cell_q, arrV_store]
        congr 2
        funext b
        by_cases hbq : b = i.toNatClampNeg
        · subst hbq
          simp [updV, u2, va_rf]
        · simp [updV, u2, hbq]
    | arraylength =>
      replace h := p_r_s h
      obtain ⟨j, r, rfl, hO, h⟩ := h
      obtain ⟨o1, o2, o3⟩ := hO
      have hl6 : ∃ (k : Nat) (ty : FieldType) (f : _), (tyl E)[k]? = some (e_cy E k, ty) ∧ cellv E lg it rf j = .inl (e_cy E k, (LAY j).2, f) := by
        rcases (show (LAY j).1 = 10 ∨ (LAY j).1 = 11 ∨ (LAY j).1 = 12 ∨ (LAY j).1 = 13 ∨ (LAY j).1 = 14 ∨ (LAY j).1 = 15 by omega) with e1 | e1 | e1 | e1 | e1 | e1
        · exact ⟨0, _, _, rfl, by unfold cellv; rw [e1]; rfl⟩
        · exact ⟨1, _, _, rfl, by unfold cellv; rw [e1]; rfl⟩
        · exact ⟨2, _, _, rfl, by unfold cellv; rw [e1]; rfl⟩
        · exact ⟨3, _, _, rfl, by unfold cellv; rw [e1]; rfl⟩
        · exact ⟨4, _, _, rfl, by unfold cellv; rw [e1]; rfl⟩
        · exact ⟨5, _, _, rfl, by unfold cellv; rw [e1]; rfl⟩
      obtain ⟨k, ty, f, htl, hce⟩ := hl6
      exact va_alen (x := ((LAY j).2, f)) hx hb hK.1 a4 j k ((WL_get o1).trans (by rw [hce])) htl rfl hd (h a1 a2 H locs cells slots arr a3 a4 a5 a6 a7 a8)
    | new idx =>
      obtain ⟨ci, hq1, ⟨hN, hL⟩, h⟩ := o_o_s h
      obtain ⟨c1, c2⟩ := hC _ (xlk_mem hq1)
      exact so_new hx hb hown hts hK hbs hd c1 c2 hL a3 a4 a5 (by omega) (by omega) (fun H1 z1 z2 z3 => h (by omega) a2 H1 locs _ _ arr z1 z2 z3 a6 (by omega) (by omega))
    | newarray t =>
      replace h := p_i_s h
      obtain ⟨x, r, rfl, ⟨hN, hx0, hL⟩, h⟩ := h
      exact so_arr hx hb hts hK hbs hd hx0 hL a3 a4 a5 (by omega) (by omega) (fun H1 z1 z2 z3 => h (by omega) a2 H1 locs _ _ arr z1 z2 z3 a6 (by omega) (by omega))
    | anewarray idx =>
      obtain ⟨ci, hq1, h⟩ := o_o_s h
      replace h := p_i_s h
      obtain ⟨x, r, rfl, ⟨hN, hx0, hL⟩, h⟩ := h
      obtain ⟨c1, c2⟩ := hC _ (xlk_mem hq1)
      exact so_anew hx hb hown hts hK hbs hd c1 c2 hx0 hL a3 a4 a5 (by omega) (by omega) (fun H1 z1 z2 z3 => h (by omega) a2 H1 locs _ _ arr z1 z2 z3 a6 (by omega) (by omega))
    | invokevirtual idx =>
      exact call 0 idx pc ls st N lg it rf hd h a1 a2 H locs cells slots arr a3 a4 a5 a6 a7 a8
    | invokestatic idx =>
      exact call 1 idx pc ls st N lg it rf hd h a1 a2 H locs cells slots arr a3 a4 a5 a6 a7 a8
    | invokespecial idx =>
      exact call 2 idx pc ls st N lg it rf hd h a1 a2 H locs cells slots arr a3 a4 a5 a6 a7 a8
    | ireturn =>
      replace h := p_i_s h
      obtain ⟨x, r, rfl, rfl, rfl, h⟩ := h
      rcases ret_i_s h with ⟨hrt, h⟩ | ⟨hrt, hx1, h⟩
      · refine wid a7 a8 ?_
        exact W.iret hx hb (hr.trans hrt) (fun t ht hW => hq _ _ _ _ t h (by rw [ht]; exact a3) (by rw [ht]; exact a4) hW (a5.F ht)) a5.2.2 hd hlocks
      · refine wid a7 a8 ?_
        exact W.zret hx hb (hr.trans hrt) (by show Value.int (x &&& 1) = _; rw [hx1]) (fun t ht hW => hq _ _ _ _ t h (by rw [ht]; exact a3) (by rw [ht]; exact a4) hW (a5.F ht)) a5.2.2 hd hlocks
    | lreturn =>
      replace h := p_l_s h
      obtain ⟨x, r, rfl, rfl, rfl, h⟩ := h
      replace h := ret_l_s h
      obtain ⟨hrt, h⟩ := h
      refine wid a7 a8 ?_
      exact W.lret hx hb (hr.trans hrt) (fun t ht hW => hq _ _ _ _ t h (by rw [ht]; exact a3) (by rw [ht]; exact a4) hW (a5.F ht)) a5.2.2 hd hlocks
    | areturn =>
      replace h := p_r_s h
      obtain ⟨x, r, rfl, rfl, rfl, h⟩ := h
      replace h := ret_a_s h
      obtain ⟨y, hrt, h⟩ := h
      refine wid a7 a8 ?_
      exact W.aret hx hb (hr.trans hrt) (Or.inl ⟨_, rfl⟩) (Or.inr ⟨_, rfl⟩) (fun t ht hW => hq _ _ _ _ t h (by rw [ht]; exact a3) (by rw [ht]; exact a4) hW (a5.F ht)) a5.2.2 hd hlocks
    | return_ =>
      obtain ⟨rfl, rfl, h⟩ := h
      replace h := ret_v_s h
      obtain ⟨hrt, h⟩ := h
      refine wid a7 a8 ?_
      exact W.vret hx hb (hr.trans hrt) (fun t ht hW => hq _ _ _ _ t h (by rw [ht]; exact a3) (by rw [ht]; exact a4) hW (a5.F ht)) a5.2.2 hd hlocks
    | tableswitch d lo hi2 offs => exact tsw 1 pc d lo hi2 offs ls st N lg it rf hd h a1 a2 H locs cells slots arr a3 a4 a5 a6 a7 a8
    | lookupswitch d ps => exact lsw 1 pc d ps ls st N lg it rf hd h a1 a2 H locs cells slots arr a3 a4 a5 a6 a7 a8
    | _ => exact h.elim
  · intro pc n i ls st N lg it rf hd h a1 a2 H locs cells slots arr a3 a4 a5 a6 a7 a8
    obtain ⟨hi, h⟩ := isB_s h
    cases i with
    | tableswitch d lo hi2 offs => exact tsw n pc d lo hi2 offs ls st N lg it rf hd h a1 a2 H locs cells slots arr a3 a4 a5 a6 a7 a8
    | lookupswitch d ps => exact lsw n pc d ps ls st N lg it rf hd h a1 a2 H locs cells slots arr a3 a4 a5 a6 a7 a8
    | _ => cases hi
