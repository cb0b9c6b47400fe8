/-! constructors: what is made lies as LAY says, and holds what the start says -/
def Ex (r : Nat) (lg lg' : LGt) (it it' : ITt) (rf rf' : RFt) : Prop := ∀ j, j < r → lg' j = lg j ∧ it' j = it j ∧ rf' j = rf j
def Zr (r : Nat) (lg : LGt) (it : ITt) (rf : RFt) : Prop := lg r = (fun _ => 0) ∧ it r = (fun _ => 0) ∧ rf r = (fun _ => none)
theorem Zr_new {r : Nat} {lg : LGt} {it : ITt} {rf : RFt} : Zr r (zr 0 lg r) (zr 0 it r) (zr none rf r) := ⟨zr_self, zr_self, zr_self⟩
theorem rf0_row {j : Nat} {L : List (Option Nat)} (h : RFL.getD j [] = L) : RF0 j = fun k => L.getD k none := by
  funext k
  unfold RF0
  rw [h]
theorem lg0_row {j n : Nat} {c : Nat} (h : LAY j = (c, n)) (hc : ¬ c = 1) : LG0 j = fun _ => 0 := by
  funext k
  unfold LG0
  rw [h]
  simp [hc]
theorem lg0_fr {j n : Nat} (h : LAY j = (1, n)) : LG0 j = fun k => if k = 1 then 1 else 0 := by
  funext k
  unfold LG0
  rw [h]
  simp
def itk (c n j k : Nat) : Int32 := match c with
  | 3 => if k = 4 then 4 else 0
  | 0 => if k = 5 then -1 else 0
  | 6 => if k = 0 then -1 else 0
  | 9 => if k = 1 ∨ k = 2 ∨ k = 3 then 4 else 0
  | 11 => if n = 2 ∧ k < 2 then 4 else if j = 518 ∧ k < 6 then -1 else 0
  | _ => 0
theorem it0_row {j c n : Nat} (h : LAY j = (c, n)) : IT0 j = fun k => itk c n j k := by
  funext k
  unfold IT0 itk
  rw [h]
  rfl
theorem vin {x : Int32} {n m : Nat} (hm : n = m) (h : ¬ (x < 0 ∨ m ≤ x.toNatClampNeg)) : vp_in x n := by subst hm; exact h
def pbs : List (Nat × Int32) := [(19, 5), (22, 8), (25, 8), (46, 5), (49, 8), (52, 8)]
theorem pb_ok : ∀ q ∈ pbs, q.1 + 3 ≤ 489 ∧ (if q.2 < 1 then 1 else q.2) = q.2 ∧ ¬ q.2 < 0 ∧ q.2.toNatClampNeg ≠ 2 ∧ LAY q.1 = (2, 3) ∧ LAY (q.1 + 1) = (11, q.2.toNatClampNeg) ∧ LAY (q.1 + 2) = (11, q.2.toNatClampNeg) ∧ RFL.getD q.1 [] = [some (q.1 + 1), some (q.1 + 2)] ∧ RFL.getD (q.1 + 1) [] = [] ∧ RFL.getD (q.1 + 2) [] = [] := by decide +kernel
theorem rb_tab : ∀ r ∈ rb, RFL.getD r [] = [none, some (r + 1), some (r + 2), some (r + 3), none, some (r + 16)] ∧ RFL.getD (r + 1) [] = [] ∧ RFL.getD (r + 2) [] = [some (r + 4), some (r + 6), some (r + 8), some (r + 10), some (r + 12), some (r + 14)] ∧ RFL.getD (r + 3) [] = [some (r + 5), some (r + 7), some (r + 9), some (r + 11), some (r + 13), some (r + 15)] ∧ (∀ o, o < 17 → 4 ≤ o → RFL.getD (r + o) [] = []) := by decide +kernel
theorem row3 {j : Nat} {lg : LGt} {it : ITt} {rf : RFt} {a : Nat → Int64} {b : Nat → Int32} {c : Nat → Option Nat} (h1 : LG0 j = a) (h2 : IT0 j = b) (h3 : RF0 j = c) (g1 : lg j = a) (g2 : it j = b) (g3 : rf j = c) : lg j = LG0 j ∧ it j = IT0 j ∧ rf j = RF0 j := ⟨g1.trans h1.symm, g2.trans h2.symm, g3.trans h3.symm⟩
theorem tn_0 : ((0 : Int32)).toNatClampNeg = 0 := by decide
theorem tn_1 : ((1 : Int32)).toNatClampNeg = 1 := by decide
theorem tn_2 : ((2 : Int32)).toNatClampNeg = 2 := by decide
theorem tn_3 : ((3 : Int32)).toNatClampNeg = 3 := by decide
theorem tn_4 : ((4 : Int32)).toNatClampNeg = 4 := by decide
theorem tn_5 : ((5 : Int32)).toNatClampNeg = 5 := by decide
theorem tn_6 : ((6 : Int32)).toNatClampNeg = 6 := by decide
theorem tn_7 : ((7 : Int32)).toNatClampNeg = 7 := by decide
theorem tn_8 : ((8 : Int32)).toNatClampNeg = 8 := by decide
theorem tn_9 : ((9 : Int32)).toNatClampNeg = 9 := by decide
theorem tn_10 : ((10 : Int32)).toNatClampNeg = 10 := by decide
theorem tn_11 : ((11 : Int32)).toNatClampNeg = 11 := by decide
theorem tn_12 : ((12 : Int32)).toNatClampNeg = 12 := by decide
theorem tn_13 : ((13 : Int32)).toNatClampNeg = 13 := by decide
theorem tn_14 : ((14 : Int32)).toNatClampNeg = 14 := by decide
theorem tn_15 : ((15 : Int32)).toNatClampNeg = 15 := by decide
theorem tn_16 : ((16 : Int32)).toNatClampNeg = 16 := by decide
theorem tn_17 : ((17 : Int32)).toNatClampNeg = 17 := by decide
theorem tn_18 : ((18 : Int32)).toNatClampNeg = 18 := by decide
theorem tn_19 : ((19 : Int32)).toNatClampNeg = 19 := by decide
theorem tn_20 : ((20 : Int32)).toNatClampNeg = 20 := by decide
theorem tn_21 : ((21 : Int32)).toNatClampNeg = 21 := by decide
def sp_X2_init : Spc := fun as N lg it rf K => match as with | [.ref q, .int n] => ((q, n) ∈ pbs ∧ N = q + 1 ∧ Zr q lg it rf) ∧ ∀ lg' it' rf', Fr q (q + 3) lg' it' rf' → Ex q lg lg' it it' rf rf' → K none lg' it' rf' | _ => False
def T_X2_init : Tab := (FL_X2, CL_X2, JL_X2, [(3, 2, 1, 0, 0, sp_obj), (9, 1, 2, 0, 0, sp_max)], 2, none)
def rm_X2_init : Room := { frames := 1, cells := 2, slots := 800, locals := 21 }
set_option maxRecDepth 100000 in
theorem bd_X2_init (as : List Value) (N : Nat) (lg : LGt) (it : ITt) (rf : RFt) (Q : Post) (h : sp_X2_init as N lg it rf Q) : Bd T_X2_init cX2_init 2 2 as N lg it rf Q := by
  unfold sp_X2_init at h
  split at h
  · rename_i q n
    refine ⟨Nat.le_of_ble_eq_true rfl, fun P hs hw hf => ?_⟩
    obtain ⟨⟨hm, rfl, hz1, hz2, hz3⟩, hk⟩ := h
    obtain ⟨h1, h2, h3, h4, h5, h6, h7, h8, h9, h10⟩ := pb_ok _ hm
    dsimp only at *
    refine hs dX2_init_0 (hs dX2_init_1 (And.intro (trivial) (n0 (hs dX2_init_4 (hs dX2_init_5 (hs dX2_init_6 (hs dX2_init_7 (And.intro (trivial) (n0 (hs dX2_init_10 (And.intro (⟨by omega, by show ¬ (if n < 1 then 1 else n) < 0; rw [h2]; exact h3, by show LAY (q + 1) = (11, (if n < 1 then 1 else n).toNatClampNeg); rw [h2]; exact h6⟩) (hs dX2_init_12 (And.intro (⟨by omega, by rw [h5]⟩) (hs dX2_init_15 (hs dX2_init_16 (hs dX2_init_17 (hs dX2_init_18 (And.intro (trivial) (n0 (hs dX2_init_21 (And.intro (⟨by omega, by show ¬ (if n < 1 then 1 else n) < 0; rw [h2]; exact h3, by show LAY (q + 2) = (11, (if n < 1 then 1 else n).toNatClampNeg); rw [h2]; exact h7⟩) (hs dX2_init_23 (And.intro (⟨by omega, by rw [h5]⟩) (hs dX2_init_26 (hs dX2_init_27 (hs dX2_init_28 (And.intro (⟨by omega, by rw [h5]⟩) (hs dX2_init_31 (And.intro (rfl) (And.intro rfl ?_))))))))))))))))))))))))))))))
    refine hk _ _ _ (fun j g1 g2 => ?_) (fun j g => ?_)
    · rcases (show j = q ∨ j = q + 1 ∨ j = q + 2 by omega) with rfl | rfl | rfl
      · refine row3 (lg0_row h5 (by decide)) (it0_row h5) (rf0_row h8) ?_ ?_ ?_
        · rw [zr_row (by omega), zr_row (by omega), hz1]
        · funext k; simp [u2, zr, hz2, itk, ki_0]
        · funext k; rcases k with _ | _ | k <;> simp [u2, zr, hz3] <;> omega
      · refine row3 (lg0_row h6 (by decide)) (it0_row h6) (rf0_row h9) ?_ ?_ ?_
        · rw [zr_row (by omega), zr_self]
        · funext k; simp [u2, zr, itk, h4] <;> intro _ <;> omega
        · funext k; simp [u2, zr]
      · refine row3 (lg0_row h7 (by decide)) (it0_row h7) (rf0_row h10) ?_ ?_ ?_
        · rw [zr_self]
        · funext k; simp [u2, zr, itk, h4] <;> intro _ <;> omega
        · funext k; simp [u2, zr]
    · have e1 : ¬ j = q := by omega
      have e2 : ¬ j = q + 1 := by omega
      have e3 : ¬ j = q + 2 := by omega
      refine ⟨?_, ?_, ?_⟩ <;> funext k <;> simp [u2, zr, e1, e2, e3]
  · exact h.elim
theorem sh_X2_init (as : List Value) (N : Nat) (lg : LGt) (it : ITt) (rf : RFt) (Q : Post) (h : sp_X2_init as N lg it rf Q) : ∃ j t, as = .ref j :: t := by
  unfold sp_X2_init at h
  split at h
  · exact ⟨_, _, rfl⟩
  · exact h.elim
theorem ct_X2_init {E : Ev} {l : Launch} : CT E l yX2_init (wsY yX2_init cX2_init 2 none) rm_X2_init 2 sp_X2_init := ct_of (T := T_X2_init) (own := RX2) (by decide) rfl (fun ci _ hc => by have h2 : (2 : Nat) = ci := Nat.eq_of_beq_eq_true hc; subst h2; exact ⟨rfl, rfl⟩) ⟨rfl, rfl⟩ ⟨fok_X2, clok_X2, jok_X2, List.forall_mem_cons.mpr ⟨cok_obj ml_X2_3 o_obj.1 o_obj.2 (by decide), List.forall_mem_cons.mpr ⟨cok_max ml_X2_9 o_math.1 o_math.2.2.1 o_math.2.2.2.1 (by decide), fun _ h => absurd h List.not_mem_nil⟩⟩⟩ bd_X2_init
def sp_X3_init : Spc := fun as N lg it rf K => match as with | [.ref r] => (r ∈ rb ∧ N = r + 1 ∧ Zr r lg it rf) ∧ ∀ lg' it' rf', Fr r (r + 17) lg' it' rf' → Ex r lg lg' it it' rf rf' → K none lg' it' rf' | _ => False
def T_X3_init : Tab := (FL_X3, CL_X3, JL_X3, [(3, 2, 1, 0, 0, sp_obj), (28, 2, 1, 0, 0, sp_X1_init)], 3, none)
def rm_X3_init : Room := { frames := 2, cells := 16, slots := 6400, locals := 40 }
set_option maxRecDepth 100000 in
theorem bd_X3_init (as : List Value) (N : Nat) (lg : LGt) (it : ITt) (rf : RFt) (Q : Post) (h : sp_X3_init as N lg it rf Q) : Bd T_X3_init cX3_init 2 16 as N lg it rf Q := by
  unfold sp_X3_init at h
  split at h
  · rename_i r
    refine ⟨Nat.le_of_ble_eq_true rfl, fun P hs hw hf => ?_⟩
    obtain ⟨⟨hm, rfl, hz1, hz2, hz3⟩, hk⟩ := h
    have hl := rb_lay r hm
    obtain ⟨t1, t2, t3, t4, t5⟩ := rb_tab r hm
    refine hs dX3_init_0 (hs dX3_init_1 (And.intro (trivial) (n0 (hs dX3_init_4 (hs dX3_init_5 (hs dX3_init_6 (And.intro (⟨by omega, by rw [show LAY r = _ from hl 0 (by decide)]; rfl⟩) (hs dX3_init_9 (hs dX3_init_10 (hs dX3_init_12 (And.intro (⟨by omega, by decide, hl 1 (by decide)⟩) (nM (M := r + 2) rfl (hs dX3_init_14 (And.intro (⟨by omega, by rw [show LAY r = _ from hl 0 (by decide)]; rfl⟩) (hs dX3_init_17 (hs dX3_init_18 (hs dX3_init_20 (And.intro (⟨by omega, by decide, hl 2 (by decide)⟩) (nM (M := r + 3) rfl (hs dX3_init_23 (And.intro (⟨by omega, by rw [show LAY r = _ from hl 0 (by decide)]; rfl⟩) (hs dX3_init_26 (hs dX3_init_27 (hs dX3_init_29 (And.intro (⟨by omega, by decide, hl 3 (by decide)⟩) (nM (M := r + 4) rfl (hs dX3_init_32 (And.intro (⟨by omega, by rw [show LAY r = _ from hl 0 (by decide)]; rfl⟩) (hs dX3_init_35 (hs dX3_init_36 ?_))))))))))))))))))))))))))))))
    show P 37 [.ref r, .int 0] [] _ _ _ _
    refine hs dX3_init_37 (hs dX3_init_38 (hs dX3_init_40 (And.intro (fun c40 => absurd c40 (by decide)) (fun c40 => (hs dX3_init_43 (hs dX3_init_44 (And.intro (⟨by omega, by rw [show LAY r = _ from hl 0 (by decide)]; rfl⟩) (gr (by simp [u2, zr]) (hs dX3_init_47 (hs dX3_init_48 (And.intro (⟨by omega, hl 4 (by decide)⟩) (nM (M := r + 5) rfl (hs dX3_init_51 (hs dX3_init_52 (And.intro (trivial) (And.intro (⟨by omega, by rw [hl 4 (by decide)]; rfl⟩) (n0 (hs dX3_init_55 (And.intro (⟨by omega, by omega, by rw [hl 2 (by decide), hl 4 (by decide)]; rfl, by rw [hl 2 (by decide)]; decide, by rw [hl 2 (by decide)]; decide⟩) (And.intro (vin (show (LAY (r + 2)).2 = 6 by rw [hl 2 (by decide)]; rfl) (by decide)) (hs dX3_init_56 (hs dX3_init_57 (And.intro (⟨by omega, by rw [show LAY r = _ from hl 0 (by decide)]; rfl⟩) (gr (by simp [u2, zr]) (hs dX3_init_60 (hs dX3_init_61 (And.intro (⟨by omega, hl 5 (by decide)⟩) (nM (M := r + 6) rfl (hs dX3_init_64 (hs dX3_init_65 (And.intro (trivial) (And.intro (⟨by omega, by rw [hl 5 (by decide)]; rfl⟩) (n0 (hs dX3_init_68 (And.intro (⟨by omega, by omega, by rw [hl 3 (by decide), hl 5 (by decide)]; rfl, by rw [hl 3 (by decide)]; decide, by rw [hl 3 (by decide)]; decide⟩) (And.intro (vin (show (LAY (r + 3)).2 = 6 by rw [hl 3 (by decide)]; rfl) (by decide)) (hs dX3_init_69 (hs dX3_init_72 ?_))))))))))))))))))))))))))))))))))))))
    show P 37 [.ref r, .int 1] [] _ _ _ _
    refine hs dX3_init_37 (hs dX3_init_38 (hs dX3_init_40 (And.intro (fun c40 => absurd c40 (by decide)) (fun c40 => (hs dX3_init_43 (hs dX3_init_44 (And.intro (⟨by omega, by rw [show LAY r = _ from hl 0 (by decide)]; rfl⟩) (gr (by simp [u2, zr]) (hs dX3_init_47 (hs dX3_init_48 (And.intro (⟨by omega, hl 6 (by decide)⟩) (nM (M := r + 7) rfl (hs dX3_init_51 (hs dX3_init_52 (And.intro (trivial) (And.intro (⟨by omega, by rw [hl 6 (by decide)]; rfl⟩) (n0 (hs dX3_init_55 (And.intro (⟨by omega, by omega, by rw [hl 2 (by decide), hl 6 (by decide)]; rfl, by rw [hl 2 (by decide)]; decide, by rw [hl 2 (by decide)]; decide⟩) (And.intro (vin (show (LAY (r + 2)).2 = 6 by rw [hl 2 (by decide)]; rfl) (by decide)) (hs dX3_init_56 (hs dX3_init_57 (And.intro (⟨by omega, by rw [show LAY r = _ from hl 0 (by decide)]; rfl⟩) (gr (by simp [u2, zr]) (hs dX3_init_60 (hs dX3_init_61 (And.intro (⟨by omega, hl 7 (by decide)⟩) (nM (M := r + 8) rfl (hs dX3_init_64 (hs dX3_init_65 (And.intro (trivial) (And.intro (⟨by omega, by rw [hl 7 (by decide)]; rfl⟩) (n0 (hs dX3_init_68 (And.intro (⟨by omega, by omega, by rw [hl 3 (by decide), hl 7 (by decide)]; rfl, by rw [hl 3 (by decide)]; decide, by rw [hl 3 (by decide)]; decide⟩) (And.intro (vin (show (LAY (r + 3)).2 = 6 by rw [hl 3 (by decide)]; rfl) (by decide)) (hs dX3_init_69 (hs dX3_init_72 ?_))))))))))))))))))))))))))))))))))))))
    show P 37 [.ref r, .int 2] [] _ _ _ _
    refine hs dX3_init_37 (hs dX3_init_38 (hs dX3_init_40 (And.intro (fun c40 => absurd c40 (by decide)) (fun c40 => (hs dX3_init_43 (hs dX3_init_44 (And.intro (⟨by omega, by rw [show LAY r = _ from hl 0 (by decide)]; rfl⟩) (gr (by simp [u2, zr]) (hs dX3_init_47 (hs dX3_init_48 (And.intro (⟨by omega, hl 8 (by decide)⟩) (nM (M := r + 9) rfl (hs dX3_init_51 (hs dX3_init_52 (And.intro (trivial) (And.intro (⟨by omega, by rw [hl 8 (by decide)]; rfl⟩) (n0 (hs dX3_init_55 (And.intro (⟨by omega, by omega, by rw [hl 2 (by decide), hl 8 (by decide)]; rfl, by rw [hl 2 (by decide)]; decide, by rw [hl 2 (by decide)]; decide⟩) (And.intro (vin (show (LAY (r + 2)).2 = 6 by rw [hl 2 (by decide)]; rfl) (by decide)) (hs dX3_init_56 (hs dX3_init_57 (And.intro (⟨by omega, by rw [show LAY r = _ from hl 0 (by decide)]; rfl⟩) (gr (by simp [u2, zr]) (hs dX3_init_60 (hs dX3_init_61 (And.intro (⟨by omega, hl 9 (by decide)⟩) (nM (M := r + 10) rfl (hs dX3_init_64 (hs dX3_init_65 (And.intro (trivial) (And.intro (⟨by omega, by rw [hl 9 (by decide)]; rfl⟩) (n0 (hs dX3_init_68 (And.intro (⟨by omega, by omega, by rw [hl 3 (by decide), hl 9 (by decide)]; rfl, by rw [hl 3 (by decide)]; decide, by rw [hl 3 (by decide)]; decide⟩) (And.intro (vin (show (LAY (r + 3)).2 = 6 by rw [hl 3 (by decide)]; rfl) (by decide)) (hs dX3_init_69 (hs dX3_init_72 ?_))))))))))))))))))))))))))))))))))))))
    show P 37 [.ref r, .int 3] [] _ _ _ _
    refine hs dX3_init_37 (hs dX3_init_38 (hs dX3_init_40 (And.intro (fun c40 => absurd c40 (by decide)) (fun c40 => (hs dX3_init_43 (hs dX3_init_44 (And.intro (⟨by omega, by rw [show LAY r = _ from hl 0 (by decide)]; rfl⟩) (gr (by simp [u2, zr]) (hs dX3_init_47 (hs dX3_init_48 (And.intro (⟨by omega, hl 10 (by decide)⟩) (nM (M := r + 11) rfl (hs dX3_init_51 (hs dX3_init_52 (And.intro (trivial) (And.intro (⟨by omega, by rw [hl 10 (by decide)]; rfl⟩) (n0 (hs dX3_init_55 (And.intro (⟨by omega, by omega, by rw [hl 2 (by decide), hl 10 (by decide)]; rfl, by rw [hl 2 (by decide)]; decide, by rw [hl 2 (by decide)]; decide⟩) (And.intro (vin (show (LAY (r + 2)).2 = 6 by rw [hl 2 (by decide)]; rfl) (by decide)) (hs dX3_init_56 (hs dX3_init_57 (And.intro (⟨by omega, by rw [show LAY r = _ from hl 0 (by decide)]; rfl⟩) (gr (by simp [u2, zr]) (hs dX3_init_60 (hs dX3_init_61 (And.intro (⟨by omega, hl 11 (by decide)⟩) (nM (M := r + 12) rfl (hs dX3_init_64 (hs dX3_init_65 (And.intro (trivial) (And.intro (⟨by omega, by rw [hl 11 (by decide)]; rfl⟩) (n0 (hs dX3_init_68 (And.intro (⟨by omega, by omega, by rw [hl 3 (by decide), hl 11 (by decide)]; rfl, by rw [hl 3 (by decide)]; decide, by rw [hl 3 (by decide)]; decide⟩) (And.intro (vin (show (LAY (r + 3)).2 = 6 by rw [hl 3 (by decide)]; rfl) (by decide)) (hs dX3_init_69 (hs dX3_init_72 ?_))))))))))))))))))))))))))))))))))))))
    show P 37 [.ref r, .int 4] [] _ _ _ _
    refine hs dX3_init_37 (hs dX3_init_38 (hs dX3_init_40 (And.intro (fun c40 => absurd c40 (by decide)) (fun c40 => (hs dX3_init_43 (hs dX3_init_44 (And.intro (⟨by omega, by rw [show LAY r = _ from hl 0 (by decide)]; rfl⟩) (gr (by simp [u2, zr]) (hs dX3_init_47 (hs dX3_init_48 (And.intro (⟨by omega, hl 12 (by decide)⟩) (nM (M := r + 13) rfl (hs dX3_init_51 (hs dX3_init_52 (And.intro (trivial) (And.intro (⟨by omega, by rw [hl 12 (by decide)]; rfl⟩) (n0 (hs dX3_init_55 (And.intro (⟨by omega, by omega, by rw [hl 2 (by decide), hl 12 (by decide)]; rfl, by rw [hl 2 (by decide)]; decide, by rw [hl 2 (by decide)]; decide⟩) (And.intro (vin (show (LAY (r + 2)).2 = 6 by rw [hl 2 (by decide)]; rfl) (by decide)) (hs dX3_init_56 (hs dX3_init_57 (And.intro (⟨by omega, by rw [show LAY r = _ from hl 0 (by decide)]; rfl⟩) (gr (by simp [u2, zr]) (hs dX3_init_60 (hs dX3_init_61 (And.intro (⟨by omega, hl 13 (by decide)⟩) (nM (M := r + 14) rfl (hs dX3_init_64 (hs dX3_init_65 (And.intro (trivial) (And.intro (⟨by omega, by rw [hl 13 (by decide)]; rfl⟩) (n0 (hs dX3_init_68 (And.intro (⟨by omega, by omega, by rw [hl 3 (by decide), hl 13 (by decide)]; rfl, by rw [hl 3 (by decide)]; decide, by rw [hl 3 (by decide)]; decide⟩) (And.intro (vin (show (LAY (r + 3)).2 = 6 by rw [hl 3 (by decide)]; rfl) (by decide)) (hs dX3_init_69 (hs dX3_init_72 ?_))))))))))))))))))))))))))))))))))))))
    show P 37 [.ref r, .int 5] [] _ _ _ _
    refine hs dX3_init_37 (hs dX3_init_38 (hs dX3_init_40 (And.intro (fun c40 => absurd c40 (by decide)) (fun c40 => (hs dX3_init_43 (hs dX3_init_44 (And.intro (⟨by omega, by rw [show LAY r = _ from hl 0 (by decide)]; rfl⟩) (gr (by simp [u2, zr]) (hs dX3_init_47 (hs dX3_init_48 (And.intro (⟨by omega, hl 14 (by decide)⟩) (nM (M := r + 15) rfl (hs dX3_init_51 (hs dX3_init_52 (And.intro (trivial) (And.intro (⟨by omega, by rw [hl 14 (by decide)]; rfl⟩) (n0 (hs dX3_init_55 (And.intro (⟨by omega, by omega, by rw [hl 2 (by decide), hl 14 (by decide)]; rfl, by rw [hl 2 (by decide)]; decide, by rw [hl 2 (by decide)]; decide⟩) (And.intro (vin (show (LAY (r + 2)).2 = 6 by rw [hl 2 (by decide)]; rfl) (by decide)) (hs dX3_init_56 (hs dX3_init_57 (And.intro (⟨by omega, by rw [show LAY r = _ from hl 0 (by decide)]; rfl⟩) (gr (by simp [u2, zr]) (hs dX3_init_60 (hs dX3_init_61 (And.intro (⟨by omega, hl 15 (by decide)⟩) (nM (M := r + 16) rfl (hs dX3_init_64 (hs dX3_init_65 (And.intro (trivial) (And.intro (⟨by omega, by rw [hl 15 (by decide)]; rfl⟩) (n0 (hs dX3_init_68 (And.intro (⟨by omega, by omega, by rw [hl 3 (by decide), hl 15 (by decide)]; rfl, by rw [hl 3 (by decide)]; decide, by rw [hl 3 (by decide)]; decide⟩) (And.intro (vin (show (LAY (r + 3)).2 = 6 by rw [hl 3 (by decide)]; rfl) (by decide)) (hs dX3_init_69 (hs dX3_init_72 ?_))))))))))))))))))))))))))))))))))))))
    show P 37 [.ref r, .int 6] [] _ _ _ _
    refine hs dX3_init_37 (hs dX3_init_38 (hs dX3_init_40 (And.intro (fun c40 => ?_) (fun c40 => absurd (by decide) c40))))
    refine hs dX3_init_75 (hs dX3_init_76 (hs dX3_init_77 (And.intro (⟨by omega, by rw [show LAY r = _ from hl 0 (by decide)]; rfl⟩) (hs dX3_init_80 (hs dX3_init_81 (hs dX3_init_82 (And.intro (⟨by omega, by decide, hl 16 (by decide)⟩) (nM (M := r + 17) rfl (hs dX3_init_84 (And.intro (⟨by omega, by rw [show LAY r = _ from hl 0 (by decide)]; rfl⟩) (hs dX3_init_87 (hs dX3_init_88 (And.intro (⟨by omega, by rw [show LAY r = _ from hl 0 (by decide)]; rfl⟩) (gr (by simp [u2, zr]) (hs dX3_init_91 (hs dX3_init_92 (hs dX3_init_93 (And.intro (⟨by omega, by rw [hl 16 (by decide)]; rfl⟩) (And.intro (vin (show (LAY (r + 16)).2 = 2 by rw [hl 16 (by decide)]; rfl) (by decide)) (hs dX3_init_94 (hs dX3_init_95 (And.intro (⟨by omega, by rw [show LAY r = _ from hl 0 (by decide)]; rfl⟩) (gr (by simp [u2, zr]) (hs dX3_init_98 (hs dX3_init_99 (hs dX3_init_100 (And.intro (⟨by omega, by rw [hl 16 (by decide)]; rfl⟩) (And.intro (vin (show (LAY (r + 16)).2 = 2 by rw [hl 16 (by decide)]; rfl) (by decide)) (hs dX3_init_101 (And.intro (rfl) (And.intro rfl ?_)))))))))))))))))))))))))))))))
    refine hk _ _ _ (fun j g1 g2 => ?_) (fun j g => ?_)
    · obtain ⟨o, rfl⟩ : ∃ o, j = r + o := ⟨j - r, by omega⟩
      have ho : o < 17 := by omega
      have hr := (rb_rf r hm).1
      clear g1 g2 hk hs hw
      rcases (show o = 0 ∨ o = 1 ∨ o = 2 ∨ o = 3 ∨ o = 4 ∨ o = 5 ∨ o = 6 ∨ o = 7 ∨ o = 8 ∨ o = 9 ∨ o = 10 ∨ o = 11 ∨ o = 12 ∨ o = 13 ∨ o = 14 ∨ o = 15 ∨ o = 16 by omega) with rfl | rfl | rfl | rfl | rfl | rfl | rfl | rfl | rfl | rfl | rfl | rfl | rfl | rfl | rfl | rfl | rfl
      · exact row3 (lg0_row (hl 0 (by decide)) (by decide)) (it0_row (hl 0 (by decide))) (rf0_row t1) (by funext k; simp [u2, zr, sL, sI, hz1, kl_0, kl_1] <;> intros <;> omega) (by funext k; simp [u2, zr, sI, hz2, itk, ki_0, ki_4, ki_1] <;> intros <;> first | omega | (rw [if_neg (by omega), if_neg (by omega)])) (by funext k; rcases k with _ | _ | _ | _ | _ | _ | k <;> simp [u2, zr, hz3, tn_0, tn_1, tn_2, tn_3, tn_4, tn_5])
      · exact row3 (lg0_row (hl 1 (by decide)) (by decide)) (it0_row (hl 1 (by decide))) (rf0_row t2) (by funext k; simp [u2, zr, sL, sI, hz1, kl_0, kl_1] <;> intros <;> omega) (by funext k; simp [u2, zr, sI, hz2, itk, ki_0, ki_4, ki_1] <;> intros <;> first | omega | (rw [if_neg (by omega), if_neg (by omega)])) (by funext k; simp [u2, zr, hz3, tn_0, tn_1, tn_2, tn_3, tn_4, tn_5])
      · exact row3 (lg0_row (hl 2 (by decide)) (by decide)) (it0_row (hl 2 (by decide))) (rf0_row t3) (by funext k; simp [u2, zr, sL, sI, hz1, kl_0, kl_1] <;> intros <;> omega) (by funext k; simp [u2, zr, sI, hz2, itk, ki_0, ki_4, ki_1] <;> intros <;> first | omega | (rw [if_neg (by omega), if_neg (by omega)])) (by funext k; rcases k with _ | _ | _ | _ | _ | _ | k <;> simp [u2, zr, hz3, tn_0, tn_1, tn_2, tn_3, tn_4, tn_5])
      · exact row3 (lg0_row (hl 3 (by decide)) (by decide)) (it0_row (hl 3 (by decide))) (rf0_row t4) (by funext k; simp [u2, zr, sL, sI, hz1, kl_0, kl_1] <;> intros <;> omega) (by funext k; simp [u2, zr, sI, hz2, itk, ki_0, ki_4, ki_1] <;> intros <;> first | omega | (rw [if_neg (by omega), if_neg (by omega)])) (by funext k; rcases k with _ | _ | _ | _ | _ | _ | k <;> simp [u2, zr, hz3, tn_0, tn_1, tn_2, tn_3, tn_4, tn_5])
      · exact row3 (lg0_fr (hl 4 (by decide))) (it0_row (hl 4 (by decide))) (rf0_row (t5 4 (by decide) (by decide))) (by funext k; simp [u2, zr, sL, sI, hz1, kl_0, kl_1] <;> intros <;> omega) (by funext k; simp [u2, zr, sI, hz2, itk, ki_0, ki_4, ki_1] <;> intros <;> first | omega | (rw [if_neg (by omega), if_neg (by omega)])) (by funext k; simp [u2, zr, hz3, tn_0, tn_1, tn_2, tn_3, tn_4, tn_5])
      · exact row3 (lg0_fr (hl 5 (by decide))) (it0_row (hl 5 (by decide))) (rf0_row (t5 5 (by decide) (by decide))) (by funext k; simp [u2, zr, sL, sI, hz1, kl_0, kl_1] <;> intros <;> omega) (by funext k; simp [u2, zr, sI, hz2, itk, ki_0, ki_4, ki_1] <;> intros <;> first | omega | (rw [if_neg (by omega), if_neg (by omega)])) (by funext k; simp [u2, zr, hz3, tn_0, tn_1, tn_2, tn_3, tn_4, tn_5])
      · exact row3 (lg0_fr (hl 6 (by decide))) (it0_row (hl 6 (by decide))) (rf0_row (t5 6 (by decide) (by decide))) (by funext k; simp [u2, zr, sL, sI, hz1, kl_0, kl_1] <;> intros <;> omega) (by funext k; simp [u2, zr, sI, hz2, itk, ki_0, ki_4, ki_1] <;> intros <;> first | omega | (rw [if_neg (by omega), if_neg (by omega)])) (by funext k; simp [u2, zr, hz3, tn_0, tn_1, tn_2, tn_3, tn_4, tn_5])
      · exact row3 (lg0_fr (hl 7 (by decide))) (it0_row (hl 7 (by decide))) (rf0_row (t5 7 (by decide) (by decide))) (by funext k; simp [u2, zr, sL, sI, hz1, kl_0, kl_1] <;> intros <;> omega) (by funext k; simp [u2, zr, sI, hz2, itk, ki_0, ki_4, ki_1] <;> intros <;> first | omega | (rw [if_neg (by omega), if_neg (by omega)])) (by funext k; simp [u2, zr, hz3, tn_0, tn_1, tn_2, tn_3, tn_4, tn_5])
      · exact row3 (lg0_fr (hl 8 (by decide))) (it0_row (hl 8 (by decide))) (rf0_row (t5 8 (by decide) (by decide))) (by funext k; simp [u2, zr, sL, sI, hz1, kl_0, kl_1] <;> intros <;> omega) (by funext k; simp [u2, zr, sI, hz2, itk, ki_0, ki_4, ki_1] <;> intros <;> first | omega | (rw [if_neg (by omega), if_neg (by omega)])) (by funext k; simp [u2, zr, hz3, tn_0, tn_1, tn_2, tn_3, tn_4, tn_5])
      · exact row3 (lg0_fr (hl 9 (by decide))) (it0_row (hl 9 (by decide))) (rf0_row (t5 9 (by decide) (by decide))) (by funext k; simp [u2, zr, sL, sI, hz1, kl_0, kl_1] <;> intros <;> omega) (by funext k; simp [u2, zr, sI, hz2, itk, ki_0, ki_4, ki_1] <;> intros <;> first | omega | (rw [if_neg (by omega), if_neg (by omega)])) (by funext k; simp [u2, zr, hz3, tn_0, tn_1, tn_2, tn_3, tn_4, tn_5])
      · exact row3 (lg0_fr (hl 10 (by decide))) (it0_row (hl 10 (by decide))) (rf0_row (t5 10 (by decide) (by decide))) (by funext k; simp [u2, zr, sL, sI, hz1, kl_0, kl_1] <;> intros <;> omega) (by funext k; simp [u2, zr, sI, hz2, itk, ki_0, ki_4, ki_1] <;> intros <;> first | omega | (rw [if_neg (by omega), if_neg (by omega)])) (by funext k; simp [u2, zr, hz3, tn_0, tn_1, tn_2, tn_3, tn_4, tn_5])
      · exact row3 (lg0_fr (hl 11 (by decide))) (it0_row (hl 11 (by decide))) (rf0_row (t5 11 (by decide) (by decide))) (by funext k; simp [u2, zr, sL, sI, hz1, kl_0, kl_1] <;> intros <;> omega) (by funext k; simp [u2, zr, sI, hz2, itk, ki_0, ki_4, ki_1] <;> intros <;> first | omega | (rw [if_neg (by omega), if_neg (by omega)])) (by funext k; simp [u2, zr, hz3, tn_0, tn_1, tn_2, tn_3, tn_4, tn_5])
      · exact row3 (lg0_fr (hl 12 (by decide))) (it0_row (hl 12 (by decide))) (rf0_row (t5 12 (by decide) (by decide))) (by funext k; simp [u2, zr, sL, sI, hz1, kl_0, kl_1] <;> intros <;> omega) (by funext k; simp [u2, zr, sI, hz2, itk, ki_0, ki_4, ki_1] <;> intros <;> first | omega | (rw [if_neg (by omega), if_neg (by omega)])) (by funext k; simp [u2, zr, hz3, tn_0, tn_1, tn_2, tn_3, tn_4, tn_5])
      · exact row3 (lg0_fr (hl 13 (by decide))) (it0_row (hl 13 (by decide))) (rf0_row (t5 13 (by decide) (by decide))) (by funext k; simp [u2, zr, sL, sI, hz1, kl_0, kl_1] <;> intros <;> omega) (by funext k; simp [u2, zr, sI, hz2, itk, ki_0, ki_4, ki_1] <;> intros <;> first | omega | (rw [if_neg (by omega), if_neg (by omega)])) (by funext k; simp [u2, zr, hz3, tn_0, tn_1, tn_2, tn_3, tn_4, tn_5])
      · exact row3 (lg0_fr (hl 14 (by decide))) (it0_row (hl 14 (by decide))) (rf0_row (t5 14 (by decide) (by decide))) (by funext k; simp [u2, zr, sL, sI, hz1, kl_0, kl_1] <;> intros <;> omega) (by funext k; simp [u2, zr, sI, hz2, itk, ki_0, ki_4, ki_1] <;> intros <;> first | omega | (rw [if_neg (by omega), if_neg (by omega)])) (by funext k; simp [u2, zr, hz3, tn_0, tn_1, tn_2, tn_3, tn_4, tn_5])
      · exact row3 (lg0_fr (hl 15 (by decide))) (it0_row (hl 15 (by decide))) (rf0_row (t5 15 (by decide) (by decide))) (by funext k; simp [u2, zr, sL, sI, hz1, kl_0, kl_1] <;> intros <;> omega) (by funext k; simp [u2, zr, sI, hz2, itk, ki_0, ki_4, ki_1] <;> intros <;> first | omega | (rw [if_neg (by omega), if_neg (by omega)])) (by funext k; simp [u2, zr, hz3, tn_0, tn_1, tn_2, tn_3, tn_4, tn_5])
      · exact row3 (lg0_row (hl 16 (by decide)) (by decide)) (it0_row (hl 16 (by decide))) (rf0_row (t5 16 (by decide) (by decide))) (by funext k; simp [u2, zr, sL, sI, hz1, kl_0, kl_1] <;> intros <;> omega) (by funext k; rcases k with _ | _ | k <;> simp [u2, zr, sI, hz2, itk, ki_0, ki_4, ki_1, tn_0, tn_1] <;> intros <;> first | omega | (rw [if_neg (by omega), if_neg (by omega)])) (by funext k; simp [u2, zr, hz3, tn_0, tn_1, tn_2, tn_3, tn_4, tn_5])
    · have e : ∀ o, ¬ j = r + o := fun o => by omega
      have e0 : ¬ j = r := by omega
      refine ⟨?_, ?_, ?_⟩ <;> funext k <;> simp [u2, zr, sL, sI, e0, e, Nat.add_assoc]
  · exact h.elim
theorem sh_X3_init (as : List Value) (N : Nat) (lg : LGt) (it : ITt) (rf : RFt) (Q : Post) (h : sp_X3_init as N lg it rf Q) : ∃ j t, as = .ref j :: t := by
  unfold sp_X3_init at h
  split at h
  · exact ⟨_, _, rfl⟩
  · exact h.elim
theorem ct_X3_init {E : Ev} {l : Launch} : CT E l yX3_init (wsY yX3_init cX3_init 2 none) rm_X3_init 16 sp_X3_init := ct_of (T := T_X3_init) (own := RX3) (by decide) rfl (fun ci _ hc => by have h2 : (3 : Nat) = ci := Nat.eq_of_beq_eq_true hc; subst h2; exact ⟨rfl, rfl⟩) ⟨rfl, rfl⟩ ⟨fok_X3, clok_X3, jok_X3, List.forall_mem_cons.mpr ⟨cok_obj ml_X3_3 o_obj.1 o_obj.2 (by decide), List.forall_mem_cons.mpr ⟨cok_I ct_X1_init sh_X1_init rfl ((cl_ins (c := 1) (by decide)).2) ml_X3_28 im_X1_init co_X1_init mo_X1_init (by decide), fun _ h => absurd h List.not_mem_nil⟩⟩⟩ bd_X3_init
