/-! the fractions, in any state -/
abbrev FV : Type := Int64 × Int64 × Int32
def fv (lg : LGt) (it : ITt) (j : Nat) : FV := (lg j 0, lg j 1, it j 2)
def w_X1_passes (a0 : Int64) (a1 : Int64) (K : Int32 → LGt → ITt → Prop)  (lg : LGt) (it : ITt) : Prop := ((¬ a1 = 0) → (((¬ a1 = (-1)) → ((¬ a1 = 0) ∧ (((((a0 * a1) / a1) = a0) → (K (0 : Int32) lg it)) ∧ ((¬ ((a0 * a1) / a1) = a0) → (K (1 : Int32) lg it))))) ∧ ((a1 = (-1)) → (((¬ a0 = (-9223372036854775808)) → (K (0 : Int32) lg it)) ∧ ((a0 = (-9223372036854775808)) → (K (1 : Int32) lg it)))))) ∧ ((a1 = 0) → (K (0 : Int32) lg it))
def sp_X1_passes : Spc := fun as N lg it rf K => match as with | [.long a0, .long a1] => (N = NT ∧ rf = RF0) ∧ ∃ R : Int32 → LGt → ITt → Prop, w_X1_passes a0 a1 R  lg it ∧ ∀ v lg' it', R v lg' it' → K (some (.int v)) lg' it' RF0 | _ => False
def T_X1_passes : Tab := (FL_X1, CL_X1, JL_X1, [], 99, (some .boolean))
def rm_X1_passes : Room := { frames := 0, cells := 0, slots := 0, locals := 0 }
set_option maxRecDepth 100000 in
theorem bd_X1_passes (as : List Value) (N : Nat) (lg : LGt) (it : ITt) (rf : RFt) (Q : Post) (h : sp_X1_passes as N lg it rf Q) : Bd T_X1_passes cX1_passes 4 0 as N lg it rf Q := by
  unfold sp_X1_passes at h
  split at h
  · rename_i a0 a1
    refine ⟨Nat.le_of_ble_eq_true rfl, fun P hs hw hf => ?_⟩
    obtain ⟨⟨rfl, rfl⟩, R, h, hk⟩ := h
    unfold w_X1_passes at h
    exact gs (P := P) [.long a0, uu, .long a1, uu] rfl (hs dX1_passes_0 (hs dX1_passes_1 (gxl (P := P) kl_0 (hs dX1_passes_2 (hs dX1_passes_3 (And.intro (fun c => have h1 := And.left h (fun q => c ((lg_cmp_eq _ _).mpr q)); hs dX1_passes_8 (hs dX1_passes_9 (hs dX1_passes_12 (hs dX1_passes_13 (And.intro (fun c => have h3 := And.left h1 (fun q => c ((lg_cmp_eq _ _).mpr q)); hs dX1_passes_30 (hs dX1_passes_31 (hs dX1_passes_32 (hs dX1_passes_33 (hs dX1_passes_34 (And.intro (And.left h3) (have h5 := And.right h3; hs dX1_passes_35 (hs dX1_passes_36 (hs dX1_passes_37 (And.intro (fun c => have h6 := And.left h5 ((lg_cmp_eq _ _).mp c); hs dX1_passes_44 (gx (P := P) ki_0 (hs dX1_passes_45 (And.intro rfl (And.intro rfl (And.intro (by decide) (hk _ _ _ h6))))))) (fun c => have h7 := And.right h5 (fun q => c ((lg_cmp_eq _ _).mpr q)); hs dX1_passes_40 (gx (P := P) ki_1 (hs dX1_passes_41 (hs dX1_passes_45 (And.intro rfl (And.intro rfl (And.intro (by decide) (hk _ _ _ h7)))))))))))))))))) (fun c => have h4 := And.right h1 ((lg_cmp_eq _ _).mp c); hs dX1_passes_16 (hs dX1_passes_17 (hs dX1_passes_20 (hs dX1_passes_21 (And.intro (fun c => have h8 := And.left h4 (fun q => c ((lg_cmp_eq _ _).mpr q)); hs dX1_passes_28 (gx (P := P) ki_0 (hs dX1_passes_29 (And.intro rfl (And.intro rfl (And.intro (by decide) (hk _ _ _ h8))))))) (fun c => have h9 := And.right h4 ((lg_cmp_eq _ _).mp c); hs dX1_passes_24 (gx (P := P) ki_1 (hs dX1_passes_25 (hs dX1_passes_29 (And.intro rfl (And.intro rfl (And.intro (by decide) (hk _ _ _ h9)))))))))))))))))) (fun c => have h2 := And.right h ((lg_cmp_eq _ _).mp c); hs dX1_passes_6 (gx (P := P) ki_0 (hs dX1_passes_7 (And.intro rfl (And.intro rfl (And.intro (by decide) (hk _ _ _ h2)))))))))))))
  · exact h.elim
theorem ct_X1_passes {E : Ev} {l : Launch} : CT E l yX1_passes (wsY yX1_passes cX1_passes 4 (some .boolean)) rm_X1_passes 0 sp_X1_passes := ct_of (T := T_X1_passes) (own := RX1) (by decide) rfl (fun ci h10 hc => by have h2 : (99 : Nat) = ci := Nat.eq_of_beq_eq_true hc; omega) ⟨rfl, rfl⟩ ⟨fok_X1, clok_X1, jok_X1, fun _ h => absurd h List.not_mem_nil⟩ bd_X1_passes
def sp_X1_passesF : Spc := fun as N lg it rf K => match as with | [.long a0, .long a1] => (N = NT ∧ rf = RF0) ∧ K (some (.int (b2 (pas a0 a1 = true)))) lg it rf | _ => False
theorem sn_X1_passesF (as : List Value) (N : Nat) (lg : LGt) (it : ITt) (rf : RFt) (K : Post) (h : sp_X1_passesF as N lg it rf K) : sp_X1_passes as N lg it rf K := by
  unfold sp_X1_passesF at h
  split at h
  · rename_i a0 a1
    obtain ⟨⟨rfl, rfl⟩, hk⟩ := h
    refine ⟨⟨rfl, rfl⟩, fun v lg' it' => v = b2 (pas a0 a1 = true) ∧ lg' = lg ∧ it' = it, ?_, fun v lg' it' q => by obtain ⟨rfl, rfl, rfl⟩ := q; exact hk⟩
    unfold w_X1_passes
    unfold pas
    repeat' (first | intro c | with_reducible apply And.intro)
    all_goals first | rfl | contradiction | (symm; apply b2_p; simp_all) | (symm; apply b2_n; simp_all)
  · exact h.elim
theorem ct_X1_passesF {E : Ev} {l : Launch} : CT E l yX1_passes (wsY yX1_passes cX1_passes 4 (some .boolean)) rm_X1_passes 0 sp_X1_passesF := ct_weak ct_X1_passes sn_X1_passesF
def fTimes (a b : FV) : FV := stF a.1 a.2.1 (if a.2.2 = 0 ∧ b.2.2 = 0 ∧ pas a.1 b.1 = false ∧ pas a.2.1 b.2.1 = false then 0 else 1) (a.1 * b.1) (a.2.1 * b.2.1)
def w_X1_times_b48 (a0 : Nat) (a1 : Nat) (K : LGt → ITt → Prop)  (s0 : Int32) (lg : LGt) (it : ITt) : Prop := (s0 &&& 1 = s0) ∧ (let it9 : ITt := u2 it a0 2 (s0 : Int32); (let q11 : FV := stF (lg a0 0) (lg a0 1) (it9 a0 2) ((lg a0 0) * (lg a1 0)) ((lg a0 1) * (lg a1 1)); let lg12 : LGt := sL lg a0 q11.1 q11.2.1; let it13 : ITt := sI it9 a0 2 q11.2.2; K lg12 it13))
def w_X1_times_b43 (a0 : Nat) (a1 : Nat) (K : LGt → ITt → Prop)   (lg : LGt) (it : ITt) : Prop := w_X1_times_b48 a0 a1 K  (1 : Int32) lg it
def w_X1_times (a0 : Nat) (a1 : Nat) (K : LGt → ITt → Prop)  (lg : LGt) (it : ITt) : Prop := ((¬ (it a0 2) = 0) → (w_X1_times_b43 a0 a1 K   lg it)) ∧ (((it a0 2) = 0) → (((¬ (it a1 2) = 0) → (w_X1_times_b43 a0 a1 K   lg it)) ∧ (((it a1 2) = 0) → (((pas (lg a0 0) (lg a1 0) = true) → (w_X1_times_b43 a0 a1 K   lg it)) ∧ ((¬ (pas (lg a0 0) (lg a1 0) = true)) → (((¬ (pas (lg a0 1) (lg a1 1) = true)) → (w_X1_times_b48 a0 a1 K  (0 : Int32) lg it)) ∧ ((pas (lg a0 1) (lg a1 1) = true) → (w_X1_times_b43 a0 a1 K   lg it))))))))
def sp_X1_times : Spc := fun as N lg it rf K => match as with | [.ref a0, .ref a1] => (N = NT ∧ rf = RF0 ∧ Ob NT a0 1 ∧ Ob NT a1 1) ∧ ∃ R : LGt → ITt → Prop, w_X1_times a0 a1 R  lg it ∧ ∀ lg' it', R lg' it' → K none lg' it' RF0 | _ => False
def T_X1_times : Tab := (FL_X1, CL_X1, JL_X1, [(26, 1, 2, 0, 0, sp_X1_passesF), (22, 0, 3, 1, 0, sp_X1_settle)], 99, none)
def rm_X1_times : Room := { frames := 1, cells := 0, slots := 0, locals := 31 }
set_option maxRecDepth 100000 in
theorem bd_X1_times (as : List Value) (N : Nat) (lg : LGt) (it : ITt) (rf : RFt) (Q : Post) (h : sp_X1_times as N lg it rf Q) : Bd T_X1_times cX1_times 2 0 as N lg it rf Q := by
  unfold sp_X1_times at h
  split at h
  · rename_i a0 a1
    refine ⟨Nat.le_of_ble_eq_true rfl, fun P hs hw hf => ?_⟩
    obtain ⟨⟨rfl, rfl, ha0, ha1⟩, R, h, hk⟩ := h
    have b48 : ∀   (s0 : Int32) (lg : LGt) (it : ITt), w_X1_times_b48 a0 a1 R  s0 lg it → P 48 [.ref a0, .ref a1] [.int s0, .ref a0] NT lg it RF0 := by
      intro s0 lg it h
      unfold w_X1_times_b48 at h
      exact (hs dX1_times_48 (And.intro (ha0) (And.intro (And.left h) (let it9 : ITt := u2 it a0 2 (s0 : Int32); have h10 := (And.right h); hs dX1_times_51 (hs dX1_times_52 (hs dX1_times_53 (And.intro (ha0) (hs dX1_times_56 (hs dX1_times_57 (And.intro (ha1) (hs dX1_times_60 (hs dX1_times_61 (hs dX1_times_62 (And.intro (ha0) (hs dX1_times_65 (hs dX1_times_66 (And.intro (ha1) (hs dX1_times_69 (hs dX1_times_70 (And.intro (ha0) (And.intro (ha0) (n0 (P := P) (let q11 : FV := stF (lg a0 0) (lg a0 1) (it9 a0 2) ((lg a0 0) * (lg a1 0)) ((lg a0 1) * (lg a1 1)); let lg12 : LGt := sL lg a0 q11.1 q11.2.1; let it13 : ITt := sI it9 a0 2 q11.2.2; have h14 := h10; hs dX1_times_73 (And.intro rfl (And.intro rfl (hk _ _ h14))))))))))))))))))))))))))
    have b43 : ∀    (lg : LGt) (it : ITt), w_X1_times_b43 a0 a1 R   lg it → P 43 [.ref a0, .ref a1] [.ref a0] NT lg it RF0 := by
      intro lg it h
      unfold w_X1_times_b43 at h
      exact (hs dX1_times_43 (gx (P := P) ki_1 (hs dX1_times_44 (hf [.ref a0, .ref a1] ⟨Or.inr rfl, ⟨Or.inr rfl, trivial⟩⟩ (b48   _ _ _  h)))))
    unfold w_X1_times at h
    exact gs (P := P) [.ref a0, .ref a1] rfl (hs dX1_times_0 (hs dX1_times_1 (hs dX1_times_2 (And.intro (ha0) (hs dX1_times_5 (And.intro (fun c => have h1 := And.left h c; hf [.ref a0, .ref a1] ⟨Or.inr rfl, ⟨Or.inr rfl, trivial⟩⟩ (b43    _ _  h1)) (fun c => have h2 := And.right h c; hs dX1_times_8 (hs dX1_times_9 (And.intro (ha1) (hs dX1_times_12 (And.intro (fun c => have h3 := And.left h2 c; hf [.ref a0, .ref a1] ⟨Or.inr rfl, ⟨Or.inr rfl, trivial⟩⟩ (b43    _ _  h3)) (fun c => have h4 := And.right h2 c; hs dX1_times_15 (hs dX1_times_16 (And.intro (ha0) (hs dX1_times_19 (hs dX1_times_20 (And.intro (ha1) (hs dX1_times_23 (And.intro (trivial) (And.intro (And.intro rfl rfl) (n0 (P := P) (hs dX1_times_26 (And.intro (fun c => have h5 := And.left h4 (nb2 c); hf [.ref a0, .ref a1] ⟨Or.inr rfl, ⟨Or.inr rfl, trivial⟩⟩ (b43    _ _  h5)) (fun c => have h6 := And.right h4 (b2_0.mp c); hs dX1_times_29 (hs dX1_times_30 (And.intro (ha0) (hs dX1_times_33 (hs dX1_times_34 (And.intro (ha1) (hs dX1_times_37 (And.intro (trivial) (And.intro (And.intro rfl rfl) (n0 (P := P) (hs dX1_times_40 (And.intro (fun c => have h7 := And.left h6 (b2_0.mp c); hs dX1_times_47 (gx (P := P) ki_0 (hf [.ref a0, .ref a1] ⟨Or.inr rfl, ⟨Or.inr rfl, trivial⟩⟩ (b48   _ _ _  h7)))) (fun c => have h8 := And.right h6 (nb2 c); hf [.ref a0, .ref a1] ⟨Or.inr rfl, ⟨Or.inr rfl, trivial⟩⟩ (b43    _ _  h8)))))))))))))))))))))))))))))))))))))
  · exact h.elim
theorem ct_X1_times {E : Ev} {l : Launch} : CT E l yX1_times (wsY yX1_times cX1_times 2 none) rm_X1_times 0 sp_X1_times := ct_of (T := T_X1_times) (own := RX1) (by decide) rfl (fun ci h10 hc => by have h2 : (99 : Nat) = ci := Nat.eq_of_beq_eq_true hc; omega) ⟨rfl, rfl⟩ ⟨fok_X1, clok_X1, jok_X1, List.forall_mem_cons.mpr ⟨cok_S ct_X1_passesF ((cl_ins (c := 1) (by decide)).2) ml_X1_26 im_X1_passes co_X1_passes mo_X1_passes (by decide), List.forall_mem_cons.mpr ⟨cok_V ct_X1_settle (by decide) rfl ml_X1_22 im_X1_settle se_X1_settle co_X1_settle mo_X1_settle (by decide), fun _ h => absurd h List.not_mem_nil⟩⟩⟩ bd_X1_times
def sp_X1_timesF : Spc := fun as N lg it rf K => match as with | [.ref a0, .ref a1] => (N = NT ∧ rf = RF0 ∧ Ob NT a0 1 ∧ Ob NT a1 1) ∧ K none (sL lg a0 (fTimes (fv lg it a0) (fv lg it a1)).1 (fTimes (fv lg it a0) (fv lg it a1)).2.1) (sI it a0 2 (fTimes (fv lg it a0) (fv lg it a1)).2.2) rf | _ => False
theorem sn_X1_timesF (as : List Value) (N : Nat) (lg : LGt) (it : ITt) (rf : RFt) (K : Post) (h : sp_X1_timesF as N lg it rf K) : sp_X1_times as N lg it rf K := by
  unfold sp_X1_timesF at h
  split at h
  · rename_i a0 a1
    obtain ⟨⟨rfl, rfl, ha0, ha1⟩, hk⟩ := h
    have key : ∀ s : Int32, s &&& 1 = s → s = (if it a0 2 = 0 ∧ it a1 2 = 0 ∧ pas (fv lg it a0).1 (fv lg it a1).1 = false ∧ pas (fv lg it a0).2.1 (fv lg it a1).2.1 = false then 0 else 1) → w_X1_times_b48 a0 a1 (fun lg' it' => lg' = sL lg a0 (fTimes (fv lg it a0) (fv lg it a1)).1 (fTimes (fv lg it a0) (fv lg it a1)).2.1 ∧ it' = sI it a0 2 (fTimes (fv lg it a0) (fv lg it a1)).2.2) s lg it := by
      intro s h1 h2
      unfold w_X1_times_b48
      refine ⟨h1, ?_⟩
      subst h2
      have e : ∀ (o w : Int32), sI (u2 it a0 2 o) a0 2 w = sI it a0 2 w := fun o w => u2_u2
      simp only [u2_eq, e]
      exact ⟨rfl, rfl⟩
    refine ⟨⟨rfl, rfl, ha0, ha1⟩, fun lg' it' => lg' = sL lg a0 (fTimes (fv lg it a0) (fv lg it a1)).1 (fTimes (fv lg it a0) (fv lg it a1)).2.1 ∧ it' = sI it a0 2 (fTimes (fv lg it a0) (fv lg it a1)).2.2, ?_, fun lg' it' q => by obtain ⟨rfl, rfl⟩ := q; exact hk⟩
    unfold w_X1_times
    try unfold w_X1_times_b43
    repeat' (first | intro c | with_reducible apply And.intro)
    all_goals first | exact key 0 (by decide) (by rw [if_pos]; simp only [fv]; simp_all) | exact key 1 (by decide) (by rw [if_neg]; simp only [fv]; simp_all)
  · exact h.elim
theorem ct_X1_timesF {E : Ev} {l : Launch} : CT E l yX1_times (wsY yX1_times cX1_times 2 none) rm_X1_times 0 sp_X1_timesF := ct_weak ct_X1_times sn_X1_timesF
def fBy (a b : FV) : FV := stF a.1 a.2.1 (if a.2.2 = 0 ∧ b.2.2 = 0 ∧ pas a.1 b.2.1 = false ∧ pas a.2.1 b.1 = false then 0 else 1) (a.1 * b.2.1) (a.2.1 * b.1)
def w_X1_by_b48 (a0 : Nat) (a1 : Nat) (K : LGt → ITt → Prop)  (s0 : Int32) (lg : LGt) (it : ITt) : Prop := (s0 &&& 1 = s0) ∧ (let it9 : ITt := u2 it a0 2 (s0 : Int32); (let q11 : FV := stF (lg a0 0) (lg a0 1) (it9 a0 2) ((lg a0 0) * (lg a1 1)) ((lg a0 1) * (lg a1 0)); let lg12 : LGt := sL lg a0 q11.1 q11.2.1; let it13 : ITt := sI it9 a0 2 q11.2.2; K lg12 it13))
def w_X1_by_b43 (a0 : Nat) (a1 : Nat) (K : LGt → ITt → Prop)   (lg : LGt) (it : ITt) : Prop := w_X1_by_b48 a0 a1 K  (1 : Int32) lg it
def w_X1_by (a0 : Nat) (a1 : Nat) (K : LGt → ITt → Prop)  (lg : LGt) (it : ITt) : Prop := ((¬ (it a0 2) = 0) → (w_X1_by_b43 a0 a1 K   lg it)) ∧ (((it a0 2) = 0) → (((¬ (it a1 2) = 0) → (w_X1_by_b43 a0 a1 K   lg it)) ∧ (((it a1 2) = 0) → (((pas (lg a0 0) (lg a1 1) = true) → (w_X1_by_b43 a0 a1 K   lg it)) ∧ ((¬ (pas (lg a0 0) (lg a1 1) = true)) → (((¬ (pas (lg a0 1) (lg a1 0) = true)) → (w_X1_by_b48 a0 a1 K  (0 : Int32) lg it)) ∧ ((pas (lg a0 1) (lg a1 0) = true) → (w_X1_by_b43 a0 a1 K   lg it))))))))
def sp_X1_by : Spc := fun as N lg it rf K => match as with | [.ref a0, .ref a1] => (N = NT ∧ rf = RF0 ∧ Ob NT a0 1 ∧ Ob NT a1 1) ∧ ∃ R : LGt → ITt → Prop, w_X1_by a0 a1 R  lg it ∧ ∀ lg' it', R lg' it' → K none lg' it' RF0 | _ => False
def T_X1_by : Tab := (FL_X1, CL_X1, JL_X1, [(26, 1, 2, 0, 0, sp_X1_passesF), (22, 0, 3, 1, 0, sp_X1_settle)], 99, none)
def rm_X1_by : Room := { frames := 1, cells := 0, slots := 0, locals := 31 }
set_option maxRecDepth 100000 in
theorem bd_X1_by (as : List Value) (N : Nat) (lg : LGt) (it : ITt) (rf : RFt) (Q : Post) (h : sp_X1_by as N lg it rf Q) : Bd T_X1_by cX1_by 2 0 as N lg it rf Q := by
  unfold sp_X1_by at h
  split at h
  · rename_i a0 a1
    refine ⟨Nat.le_of_ble_eq_true rfl, fun P hs hw hf => ?_⟩
    obtain ⟨⟨rfl, rfl, ha0, ha1⟩, R, h, hk⟩ := h
    have b48 : ∀   (s0 : Int32) (lg : LGt) (it : ITt), w_X1_by_b48 a0 a1 R  s0 lg it → P 48 [.ref a0, .ref a1] [.int s0, .ref a0] NT lg it RF0 := by
      intro s0 lg it h
      unfold w_X1_by_b48 at h
      exact (hs dX1_by_48 (And.intro (ha0) (And.intro (And.left h) (let it9 : ITt := u2 it a0 2 (s0 : Int32); have h10 := (And.right h); hs dX1_by_51 (hs dX1_by_52 (hs dX1_by_53 (And.intro (ha0) (hs dX1_by_56 (hs dX1_by_57 (And.intro (ha1) (hs dX1_by_60 (hs dX1_by_61 (hs dX1_by_62 (And.intro (ha0) (hs dX1_by_65 (hs dX1_by_66 (And.intro (ha1) (hs dX1_by_69 (hs dX1_by_70 (And.intro (ha0) (And.intro (ha0) (n0 (P := P) (let q11 : FV := stF (lg a0 0) (lg a0 1) (it9 a0 2) ((lg a0 0) * (lg a1 1)) ((lg a0 1) * (lg a1 0)); let lg12 : LGt := sL lg a0 q11.1 q11.2.1; let it13 : ITt := sI it9 a0 2 q11.2.2; have h14 := h10; hs dX1_by_73 (And.intro rfl (And.intro rfl (hk _ _ h14))))))))))))))))))))))))))
    have b43 : ∀    (lg : LGt) (it : ITt), w_X1_by_b43 a0 a1 R   lg it → P 43 [.ref a0, .ref a1] [.ref a0] NT lg it RF0 := by
      intro lg it h
      unfold w_X1_by_b43 at h
      exact (hs dX1_by_43 (gx (P := P) ki_1 (hs dX1_by_44 (hf [.ref a0, .ref a1] ⟨Or.inr rfl, ⟨Or.inr rfl, trivial⟩⟩ (b48   _ _ _  h)))))
    unfold w_X1_by at h
    exact gs (P := P) [.ref a0, .ref a1] rfl (hs dX1_by_0 (hs dX1_by_1 (hs dX1_by_2 (And.intro (ha0) (hs dX1_by_5 (And.intro (fun c => have h1 := And.left h c; hf [.ref a0, .ref a1] ⟨Or.inr rfl, ⟨Or.inr rfl, trivial⟩⟩ (b43    _ _  h1)) (fun c => have h2 := And.right h c; hs dX1_by_8 (hs dX1_by_9 (And.intro (ha1) (hs dX1_by_12 (And.intro (fun c => have h3 := And.left h2 c; hf [.ref a0, .ref a1] ⟨Or.inr rfl, ⟨Or.inr rfl, trivial⟩⟩ (b43    _ _  h3)) (fun c => have h4 := And.right h2 c; hs dX1_by_15 (hs dX1_by_16 (And.intro (ha0) (hs dX1_by_19 (hs dX1_by_20 (And.intro (ha1) (hs dX1_by_23 (And.intro (trivial) (And.intro (And.intro rfl rfl) (n0 (P := P) (hs dX1_by_26 (And.intro (fun c => have h5 := And.left h4 (nb2 c); hf [.ref a0, .ref a1] ⟨Or.inr rfl, ⟨Or.inr rfl, trivial⟩⟩ (b43    _ _  h5)) (fun c => have h6 := And.right h4 (b2_0.mp c); hs dX1_by_29 (hs dX1_by_30 (And.intro (ha0) (hs dX1_by_33 (hs dX1_by_34 (And.intro (ha1) (hs dX1_by_37 (And.intro (trivial) (And.intro (And.intro rfl rfl) (n0 (P := P) (hs dX1_by_40 (And.intro (fun c => have h7 := And.left h6 (b2_0.mp c); hs dX1_by_47 (gx (P := P) ki_0 (hf [.ref a0, .ref a1] ⟨Or.inr rfl, ⟨Or.inr rfl, trivial⟩⟩ (b48   _ _ _  h7)))) (fun c => have h8 := And.right h6 (nb2 c); hf [.ref a0, .ref a1] ⟨Or.inr rfl, ⟨Or.inr rfl, trivial⟩⟩ (b43    _ _  h8)))))))))))))))))))))))))))))))))))))
  · exact h.elim
theorem ct_X1_by {E : Ev} {l : Launch} : CT E l yX1_by (wsY yX1_by cX1_by 2 none) rm_X1_by 0 sp_X1_by := ct_of (T := T_X1_by) (own := RX1) (by decide) rfl (fun ci h10 hc => by have h2 : (99 : Nat) = ci := Nat.eq_of_beq_eq_true hc; omega) ⟨rfl, rfl⟩ ⟨fok_X1, clok_X1, jok_X1, List.forall_mem_cons.mpr ⟨cok_S ct_X1_passesF ((cl_ins (c := 1) (by decide)).2) ml_X1_26 im_X1_passes co_X1_passes mo_X1_passes (by decide), List.forall_mem_cons.mpr ⟨cok_V ct_X1_settle (by decide) rfl ml_X1_22 im_X1_settle se_X1_settle co_X1_settle mo_X1_settle (by decide), fun _ h => absurd h List.not_mem_nil⟩⟩⟩ bd_X1_by
def sp_X1_byF : Spc := fun as N lg it rf K => match as with | [.ref a0, .ref a1] => (N = NT ∧ rf = RF0 ∧ Ob NT a0 1 ∧ Ob NT a1 1) ∧ K none (sL lg a0 (fBy (fv lg it a0) (fv lg it a1)).1 (fBy (fv lg it a0) (fv lg it a1)).2.1) (sI it a0 2 (fBy (fv lg it a0) (fv lg it a1)).2.2) rf | _ => False
theorem sn_X1_byF (as : List Value) (N : Nat) (lg : LGt) (it : ITt) (rf : RFt) (K : Post) (h : sp_X1_byF as N lg it rf K) : sp_X1_by as N lg it rf K := by
  unfold sp_X1_byF at h
  split at h
  · rename_i a0 a1
    obtain ⟨⟨rfl, rfl, ha0, ha1⟩, hk⟩ := h
    have key : ∀ s : Int32, s &&& 1 = s → s = (if it a0 2 = 0 ∧ it a1 2 = 0 ∧ pas (fv lg it a0).1 (fv lg it a1).2.1 = false ∧ pas (fv lg it a0).2.1 (fv lg it a1).1 = false then 0 else 1) → w_X1_by_b48 a0 a1 (fun lg' it' => lg' = sL lg a0 (fBy (fv lg it a0) (fv lg it a1)).1 (fBy (fv lg it a0) (fv lg it a1)).2.1 ∧ it' = sI it a0 2 (fBy (fv lg it a0) (fv lg it a1)).2.2) s lg it := by
      intro s h1 h2
      unfold w_X1_by_b48
      refine ⟨h1, ?_⟩
      subst h2
      have e : ∀ (o w : Int32), sI (u2 it a0 2 o) a0 2 w = sI it a0 2 w := fun o w => u2_u2
      simp only [u2_eq, e]
      exact ⟨rfl, rfl⟩
    refine ⟨⟨rfl, rfl, ha0, ha1⟩, fun lg' it' => lg' = sL lg a0 (fBy (fv lg it a0) (fv lg it a1)).1 (fBy (fv lg it a0) (fv lg it a1)).2.1 ∧ it' = sI it a0 2 (fBy (fv lg it a0) (fv lg it a1)).2.2, ?_, fun lg' it' q => by obtain ⟨rfl, rfl⟩ := q; exact hk⟩
    unfold w_X1_by
    try unfold w_X1_by_b43
    repeat' (first | intro c | with_reducible apply And.intro)
    all_goals first | exact key 0 (by decide) (by rw [if_pos]; simp only [fv]; simp_all) | exact key 1 (by decide) (by rw [if_neg]; simp only [fv]; simp_all)
  · exact h.elim
theorem ct_X1_byF {E : Ev} {l : Launch} : CT E l yX1_by (wsY yX1_by cX1_by 2 none) rm_X1_by 0 sp_X1_byF := ct_weak ct_X1_by sn_X1_byF
def fPlus (a b : FV) : FV := stF a.1 a.2.1 (if a.2.2 = 0 ∧ b.2.2 = 0 ∧ pas a.1 b.2.1 = false ∧ pas b.1 a.2.1 = false ∧ pas a.2.1 b.2.1 = false ∧ ¬ ((a.1 * b.2.1) ^^^ (a.1 * b.2.1 + b.1 * a.2.1)) &&& ((b.1 * a.2.1) ^^^ (a.1 * b.2.1 + b.1 * a.2.1)) < 0 then 0 else 1) ((a.1 * b.2.1 + b.1 * a.2.1)) (a.2.1 * b.2.1)
def w_X1_plus_b104 (a0 : Nat) (a1 : Nat) (K : LGt → ITt → Prop)  (x6 : Int64) (s0 : Int32) (lg : LGt) (it : ITt) : Prop := (s0 &&& 1 = s0) ∧ (let it13 : ITt := u2 it a0 2 (s0 : Int32); (let q15 : FV := stF (lg a0 0) (lg a0 1) (it13 a0 2) x6 ((lg a0 1) * (lg a1 1)); let lg16 : LGt := sL lg a0 q15.1 q15.2.1; let it17 : ITt := sI it13 a0 2 q15.2.2; K lg16 it17))
def w_X1_plus_b99 (a0 : Nat) (a1 : Nat) (K : LGt → ITt → Prop)  (x6 : Int64) (lg : LGt) (it : ITt) : Prop := w_X1_plus_b104 a0 a1 K  x6 (1 : Int32) lg it
def w_X1_plus (a0 : Nat) (a1 : Nat) (K : LGt → ITt → Prop)  (lg : LGt) (it : ITt) : Prop := ((¬ (it a0 2) = 0) → (w_X1_plus_b99 a0 a1 K  (((lg a0 0) * (lg a1 1)) + ((lg a1 0) * (lg a0 1))) lg it)) ∧ (((it a0 2) = 0) → (((¬ (it a1 2) = 0) → (w_X1_plus_b99 a0 a1 K  (((lg a0 0) * (lg a1 1)) + ((lg a1 0) * (lg a0 1))) lg it)) ∧ (((it a1 2) = 0) → (((pas (lg a0 0) (lg a1 1) = true) → (w_X1_plus_b99 a0 a1 K  (((lg a0 0) * (lg a1 1)) + ((lg a1 0) * (lg a0 1))) lg it)) ∧ ((¬ (pas (lg a0 0) (lg a1 1) = true)) → (((pas (lg a1 0) (lg a0 1) = true) → (w_X1_plus_b99 a0 a1 K  (((lg a0 0) * (lg a1 1)) + ((lg a1 0) * (lg a0 1))) lg it)) ∧ ((¬ (pas (lg a1 0) (lg a0 1) = true)) → (((pas (lg a0 1) (lg a1 1) = true) → (w_X1_plus_b99 a0 a1 K  (((lg a0 0) * (lg a1 1)) + ((lg a1 0) * (lg a0 1))) lg it)) ∧ ((¬ (pas (lg a0 1) (lg a1 1) = true)) → (((0 ≤ ((((lg a0 0) * (lg a1 1)) ^^^ (((lg a0 0) * (lg a1 1)) + ((lg a1 0) * (lg a0 1)))) &&& (((lg a1 0) * (lg a0 1)) ^^^ (((lg a0 0) * (lg a1 1)) + ((lg a1 0) * (lg a0 1)))))) → (w_X1_plus_b104 a0 a1 K  (((lg a0 0) * (lg a1 1)) + ((lg a1 0) * (lg a0 1))) (0 : Int32) lg it)) ∧ ((¬ 0 ≤ ((((lg a0 0) * (lg a1 1)) ^^^ (((lg a0 0) * (lg a1 1)) + ((lg a1 0) * (lg a0 1)))) &&& (((lg a1 0) * (lg a0 1)) ^^^ (((lg a0 0) * (lg a1 1)) + ((lg a1 0) * (lg a0 1)))))) → (w_X1_plus_b99 a0 a1 K  (((lg a0 0) * (lg a1 1)) + ((lg a1 0) * (lg a0 1))) lg it))))))))))))
def sp_X1_plus : Spc := fun as N lg it rf K => match as with | [.ref a0, .ref a1] => (N = NT ∧ rf = RF0 ∧ Ob NT a0 1 ∧ Ob NT a1 1) ∧ ∃ R : LGt → ITt → Prop, w_X1_plus a0 a1 R  lg it ∧ ∀ lg' it', R lg' it' → K none lg' it' RF0 | _ => False
def T_X1_plus : Tab := (FL_X1, CL_X1, JL_X1, [(26, 1, 2, 0, 0, sp_X1_passesF), (22, 0, 3, 1, 0, sp_X1_settle)], 99, none)
def rm_X1_plus : Room := { frames := 1, cells := 0, slots := 0, locals := 31 }
set_option maxRecDepth 100000 in
theorem bd_X1_plus (as : List Value) (N : Nat) (lg : LGt) (it : ITt) (rf : RFt) (Q : Post) (h : sp_X1_plus as N lg it rf Q) : Bd T_X1_plus cX1_plus 8 0 as N lg it rf Q := by
  unfold sp_X1_plus at h
  split at h
  · rename_i a0 a1
    refine ⟨Nat.le_of_ble_eq_true rfl, fun P hs hw hf => ?_⟩
    obtain ⟨⟨rfl, rfl, ha0, ha1⟩, R, h, hk⟩ := h
    have b104 : ∀   (x6 : Int64) (s0 : Int32) (lg : LGt) (it : ITt), w_X1_plus_b104 a0 a1 R  x6 s0 lg it → P 104 [.ref a0, .ref a1, uu, uu, uu, uu, .long x6, uu] [.int s0, .ref a0] NT lg it RF0 := by
      intro x6 s0 lg it h
      unfold w_X1_plus_b104 at h
      exact (hs dX1_plus_104 (And.intro (ha0) (And.intro (And.left h) (let it13 : ITt := u2 it a0 2 (s0 : Int32); have h14 := (And.right h); hs dX1_plus_107 (hs dX1_plus_108 (hs dX1_plus_110 (hs dX1_plus_111 (And.intro (ha0) (hs dX1_plus_114 (hs dX1_plus_115 (And.intro (ha1) (hs dX1_plus_118 (hs dX1_plus_119 (And.intro (ha0) (And.intro (ha0) (n0 (P := P) (let q15 : FV := stF (lg a0 0) (lg a0 1) (it13 a0 2) x6 ((lg a0 1) * (lg a1 1)); let lg16 : LGt := sL lg a0 q15.1 q15.2.1; let it17 : ITt := sI it13 a0 2 q15.2.2; have h18 := h14; hs dX1_plus_122 (And.intro rfl (And.intro rfl (hk _ _ h18))))))))))))))))))))
    have b99 : ∀   (x6 : Int64) (lg : LGt) (it : ITt), w_X1_plus_b99 a0 a1 R  x6 lg it → P 99 [.ref a0, .ref a1, uu, uu, uu, uu, .long x6, uu] [.ref a0] NT lg it RF0 := by
      intro x6 lg it h
      unfold w_X1_plus_b99 at h
      exact (hs dX1_plus_99 (gx (P := P) ki_1 (hs dX1_plus_100 (hf [.ref a0, .ref a1, uu, uu, uu, uu, .long x6, uu] ⟨Or.inr rfl, ⟨Or.inr rfl, ⟨Or.inl rfl, ⟨Or.inl rfl, ⟨Or.inl rfl, ⟨Or.inl rfl, ⟨Or.inr rfl, ⟨Or.inl rfl, trivial⟩⟩⟩⟩⟩⟩⟩⟩ (b104   _ _ _ _  h)))))
    unfold w_X1_plus at h
    exact gs (P := P) [.ref a0, .ref a1, uu, uu, uu, uu, uu, uu] rfl (hs dX1_plus_0 (hs dX1_plus_1 (And.intro (ha0) (hs dX1_plus_4 (hs dX1_plus_5 (And.intro (ha1) (hs dX1_plus_8 (hs dX1_plus_9 (gs (P := P) [.ref a0, .ref a1, .long ((lg a0 0) * (lg a1 1)), uu, uu, uu, uu, uu] rfl (hs dX1_plus_10 (hs dX1_plus_11 (And.intro (ha1) (hs dX1_plus_14 (hs dX1_plus_15 (And.intro (ha0) (hs dX1_plus_18 (hs dX1_plus_19 (gs (P := P) [.ref a0, .ref a1, .long ((lg a0 0) * (lg a1 1)), uu, .long ((lg a1 0) * (lg a0 1)), uu, uu, uu] rfl (hs dX1_plus_21 (hs dX1_plus_22 (hs dX1_plus_24 (hs dX1_plus_25 (gs (P := P) [.ref a0, .ref a1, .long ((lg a0 0) * (lg a1 1)), uu, .long ((lg a1 0) * (lg a0 1)), uu, .long (((lg a0 0) * (lg a1 1)) + ((lg a1 0) * (lg a0 1))), uu] rfl (hs dX1_plus_27 (hs dX1_plus_28 (hs dX1_plus_29 (And.intro (ha0) (hs dX1_plus_32 (And.intro (fun c => have h1 := And.left h c; hf [.ref a0, .ref a1, uu, uu, uu, uu, .long (((lg a0 0) * (lg a1 1)) + ((lg a1 0) * (lg a0 1))), uu] ⟨Or.inr rfl, ⟨Or.inr rfl, ⟨Or.inl rfl, ⟨Or.inl rfl, ⟨Or.inl rfl, ⟨Or.inl rfl, ⟨Or.inr rfl, ⟨Or.inl rfl, trivial⟩⟩⟩⟩⟩⟩⟩⟩ (b99   _ _ _  h1)) (fun c => have h2 := And.right h c; hs dX1_plus_35 (hs dX1_plus_36 (And.intro (ha1) (hs dX1_plus_39 (And.intro (fun c => have h3 := And.left h2 c; hf [.ref a0, .ref a1, uu, uu, uu, uu, .long (((lg a0 0) * (lg a1 1)) + ((lg a1 0) * (lg a0 1))), uu] ⟨Or.inr rfl, ⟨Or.inr rfl, ⟨Or.inl rfl, ⟨Or.inl rfl, ⟨Or.inl rfl, ⟨Or.inl rfl, ⟨Or.inr rfl, ⟨Or.inl rfl, trivial⟩⟩⟩⟩⟩⟩⟩⟩ (b99   _ _ _  h3)) (fun c => have h4 := And.right h2 c; hs dX1_plus_42 (hs dX1_plus_43 (And.intro (ha0) (hs dX1_plus_46 (hs dX1_plus_47 (And.intro (ha1) (hs dX1_plus_50 (And.intro (trivial) (And.intro (And.intro rfl rfl) (n0 (P := P) (hs dX1_plus_53 (And.intro (fun c => have h5 := And.left h4 (nb2 c); hf [.ref a0, .ref a1, uu, uu, uu, uu, .long (((lg a0 0) * (lg a1 1)) + ((lg a1 0) * (lg a0 1))), uu] ⟨Or.inr rfl, ⟨Or.inr rfl, ⟨Or.inl rfl, ⟨Or.inl rfl, ⟨Or.inl rfl, ⟨Or.inl rfl, ⟨Or.inr rfl, ⟨Or.inl rfl, trivial⟩⟩⟩⟩⟩⟩⟩⟩ (b99   _ _ _  h5)) (fun c => have h6 := And.right h4 (b2_0.mp c); hs dX1_plus_56 (hs dX1_plus_57 (And.intro (ha1) (hs dX1_plus_60 (hs dX1_plus_61 (And.intro (ha0) (hs dX1_plus_64 (And.intro (trivial) (And.intro (And.intro rfl rfl) (n0 (P := P) (hs dX1_plus_67 (And.intro (fun c => have h7 := And.left h6 (nb2 c); hf [.ref a0, .ref a1, uu, uu, uu, uu, .long (((lg a0 0) * (lg a1 1)) + ((lg a1 0) * (lg a0 1))), uu] ⟨Or.inr rfl, ⟨Or.inr rfl, ⟨Or.inl rfl, ⟨Or.inl rfl, ⟨Or.inl rfl, ⟨Or.inl rfl, ⟨Or.inr rfl, ⟨Or.inl rfl, trivial⟩⟩⟩⟩⟩⟩⟩⟩ (b99   _ _ _  h7)) (fun c => have h8 := And.right h6 (b2_0.mp c); hs dX1_plus_70 (hs dX1_plus_71 (And.intro (ha0) (hs dX1_plus_74 (hs dX1_plus_75 (And.intro (ha1) (hs dX1_plus_78 (And.intro (trivial) (And.intro (And.intro rfl rfl) (n0 (P := P) (hs dX1_plus_81 (And.intro (fun c => have h9 := And.left h8 (nb2 c); hf [.ref a0, .ref a1, uu, uu, uu, uu, .long (((lg a0 0) * (lg a1 1)) + ((lg a1 0) * (lg a0 1))), uu] ⟨Or.inr rfl, ⟨Or.inr rfl, ⟨Or.inl rfl, ⟨Or.inl rfl, ⟨Or.inl rfl, ⟨Or.inl rfl, ⟨Or.inr rfl, ⟨Or.inl rfl, trivial⟩⟩⟩⟩⟩⟩⟩⟩ (b99   _ _ _  h9)) (fun c => have h10 := And.right h8 (b2_0.mp c); hs dX1_plus_84 (hs dX1_plus_85 (hs dX1_plus_87 (hs dX1_plus_88 (hs dX1_plus_90 (hs dX1_plus_92 (hs dX1_plus_93 (hs dX1_plus_94 (gxl (P := P) kl_0 (hs dX1_plus_95 (hs dX1_plus_96 (And.intro (fun c => have h11 := And.left h10 ((lg_cmp_ge _ _).mp c); hs dX1_plus_103 (gx (P := P) ki_0 (hf [.ref a0, .ref a1, uu, uu, uu, uu, .long (((lg a0 0) * (lg a1 1)) + ((lg a1 0) * (lg a0 1))), uu] ⟨Or.inr rfl, ⟨Or.inr rfl, ⟨Or.inl rfl, ⟨Or.inl rfl, ⟨Or.inl rfl, ⟨Or.inl rfl, ⟨Or.inr rfl, ⟨Or.inl rfl, trivial⟩⟩⟩⟩⟩⟩⟩⟩ (b104   _ _ _ _  h11)))) (fun c => have h12 := And.right h10 (fun q => c ((lg_cmp_ge _ _).mpr q)); hf [.ref a0, .ref a1, uu, uu, uu, uu, .long (((lg a0 0) * (lg a1 1)) + ((lg a1 0) * (lg a0 1))), uu] ⟨Or.inr rfl, ⟨Or.inr rfl, ⟨Or.inl rfl, ⟨Or.inl rfl, ⟨Or.inl rfl, ⟨Or.inl rfl, ⟨Or.inr rfl, ⟨Or.inl rfl, trivial⟩⟩⟩⟩⟩⟩⟩⟩ (b99   _ _ _  h12))))))))))))))))))))))))))))))))))))))))))))))))))))))))))))))))))))))))))))))))))))
  · exact h.elim
theorem ct_X1_plus {E : Ev} {l : Launch} : CT E l yX1_plus (wsY yX1_plus cX1_plus 8 none) rm_X1_plus 0 sp_X1_plus := ct_of (T := T_X1_plus) (own := RX1) (by decide) rfl (fun ci h10 hc => by have h2 : (99 : Nat) = ci := Nat.eq_of_beq_eq_true hc; omega) ⟨rfl, rfl⟩ ⟨fok_X1, clok_X1, jok_X1, List.forall_mem_cons.mpr ⟨cok_S ct_X1_passesF ((cl_ins (c := 1) (by decide)).2) ml_X1_26 im_X1_passes co_X1_passes mo_X1_passes (by decide), List.forall_mem_cons.mpr ⟨cok_V ct_X1_settle (by decide) rfl ml_X1_22 im_X1_settle se_X1_settle co_X1_settle mo_X1_settle (by decide), fun _ h => absurd h List.not_mem_nil⟩⟩⟩ bd_X1_plus
def sp_X1_plusF : Spc := fun as N lg it rf K => match as with | [.ref a0, .ref a1] => (N = NT ∧ rf = RF0 ∧ Ob NT a0 1 ∧ Ob NT a1 1) ∧ K none (sL lg a0 (fPlus (fv lg it a0) (fv lg it a1)).1 (fPlus (fv lg it a0) (fv lg it a1)).2.1) (sI it a0 2 (fPlus (fv lg it a0) (fv lg it a1)).2.2) rf | _ => False
theorem sn_X1_plusF (as : List Value) (N : Nat) (lg : LGt) (it : ITt) (rf : RFt) (K : Post) (h : sp_X1_plusF as N lg it rf K) : sp_X1_plus as N lg it rf K := by
  unfold sp_X1_plusF at h
  split at h
  · rename_i a0 a1
    obtain ⟨⟨rfl, rfl, ha0, ha1⟩, hk⟩ := h
    have key : ∀ s : Int32, s &&& 1 = s → s = (if it a0 2 = 0 ∧ it a1 2 = 0 ∧ pas (fv lg it a0).1 (fv lg it a1).2.1 = false ∧ pas (fv lg it a1).1 (fv lg it a0).2.1 = false ∧ pas (fv lg it a0).2.1 (fv lg it a1).2.1 = false ∧ ¬ (((fv lg it a0).1 * (fv lg it a1).2.1) ^^^ ((fv lg it a0).1 * (fv lg it a1).2.1 + (fv lg it a1).1 * (fv lg it a0).2.1)) &&& (((fv lg it a1).1 * (fv lg it a0).2.1) ^^^ ((fv lg it a0).1 * (fv lg it a1).2.1 + (fv lg it a1).1 * (fv lg it a0).2.1)) < 0 then 0 else 1) → w_X1_plus_b104 a0 a1 (fun lg' it' => lg' = sL lg a0 (fPlus (fv lg it a0) (fv lg it a1)).1 (fPlus (fv lg it a0) (fv lg it a1)).2.1 ∧ it' = sI it a0 2 (fPlus (fv lg it a0) (fv lg it a1)).2.2) (lg a0 0 * lg a1 1 + lg a1 0 * lg a0 1) s lg it := by
      intro s h1 h2
      unfold w_X1_plus_b104
      refine ⟨h1, ?_⟩
      subst h2
      have e : ∀ (o w : Int32), sI (u2 it a0 2 o) a0 2 w = sI it a0 2 w := fun o w => u2_u2
      simp only [u2_eq, e]
      exact ⟨rfl, rfl⟩
    refine ⟨⟨rfl, rfl, ha0, ha1⟩, fun lg' it' => lg' = sL lg a0 (fPlus (fv lg it a0) (fv lg it a1)).1 (fPlus (fv lg it a0) (fv lg it a1)).2.1 ∧ it' = sI it a0 2 (fPlus (fv lg it a0) (fv lg it a1)).2.2, ?_, fun lg' it' q => by obtain ⟨rfl, rfl⟩ := q; exact hk⟩
    unfold w_X1_plus
    try unfold w_X1_plus_b99
    repeat' (first | intro c | with_reducible apply And.intro)
    all_goals first | exact key 0 (by decide) (by rw [if_pos]; simp only [fv]; simp_all) | exact key 1 (by decide) (by rw [if_neg]; simp only [fv]; simp_all)
  · exact h.elim
theorem ct_X1_plusF {E : Ev} {l : Launch} : CT E l yX1_plus (wsY yX1_plus cX1_plus 8 none) rm_X1_plus 0 sp_X1_plusF := ct_weak ct_X1_plus sn_X1_plusF
def fLess (a b : FV) : FV := stF a.1 a.2.1 (if a.2.2 = 0 ∧ b.2.2 = 0 ∧ pas a.1 b.2.1 = false ∧ pas b.1 a.2.1 = false ∧ pas a.2.1 b.2.1 = false ∧ ¬ ((a.1 * b.2.1) ^^^ (b.1 * a.2.1)) &&& ((a.1 * b.2.1) ^^^ (a.1 * b.2.1 - b.1 * a.2.1)) < 0 then 0 else 1) ((a.1 * b.2.1 - b.1 * a.2.1)) (a.2.1 * b.2.1)
def w_X1_less_b103 (a0 : Nat) (a1 : Nat) (K : LGt → ITt → Prop)  (x6 : Int64) (s0 : Int32) (lg : LGt) (it : ITt) : Prop := (s0 &&& 1 = s0) ∧ (let it13 : ITt := u2 it a0 2 (s0 : Int32); (let q15 : FV := stF (lg a0 0) (lg a0 1) (it13 a0 2) x6 ((lg a0 1) * (lg a1 1)); let lg16 : LGt := sL lg a0 q15.1 q15.2.1; let it17 : ITt := sI it13 a0 2 q15.2.2; K lg16 it17))
def w_X1_less_b98 (a0 : Nat) (a1 : Nat) (K : LGt → ITt → Prop)  (x6 : Int64) (lg : LGt) (it : ITt) : Prop := w_X1_less_b103 a0 a1 K  x6 (1 : Int32) lg it
def w_X1_less (a0 : Nat) (a1 : Nat) (K : LGt → ITt → Prop)  (lg : LGt) (it : ITt) : Prop := ((¬ (it a0 2) = 0) → (w_X1_less_b98 a0 a1 K  (((lg a0 0) * (lg a1 1)) - ((lg a1 0) * (lg a0 1))) lg it)) ∧ (((it a0 2) = 0) → (((¬ (it a1 2) = 0) → (w_X1_less_b98 a0 a1 K  (((lg a0 0) * (lg a1 1)) - ((lg a1 0) * (lg a0 1))) lg it)) ∧ (((it a1 2) = 0) → (((pas (lg a0 0) (lg a1 1) = true) → (w_X1_less_b98 a0 a1 K  (((lg a0 0) * (lg a1 1)) - ((lg a1 0) * (lg a0 1))) lg it)) ∧ ((¬ (pas (lg a0 0) (lg a1 1) = true)) → (((pas (lg a1 0) (lg a0 1) = true) → (w_X1_less_b98 a0 a1 K  (((lg a0 0) * (lg a1 1)) - ((lg a1 0) * (lg a0 1))) lg it)) ∧ ((¬ (pas (lg a1 0) (lg a0 1) = true)) → (((pas (lg a0 1) (lg a1 1) = true) → (w_X1_less_b98 a0 a1 K  (((lg a0 0) * (lg a1 1)) - ((lg a1 0) * (lg a0 1))) lg it)) ∧ ((¬ (pas (lg a0 1) (lg a1 1) = true)) → (((0 ≤ ((((lg a0 0) * (lg a1 1)) ^^^ ((lg a1 0) * (lg a0 1))) &&& (((lg a0 0) * (lg a1 1)) ^^^ (((lg a0 0) * (lg a1 1)) - ((lg a1 0) * (lg a0 1)))))) → (w_X1_less_b103 a0 a1 K  (((lg a0 0) * (lg a1 1)) - ((lg a1 0) * (lg a0 1))) (0 : Int32) lg it)) ∧ ((¬ 0 ≤ ((((lg a0 0) * (lg a1 1)) ^^^ ((lg a1 0) * (lg a0 1))) &&& (((lg a0 0) * (lg a1 1)) ^^^ (((lg a0 0) * (lg a1 1)) - ((lg a1 0) * (lg a0 1)))))) → (w_X1_less_b98 a0 a1 K  (((lg a0 0) * (lg a1 1)) - ((lg a1 0) * (lg a0 1))) lg it))))))))))))
def sp_X1_less : Spc := fun as N lg it rf K => match as with | [.ref a0, .ref a1] => (N = NT ∧ rf = RF0 ∧ Ob NT a0 1 ∧ Ob NT a1 1) ∧ ∃ R : LGt → ITt → Prop, w_X1_less a0 a1 R  lg it ∧ ∀ lg' it', R lg' it' → K none lg' it' RF0 | _ => False
def T_X1_less : Tab := (FL_X1, CL_X1, JL_X1, [(26, 1, 2, 0, 0, sp_X1_passesF), (22, 0, 3, 1, 0, sp_X1_settle)], 99, none)
def rm_X1_less : Room := { frames := 1, cells := 0, slots := 0, locals := 31 }
set_option maxRecDepth 100000 in
theorem bd_X1_less (as : List Value) (N : Nat) (lg : LGt) (it : ITt) (rf : RFt) (Q : Post) (h : sp_X1_less as N lg it rf Q) : Bd T_X1_less cX1_less 8 0 as N lg it rf Q := by
  unfold sp_X1_less at h
  split at h
  · rename_i a0 a1
    refine ⟨Nat.le_of_ble_eq_true rfl, fun P hs hw hf => ?_⟩
    obtain ⟨⟨rfl, rfl, ha0, ha1⟩, R, h, hk⟩ := h
    have b103 : ∀   (x6 : Int64) (s0 : Int32) (lg : LGt) (it : ITt), w_X1_less_b103 a0 a1 R  x6 s0 lg it → P 103 [.ref a0, .ref a1, uu, uu, uu, uu, .long x6, uu] [.int s0, .ref a0] NT lg it RF0 := by
      intro x6 s0 lg it h
      unfold w_X1_less_b103 at h
      exact (hs dX1_less_103 (And.intro (ha0) (And.intro (And.left h) (let it13 : ITt := u2 it a0 2 (s0 : Int32); have h14 := (And.right h); hs dX1_less_106 (hs dX1_less_107 (hs dX1_less_109 (hs dX1_less_110 (And.intro (ha0) (hs dX1_less_113 (hs dX1_less_114 (And.intro (ha1) (hs dX1_less_117 (hs dX1_less_118 (And.intro (ha0) (And.intro (ha0) (n0 (P := P) (let q15 : FV := stF (lg a0 0) (lg a0 1) (it13 a0 2) x6 ((lg a0 1) * (lg a1 1)); let lg16 : LGt := sL lg a0 q15.1 q15.2.1; let it17 : ITt := sI it13 a0 2 q15.2.2; have h18 := h14; hs dX1_less_121 (And.intro rfl (And.intro rfl (hk _ _ h18))))))))))))))))))))
    have b98 : ∀   (x6 : Int64) (lg : LGt) (it : ITt), w_X1_less_b98 a0 a1 R  x6 lg it → P 98 [.ref a0, .ref a1, uu, uu, uu, uu, .long x6, uu] [.ref a0] NT lg it RF0 := by
      intro x6 lg it h
      unfold w_X1_less_b98 at h
      exact (hs dX1_less_98 (gx (P := P) ki_1 (hs dX1_less_99 (hf [.ref a0, .ref a1, uu, uu, uu, uu, .long x6, uu] ⟨Or.inr rfl, ⟨Or.inr rfl, ⟨Or.inl rfl, ⟨Or.inl rfl, ⟨Or.inl rfl, ⟨Or.inl rfl, ⟨Or.inr rfl, ⟨Or.inl rfl, trivial⟩⟩⟩⟩⟩⟩⟩⟩ (b103   _ _ _ _  h)))))
    unfold w_X1_less at h
    exact gs (P := P) [.ref a0, .ref a1, uu, uu, uu, uu, uu, uu] rfl (hs dX1_less_0 (hs dX1_less_1 (And.intro (ha0) (hs dX1_less_4 (hs dX1_less_5 (And.intro (ha1) (hs dX1_less_8 (hs dX1_less_9 (gs (P := P) [.ref a0, .ref a1, .long ((lg a0 0) * (lg a1 1)), uu, uu, uu, uu, uu] rfl (hs dX1_less_10 (hs dX1_less_11 (And.intro (ha1) (hs dX1_less_14 (hs dX1_less_15 (And.intro (ha0) (hs dX1_less_18 (hs dX1_less_19 (gs (P := P) [.ref a0, .ref a1, .long ((lg a0 0) * (lg a1 1)), uu, .long ((lg a1 0) * (lg a0 1)), uu, uu, uu] rfl (hs dX1_less_21 (hs dX1_less_22 (hs dX1_less_24 (hs dX1_less_25 (gs (P := P) [.ref a0, .ref a1, .long ((lg a0 0) * (lg a1 1)), uu, .long ((lg a1 0) * (lg a0 1)), uu, .long (((lg a0 0) * (lg a1 1)) - ((lg a1 0) * (lg a0 1))), uu] rfl (hs dX1_less_27 (hs dX1_less_28 (hs dX1_less_29 (And.intro (ha0) (hs dX1_less_32 (And.intro (fun c => have h1 := And.left h c; hf [.ref a0, .ref a1, uu, uu, uu, uu, .long (((lg a0 0) * (lg a1 1)) - ((lg a1 0) * (lg a0 1))), uu] ⟨Or.inr rfl, ⟨Or.inr rfl, ⟨Or.inl rfl, ⟨Or.inl rfl, ⟨Or.inl rfl, ⟨Or.inl rfl, ⟨Or.inr rfl, ⟨Or.inl rfl, trivial⟩⟩⟩⟩⟩⟩⟩⟩ (b98   _ _ _  h1)) (fun c => have h2 := And.right h c; hs dX1_less_35 (hs dX1_less_36 (And.intro (ha1) (hs dX1_less_39 (And.intro (fun c => have h3 := And.left h2 c; hf [.ref a0, .ref a1, uu, uu, uu, uu, .long (((lg a0 0) * (lg a1 1)) - ((lg a1 0) * (lg a0 1))), uu] ⟨Or.inr rfl, ⟨Or.inr rfl, ⟨Or.inl rfl, ⟨Or.inl rfl, ⟨Or.inl rfl, ⟨Or.inl rfl, ⟨Or.inr rfl, ⟨Or.inl rfl, trivial⟩⟩⟩⟩⟩⟩⟩⟩ (b98   _ _ _  h3)) (fun c => have h4 := And.right h2 c; hs dX1_less_42 (hs dX1_less_43 (And.intro (ha0) (hs dX1_less_46 (hs dX1_less_47 (And.intro (ha1) (hs dX1_less_50 (And.intro (trivial) (And.intro (And.intro rfl rfl) (n0 (P := P) (hs dX1_less_53 (And.intro (fun c => have h5 := And.left h4 (nb2 c); hf [.ref a0, .ref a1, uu, uu, uu, uu, .long (((lg a0 0) * (lg a1 1)) - ((lg a1 0) * (lg a0 1))), uu] ⟨Or.inr rfl, ⟨Or.inr rfl, ⟨Or.inl rfl, ⟨Or.inl rfl, ⟨Or.inl rfl, ⟨Or.inl rfl, ⟨Or.inr rfl, ⟨Or.inl rfl, trivial⟩⟩⟩⟩⟩⟩⟩⟩ (b98   _ _ _  h5)) (fun c => have h6 := And.right h4 (b2_0.mp c); hs dX1_less_56 (hs dX1_less_57 (And.intro (ha1) (hs dX1_less_60 (hs dX1_less_61 (And.intro (ha0) (hs dX1_less_64 (And.intro (trivial) (And.intro (And.intro rfl rfl) (n0 (P := P) (hs dX1_less_67 (And.intro (fun c => have h7 := And.left h6 (nb2 c); hf [.ref a0, .ref a1, uu, uu, uu, uu, .long (((lg a0 0) * (lg a1 1)) - ((lg a1 0) * (lg a0 1))), uu] ⟨Or.inr rfl, ⟨Or.inr rfl, ⟨Or.inl rfl, ⟨Or.inl rfl, ⟨Or.inl rfl, ⟨Or.inl rfl, ⟨Or.inr rfl, ⟨Or.inl rfl, trivial⟩⟩⟩⟩⟩⟩⟩⟩ (b98   _ _ _  h7)) (fun c => have h8 := And.right h6 (b2_0.mp c); hs dX1_less_70 (hs dX1_less_71 (And.intro (ha0) (hs dX1_less_74 (hs dX1_less_75 (And.intro (ha1) (hs dX1_less_78 (And.intro (trivial) (And.intro (And.intro rfl rfl) (n0 (P := P) (hs dX1_less_81 (And.intro (fun c => have h9 := And.left h8 (nb2 c); hf [.ref a0, .ref a1, uu, uu, uu, uu, .long (((lg a0 0) * (lg a1 1)) - ((lg a1 0) * (lg a0 1))), uu] ⟨Or.inr rfl, ⟨Or.inr rfl, ⟨Or.inl rfl, ⟨Or.inl rfl, ⟨Or.inl rfl, ⟨Or.inl rfl, ⟨Or.inr rfl, ⟨Or.inl rfl, trivial⟩⟩⟩⟩⟩⟩⟩⟩ (b98   _ _ _  h9)) (fun c => have h10 := And.right h8 (b2_0.mp c); hs dX1_less_84 (hs dX1_less_85 (hs dX1_less_87 (hs dX1_less_88 (hs dX1_less_89 (hs dX1_less_91 (hs dX1_less_92 (hs dX1_less_93 (gxl (P := P) kl_0 (hs dX1_less_94 (hs dX1_less_95 (And.intro (fun c => have h11 := And.left h10 ((lg_cmp_ge _ _).mp c); hs dX1_less_102 (gx (P := P) ki_0 (hf [.ref a0, .ref a1, uu, uu, uu, uu, .long (((lg a0 0) * (lg a1 1)) - ((lg a1 0) * (lg a0 1))), uu] ⟨Or.inr rfl, ⟨Or.inr rfl, ⟨Or.inl rfl, ⟨Or.inl rfl, ⟨Or.inl rfl, ⟨Or.inl rfl, ⟨Or.inr rfl, ⟨Or.inl rfl, trivial⟩⟩⟩⟩⟩⟩⟩⟩ (b103   _ _ _ _  h11)))) (fun c => have h12 := And.right h10 (fun q => c ((lg_cmp_ge _ _).mpr q)); hf [.ref a0, .ref a1, uu, uu, uu, uu, .long (((lg a0 0) * (lg a1 1)) - ((lg a1 0) * (lg a0 1))), uu] ⟨Or.inr rfl, ⟨Or.inr rfl, ⟨Or.inl rfl, ⟨Or.inl rfl, ⟨Or.inl rfl, ⟨Or.inl rfl, ⟨Or.inr rfl, ⟨Or.inl rfl, trivial⟩⟩⟩⟩⟩⟩⟩⟩ (b98   _ _ _  h12))))))))))))))))))))))))))))))))))))))))))))))))))))))))))))))))))))))))))))))))))))
  · exact h.elim
theorem ct_X1_less {E : Ev} {l : Launch} : CT E l yX1_less (wsY yX1_less cX1_less 8 none) rm_X1_less 0 sp_X1_less := ct_of (T := T_X1_less) (own := RX1) (by decide) rfl (fun ci h10 hc => by have h2 : (99 : Nat) = ci := Nat.eq_of_beq_eq_true hc; omega) ⟨rfl, rfl⟩ ⟨fok_X1, clok_X1, jok_X1, List.forall_mem_cons.mpr ⟨cok_S ct_X1_passesF ((cl_ins (c := 1) (by decide)).2) ml_X1_26 im_X1_passes co_X1_passes mo_X1_passes (by decide), List.forall_mem_cons.mpr ⟨cok_V ct_X1_settle (by decide) rfl ml_X1_22 im_X1_settle se_X1_settle co_X1_settle mo_X1_settle (by decide), fun _ h => absurd h List.not_mem_nil⟩⟩⟩ bd_X1_less
def sp_X1_lessF : Spc := fun as N lg it rf K => match as with | [.ref a0, .ref a1] => (N = NT ∧ rf = RF0 ∧ Ob NT a0 1 ∧ Ob NT a1 1) ∧ K none (sL lg a0 (fLess (fv lg it a0) (fv lg it a1)).1 (fLess (fv lg it a0) (fv lg it a1)).2.1) (sI it a0 2 (fLess (fv lg it a0) (fv lg it a1)).2.2) rf | _ => False
theorem sn_X1_lessF (as : List Value) (N : Nat) (lg : LGt) (it : ITt) (rf : RFt) (K : Post) (h : sp_X1_lessF as N lg it rf K) : sp_X1_less as N lg it rf K := by
  unfold sp_X1_lessF at h
  split at h
  · rename_i a0 a1
    obtain ⟨⟨rfl, rfl, ha0, ha1⟩, hk⟩ := h
    have key : ∀ s : Int32, s &&& 1 = s → s = (if it a0 2 = 0 ∧ it a1 2 = 0 ∧ pas (fv lg it a0).1 (fv lg it a1).2.1 = false ∧ pas (fv lg it a1).1 (fv lg it a0).2.1 = false ∧ pas (fv lg it a0).2.1 (fv lg it a1).2.1 = false ∧ ¬ (((fv lg it a0).1 * (fv lg it a1).2.1) ^^^ ((fv lg it a1).1 * (fv lg it a0).2.1)) &&& (((fv lg it a0).1 * (fv lg it a1).2.1) ^^^ ((fv lg it a0).1 * (fv lg it a1).2.1 - (fv lg it a1).1 * (fv lg it a0).2.1)) < 0 then 0 else 1) → w_X1_less_b103 a0 a1 (fun lg' it' => lg' = sL lg a0 (fLess (fv lg it a0) (fv lg it a1)).1 (fLess (fv lg it a0) (fv lg it a1)).2.1 ∧ it' = sI it a0 2 (fLess (fv lg it a0) (fv lg it a1)).2.2) (lg a0 0 * lg a1 1 - lg a1 0 * lg a0 1) s lg it := by
      intro s h1 h2
      unfold w_X1_less_b103
      refine ⟨h1, ?_⟩
      subst h2
      have e : ∀ (o w : Int32), sI (u2 it a0 2 o) a0 2 w = sI it a0 2 w := fun o w => u2_u2
      simp only [u2_eq, e]
      exact ⟨rfl, rfl⟩
    refine ⟨⟨rfl, rfl, ha0, ha1⟩, fun lg' it' => lg' = sL lg a0 (fLess (fv lg it a0) (fv lg it a1)).1 (fLess (fv lg it a0) (fv lg it a1)).2.1 ∧ it' = sI it a0 2 (fLess (fv lg it a0) (fv lg it a1)).2.2, ?_, fun lg' it' q => by obtain ⟨rfl, rfl⟩ := q; exact hk⟩
    unfold w_X1_less
    try unfold w_X1_less_b98
    repeat' (first | intro c | with_reducible apply And.intro)
    all_goals first | exact key 0 (by decide) (by rw [if_pos]; simp only [fv]; simp_all) | exact key 1 (by decide) (by rw [if_neg]; simp only [fv]; simp_all)
  · exact h.elim
theorem ct_X1_lessF {E : Ev} {l : Launch} : CT E l yX1_less (wsY yX1_less cX1_less 8 none) rm_X1_less 0 sp_X1_lessF := ct_weak ct_X1_less sn_X1_lessF
def w_X1_isLike (a0 : Nat) (a1 : Nat) (K : Int32 → LGt → ITt → Prop)  (lg : LGt) (it : ITt) : Prop := ((¬ (lg a0 0) = (lg a1 0)) → (K (0 : Int32) lg it)) ∧ (((lg a0 0) = (lg a1 0)) → (((¬ (lg a0 1) = (lg a1 1)) → (K (0 : Int32) lg it)) ∧ (((lg a0 1) = (lg a1 1)) → (K (1 : Int32) lg it))))
def sp_X1_isLike : Spc := fun as N lg it rf K => match as with | [.ref a0, .ref a1] => (N = NT ∧ rf = RF0 ∧ Ob NT a0 1 ∧ Ob NT a1 1) ∧ ∃ R : Int32 → LGt → ITt → Prop, w_X1_isLike a0 a1 R  lg it ∧ ∀ v lg' it', R v lg' it' → K (some (.int v)) lg' it' RF0 | _ => False
def T_X1_isLike : Tab := (FL_X1, CL_X1, JL_X1, [], 99, (some .boolean))
def rm_X1_isLike : Room := { frames := 0, cells := 0, slots := 0, locals := 0 }
set_option maxRecDepth 100000 in
theorem bd_X1_isLike (as : List Value) (N : Nat) (lg : LGt) (it : ITt) (rf : RFt) (Q : Post) (h : sp_X1_isLike as N lg it rf Q) : Bd T_X1_isLike cX1_isLike 2 0 as N lg it rf Q := by
  unfold sp_X1_isLike at h
  split at h
  · rename_i a0 a1
    refine ⟨Nat.le_of_ble_eq_true rfl, fun P hs hw hf => ?_⟩
    obtain ⟨⟨rfl, rfl, ha0, ha1⟩, R, h, hk⟩ := h
    unfold w_X1_isLike at h
    exact gs (P := P) [.ref a0, .ref a1] rfl (hs dX1_isLike_0 (hs dX1_isLike_1 (And.intro (ha0) (hs dX1_isLike_4 (hs dX1_isLike_5 (And.intro (ha1) (hs dX1_isLike_8 (hs dX1_isLike_9 (And.intro (fun c => have h1 := And.left h (fun q => c ((lg_cmp_eq _ _).mpr q)); hs dX1_isLike_28 (gx (P := P) ki_0 (hs dX1_isLike_29 (And.intro rfl (And.intro rfl (And.intro (by decide) (hk _ _ _ h1))))))) (fun c => have h2 := And.right h ((lg_cmp_eq _ _).mp c); hs dX1_isLike_12 (hs dX1_isLike_13 (And.intro (ha0) (hs dX1_isLike_16 (hs dX1_isLike_17 (And.intro (ha1) (hs dX1_isLike_20 (hs dX1_isLike_21 (And.intro (fun c => have h3 := And.left h2 (fun q => c ((lg_cmp_eq _ _).mpr q)); hs dX1_isLike_28 (gx (P := P) ki_0 (hs dX1_isLike_29 (And.intro rfl (And.intro rfl (And.intro (by decide) (hk _ _ _ h3))))))) (fun c => have h4 := And.right h2 ((lg_cmp_eq _ _).mp c); hs dX1_isLike_24 (gx (P := P) ki_1 (hs dX1_isLike_25 (hs dX1_isLike_29 (And.intro rfl (And.intro rfl (And.intro (by decide) (hk _ _ _ h4))))))))))))))))))))))))))
  · exact h.elim
theorem ct_X1_isLike {E : Ev} {l : Launch} : CT E l yX1_isLike (wsY yX1_isLike cX1_isLike 2 (some .boolean)) rm_X1_isLike 0 sp_X1_isLike := ct_of (T := T_X1_isLike) (own := RX1) (by decide) rfl (fun ci h10 hc => by have h2 : (99 : Nat) = ci := Nat.eq_of_beq_eq_true hc; omega) ⟨rfl, rfl⟩ ⟨fok_X1, clok_X1, jok_X1, fun _ h => absurd h List.not_mem_nil⟩ bd_X1_isLike
def sp_X1_isLikeF : Spc := fun as N lg it rf K => match as with | [.ref a0, .ref a1] => (N = NT ∧ rf = RF0 ∧ Ob NT a0 1 ∧ Ob NT a1 1) ∧ K (some (.int (b2 (lg a0 0 = lg a1 0 ∧ lg a0 1 = lg a1 1)))) lg it rf | _ => False
theorem sn_X1_isLikeF (as : List Value) (N : Nat) (lg : LGt) (it : ITt) (rf : RFt) (K : Post) (h : sp_X1_isLikeF as N lg it rf K) : sp_X1_isLike as N lg it rf K := by
  unfold sp_X1_isLikeF at h
  split at h
  · rename_i a0 a1
    obtain ⟨⟨rfl, rfl, ha0, ha1⟩, hk⟩ := h
    refine ⟨((And.intro (rfl) ((And.intro (rfl) ((And.intro (ha0) (ha1))))))), fun v lg' it' => v = b2 (lg a0 0 = lg a1 0 ∧ lg a0 1 = lg a1 1) ∧ lg' = lg ∧ it' = it, ?_, fun v lg' it' q => by obtain ⟨rfl, rfl, rfl⟩ := q; exact hk⟩
    unfold w_X1_isLike
    repeat' (first | intro c | with_reducible apply And.intro)
    all_goals first | rfl | contradiction | (symm; apply b2_p; simp_all) | (symm; apply b2_n; simp_all)
  · exact h.elim
theorem ct_X1_isLikeF {E : Ev} {l : Launch} : CT E l yX1_isLike (wsY yX1_isLike cX1_isLike 2 (some .boolean)) rm_X1_isLike 0 sp_X1_isLikeF := ct_weak ct_X1_isLike sn_X1_isLikeF
