/-! the reference: numbers -/
def w_X9_isIn (a0 : Int64) (a1 : Int64) (a2 : Int64) (K : Int32 → LGt → ITt → Prop)  (lg : LGt) (it : ITt) : Prop := ((a0 < a1) → (K (0 : Int32) lg it)) ∧ ((¬ a0 < a1) → (((a2 < a0) → (K (0 : Int32) lg it)) ∧ ((¬ a2 < a0) → (K (1 : Int32) lg it))))
def sp_X9_isIn : Spc := fun as N lg it rf K => match as with | [.long a0, .long a1, .long a2] => (N = NT ∧ rf = RF0) ∧ ∃ R : Int32 → LGt → ITt → Prop, w_X9_isIn a0 a1 a2 R  lg it ∧ ∀ v lg' it', R v lg' it' → K (some (.int v)) lg' it' RF0 | _ => False
def T_X9_isIn : Tab := (FL_X9, CL_X9, JL_X9, [], 99, (some .boolean))
def rm_X9_isIn : Room := { frames := 0, cells := 0, slots := 0, locals := 0 }
set_option maxRecDepth 100000 in
theorem bd_X9_isIn (as : List Value) (N : Nat) (lg : LGt) (it : ITt) (rf : RFt) (Q : Post) (h : sp_X9_isIn as N lg it rf Q) : Bd T_X9_isIn cX9_isIn 6 0 as N lg it rf Q := by
  unfold sp_X9_isIn at h
  split at h
  · rename_i a0 a1 a2
    refine ⟨Nat.le_of_ble_eq_true rfl, fun P hs hw hf => ?_⟩
    obtain ⟨⟨rfl, rfl⟩, R, h, hk⟩ := h
    unfold w_X9_isIn at h
    exact gs (P := P) [.long a0, uu, .long a1, uu, .long a2, uu] rfl (hs dX9_isIn_0 (hs dX9_isIn_1 (hs dX9_isIn_2 (hs dX9_isIn_3 (And.intro (fun c => have h1 := And.left h ((lg_cmp_lt _ _).mp c); hs dX9_isIn_17 (gx (P := P) ki_0 (hs dX9_isIn_18 (And.intro rfl (And.intro rfl (And.intro (by decide) (hk _ _ _ h1))))))) (fun c => have h2 := And.right h (fun q => c ((lg_cmp_lt _ _).mpr q)); hs dX9_isIn_6 (hs dX9_isIn_7 (hs dX9_isIn_9 (hs dX9_isIn_10 (And.intro (fun c => have h3 := And.left h2 ((lg_cmp_gt _ _).mp c); hs dX9_isIn_17 (gx (P := P) ki_0 (hs dX9_isIn_18 (And.intro rfl (And.intro rfl (And.intro (by decide) (hk _ _ _ h3))))))) (fun c => have h4 := And.right h2 (fun q => c ((lg_cmp_gt _ _).mpr q)); hs dX9_isIn_13 (gx (P := P) ki_1 (hs dX9_isIn_14 (hs dX9_isIn_18 (And.intro rfl (And.intro rfl (And.intro (by decide) (hk _ _ _ h4))))))))))))))))))
  · exact h.elim
theorem ct_X9_isIn {E : Ev} {l : Launch} : CT E l yX9_isIn (wsY yX9_isIn cX9_isIn 6 (some .boolean)) rm_X9_isIn 0 sp_X9_isIn := ct_of (T := T_X9_isIn) (own := RX9) (by decide) rfl (fun ci h10 hc => by have h2 : (99 : Nat) = ci := Nat.eq_of_beq_eq_true hc; omega) ⟨rfl, rfl⟩ ⟨fok_X9, clok_X9, jok_X9, fun _ h => absurd h List.not_mem_nil⟩ bd_X9_isIn
def sp_X9_isInF : Spc := fun as N lg it rf K => match as with | [.long a0, .long a1, .long a2] => (N = NT ∧ rf = RF0) ∧ K (some (.int (b2 ((a1 : Int64).toInt ≤ (a0 : Int64).toInt ∧ (a0 : Int64).toInt ≤ (a2 : Int64).toInt)))) lg it rf | _ => False
theorem sn_X9_isInF (as : List Value) (N : Nat) (lg : LGt) (it : ITt) (rf : RFt) (K : Post) (h : sp_X9_isInF as N lg it rf K) : sp_X9_isIn as N lg it rf K := by
  unfold sp_X9_isInF at h
  split at h
  · rename_i a0 a1 a2
    obtain ⟨⟨rfl, rfl⟩, hk⟩ := h
    refine ⟨⟨rfl, rfl⟩, fun v lg' it' => v = b2 ((a1 : Int64).toInt ≤ (a0 : Int64).toInt ∧ (a0 : Int64).toInt ≤ (a2 : Int64).toInt) ∧ lg' = lg ∧ it' = it, ?_, fun v lg' it' q => by obtain ⟨rfl, rfl, rfl⟩ := q; exact hk⟩
    unfold w_X9_isIn
    repeat' (first | intro c | with_reducible apply And.intro)
    all_goals first | rfl | (symm; apply b2_p; (try simp only [Int64.lt_iff_toInt_lt, Int64.le_iff_toInt_le] at *); omega) | (symm; apply b2_n; (try simp only [Int64.lt_iff_toInt_lt, Int64.le_iff_toInt_le] at *); omega)
  · exact h.elim
theorem ct_X9_isInF {E : Ev} {l : Launch} : CT E l yX9_isIn (wsY yX9_isIn cX9_isIn 6 (some .boolean)) rm_X9_isIn 0 sp_X9_isInF := ct_weak ct_X9_isIn sn_X9_isInF
def o01 (it : ITt) : Prop := it 489 20 = 0 ∨ it 489 20 = 1
def oro (o : Int32) (b : Bool) : Int32 := if b = true then 1 else o
theorem oro_01 {o : Int32} {b : Bool} (h : o = 0 ∨ o = 1) : oro o b = 0 ∨ oro o b = 1 := by unfold oro; split; exact Or.inr rfl; exact h
theorem o01_u {it : ITt} {x : Int32} (h : x = 0 ∨ x = 1) : o01 (u2 it 489 20 x) := by unfold o01; rw [u2_eq]; exact h
def ovm (a b : Int64) : Bool := if a = 0 ∨ b = 0 then false else if a = -1 then decide (b = MNL) else if b = -1 then decide (a = MNL) else decide (¬ a * b / b = a)
def ovs (a b : Int64) : Bool := decide ((a < 0 ↔ b < 0) ∧ ¬ (a + b < 0 ↔ a < 0))
def ovd (a b : Int64) : Bool := decide (¬ (a < 0 ↔ b < 0) ∧ ¬ (a - b < 0 ↔ a < 0))
theorem z64 : (0 : Int64).toInt = 0 := by decide
theorem n10 : ((1 : Int32) = 0) = False := eq_false (by decide)
theorem n01 : ((0 : Int32) = 1) = False := eq_false (by decide)
theorem or0 {o : Int32} : o ||| 0 = o := by simp
theorem or1 {o : Int32} (h : o = 0 ∨ o = 1) : o ||| 1 = 1 := by rcases h with rfl | rfl <;> decide
theorem or0b {o : Int32} (h : o = 0 ∨ o = 1) : (o ||| 0) &&& 1 = o ||| 0 := by rcases h with rfl | rfl <;> decide
theorem or1b {o : Int32} (h : o = 0 ∨ o = 1) : (o ||| 1) &&& 1 = o ||| 1 := by rcases h with rfl | rfl <;> decide
def setO (it : ITt) (o : Int32) : ITt := u2 it 489 20 o
theorem setO_o {it : ITt} {o : Int32} : setO it o 489 20 = o := u2_eq
theorem setO_setO {it : ITt} {o p : Int32} : setO (setO it o) p = setO it p := u2_u2
theorem setO_id {it : ITt} : setO it (it 489 20) = it := u2_id
def setU (lg : LGt) (a b : Int64) : LGt := u2 (u2 lg 489 18 a) 489 19 b
def w_X9_product_b81 (a1 : Int64) (a2 : Int64) (K : Int64 → LGt → ITt → Prop)  (x5 : Int64) (s0 : Int32) (lg : LGt) (it : ITt) : Prop := (((it 489 20) ||| s0) &&& 1 = ((it 489 20) ||| s0)) ∧ (let it16 : ITt := u2 it 489 20 (((it 489 20) ||| s0) : Int32); K x5 lg it16)
def w_X9_product (a1 : Int64) (a2 : Int64) (K : Int64 → LGt → ITt → Prop)  (lg : LGt) (it : ITt) : Prop := ((a1 = 0) → (K (0 : Int64) lg it)) ∧ ((¬ a1 = 0) → (((¬ a2 = 0) → (((¬ a1 = (-1)) → (((¬ a2 = (-1)) → ((¬ a2 = 0) ∧ (((((a1 * a2) / a2) = a1) → (w_X9_product_b81 a1 a2 K  (a1 * a2) (0 : Int32) lg it)) ∧ ((¬ ((a1 * a2) / a2) = a1) → (w_X9_product_b81 a1 a2 K  (a1 * a2) (1 : Int32) lg it))))) ∧ ((a2 = (-1)) → (((¬ a1 = (-9223372036854775808)) → (w_X9_product_b81 a1 a2 K  (a1 * a2) (0 : Int32) lg it)) ∧ ((a1 = (-9223372036854775808)) → (w_X9_product_b81 a1 a2 K  (a1 * a2) (1 : Int32) lg it)))))) ∧ ((a1 = (-1)) → (((¬ a2 = (-9223372036854775808)) → (w_X9_product_b81 a1 a2 K  (a1 * a2) (0 : Int32) lg it)) ∧ ((a2 = (-9223372036854775808)) → (w_X9_product_b81 a1 a2 K  (a1 * a2) (1 : Int32) lg it)))))) ∧ ((a2 = 0) → (K (0 : Int64) lg it))))
def sp_X9_product : Spc := fun as N lg it rf K => match as with | [.ref a0, .long a1, .long a2] => (N = NT ∧ rf = RF0 ∧ a0 = 489) ∧ ∃ R : Int64 → LGt → ITt → Prop, w_X9_product a1 a2 R  lg it ∧ ∀ v lg' it', R v lg' it' → K (some (.long v)) lg' it' RF0 | _ => False
def T_X9_product : Tab := (FL_X9, CL_X9, JL_X9, [], 99, (some .long))
def rm_X9_product : Room := { frames := 0, cells := 0, slots := 0, locals := 0 }
set_option maxRecDepth 100000 in
theorem bd_X9_product (as : List Value) (N : Nat) (lg : LGt) (it : ITt) (rf : RFt) (Q : Post) (h : sp_X9_product as N lg it rf Q) : Bd T_X9_product cX9_product 8 0 as N lg it rf Q := by
  unfold sp_X9_product at h
  split at h
  · rename_i a0 a1 a2
    refine ⟨Nat.le_of_ble_eq_true rfl, fun P hs hw hf => ?_⟩
    obtain ⟨⟨rfl, rfl, rfl⟩, R, h, hk⟩ := h
    have b81 : ∀   (x5 : Int64) (s0 : Int32) (lg : LGt) (it : ITt), w_X9_product_b81 a1 a2 R  x5 s0 lg it → P 81 [.ref 489, uu, uu, uu, uu, .long x5, uu, uu] [.int s0] NT lg it RF0 := by
      intro x5 s0 lg it h
      unfold w_X9_product_b81 at h
      exact (hs dX9_product_81 (gs (P := P) [.ref 489, uu, uu, uu, uu, .long x5, uu, .int s0] rfl (hs dX9_product_83 (hs dX9_product_84 (hs dX9_product_85 (And.intro (oq_489) (hs dX9_product_88 (hs dX9_product_90 (hs dX9_product_91 (And.intro (oq_489) (And.intro (And.left h) (let it16 : ITt := u2 it 489 20 (((it 489 20) ||| s0) : Int32); have h17 := (And.right h); hs dX9_product_94 (hs dX9_product_96 (And.intro rfl (And.intro rfl (hk _ _ _ h17))))))))))))))))
    unfold w_X9_product at h
    exact gs (P := P) [.ref 489, .long a1, uu, .long a2, uu, uu, uu, uu] rfl (hs dX9_product_0 (hs dX9_product_1 (gxl (P := P) kl_0 (hs dX9_product_2 (hs dX9_product_3 (And.intro (fun c => have h1 := And.left h ((lg_cmp_eq _ _).mp c); hs dX9_product_12 (gxl (P := P) kl_0 (hs dX9_product_13 (And.intro rfl (And.intro rfl (hk _ _ _ h1)))))) (fun c => have h2 := And.right h (fun q => c ((lg_cmp_eq _ _).mpr q)); hs dX9_product_6 (hs dX9_product_7 (gxl (P := P) kl_0 (hs dX9_product_8 (hs dX9_product_9 (And.intro (fun c => have h3 := And.left h2 (fun q => c ((lg_cmp_eq _ _).mpr q)); hs dX9_product_14 (hs dX9_product_15 (hs dX9_product_16 (hs dX9_product_17 (gs (P := P) [.ref 489, .long a1, uu, .long a2, uu, .long (a1 * a2), uu, uu] rfl (hs dX9_product_19 (hs dX9_product_20 (hs dX9_product_23 (hs dX9_product_24 (And.intro (fun c => have h5 := And.left h3 (fun q => c ((lg_cmp_eq _ _).mpr q)); hs dX9_product_43 (hs dX9_product_44 (hs dX9_product_47 (hs dX9_product_48 (And.intro (fun c => have h7 := And.left h5 (fun q => c ((lg_cmp_eq _ _).mpr q)); hs dX9_product_67 (hs dX9_product_69 (hs dX9_product_70 (And.intro (And.left h7) (have h9 := And.right h7; hs dX9_product_71 (hs dX9_product_72 (hs dX9_product_73 (And.intro (fun c => have h10 := And.left h9 ((lg_cmp_eq _ _).mp c); hs dX9_product_80 (gx (P := P) ki_0 (hf [.ref 489, uu, uu, uu, uu, .long (a1 * a2), uu, uu] ⟨Or.inr rfl, ⟨Or.inl rfl, ⟨Or.inl rfl, ⟨Or.inl rfl, ⟨Or.inl rfl, ⟨Or.inr rfl, ⟨Or.inl rfl, ⟨Or.inl rfl, trivial⟩⟩⟩⟩⟩⟩⟩⟩ (b81   _ _ _ _  h10)))) (fun c => have h11 := And.right h9 (fun q => c ((lg_cmp_eq _ _).mpr q)); hs dX9_product_76 (gx (P := P) ki_1 (hs dX9_product_77 (hf [.ref 489, uu, uu, uu, uu, .long (a1 * a2), uu, uu] ⟨Or.inr rfl, ⟨Or.inl rfl, ⟨Or.inl rfl, ⟨Or.inl rfl, ⟨Or.inl rfl, ⟨Or.inr rfl, ⟨Or.inl rfl, ⟨Or.inl rfl, trivial⟩⟩⟩⟩⟩⟩⟩⟩ (b81   _ _ _ _  h11))))))))))))) (fun c => have h8 := And.right h5 ((lg_cmp_eq _ _).mp c); hs dX9_product_51 (hs dX9_product_52 (hs dX9_product_55 (hs dX9_product_56 (And.intro (fun c => have h12 := And.left h8 (fun q => c ((lg_cmp_eq _ _).mpr q)); hs dX9_product_63 (gx (P := P) ki_0 (hs dX9_product_64 (hf [.ref 489, uu, uu, uu, uu, .long (a1 * a2), uu, uu] ⟨Or.inr rfl, ⟨Or.inl rfl, ⟨Or.inl rfl, ⟨Or.inl rfl, ⟨Or.inl rfl, ⟨Or.inr rfl, ⟨Or.inl rfl, ⟨Or.inl rfl, trivial⟩⟩⟩⟩⟩⟩⟩⟩ (b81   _ _ _ _  h12))))) (fun c => have h13 := And.right h8 ((lg_cmp_eq _ _).mp c); hs dX9_product_59 (gx (P := P) ki_1 (hs dX9_product_60 (hf [.ref 489, uu, uu, uu, uu, .long (a1 * a2), uu, uu] ⟨Or.inr rfl, ⟨Or.inl rfl, ⟨Or.inl rfl, ⟨Or.inl rfl, ⟨Or.inl rfl, ⟨Or.inr rfl, ⟨Or.inl rfl, ⟨Or.inl rfl, trivial⟩⟩⟩⟩⟩⟩⟩⟩ (b81   _ _ _ _  h13))))))))))))))) (fun c => have h6 := And.right h3 ((lg_cmp_eq _ _).mp c); hs dX9_product_27 (hs dX9_product_28 (hs dX9_product_31 (hs dX9_product_32 (And.intro (fun c => have h14 := And.left h6 (fun q => c ((lg_cmp_eq _ _).mpr q)); hs dX9_product_39 (gx (P := P) ki_0 (hs dX9_product_40 (hf [.ref 489, uu, uu, uu, uu, .long (a1 * a2), uu, uu] ⟨Or.inr rfl, ⟨Or.inl rfl, ⟨Or.inl rfl, ⟨Or.inl rfl, ⟨Or.inl rfl, ⟨Or.inr rfl, ⟨Or.inl rfl, ⟨Or.inl rfl, trivial⟩⟩⟩⟩⟩⟩⟩⟩ (b81   _ _ _ _  h14))))) (fun c => have h15 := And.right h6 ((lg_cmp_eq _ _).mp c); hs dX9_product_35 (gx (P := P) ki_1 (hs dX9_product_36 (hf [.ref 489, uu, uu, uu, uu, .long (a1 * a2), uu, uu] ⟨Or.inr rfl, ⟨Or.inl rfl, ⟨Or.inl rfl, ⟨Or.inl rfl, ⟨Or.inl rfl, ⟨Or.inr rfl, ⟨Or.inl rfl, ⟨Or.inl rfl, trivial⟩⟩⟩⟩⟩⟩⟩⟩ (b81   _ _ _ _  h15)))))))))))))))))))) (fun c => have h4 := And.right h2 ((lg_cmp_eq _ _).mp c); hs dX9_product_12 (gxl (P := P) kl_0 (hs dX9_product_13 (And.intro rfl (And.intro rfl (hk _ _ _ h4))))))))))))))))))
  · exact h.elim
theorem ct_X9_product {E : Ev} {l : Launch} : CT E l yX9_product (wsY yX9_product cX9_product 8 (some .long)) rm_X9_product 0 sp_X9_product := ct_of (T := T_X9_product) (own := RX9) (by decide) rfl (fun ci h10 hc => by have h2 : (99 : Nat) = ci := Nat.eq_of_beq_eq_true hc; omega) ⟨rfl, rfl⟩ ⟨fok_X9, clok_X9, jok_X9, fun _ h => absurd h List.not_mem_nil⟩ bd_X9_product
def sp_X9_productF : Spc := fun as N lg it rf K => match as with | [.ref a0, .long a1, .long a2] => (N = NT ∧ rf = RF0 ∧ a0 = 489 ∧ (o01 it)) ∧ K (some (.long (a1 * a2))) lg (setO it (oro (it 489 20) (ovm a1 a2))) rf | _ => False
theorem sn_X9_productF (as : List Value) (N : Nat) (lg : LGt) (it : ITt) (rf : RFt) (K : Post) (h : sp_X9_productF as N lg it rf K) : sp_X9_product as N lg it rf K := by
  unfold sp_X9_productF at h
  split at h
  · rename_i a0 a1 a2
    obtain ⟨⟨rfl, rfl, rfl, hx0⟩, hk⟩ := h
    refine ⟨⟨rfl, rfl, rfl⟩, fun v lg' it' => v = (a1 * a2) ∧ lg' = lg ∧ it' = (setO it (oro (it 489 20) (ovm a1 a2))), ?_, fun v lg' it' q => by obtain ⟨rfl, rfl, rfl⟩ := q; exact hk⟩
    have key1 : ovm a1 a2 = true → u2 it 489 20 (it 489 20 ||| 1) = (setO it (oro (it 489 20) (ovm a1 a2))) := fun e => by rw [e, or1 hx0]; rfl
    have key0 : ovm a1 a2 = false → u2 it 489 20 (it 489 20 ||| 0) = (setO it (oro (it 489 20) (ovm a1 a2))) := fun e => by rw [e, or0]; rfl
    unfold w_X9_product
    try unfold w_X9_product_b81
    repeat' (first | intro c | with_reducible apply And.intro)
    all_goals first | rfl | contradiction | exact or0b hx0 | exact or1b hx0 | exact key0 (by simp only [ovm]; simp_all) | exact key1 (by simp only [ovm]; simp_all) | (rw [show ovm a1 a2 = false by simp [ovm, c]]; exact setO_id.symm) | (simp_all)
  · exact h.elim
theorem ct_X9_productF {E : Ev} {l : Launch} : CT E l yX9_product (wsY yX9_product cX9_product 8 (some .long)) rm_X9_product 0 sp_X9_productF := ct_weak ct_X9_product sn_X9_productF
def w_X9_sum_b58 (a1 : Int64) (a2 : Int64) (K : Int64 → LGt → ITt → Prop)  (x5 : Int64) (s0 : Int32) (s1 : Int32) (s2 : Int32) (lg : LGt) (it : ITt) : Prop := ((s1 = s0) → (((s2 ||| 0) &&& 1 = (s2 ||| 0)) ∧ (let it15 : ITt := u2 it 489 20 ((s2 ||| 0) : Int32); K x5 lg it15))) ∧ ((¬ s1 = s0) → (((s2 ||| 1) &&& 1 = (s2 ||| 1)) ∧ (let it17 : ITt := u2 it 489 20 ((s2 ||| 1) : Int32); K x5 lg it17)))
def w_X9_sum_b47 (a1 : Int64) (a2 : Int64) (K : Int64 → LGt → ITt → Prop)  (x5 : Int64) (s0 : Int32) (s1 : Int32) (lg : LGt) (it : ITt) : Prop := ((a1 < 0) → (w_X9_sum_b58 a1 a2 K  x5 (0 : Int32) s0 s1 lg it)) ∧ ((¬ a1 < 0) → (w_X9_sum_b58 a1 a2 K  x5 (1 : Int32) s0 s1 lg it))
def w_X9_sum_b32 (a1 : Int64) (a2 : Int64) (K : Int64 → LGt → ITt → Prop)  (x5 : Int64) (s0 : Int32) (s1 : Int32) (s2 : Int32) (lg : LGt) (it : ITt) : Prop := ((¬ s1 = s0) → (((s2 ||| 0) &&& 1 = (s2 ||| 0)) ∧ (let it7 : ITt := u2 it 489 20 ((s2 ||| 0) : Int32); K x5 lg it7))) ∧ ((s1 = s0) → (((x5 < 0) → (w_X9_sum_b47 a1 a2 K  x5 (0 : Int32) s2 lg it)) ∧ ((¬ x5 < 0) → (w_X9_sum_b47 a1 a2 K  x5 (1 : Int32) s2 lg it))))
def w_X9_sum_b21 (a1 : Int64) (a2 : Int64) (K : Int64 → LGt → ITt → Prop)  (x5 : Int64) (s0 : Int32) (s1 : Int32) (lg : LGt) (it : ITt) : Prop := ((a2 < 0) → (w_X9_sum_b32 a1 a2 K  x5 (0 : Int32) s0 s1 lg it)) ∧ ((¬ a2 < 0) → (w_X9_sum_b32 a1 a2 K  x5 (1 : Int32) s0 s1 lg it))
def w_X9_sum (a1 : Int64) (a2 : Int64) (K : Int64 → LGt → ITt → Prop)  (lg : LGt) (it : ITt) : Prop := ((a1 < 0) → (w_X9_sum_b21 a1 a2 K  (a1 + a2) (0 : Int32) (it 489 20) lg it)) ∧ ((¬ a1 < 0) → (w_X9_sum_b21 a1 a2 K  (a1 + a2) (1 : Int32) (it 489 20) lg it))
def sp_X9_sum : Spc := fun as N lg it rf K => match as with | [.ref a0, .long a1, .long a2] => (N = NT ∧ rf = RF0 ∧ a0 = 489) ∧ ∃ R : Int64 → LGt → ITt → Prop, w_X9_sum a1 a2 R  lg it ∧ ∀ v lg' it', R v lg' it' → K (some (.long v)) lg' it' RF0 | _ => False
def T_X9_sum : Tab := (FL_X9, CL_X9, JL_X9, [], 99, (some .long))
def rm_X9_sum : Room := { frames := 0, cells := 0, slots := 0, locals := 0 }
set_option maxRecDepth 100000 in
theorem bd_X9_sum (as : List Value) (N : Nat) (lg : LGt) (it : ITt) (rf : RFt) (Q : Post) (h : sp_X9_sum as N lg it rf Q) : Bd T_X9_sum cX9_sum 7 0 as N lg it rf Q := by
  unfold sp_X9_sum at h
  split at h
  · rename_i a0 a1 a2
    refine ⟨Nat.le_of_ble_eq_true rfl, fun P hs hw hf => ?_⟩
    obtain ⟨⟨rfl, rfl, rfl⟩, R, h, hk⟩ := h
    have b58 : ∀   (x5 : Int64) (s0 : Int32) (s1 : Int32) (s2 : Int32) (lg : LGt) (it : ITt), w_X9_sum_b58 a1 a2 R  x5 s0 s1 s2 lg it → P 58 [uu, uu, uu, uu, uu, .long x5, uu] [.int s0, .int s1, .int s2, .ref 489] NT lg it RF0 := by
      intro x5 s0 s1 s2 lg it h
      unfold w_X9_sum_b58 at h
      exact (hs dX9_sum_58 (And.intro (fun c => have h13 := And.left h c; hs dX9_sum_65 (gx (P := P) ki_0 (hs dX9_sum_66 (hs dX9_sum_67 (And.intro (oq_489) (And.intro (And.left h13) (let it15 : ITt := u2 it 489 20 ((s2 ||| 0) : Int32); have h16 := (And.right h13); hs dX9_sum_70 (hs dX9_sum_72 (And.intro rfl (And.intro rfl (hk _ _ _ h16))))))))))) (fun c => have h14 := And.right h c; hs dX9_sum_61 (gx (P := P) ki_1 (hs dX9_sum_62 (hs dX9_sum_66 (hs dX9_sum_67 (And.intro (oq_489) (And.intro (And.left h14) (let it17 : ITt := u2 it 489 20 ((s2 ||| 1) : Int32); have h18 := (And.right h14); hs dX9_sum_70 (hs dX9_sum_72 (And.intro rfl (And.intro rfl (hk _ _ _ h18))))))))))))))
    have b47 : ∀   (x5 : Int64) (s0 : Int32) (s1 : Int32) (lg : LGt) (it : ITt), w_X9_sum_b47 a1 a2 R  x5 s0 s1 lg it → P 47 [uu, .long a1, uu, uu, uu, .long x5, uu] [.int s0, .int s1, .ref 489] NT lg it RF0 := by
      intro x5 s0 s1 lg it h
      unfold w_X9_sum_b47 at h
      exact (hs dX9_sum_47 (hs dX9_sum_48 (gxl (P := P) kl_0 (hs dX9_sum_49 (hs dX9_sum_50 (And.intro (fun c => have h11 := And.left h ((lg_cmp_lt _ _).mp c); hs dX9_sum_57 (gx (P := P) ki_0 (hf [uu, uu, uu, uu, uu, .long x5, uu] ⟨Or.inl rfl, ⟨Or.inl rfl, ⟨Or.inl rfl, ⟨Or.inl rfl, ⟨Or.inl rfl, ⟨Or.inr rfl, ⟨Or.inl rfl, trivial⟩⟩⟩⟩⟩⟩⟩ (b58   _ _ _ _ _ _  h11)))) (fun c => have h12 := And.right h (fun q => c ((lg_cmp_lt _ _).mpr q)); hs dX9_sum_53 (gx (P := P) ki_1 (hs dX9_sum_54 (hf [uu, uu, uu, uu, uu, .long x5, uu] ⟨Or.inl rfl, ⟨Or.inl rfl, ⟨Or.inl rfl, ⟨Or.inl rfl, ⟨Or.inl rfl, ⟨Or.inr rfl, ⟨Or.inl rfl, trivial⟩⟩⟩⟩⟩⟩⟩ (b58   _ _ _ _ _ _  h12)))))))))))
    have b32 : ∀   (x5 : Int64) (s0 : Int32) (s1 : Int32) (s2 : Int32) (lg : LGt) (it : ITt), w_X9_sum_b32 a1 a2 R  x5 s0 s1 s2 lg it → P 32 [uu, .long a1, uu, uu, uu, .long x5, uu] [.int s0, .int s1, .int s2, .ref 489] NT lg it RF0 := by
      intro x5 s0 s1 s2 lg it h
      unfold w_X9_sum_b32 at h
      exact (hs dX9_sum_32 (And.intro (fun c => have h5 := And.left h c; hs dX9_sum_65 (gx (P := P) ki_0 (hs dX9_sum_66 (hs dX9_sum_67 (And.intro (oq_489) (And.intro (And.left h5) (let it7 : ITt := u2 it 489 20 ((s2 ||| 0) : Int32); have h8 := (And.right h5); hs dX9_sum_70 (hs dX9_sum_72 (And.intro rfl (And.intro rfl (hk _ _ _ h8))))))))))) (fun c => have h6 := And.right h c; hs dX9_sum_35 (hs dX9_sum_37 (gxl (P := P) kl_0 (hs dX9_sum_38 (hs dX9_sum_39 (And.intro (fun c => have h9 := And.left h6 ((lg_cmp_lt _ _).mp c); hs dX9_sum_46 (gx (P := P) ki_0 (hf [uu, .long a1, uu, uu, uu, .long x5, uu] ⟨Or.inl rfl, ⟨Or.inr rfl, ⟨Or.inl rfl, ⟨Or.inl rfl, ⟨Or.inl rfl, ⟨Or.inr rfl, ⟨Or.inl rfl, trivial⟩⟩⟩⟩⟩⟩⟩ (b47   _ _ _ _ _  h9)))) (fun c => have h10 := And.right h6 (fun q => c ((lg_cmp_lt _ _).mpr q)); hs dX9_sum_42 (gx (P := P) ki_1 (hs dX9_sum_43 (hf [uu, .long a1, uu, uu, uu, .long x5, uu] ⟨Or.inl rfl, ⟨Or.inr rfl, ⟨Or.inl rfl, ⟨Or.inl rfl, ⟨Or.inl rfl, ⟨Or.inr rfl, ⟨Or.inl rfl, trivial⟩⟩⟩⟩⟩⟩⟩ (b47   _ _ _ _ _  h10)))))))))))))
    have b21 : ∀   (x5 : Int64) (s0 : Int32) (s1 : Int32) (lg : LGt) (it : ITt), w_X9_sum_b21 a1 a2 R  x5 s0 s1 lg it → P 21 [uu, .long a1, uu, .long a2, uu, .long x5, uu] [.int s0, .int s1, .ref 489] NT lg it RF0 := by
      intro x5 s0 s1 lg it h
      unfold w_X9_sum_b21 at h
      exact (hs dX9_sum_21 (hs dX9_sum_22 (gxl (P := P) kl_0 (hs dX9_sum_23 (hs dX9_sum_24 (And.intro (fun c => have h3 := And.left h ((lg_cmp_lt _ _).mp c); hs dX9_sum_31 (gx (P := P) ki_0 (hf [uu, .long a1, uu, uu, uu, .long x5, uu] ⟨Or.inl rfl, ⟨Or.inr rfl, ⟨Or.inl rfl, ⟨Or.inl rfl, ⟨Or.inl rfl, ⟨Or.inr rfl, ⟨Or.inl rfl, trivial⟩⟩⟩⟩⟩⟩⟩ (b32   _ _ _ _ _ _  h3)))) (fun c => have h4 := And.right h (fun q => c ((lg_cmp_lt _ _).mpr q)); hs dX9_sum_27 (gx (P := P) ki_1 (hs dX9_sum_28 (hf [uu, .long a1, uu, uu, uu, .long x5, uu] ⟨Or.inl rfl, ⟨Or.inr rfl, ⟨Or.inl rfl, ⟨Or.inl rfl, ⟨Or.inl rfl, ⟨Or.inr rfl, ⟨Or.inl rfl, trivial⟩⟩⟩⟩⟩⟩⟩ (b32   _ _ _ _ _ _  h4)))))))))))
    unfold w_X9_sum at h
    exact gs (P := P) [.ref 489, .long a1, uu, .long a2, uu, uu, uu] rfl (hs dX9_sum_0 (hs dX9_sum_1 (hs dX9_sum_2 (hs dX9_sum_3 (gs (P := P) [.ref 489, .long a1, uu, .long a2, uu, .long (a1 + a2), uu] rfl (hs dX9_sum_5 (hs dX9_sum_6 (hs dX9_sum_7 (And.intro (oq_489) (hs dX9_sum_10 (hs dX9_sum_11 (gxl (P := P) kl_0 (hs dX9_sum_12 (hs dX9_sum_13 (And.intro (fun c => have h1 := And.left h ((lg_cmp_lt _ _).mp c); hs dX9_sum_20 (gx (P := P) ki_0 (hf [uu, .long a1, uu, .long a2, uu, .long (a1 + a2), uu] ⟨Or.inl rfl, ⟨Or.inr rfl, ⟨Or.inl rfl, ⟨Or.inr rfl, ⟨Or.inl rfl, ⟨Or.inr rfl, ⟨Or.inl rfl, trivial⟩⟩⟩⟩⟩⟩⟩ (b21   _ _ _ _ _  h1)))) (fun c => have h2 := And.right h (fun q => c ((lg_cmp_lt _ _).mpr q)); hs dX9_sum_16 (gx (P := P) ki_1 (hs dX9_sum_17 (hf [uu, .long a1, uu, .long a2, uu, .long (a1 + a2), uu] ⟨Or.inl rfl, ⟨Or.inr rfl, ⟨Or.inl rfl, ⟨Or.inr rfl, ⟨Or.inl rfl, ⟨Or.inr rfl, ⟨Or.inl rfl, trivial⟩⟩⟩⟩⟩⟩⟩ (b21   _ _ _ _ _  h2))))))))))))))))))))
  · exact h.elim
theorem ct_X9_sum {E : Ev} {l : Launch} : CT E l yX9_sum (wsY yX9_sum cX9_sum 7 (some .long)) rm_X9_sum 0 sp_X9_sum := ct_of (T := T_X9_sum) (own := RX9) (by decide) rfl (fun ci h10 hc => by have h2 : (99 : Nat) = ci := Nat.eq_of_beq_eq_true hc; omega) ⟨rfl, rfl⟩ ⟨fok_X9, clok_X9, jok_X9, fun _ h => absurd h List.not_mem_nil⟩ bd_X9_sum
def sp_X9_sumF : Spc := fun as N lg it rf K => match as with | [.ref a0, .long a1, .long a2] => (N = NT ∧ rf = RF0 ∧ a0 = 489 ∧ (o01 it)) ∧ K (some (.long (a1 + a2))) lg (setO it (oro (it 489 20) (ovs a1 a2))) rf | _ => False
theorem sn_X9_sumF (as : List Value) (N : Nat) (lg : LGt) (it : ITt) (rf : RFt) (K : Post) (h : sp_X9_sumF as N lg it rf K) : sp_X9_sum as N lg it rf K := by
  unfold sp_X9_sumF at h
  split at h
  · rename_i a0 a1 a2
    obtain ⟨⟨rfl, rfl, rfl, hx0⟩, hk⟩ := h
    refine ⟨⟨rfl, rfl, rfl⟩, fun v lg' it' => v = (a1 + a2) ∧ lg' = lg ∧ it' = (setO it (oro (it 489 20) (ovs a1 a2))), ?_, fun v lg' it' q => by obtain ⟨rfl, rfl, rfl⟩ := q; exact hk⟩
    have key1 : ovs a1 a2 = true → u2 it 489 20 (it 489 20 ||| 1) = (setO it (oro (it 489 20) (ovs a1 a2))) := fun e => by rw [e, or1 hx0]; rfl
    have key0 : ovs a1 a2 = false → u2 it 489 20 (it 489 20 ||| 0) = (setO it (oro (it 489 20) (ovs a1 a2))) := fun e => by rw [e, or0]; rfl
    unfold w_X9_sum
    try unfold w_X9_sum_b21
    try unfold w_X9_sum_b32
    try unfold w_X9_sum_b47
    try unfold w_X9_sum_b58
    try unfold w_X9_sum_b32
    try unfold w_X9_sum_b47
    try unfold w_X9_sum_b58
    repeat' (first | intro c | with_reducible apply And.intro)
    all_goals first | rfl | contradiction | exact or0b hx0 | exact or1b hx0 | exact key0 (by simp only [ovs, decide_eq_true_eq, decide_eq_false_iff_not, Int64.lt_iff_toInt_lt, z64] at *; omega) | exact key1 (by simp only [ovs, decide_eq_true_eq, decide_eq_false_iff_not, Int64.lt_iff_toInt_lt, z64] at *; omega) | (exfalso; simp only [n10, n01] at *)
  · exact h.elim
theorem ct_X9_sumF {E : Ev} {l : Launch} : CT E l yX9_sum (wsY yX9_sum cX9_sum 7 (some .long)) rm_X9_sum 0 sp_X9_sumF := ct_weak ct_X9_sum sn_X9_sumF
def w_X9_difference_b58 (a1 : Int64) (a2 : Int64) (K : Int64 → LGt → ITt → Prop)  (x5 : Int64) (s0 : Int32) (s1 : Int32) (s2 : Int32) (lg : LGt) (it : ITt) : Prop := ((s1 = s0) → (((s2 ||| 0) &&& 1 = (s2 ||| 0)) ∧ (let it15 : ITt := u2 it 489 20 ((s2 ||| 0) : Int32); K x5 lg it15))) ∧ ((¬ s1 = s0) → (((s2 ||| 1) &&& 1 = (s2 ||| 1)) ∧ (let it17 : ITt := u2 it 489 20 ((s2 ||| 1) : Int32); K x5 lg it17)))
def w_X9_difference_b47 (a1 : Int64) (a2 : Int64) (K : Int64 → LGt → ITt → Prop)  (x5 : Int64) (s0 : Int32) (s1 : Int32) (lg : LGt) (it : ITt) : Prop := ((a1 < 0) → (w_X9_difference_b58 a1 a2 K  x5 (0 : Int32) s0 s1 lg it)) ∧ ((¬ a1 < 0) → (w_X9_difference_b58 a1 a2 K  x5 (1 : Int32) s0 s1 lg it))
def w_X9_difference_b32 (a1 : Int64) (a2 : Int64) (K : Int64 → LGt → ITt → Prop)  (x5 : Int64) (s0 : Int32) (s1 : Int32) (s2 : Int32) (lg : LGt) (it : ITt) : Prop := ((s1 = s0) → (((s2 ||| 0) &&& 1 = (s2 ||| 0)) ∧ (let it7 : ITt := u2 it 489 20 ((s2 ||| 0) : Int32); K x5 lg it7))) ∧ ((¬ s1 = s0) → (((x5 < 0) → (w_X9_difference_b47 a1 a2 K  x5 (0 : Int32) s2 lg it)) ∧ ((¬ x5 < 0) → (w_X9_difference_b47 a1 a2 K  x5 (1 : Int32) s2 lg it))))
def w_X9_difference_b21 (a1 : Int64) (a2 : Int64) (K : Int64 → LGt → ITt → Prop)  (x5 : Int64) (s0 : Int32) (s1 : Int32) (lg : LGt) (it : ITt) : Prop := ((a2 < 0) → (w_X9_difference_b32 a1 a2 K  x5 (0 : Int32) s0 s1 lg it)) ∧ ((¬ a2 < 0) → (w_X9_difference_b32 a1 a2 K  x5 (1 : Int32) s0 s1 lg it))
def w_X9_difference (a1 : Int64) (a2 : Int64) (K : Int64 → LGt → ITt → Prop)  (lg : LGt) (it : ITt) : Prop := ((a1 < 0) → (w_X9_difference_b21 a1 a2 K  (a1 - a2) (0 : Int32) (it 489 20) lg it)) ∧ ((¬ a1 < 0) → (w_X9_difference_b21 a1 a2 K  (a1 - a2) (1 : Int32) (it 489 20) lg it))
def sp_X9_difference : Spc := fun as N lg it rf K => match as with | [.ref a0, .long a1, .long a2] => (N = NT ∧ rf = RF0 ∧ a0 = 489) ∧ ∃ R : Int64 → LGt → ITt → Prop, w_X9_difference a1 a2 R  lg it ∧ ∀ v lg' it', R v lg' it' → K (some (.long v)) lg' it' RF0 | _ => False
def T_X9_difference : Tab := (FL_X9, CL_X9, JL_X9, [], 99, (some .long))
def rm_X9_difference : Room := { frames := 0, cells := 0, slots := 0, locals := 0 }
set_option maxRecDepth 100000 in
theorem bd_X9_difference (as : List Value) (N : Nat) (lg : LGt) (it : ITt) (rf : RFt) (Q : Post) (h : sp_X9_difference as N lg it rf Q) : Bd T_X9_difference cX9_difference 7 0 as N lg it rf Q := by
  unfold sp_X9_difference at h
  split at h
  · rename_i a0 a1 a2
    refine ⟨Nat.le_of_ble_eq_true rfl, fun P hs hw hf => ?_⟩
    obtain ⟨⟨rfl, rfl, rfl⟩, R, h, hk⟩ := h
    have b58 : ∀   (x5 : Int64) (s0 : Int32) (s1 : Int32) (s2 : Int32) (lg : LGt) (it : ITt), w_X9_difference_b58 a1 a2 R  x5 s0 s1 s2 lg it → P 58 [uu, uu, uu, uu, uu, .long x5, uu] [.int s0, .int s1, .int s2, .ref 489] NT lg it RF0 := by
      intro x5 s0 s1 s2 lg it h
      unfold w_X9_difference_b58 at h
      exact (hs dX9_difference_58 (And.intro (fun c => have h13 := And.left h c; hs dX9_difference_65 (gx (P := P) ki_0 (hs dX9_difference_66 (hs dX9_difference_67 (And.intro (oq_489) (And.intro (And.left h13) (let it15 : ITt := u2 it 489 20 ((s2 ||| 0) : Int32); have h16 := (And.right h13); hs dX9_difference_70 (hs dX9_difference_72 (And.intro rfl (And.intro rfl (hk _ _ _ h16))))))))))) (fun c => have h14 := And.right h c; hs dX9_difference_61 (gx (P := P) ki_1 (hs dX9_difference_62 (hs dX9_difference_66 (hs dX9_difference_67 (And.intro (oq_489) (And.intro (And.left h14) (let it17 : ITt := u2 it 489 20 ((s2 ||| 1) : Int32); have h18 := (And.right h14); hs dX9_difference_70 (hs dX9_difference_72 (And.intro rfl (And.intro rfl (hk _ _ _ h18))))))))))))))
    have b47 : ∀   (x5 : Int64) (s0 : Int32) (s1 : Int32) (lg : LGt) (it : ITt), w_X9_difference_b47 a1 a2 R  x5 s0 s1 lg it → P 47 [uu, .long a1, uu, uu, uu, .long x5, uu] [.int s0, .int s1, .ref 489] NT lg it RF0 := by
      intro x5 s0 s1 lg it h
      unfold w_X9_difference_b47 at h
      exact (hs dX9_difference_47 (hs dX9_difference_48 (gxl (P := P) kl_0 (hs dX9_difference_49 (hs dX9_difference_50 (And.intro (fun c => have h11 := And.left h ((lg_cmp_lt _ _).mp c); hs dX9_difference_57 (gx (P := P) ki_0 (hf [uu, uu, uu, uu, uu, .long x5, uu] ⟨Or.inl rfl, ⟨Or.inl rfl, ⟨Or.inl rfl, ⟨Or.inl rfl, ⟨Or.inl rfl, ⟨Or.inr rfl, ⟨Or.inl rfl, trivial⟩⟩⟩⟩⟩⟩⟩ (b58   _ _ _ _ _ _  h11)))) (fun c => have h12 := And.right h (fun q => c ((lg_cmp_lt _ _).mpr q)); hs dX9_difference_53 (gx (P := P) ki_1 (hs dX9_difference_54 (hf [uu, uu, uu, uu, uu, .long x5, uu] ⟨Or.inl rfl, ⟨Or.inl rfl, ⟨Or.inl rfl, ⟨Or.inl rfl, ⟨Or.inl rfl, ⟨Or.inr rfl, ⟨Or.inl rfl, trivial⟩⟩⟩⟩⟩⟩⟩ (b58   _ _ _ _ _ _  h12)))))))))))
    have b32 : ∀   (x5 : Int64) (s0 : Int32) (s1 : Int32) (s2 : Int32) (lg : LGt) (it : ITt), w_X9_difference_b32 a1 a2 R  x5 s0 s1 s2 lg it → P 32 [uu, .long a1, uu, uu, uu, .long x5, uu] [.int s0, .int s1, .int s2, .ref 489] NT lg it RF0 := by
      intro x5 s0 s1 s2 lg it h
      unfold w_X9_difference_b32 at h
      exact (hs dX9_difference_32 (And.intro (fun c => have h5 := And.left h c; hs dX9_difference_65 (gx (P := P) ki_0 (hs dX9_difference_66 (hs dX9_difference_67 (And.intro (oq_489) (And.intro (And.left h5) (let it7 : ITt := u2 it 489 20 ((s2 ||| 0) : Int32); have h8 := (And.right h5); hs dX9_difference_70 (hs dX9_difference_72 (And.intro rfl (And.intro rfl (hk _ _ _ h8))))))))))) (fun c => have h6 := And.right h c; hs dX9_difference_35 (hs dX9_difference_37 (gxl (P := P) kl_0 (hs dX9_difference_38 (hs dX9_difference_39 (And.intro (fun c => have h9 := And.left h6 ((lg_cmp_lt _ _).mp c); hs dX9_difference_46 (gx (P := P) ki_0 (hf [uu, .long a1, uu, uu, uu, .long x5, uu] ⟨Or.inl rfl, ⟨Or.inr rfl, ⟨Or.inl rfl, ⟨Or.inl rfl, ⟨Or.inl rfl, ⟨Or.inr rfl, ⟨Or.inl rfl, trivial⟩⟩⟩⟩⟩⟩⟩ (b47   _ _ _ _ _  h9)))) (fun c => have h10 := And.right h6 (fun q => c ((lg_cmp_lt _ _).mpr q)); hs dX9_difference_42 (gx (P := P) ki_1 (hs dX9_difference_43 (hf [uu, .long a1, uu, uu, uu, .long x5, uu] ⟨Or.inl rfl, ⟨Or.inr rfl, ⟨Or.inl rfl, ⟨Or.inl rfl, ⟨Or.inl rfl, ⟨Or.inr rfl, ⟨Or.inl rfl, trivial⟩⟩⟩⟩⟩⟩⟩ (b47   _ _ _ _ _  h10)))))))))))))
    have b21 : ∀   (x5 : Int64) (s0 : Int32) (s1 : Int32) (lg : LGt) (it : ITt), w_X9_difference_b21 a1 a2 R  x5 s0 s1 lg it → P 21 [uu, .long a1, uu, .long a2, uu, .long x5, uu] [.int s0, .int s1, .ref 489] NT lg it RF0 := by
      intro x5 s0 s1 lg it h
      unfold w_X9_difference_b21 at h
      exact (hs dX9_difference_21 (hs dX9_difference_22 (gxl (P := P) kl_0 (hs dX9_difference_23 (hs dX9_difference_24 (And.intro (fun c => have h3 := And.left h ((lg_cmp_lt _ _).mp c); hs dX9_difference_31 (gx (P := P) ki_0 (hf [uu, .long a1, uu, uu, uu, .long x5, uu] ⟨Or.inl rfl, ⟨Or.inr rfl, ⟨Or.inl rfl, ⟨Or.inl rfl, ⟨Or.inl rfl, ⟨Or.inr rfl, ⟨Or.inl rfl, trivial⟩⟩⟩⟩⟩⟩⟩ (b32   _ _ _ _ _ _  h3)))) (fun c => have h4 := And.right h (fun q => c ((lg_cmp_lt _ _).mpr q)); hs dX9_difference_27 (gx (P := P) ki_1 (hs dX9_difference_28 (hf [uu, .long a1, uu, uu, uu, .long x5, uu] ⟨Or.inl rfl, ⟨Or.inr rfl, ⟨Or.inl rfl, ⟨Or.inl rfl, ⟨Or.inl rfl, ⟨Or.inr rfl, ⟨Or.inl rfl, trivial⟩⟩⟩⟩⟩⟩⟩ (b32   _ _ _ _ _ _  h4)))))))))))
    unfold w_X9_difference at h
    exact gs (P := P) [.ref 489, .long a1, uu, .long a2, uu, uu, uu] rfl (hs dX9_difference_0 (hs dX9_difference_1 (hs dX9_difference_2 (hs dX9_difference_3 (gs (P := P) [.ref 489, .long a1, uu, .long a2, uu, .long (a1 - a2), uu] rfl (hs dX9_difference_5 (hs dX9_difference_6 (hs dX9_difference_7 (And.intro (oq_489) (hs dX9_difference_10 (hs dX9_difference_11 (gxl (P := P) kl_0 (hs dX9_difference_12 (hs dX9_difference_13 (And.intro (fun c => have h1 := And.left h ((lg_cmp_lt _ _).mp c); hs dX9_difference_20 (gx (P := P) ki_0 (hf [uu, .long a1, uu, .long a2, uu, .long (a1 - a2), uu] ⟨Or.inl rfl, ⟨Or.inr rfl, ⟨Or.inl rfl, ⟨Or.inr rfl, ⟨Or.inl rfl, ⟨Or.inr rfl, ⟨Or.inl rfl, trivial⟩⟩⟩⟩⟩⟩⟩ (b21   _ _ _ _ _  h1)))) (fun c => have h2 := And.right h (fun q => c ((lg_cmp_lt _ _).mpr q)); hs dX9_difference_16 (gx (P := P) ki_1 (hs dX9_difference_17 (hf [uu, .long a1, uu, .long a2, uu, .long (a1 - a2), uu] ⟨Or.inl rfl, ⟨Or.inr rfl, ⟨Or.inl rfl, ⟨Or.inr rfl, ⟨Or.inl rfl, ⟨Or.inr rfl, ⟨Or.inl rfl, trivial⟩⟩⟩⟩⟩⟩⟩ (b21   _ _ _ _ _  h2))))))))))))))))))))
  · exact h.elim
theorem ct_X9_difference {E : Ev} {l : Launch} : CT E l yX9_difference (wsY yX9_difference cX9_difference 7 (some .long)) rm_X9_difference 0 sp_X9_difference := ct_of (T := T_X9_difference) (own := RX9) (by decide) rfl (fun ci h10 hc => by have h2 : (99 : Nat) = ci := Nat.eq_of_beq_eq_true hc; omega) ⟨rfl, rfl⟩ ⟨fok_X9, clok_X9, jok_X9, fun _ h => absurd h List.not_mem_nil⟩ bd_X9_difference
def sp_X9_differenceF : Spc := fun as N lg it rf K => match as with | [.ref a0, .long a1, .long a2] => (N = NT ∧ rf = RF0 ∧ a0 = 489 ∧ (o01 it)) ∧ K (some (.long (a1 - a2))) lg (setO it (oro (it 489 20) (ovd a1 a2))) rf | _ => False
theorem sn_X9_differenceF (as : List Value) (N : Nat) (lg : LGt) (it : ITt) (rf : RFt) (K : Post) (h : sp_X9_differenceF as N lg it rf K) : sp_X9_difference as N lg it rf K := by
  unfold sp_X9_differenceF at h
  split at h
  · rename_i a0 a1 a2
    obtain ⟨⟨rfl, rfl, rfl, hx0⟩, hk⟩ := h
    refine ⟨⟨rfl, rfl, rfl⟩, fun v lg' it' => v = (a1 - a2) ∧ lg' = lg ∧ it' = (setO it (oro (it 489 20) (ovd a1 a2))), ?_, fun v lg' it' q => by obtain ⟨rfl, rfl, rfl⟩ := q; exact hk⟩
    have key1 : ovd a1 a2 = true → u2 it 489 20 (it 489 20 ||| 1) = (setO it (oro (it 489 20) (ovd a1 a2))) := fun e => by rw [e, or1 hx0]; rfl
    have key0 : ovd a1 a2 = false → u2 it 489 20 (it 489 20 ||| 0) = (setO it (oro (it 489 20) (ovd a1 a2))) := fun e => by rw [e, or0]; rfl
    unfold w_X9_difference
    try unfold w_X9_difference_b21
    try unfold w_X9_difference_b32
    try unfold w_X9_difference_b47
    try unfold w_X9_difference_b58
    try unfold w_X9_difference_b32
    try unfold w_X9_difference_b47
    try unfold w_X9_difference_b58
    repeat' (first | intro c | with_reducible apply And.intro)
    all_goals first | rfl | contradiction | exact or0b hx0 | exact or1b hx0 | exact key0 (by simp only [ovd, decide_eq_true_eq, decide_eq_false_iff_not, Int64.lt_iff_toInt_lt, z64] at *; omega) | exact key1 (by simp only [ovd, decide_eq_true_eq, decide_eq_false_iff_not, Int64.lt_iff_toInt_lt, z64] at *; omega) | (exfalso; simp only [n10, n01] at *)
  · exact h.elim
theorem ct_X9_differenceF {E : Ev} {l : Launch} : CT E l yX9_difference (wsY yX9_difference cX9_difference 7 (some .long)) rm_X9_difference 0 sp_X9_differenceF := ct_weak ct_X9_difference sn_X9_differenceF
def w_X9_lowest_b64 (a1 : Int64) (a2 : Int64) (K : LGt → ITt → Prop)  (s0 : Int64) (lg : LGt) (it : ITt) : Prop := (¬ s0 = 0) ∧ ((let lg13 : LGt := u2 lg 489 18 ((a1 / s0) : Int64); (¬ s0 = 0) ∧ ((let lg16 : LGt := u2 lg13 489 19 ((a2 / s0) : Int64); K lg16 it))))
def w_X9_lowest_b24 (a1 : Int64) (a2 : Int64) (K : LGt → ITt → Prop)  : Nat → Int64 → Int64 → LGt → ITt → Prop
  | 0, _, _, _, _ => False
  | n24 + 1, x5, x7, lg, it => ((x7 = 0) → (((0 ≤ x5) → (w_X9_lowest_b64 a1 a2 K  x5 lg it)) ∧ ((¬ 0 ≤ x5) → (w_X9_lowest_b64 a1 a2 K  (-x5) lg it)))) ∧ ((¬ x7 = 0) → ((¬ x7 = 0) ∧ ((w_X9_lowest_b24 a1 a2 K  n24) x7 (x5 - x5 / x7 * x7) lg it)))
def w_X9_lowest (a1 : Int64) (a2 : Int64) (K : LGt → ITt → Prop)  (lg : LGt) (it : ITt) : Prop := (((it 489 20) = 0) → (∃ n24, w_X9_lowest_b24 a1 a2 K  n24 a1 a2 lg it)) ∧ ((¬ (it 489 20) = 0) → ((let lg3 : LGt := u2 lg 489 18 (0 : Int64); (let lg5 : LGt := u2 lg3 489 19 (1 : Int64); K lg5 it))))
def sp_X9_lowest : Spc := fun as N lg it rf K => match as with | [.ref a0, .long a1, .long a2] => (N = NT ∧ rf = RF0 ∧ a0 = 489) ∧ ∃ R : LGt → ITt → Prop, w_X9_lowest a1 a2 R  lg it ∧ ∀ lg' it', R lg' it' → K none lg' it' RF0 | _ => False
def T_X9_lowest : Tab := (FL_X9, CL_X9, JL_X9, [], 99, none)
def rm_X9_lowest : Room := { frames := 0, cells := 0, slots := 0, locals := 0 }
set_option maxRecDepth 100000 in
theorem bd_X9_lowest (as : List Value) (N : Nat) (lg : LGt) (it : ITt) (rf : RFt) (Q : Post) (h : sp_X9_lowest as N lg it rf Q) : Bd T_X9_lowest cX9_lowest 11 0 as N lg it rf Q := by
  unfold sp_X9_lowest at h
  split at h
  · rename_i a0 a1 a2
    refine ⟨Nat.le_of_ble_eq_true rfl, fun P hs hw hf => ?_⟩
    obtain ⟨⟨rfl, rfl, rfl⟩, R, h, hk⟩ := h
    have b64 : ∀   (s0 : Int64) (lg : LGt) (it : ITt), w_X9_lowest_b64 a1 a2 R  s0 lg it → P 64 [.ref 489, .long a1, uu, .long a2, uu, uu, uu, uu, uu, uu, uu] [.long s0] NT lg it RF0 := by
      intro s0 lg it h
      unfold w_X9_lowest_b64 at h
      exact (hs dX9_lowest_64 (gs (P := P) [.ref 489, .long a1, uu, .long a2, uu, uu, uu, uu, uu, .long s0, uu] rfl (hs dX9_lowest_66 (hs dX9_lowest_67 (hs dX9_lowest_68 (hs dX9_lowest_70 (And.intro (And.left h) (have h12 := And.right h; hs dX9_lowest_71 (And.intro (oq_489) (let lg13 : LGt := u2 lg 489 18 ((a1 / s0) : Int64); have h14 := h12; hs dX9_lowest_74 (hs dX9_lowest_75 (hs dX9_lowest_76 (hs dX9_lowest_78 (And.intro (And.left h14) (have h15 := And.right h14; hs dX9_lowest_79 (And.intro (oq_489) (let lg16 : LGt := u2 lg13 489 19 ((a2 / s0) : Int64); have h17 := h15; hs dX9_lowest_82 (And.intro rfl (And.intro rfl (hk _ _ h17))))))))))))))))))))
    have b24 : ∀  (n : Nat)  (x5 : Int64) (x7 : Int64) (lg : LGt) (it : ITt), w_X9_lowest_b24 a1 a2 R  n x5 x7 lg it → P 24 [.ref 489, .long a1, uu, .long a2, uu, .long x5, uu, .long x7, uu, uu, uu] [] NT lg it RF0 := by
      intro n
      induction n with
      | zero =>
        intro x5 x7 lg it h
        exact h.elim
      | succ n ih =>
        intro x5 x7 lg it h
        unfold w_X9_lowest_b24 at h
        exact (hs dX9_lowest_24 (hs dX9_lowest_26 (gxl (P := P) kl_0 (hs dX9_lowest_27 (hs dX9_lowest_28 (And.intro (fun c => have h7 := And.left h ((lg_cmp_eq _ _).mp c); hs dX9_lowest_49 (hs dX9_lowest_51 (gxl (P := P) kl_0 (hs dX9_lowest_52 (hs dX9_lowest_53 (And.intro (fun c => have h9 := And.left h7 ((lg_cmp_ge _ _).mp c); hs dX9_lowest_62 (hf [.ref 489, .long a1, uu, .long a2, uu, uu, uu, uu, uu, uu, uu] ⟨Or.inr rfl, ⟨Or.inr rfl, ⟨Or.inl rfl, ⟨Or.inr rfl, ⟨Or.inl rfl, ⟨Or.inl rfl, ⟨Or.inl rfl, ⟨Or.inl rfl, ⟨Or.inl rfl, ⟨Or.inl rfl, ⟨Or.inl rfl, trivial⟩⟩⟩⟩⟩⟩⟩⟩⟩⟩⟩ (b64   _ _ _  h9))) (fun c => have h10 := And.right h7 (fun q => c ((lg_cmp_ge _ _).mpr q)); hs dX9_lowest_56 (hs dX9_lowest_58 (hs dX9_lowest_59 (hf [.ref 489, .long a1, uu, .long a2, uu, uu, uu, uu, uu, uu, uu] ⟨Or.inr rfl, ⟨Or.inr rfl, ⟨Or.inl rfl, ⟨Or.inr rfl, ⟨Or.inl rfl, ⟨Or.inl rfl, ⟨Or.inl rfl, ⟨Or.inl rfl, ⟨Or.inl rfl, ⟨Or.inl rfl, ⟨Or.inl rfl, trivial⟩⟩⟩⟩⟩⟩⟩⟩⟩⟩⟩ (b64   _ _ _  h10))))))))))) (fun c => have h8 := And.right h (fun q => c ((lg_cmp_eq _ _).mpr q)); hs dX9_lowest_31 (hs dX9_lowest_33 (hs dX9_lowest_35 (And.intro (And.left h8) (have h11 := And.right h8; hs dX9_lowest_36 (gs (P := P) [.ref 489, .long a1, uu, .long a2, uu, .long x5, uu, .long x7, uu, .long (x5 - x5 / x7 * x7), uu] rfl (hs dX9_lowest_38 (hs dX9_lowest_40 (gs (P := P) [.ref 489, .long a1, uu, .long a2, uu, .long x7, uu, .long x7, uu, .long (x5 - x5 / x7 * x7), uu] rfl (hs dX9_lowest_42 (hs dX9_lowest_44 (gs (P := P) [.ref 489, .long a1, uu, .long a2, uu, .long x7, uu, .long (x5 - x5 / x7 * x7), uu, .long (x5 - x5 / x7 * x7), uu] rfl (hs dX9_lowest_46 (hf [.ref 489, .long a1, uu, .long a2, uu, .long x7, uu, .long (x5 - x5 / x7 * x7), uu, uu, uu] ⟨Or.inr rfl, ⟨Or.inr rfl, ⟨Or.inl rfl, ⟨Or.inr rfl, ⟨Or.inl rfl, ⟨Or.inr rfl, ⟨Or.inl rfl, ⟨Or.inr rfl, ⟨Or.inl rfl, ⟨Or.inl rfl, ⟨Or.inl rfl, trivial⟩⟩⟩⟩⟩⟩⟩⟩⟩⟩⟩ (ih  _ _ _ _  h11)))))))))))))))))))))
    unfold w_X9_lowest at h
    exact gs (P := P) [.ref 489, .long a1, uu, .long a2, uu, uu, uu, uu, uu, uu, uu] rfl (hs dX9_lowest_0 (hs dX9_lowest_1 (And.intro (oq_489) (hs dX9_lowest_4 (And.intro (fun c => have h1 := And.left h c; hs dX9_lowest_18 (hs dX9_lowest_19 (gs (P := P) [.ref 489, .long a1, uu, .long a2, uu, .long a1, uu, uu, uu, uu, uu] rfl (hs dX9_lowest_21 (hs dX9_lowest_22 (gs (P := P) [.ref 489, .long a1, uu, .long a2, uu, .long a1, uu, .long a2, uu, uu, uu] rfl (hf [.ref 489, .long a1, uu, .long a2, uu, .long a1, uu, .long a2, uu, uu, uu] ⟨Or.inr rfl, ⟨Or.inr rfl, ⟨Or.inl rfl, ⟨Or.inr rfl, ⟨Or.inl rfl, ⟨Or.inr rfl, ⟨Or.inl rfl, ⟨Or.inr rfl, ⟨Or.inl rfl, ⟨Or.inl rfl, ⟨Or.inl rfl, trivial⟩⟩⟩⟩⟩⟩⟩⟩⟩⟩⟩ (Exists.elim h1 (fun n h => b24  n  _ _ _ _  h))))))))) (fun c => have h2 := And.right h c; hs dX9_lowest_7 (hs dX9_lowest_8 (gxl (P := P) kl_0 (hs dX9_lowest_9 (And.intro (oq_489) (let lg3 : LGt := u2 lg 489 18 (0 : Int64); have h4 := h2; hs dX9_lowest_12 (hs dX9_lowest_13 (gxl (P := P) kl_1 (hs dX9_lowest_14 (And.intro (oq_489) (let lg5 : LGt := u2 lg3 489 19 (1 : Int64); have h6 := h4; hs dX9_lowest_17 (And.intro rfl (And.intro rfl (hk _ _ h6)))))))))))))))))))
  · exact h.elim
theorem ct_X9_lowest {E : Ev} {l : Launch} : CT E l yX9_lowest (wsY yX9_lowest cX9_lowest 11 none) rm_X9_lowest 0 sp_X9_lowest := ct_of (T := T_X9_lowest) (own := RX9) (by decide) rfl (fun ci h10 hc => by have h2 : (99 : Nat) = ci := Nat.eq_of_beq_eq_true hc; omega) ⟨rfl, rfl⟩ ⟨fok_X9, clok_X9, jok_X9, fun _ h => absurd h List.not_mem_nil⟩ bd_X9_lowest
def eu : Nat → Int64 → Int64 → Int64
  | 0, x, _ => x
  | n + 1, x, y => if y = 0 then x else eu n y (x - x / y * y)
def gca (a b : Int64) : Int64 := if eu (b.toInt.natAbs + 1) a b < 0 then -(eu (b.toInt.natAbs + 1) a b) else eu (b.toInt.natAbs + 1) a b
def lowv (a b : Int64) (o : Int32) : Int64 × Int64 := if o = 0 then (a / gca a b, b / gca a b) else (0, 1)
theorem bmL {z : Int} (h1 : -9223372036854775808 ≤ z) (h2 : z < 9223372036854775808) : z.bmod (2 ^ 64) = z := by
  first
  | exact Int.bmod_eq_of_le (by omega) (by omega)
  | (unfold Int.bmod; omega)
theorem rem_int (x y : Int64) : (x - x / y * y).toInt = x.toInt.tmod y.toInt := by
  rw [Int64.toInt_sub, Int64.toInt_mul, Int64.toInt_div, Int.bmod_mul_bmod, Int.sub_bmod_bmod]
  have e : x.toInt - x.toInt.tdiv y.toInt * y.toInt = x.toInt.tmod y.toInt := by rw [Int.tmod_def, Int.mul_comm]
  rw [e]
  have hx1 := x.le_toInt
  have hx2 := x.toInt_lt
  have h1 : (x.toInt.tmod y.toInt).natAbs ≤ x.toInt.natAbs := by rw [Int.natAbs_tmod]; exact Nat.mod_le _ _
  have h2 : 0 ≤ x.toInt → 0 ≤ x.toInt.tmod y.toInt := fun h => Int.tmod_nonneg _ h
  have h3 : x.toInt ≤ 0 → x.toInt.tmod y.toInt ≤ 0 := fun h => by
    have := Int.tmod_nonneg y.toInt (show 0 ≤ -x.toInt by omega)
    rw [Int.neg_tmod] at this
    omega
  exact bmL (by omega) (by omega)
theorem abs_ne {y : Int64} (h : ¬ y = 0) : 0 < y.toInt.natAbs := by
  have : ¬ y.toInt = 0 := fun q => h (Int64.toInt_inj.mp q)
  omega
theorem rem_abs {x y : Int64} : (x - x / y * y).toInt.natAbs = x.toInt.natAbs % y.toInt.natAbs := by rw [rem_int, Int.natAbs_tmod]
theorem rem_lt {x y : Int64} (h : ¬ y = 0) : (x - x / y * y).toInt.natAbs < y.toInt.natAbs := by
  rw [rem_abs]
  exact Nat.mod_lt _ (abs_ne h)
theorem eu_abs : ∀ (n : Nat) (x y : Int64), y.toInt.natAbs < n → (eu n x y).toInt.natAbs = Nat.gcd x.toInt.natAbs y.toInt.natAbs
  | 0, _, _, h => absurd h (Nat.not_lt_zero _)
  | n + 1, x, y, hn => by
    unfold eu
    split
    · rename_i hy
      subst hy
      show _ = Nat.gcd _ 0
      rw [Nat.gcd_zero_right]
    · rename_i hy
      rw [eu_abs n y _ (by have := rem_lt (x := x) hy; omega), rem_abs]
      exact (Nat.gcd_comm _ _).trans ((Nat.gcd_rec _ _).symm.trans (Nat.gcd_comm _ _))
theorem neg_abs (x : Int64) : (-x).toInt.natAbs = x.toInt.natAbs := by
  rw [Int64.toInt_neg]
  have h1 := x.le_toInt
  have h2 := x.toInt_lt
  by_cases h : x.toInt = -9223372036854775808
  · rw [h]; decide
  · rw [bmL (by omega) (by omega)]; omega
theorem gca_abs (a b : Int64) : (gca a b).toInt.natAbs = Nat.gcd a.toInt.natAbs b.toInt.natAbs := by
  unfold gca
  have := eu_abs (b.toInt.natAbs + 1) a b (Nat.lt_succ_self _)
  split
  · rw [neg_abs]; exact this
  · exact this
theorem gca_ne {a b : Int64} (h : ¬ b = 0) : ¬ gca a b = 0 := by
  intro q
  have h1 := gca_abs a b
  rw [q] at h1
  have h2 : Nat.gcd a.toInt.natAbs b.toInt.natAbs = 0 := h1.symm
  have := Nat.eq_zero_of_gcd_eq_zero_right h2
  have := abs_ne h
  omega
theorem div_ne {a g : Int64} (h : ¬ a = 0) (hg : g.toInt.natAbs ∣ a.toInt.natAbs) : ¬ a / g = 0 := by
  intro q
  have h1 := Int64.toInt_div a g
  rw [q] at h1
  have h2 : (a.toInt.tdiv g.toInt).natAbs = a.toInt.natAbs / g.toInt.natAbs := Int.natAbs_tdiv _ _
  have h3 : 0 < a.toInt.natAbs / g.toInt.natAbs := Nat.div_pos (Nat.le_of_dvd (abs_ne h) hg) (Nat.pos_of_dvd_of_pos hg (abs_ne h))
  have h4 : a.toInt.natAbs / g.toInt.natAbs ≤ a.toInt.natAbs := Nat.div_le_self _ _
  have h5 := a.le_toInt
  have h6 := a.toInt_lt
  have h7 : (a.toInt.tdiv g.toInt).bmod (2 ^ 64) = 0 := h1.symm
  by_cases h8 : a.toInt.tdiv g.toInt = 9223372036854775808
  · rw [h8] at h7; exact absurd h7 (by decide)
  · rw [bmL (by omega) (by omega)] at h7; omega
theorem lowv_dn {a b : Int64} {o : Int32} (h : ¬ o = 0 ∨ ¬ b = 0) : ¬ (lowv a b o).2 = 0 := by
  unfold lowv
  split
  · rename_i ho
    have hb := h.resolve_left (fun q => q ho)
    exact div_ne hb (by rw [gca_abs]; exact Nat.gcd_dvd_right _ _)
  · decide
theorem lowv_up {a b : Int64} (h : ¬ a = 0) : ¬ (lowv a b 0).1 = 0 := by
  unfold lowv
  rw [if_pos rfl]
  exact div_ne h (by rw [gca_abs]; exact Nat.gcd_dvd_left _ _)
theorem ovm_ne {a b : Int64} (ha : ¬ a = 0) (hb : ¬ b = 0) (h : ovm a b = false) : ¬ a * b = 0 := by
  unfold ovm at h
  rw [if_neg (fun q => q.elim ha hb)] at h
  split at h
  · rename_i e
    subst e
    rw [show (-1 : Int64) * b = -b by rw [Int64.neg_mul, Int64.one_mul]]
    exact neg_ne hb
  · split at h
    · rename_i e
      subst e
      rw [show a * (-1 : Int64) = -a by rw [Int64.mul_neg, Int64.mul_one]]
      exact neg_ne ha
    · intro q
      rw [q] at h
      have h2 : (0 : Int64) / b = a := by simpa using h
      exact ha (h2.symm.trans Int64.zero_div)
theorem lowc {o : Int32} {b d : Int64} (hb : ¬ b = 0) (hd : ¬ d = 0) : ¬ oro o (ovm b d) = 0 ∨ ¬ b * d = 0 := by
  cases e : ovm b d with
  | true => exact Or.inl (by unfold oro; rw [if_pos rfl]; decide)
  | false => exact Or.inr (ovm_ne hb hd e)
def sp_X9_lowestF : Spc := fun as N lg it rf K => match as with | [.ref a0, .long a1, .long a2] => (N = NT ∧ rf = RF0 ∧ a0 = 489 ∧ ((¬ it 489 20 = 0) ∨ (¬ a2 = 0))) ∧ K none (setU lg (lowv a1 a2 (it 489 20)).1 (lowv a1 a2 (it 489 20)).2) it rf | _ => False
theorem sn_X9_lowestF (as : List Value) (N : Nat) (lg : LGt) (it : ITt) (rf : RFt) (K : Post) (h : sp_X9_lowestF as N lg it rf K) : sp_X9_lowest as N lg it rf K := by
  unfold sp_X9_lowestF at h
  split at h
  · rename_i a0 a1 a2
    obtain ⟨⟨rfl, rfl, rfl, hx0⟩, hk⟩ := h
    refine ⟨⟨rfl, rfl, rfl⟩, fun lg' it' => lg' = setU lg (lowv a1 a2 (it 489 20)).1 (lowv a1 a2 (it 489 20)).2 ∧ it' = it, ?_, fun lg' it' q => by obtain ⟨rfl, rfl⟩ := q; exact hk⟩
    unfold w_X9_lowest
    refine ⟨fun c => ?_, fun c => ?_⟩
    · have h2 : ¬ a2 = 0 := hx0.resolve_left (fun q => q c)
      have lp : ∀ (n : Nat) (x y : Int64), y.toInt.natAbs < n → w_X9_lowest_b64 a1 a2 (fun lg' it' => lg' = setU lg (lowv a1 a2 (it 489 20)).1 (lowv a1 a2 (it 489 20)).2 ∧ it' = it) (if eu n x y < 0 then -(eu n x y) else eu n x y) lg it → w_X9_lowest_b24 a1 a2 (fun lg' it' => lg' = setU lg (lowv a1 a2 (it 489 20)).1 (lowv a1 a2 (it 489 20)).2 ∧ it' = it) n x y lg it := by
        intro n
        induction n with
        | zero => exact fun _ _ h _ => absurd h (Nat.not_lt_zero _)
        | succ n ih =>
          intro x y hn h
          unfold w_X9_lowest_b24
          refine ⟨fun cy => ?_, fun cy => ⟨cy, ih y _ (by have := rem_lt (x := x) cy; omega) ?_⟩⟩
          · have e : eu (n + 1) x y = x := by unfold eu; rw [if_pos cy]
            rw [e] at h
            exact ⟨fun c0 => by rw [if_neg (Int64.not_lt.mpr c0)] at h; exact h, fun c0 => by rw [if_pos (Int64.not_le.mp c0)] at h; exact h⟩
          · have e : eu (n + 1) x y = eu n y (x - x / y * y) := by rw [eu, if_neg cy]
            rw [e] at h
            exact h
      refine ⟨_, lp (a2.toInt.natAbs + 1) a1 a2 (Nat.lt_succ_self _) ?_⟩
      refine ⟨gca_ne h2, gca_ne h2, ?_, rfl⟩
      unfold lowv
      rw [if_pos c]
      rfl
    · refine ⟨?_, rfl⟩
      unfold lowv
      rw [if_neg c]
      rfl
  · exact h.elim
theorem ct_X9_lowestF {E : Ev} {l : Launch} : CT E l yX9_lowest (wsY yX9_lowest cX9_lowest 11 none) rm_X9_lowest 0 sp_X9_lowestF := ct_weak ct_X9_lowest sn_X9_lowestF
theorem oro_n {o : Int32} {b : Bool} (h : ¬ o = 0) : ¬ oro o b = 0 := by
  unfold oro
  split
  · decide
  · exact h
theorem sub_ne {x : Int64} (h : ¬ x = 0) : ¬ 0 - x = 0 := by rw [Int64.zero_sub]; exact neg_ne h
def gMk (a b : Int64) (o : Int32) : Int64 × Int64 × Int32 := ((lowv a b o).1, (lowv a b o).2, o)
def gTimes (a b c d : Int64) (o : Int32) : Int64 × Int64 × Int32 := gMk (a * c) (b * d) (oro (oro o (ovm a c)) (ovm b d))
def gPlus (a b c d : Int64) (o : Int32) : Int64 × Int64 × Int32 := gMk (a * d + c * b) (b * d) (oro (oro (oro (oro o (ovm a d)) (ovm c b)) (ovs (a * d) (c * b))) (ovm b d))
def gLess (a b c d : Int64) (o : Int32) : Int64 × Int64 × Int32 := gMk (a * d - c * b) (b * d) (oro (oro (oro (oro o (ovm a d)) (ovm c b)) (ovd (a * d) (c * b))) (ovm b d))
def gBy (a b c d : Int64) (o : Int32) : Int64 × Int64 × Int32 := if 0 ≤ c then gMk (a * d) (b * c) (oro (oro o (ovm a d)) (ovm b c)) else gMk (0 - a * d) (0 - b * c) (oro (oro (oro (oro o (ovm a d)) (ovm b c)) (ovd 0 (a * d))) (ovd 0 (b * c)))
theorem o01_s {it : ITt} {x : Int32} (h : x = 0 ∨ x = 1) : o01 (setO it x) := o01_u h
theorem o01_o {it : ITt} {x : Int32} {b : Bool} (h : o01 (setO it x)) : o01 (setO (setO it x) (oro (setO it x 489 20) b)) := o01_s (oro_01 h)
def w_X9_times (a1 : Int64) (a2 : Int64) (a3 : Int64) (a4 : Int64) (K : LGt → ITt → Prop)  (lg : LGt) (it : ITt) : Prop := (o01 it) ∧ (let it1 : ITt := setO it (oro (it 489 20) (ovm a1 a3)); (o01 it1) ∧ (let it5 : ITt := setO it1 (oro (it1 489 20) (ovm a2 a4)); ((¬ it5 489 20 = 0) ∨ (¬ (a2 * a4) = 0)) ∧ (let lg9 : LGt := setU lg (lowv (a1 * a3) (a2 * a4) (it5 489 20)).1 (lowv (a1 * a3) (a2 * a4) (it5 489 20)).2; K lg9 it5)))
def sp_X9_times : Spc := fun as N lg it rf K => match as with | [.ref a0, .long a1, .long a2, .long a3, .long a4] => (N = NT ∧ rf = RF0 ∧ a0 = 489) ∧ ∃ R : LGt → ITt → Prop, w_X9_times a1 a2 a3 a4 R  lg it ∧ ∀ lg' it', R lg' it' → K none lg' it' RF0 | _ => False
def T_X9_times : Tab := (FL_X9, CL_X9, JL_X9, [(137, 0, 3, 9, 0, sp_X9_productF), (141, 0, 3, 9, 0, sp_X9_lowestF)], 99, none)
def rm_X9_times : Room := { frames := 1, cells := 0, slots := 0, locals := 30 }
set_option maxRecDepth 100000 in
theorem bd_X9_times (as : List Value) (N : Nat) (lg : LGt) (it : ITt) (rf : RFt) (Q : Post) (h : sp_X9_times as N lg it rf Q) : Bd T_X9_times cX9_times 11 0 as N lg it rf Q := by
  unfold sp_X9_times at h
  split at h
  · rename_i a0 a1 a2 a3 a4
    refine ⟨Nat.le_of_ble_eq_true rfl, fun P hs hw hf => ?_⟩
    obtain ⟨⟨rfl, rfl, rfl⟩, R, h, hk⟩ := h
    unfold w_X9_times at h
    exact gs (P := P) [.ref 489, .long a1, uu, .long a2, uu, .long a3, uu, .long a4, uu, uu, uu] rfl (hs dX9_times_0 (hs dX9_times_1 (hs dX9_times_2 ((have hc2 := And.left h; have h3 := And.right h; hs dX9_times_4 (And.intro (oq_489) (And.intro (((And.intro (rfl) ((And.intro (rfl) ((And.intro (rfl) (hc2)))))))) (n0 (P := P) (let it1 : ITt := setO it (oro (it 489 20) (ovm a1 a3)); have h4 := h3; hs dX9_times_7 (gs (P := P) [.ref 489, .long a1, uu, .long a2, uu, .long a3, uu, .long a4, uu, .long (a1 * a3), uu] rfl (hs dX9_times_9 (hs dX9_times_10 (hs dX9_times_12 (hs dX9_times_13 (hs dX9_times_14 ((have hc6 := And.left h4; have h7 := And.right h4; hs dX9_times_16 (And.intro (oq_489) (And.intro (((And.intro (rfl) ((And.intro (rfl) ((And.intro (rfl) (hc6)))))))) (n0 (P := P) (let it5 : ITt := setO it1 (oro (it1 489 20) (ovm a2 a4)); have h8 := h7; (have hc10 := And.left h8; have h11 := And.right h8; hs dX9_times_19 (And.intro (oq_489) (And.intro (((And.intro (rfl) ((And.intro (rfl) ((And.intro (rfl) (hc10)))))))) (n0 (P := P) (let lg9 : LGt := setU lg (lowv (a1 * a3) (a2 * a4) (it5 489 20)).1 (lowv (a1 * a3) (a2 * a4) (it5 489 20)).2; have h12 := h11; hs dX9_times_22 (And.intro rfl (And.intro rfl (hk _ _ h12)))))))))))))))))))))))))))))
  · exact h.elim
theorem ct_X9_times {E : Ev} {l : Launch} : CT E l yX9_times (wsY yX9_times cX9_times 11 none) rm_X9_times 0 sp_X9_times := ct_of (T := T_X9_times) (own := RX9) (by decide) rfl (fun ci h10 hc => by have h2 : (99 : Nat) = ci := Nat.eq_of_beq_eq_true hc; omega) ⟨rfl, rfl⟩ ⟨fok_X9, clok_X9, jok_X9, List.forall_mem_cons.mpr ⟨cok_V ct_X9_productF (by decide) rfl ml_X9_137 im_X9_product se_X9_product co_X9_product mo_X9_product (by decide), List.forall_mem_cons.mpr ⟨cok_V ct_X9_lowestF (by decide) rfl ml_X9_141 im_X9_lowest se_X9_lowest co_X9_lowest mo_X9_lowest (by decide), fun _ h => absurd h List.not_mem_nil⟩⟩⟩ bd_X9_times
def sp_X9_timesF : Spc := fun as N lg it rf K => match as with | [.ref a0, .long a1, .long a2, .long a3, .long a4] => (N = NT ∧ rf = RF0 ∧ a0 = 489 ∧ (o01 it) ∧ (¬ a2 = 0) ∧ (¬ a4 = 0)) ∧ K none (setU lg (gTimes a1 a2 a3 a4 (it 489 20)).1 (gTimes a1 a2 a3 a4 (it 489 20)).2.1) (setO it (gTimes a1 a2 a3 a4 (it 489 20)).2.2) rf | _ => False
theorem sn_X9_timesF (as : List Value) (N : Nat) (lg : LGt) (it : ITt) (rf : RFt) (K : Post) (h : sp_X9_timesF as N lg it rf K) : sp_X9_times as N lg it rf K := by
  unfold sp_X9_timesF at h
  split at h
  · rename_i a0 a1 a2 a3 a4
    obtain ⟨⟨rfl, rfl, rfl, hx0, hx1, hx2⟩, hk⟩ := h
    refine ⟨⟨rfl, rfl, rfl⟩, fun lg' it' => lg' = setU lg (gTimes a1 a2 a3 a4 (it 489 20)).1 (gTimes a1 a2 a3 a4 (it 489 20)).2.1 ∧ it' = setO it (gTimes a1 a2 a3 a4 (it 489 20)).2.2, ?_, fun lg' it' q => by obtain ⟨rfl, rfl⟩ := q; exact hk⟩
    have z1 := o01_s (it := it) (oro_01 (b := ovm a1 a3) hx0)
    unfold w_X9_times
    refine ⟨hx0, z1, ?_, ?_, ?_⟩
    · simp only [setO_o]
      exact lowc hx1 hx2
    · simp only [setO_o, setO_setO]
      rfl
    · simp only [setO_o, setO_setO]
      rfl
  · exact h.elim
theorem ct_X9_timesF {E : Ev} {l : Launch} : CT E l yX9_times (wsY yX9_times cX9_times 11 none) rm_X9_times 0 sp_X9_timesF := ct_weak ct_X9_times sn_X9_timesF
def w_X9_plus (a1 : Int64) (a2 : Int64) (a3 : Int64) (a4 : Int64) (K : LGt → ITt → Prop)  (lg : LGt) (it : ITt) : Prop := (o01 it) ∧ (let it1 : ITt := setO it (oro (it 489 20) (ovm a1 a4)); (o01 it1) ∧ (let it5 : ITt := setO it1 (oro (it1 489 20) (ovm a3 a2)); (o01 it5) ∧ (let it9 : ITt := setO it5 (oro (it5 489 20) (ovs (a1 * a4) (a3 * a2))); (o01 it9) ∧ (let it13 : ITt := setO it9 (oro (it9 489 20) (ovm a2 a4)); ((¬ it13 489 20 = 0) ∨ (¬ (a2 * a4) = 0)) ∧ (let lg17 : LGt := setU lg (lowv ((a1 * a4) + (a3 * a2)) (a2 * a4) (it13 489 20)).1 (lowv ((a1 * a4) + (a3 * a2)) (a2 * a4) (it13 489 20)).2; K lg17 it13)))))
def sp_X9_plus : Spc := fun as N lg it rf K => match as with | [.ref a0, .long a1, .long a2, .long a3, .long a4] => (N = NT ∧ rf = RF0 ∧ a0 = 489) ∧ ∃ R : LGt → ITt → Prop, w_X9_plus a1 a2 a3 a4 R  lg it ∧ ∀ lg' it', R lg' it' → K none lg' it' RF0 | _ => False
def T_X9_plus : Tab := (FL_X9, CL_X9, JL_X9, [(137, 0, 3, 9, 0, sp_X9_productF), (148, 0, 3, 9, 0, sp_X9_sumF), (141, 0, 3, 9, 0, sp_X9_lowestF)], 99, none)
def rm_X9_plus : Room := { frames := 1, cells := 0, slots := 0, locals := 30 }
set_option maxRecDepth 100000 in
theorem bd_X9_plus (as : List Value) (N : Nat) (lg : LGt) (it : ITt) (rf : RFt) (Q : Post) (h : sp_X9_plus as N lg it rf Q) : Bd T_X9_plus cX9_plus 11 0 as N lg it rf Q := by
  unfold sp_X9_plus at h
  split at h
  · rename_i a0 a1 a2 a3 a4
    refine ⟨Nat.le_of_ble_eq_true rfl, fun P hs hw hf => ?_⟩
    obtain ⟨⟨rfl, rfl, rfl⟩, R, h, hk⟩ := h
    unfold w_X9_plus at h
    exact gs (P := P) [.ref 489, .long a1, uu, .long a2, uu, .long a3, uu, .long a4, uu, uu, uu] rfl (hs dX9_plus_0 (hs dX9_plus_1 (hs dX9_plus_2 ((have hc2 := And.left h; have h3 := And.right h; hs dX9_plus_4 (And.intro (oq_489) (And.intro (((And.intro (rfl) ((And.intro (rfl) ((And.intro (rfl) (hc2)))))))) (n0 (P := P) (let it1 : ITt := setO it (oro (it 489 20) (ovm a1 a4)); have h4 := h3; hs dX9_plus_7 (gs (P := P) [.ref 489, .long a1, uu, .long a2, uu, .long a3, uu, .long a4, uu, .long (a1 * a4), uu] rfl (hs dX9_plus_9 (hs dX9_plus_10 (hs dX9_plus_12 (hs dX9_plus_13 (hs dX9_plus_15 ((have hc6 := And.left h4; have h7 := And.right h4; hs dX9_plus_16 (And.intro (oq_489) (And.intro (((And.intro (rfl) ((And.intro (rfl) ((And.intro (rfl) (hc6)))))))) (n0 (P := P) (let it5 : ITt := setO it1 (oro (it1 489 20) (ovm a3 a2)); have h8 := h7; (have hc10 := And.left h8; have h11 := And.right h8; hs dX9_plus_19 (And.intro (oq_489) (And.intro (((And.intro (rfl) ((And.intro (rfl) ((And.intro (rfl) (hc10)))))))) (n0 (P := P) (let it9 : ITt := setO it5 (oro (it5 489 20) (ovs (a1 * a4) (a3 * a2))); have h12 := h11; hs dX9_plus_22 (gs (P := P) [.ref 489, .long a1, uu, .long a2, uu, .long a3, uu, .long a4, uu, .long ((a1 * a4) + (a3 * a2)), uu] rfl (hs dX9_plus_24 (hs dX9_plus_25 (hs dX9_plus_27 (hs dX9_plus_28 (hs dX9_plus_29 ((have hc14 := And.left h12; have h15 := And.right h12; hs dX9_plus_31 (And.intro (oq_489) (And.intro (((And.intro (rfl) ((And.intro (rfl) ((And.intro (rfl) (hc14)))))))) (n0 (P := P) (let it13 : ITt := setO it9 (oro (it9 489 20) (ovm a2 a4)); have h16 := h15; (have hc18 := And.left h16; have h19 := And.right h16; hs dX9_plus_34 (And.intro (oq_489) (And.intro (((And.intro (rfl) ((And.intro (rfl) ((And.intro (rfl) (hc18)))))))) (n0 (P := P) (let lg17 : LGt := setU lg (lowv ((a1 * a4) + (a3 * a2)) (a2 * a4) (it13 489 20)).1 (lowv ((a1 * a4) + (a3 * a2)) (a2 * a4) (it13 489 20)).2; have h20 := h19; hs dX9_plus_37 (And.intro rfl (And.intro rfl (hk _ _ h20))))))))))))))))))))))))))))))))))))))))))))))
  · exact h.elim
theorem ct_X9_plus {E : Ev} {l : Launch} : CT E l yX9_plus (wsY yX9_plus cX9_plus 11 none) rm_X9_plus 0 sp_X9_plus := ct_of (T := T_X9_plus) (own := RX9) (by decide) rfl (fun ci h10 hc => by have h2 : (99 : Nat) = ci := Nat.eq_of_beq_eq_true hc; omega) ⟨rfl, rfl⟩ ⟨fok_X9, clok_X9, jok_X9, List.forall_mem_cons.mpr ⟨cok_V ct_X9_productF (by decide) rfl ml_X9_137 im_X9_product se_X9_product co_X9_product mo_X9_product (by decide), List.forall_mem_cons.mpr ⟨cok_V ct_X9_sumF (by decide) rfl ml_X9_148 im_X9_sum se_X9_sum co_X9_sum mo_X9_sum (by decide), List.forall_mem_cons.mpr ⟨cok_V ct_X9_lowestF (by decide) rfl ml_X9_141 im_X9_lowest se_X9_lowest co_X9_lowest mo_X9_lowest (by decide), fun _ h => absurd h List.not_mem_nil⟩⟩⟩⟩ bd_X9_plus
def sp_X9_plusF : Spc := fun as N lg it rf K => match as with | [.ref a0, .long a1, .long a2, .long a3, .long a4] => (N = NT ∧ rf = RF0 ∧ a0 = 489 ∧ (o01 it) ∧ (¬ a2 = 0) ∧ (¬ a4 = 0)) ∧ K none (setU lg (gPlus a1 a2 a3 a4 (it 489 20)).1 (gPlus a1 a2 a3 a4 (it 489 20)).2.1) (setO it (gPlus a1 a2 a3 a4 (it 489 20)).2.2) rf | _ => False
theorem sn_X9_plusF (as : List Value) (N : Nat) (lg : LGt) (it : ITt) (rf : RFt) (K : Post) (h : sp_X9_plusF as N lg it rf K) : sp_X9_plus as N lg it rf K := by
  unfold sp_X9_plusF at h
  split at h
  · rename_i a0 a1 a2 a3 a4
    obtain ⟨⟨rfl, rfl, rfl, hx0, hx1, hx2⟩, hk⟩ := h
    refine ⟨⟨rfl, rfl, rfl⟩, fun lg' it' => lg' = setU lg (gPlus a1 a2 a3 a4 (it 489 20)).1 (gPlus a1 a2 a3 a4 (it 489 20)).2.1 ∧ it' = setO it (gPlus a1 a2 a3 a4 (it 489 20)).2.2, ?_, fun lg' it' q => by obtain ⟨rfl, rfl⟩ := q; exact hk⟩
    have z1 := o01_s (it := it) (oro_01 (b := ovm a1 a4) hx0)
    unfold w_X9_plus
    refine ⟨hx0, z1, o01_o z1, o01_o (o01_o z1), ?_, ?_, ?_⟩
    · simp only [setO_o]
      exact lowc hx1 hx2
    · simp only [setO_o, setO_setO]
      rfl
    · simp only [setO_o, setO_setO]
      rfl
  · exact h.elim
theorem ct_X9_plusF {E : Ev} {l : Launch} : CT E l yX9_plus (wsY yX9_plus cX9_plus 11 none) rm_X9_plus 0 sp_X9_plusF := ct_weak ct_X9_plus sn_X9_plusF
def w_X9_less (a1 : Int64) (a2 : Int64) (a3 : Int64) (a4 : Int64) (K : LGt → ITt → Prop)  (lg : LGt) (it : ITt) : Prop := (o01 it) ∧ (let it1 : ITt := setO it (oro (it 489 20) (ovm a1 a4)); (o01 it1) ∧ (let it5 : ITt := setO it1 (oro (it1 489 20) (ovm a3 a2)); (o01 it5) ∧ (let it9 : ITt := setO it5 (oro (it5 489 20) (ovd (a1 * a4) (a3 * a2))); (o01 it9) ∧ (let it13 : ITt := setO it9 (oro (it9 489 20) (ovm a2 a4)); ((¬ it13 489 20 = 0) ∨ (¬ (a2 * a4) = 0)) ∧ (let lg17 : LGt := setU lg (lowv ((a1 * a4) - (a3 * a2)) (a2 * a4) (it13 489 20)).1 (lowv ((a1 * a4) - (a3 * a2)) (a2 * a4) (it13 489 20)).2; K lg17 it13)))))
def sp_X9_less : Spc := fun as N lg it rf K => match as with | [.ref a0, .long a1, .long a2, .long a3, .long a4] => (N = NT ∧ rf = RF0 ∧ a0 = 489) ∧ ∃ R : LGt → ITt → Prop, w_X9_less a1 a2 a3 a4 R  lg it ∧ ∀ lg' it', R lg' it' → K none lg' it' RF0 | _ => False
def T_X9_less : Tab := (FL_X9, CL_X9, JL_X9, [(137, 0, 3, 9, 0, sp_X9_productF), (145, 0, 3, 9, 0, sp_X9_differenceF), (141, 0, 3, 9, 0, sp_X9_lowestF)], 99, none)
def rm_X9_less : Room := { frames := 1, cells := 0, slots := 0, locals := 30 }
set_option maxRecDepth 100000 in
theorem bd_X9_less (as : List Value) (N : Nat) (lg : LGt) (it : ITt) (rf : RFt) (Q : Post) (h : sp_X9_less as N lg it rf Q) : Bd T_X9_less cX9_less 11 0 as N lg it rf Q := by
  unfold sp_X9_less at h
  split at h
  · rename_i a0 a1 a2 a3 a4
    refine ⟨Nat.le_of_ble_eq_true rfl, fun P hs hw hf => ?_⟩
    obtain ⟨⟨rfl, rfl, rfl⟩, R, h, hk⟩ := h
    unfold w_X9_less at h
    exact gs (P := P) [.ref 489, .long a1, uu, .long a2, uu, .long a3, uu, .long a4, uu, uu, uu] rfl (hs dX9_less_0 (hs dX9_less_1 (hs dX9_less_2 ((have hc2 := And.left h; have h3 := And.right h; hs dX9_less_4 (And.intro (oq_489) (And.intro (((And.intro (rfl) ((And.intro (rfl) ((And.intro (rfl) (hc2)))))))) (n0 (P := P) (let it1 : ITt := setO it (oro (it 489 20) (ovm a1 a4)); have h4 := h3; hs dX9_less_7 (gs (P := P) [.ref 489, .long a1, uu, .long a2, uu, .long a3, uu, .long a4, uu, .long (a1 * a4), uu] rfl (hs dX9_less_9 (hs dX9_less_10 (hs dX9_less_12 (hs dX9_less_13 (hs dX9_less_15 ((have hc6 := And.left h4; have h7 := And.right h4; hs dX9_less_16 (And.intro (oq_489) (And.intro (((And.intro (rfl) ((And.intro (rfl) ((And.intro (rfl) (hc6)))))))) (n0 (P := P) (let it5 : ITt := setO it1 (oro (it1 489 20) (ovm a3 a2)); have h8 := h7; (have hc10 := And.left h8; have h11 := And.right h8; hs dX9_less_19 (And.intro (oq_489) (And.intro (((And.intro (rfl) ((And.intro (rfl) ((And.intro (rfl) (hc10)))))))) (n0 (P := P) (let it9 : ITt := setO it5 (oro (it5 489 20) (ovd (a1 * a4) (a3 * a2))); have h12 := h11; hs dX9_less_22 (gs (P := P) [.ref 489, .long a1, uu, .long a2, uu, .long a3, uu, .long a4, uu, .long ((a1 * a4) - (a3 * a2)), uu] rfl (hs dX9_less_24 (hs dX9_less_25 (hs dX9_less_27 (hs dX9_less_28 (hs dX9_less_29 ((have hc14 := And.left h12; have h15 := And.right h12; hs dX9_less_31 (And.intro (oq_489) (And.intro (((And.intro (rfl) ((And.intro (rfl) ((And.intro (rfl) (hc14)))))))) (n0 (P := P) (let it13 : ITt := setO it9 (oro (it9 489 20) (ovm a2 a4)); have h16 := h15; (have hc18 := And.left h16; have h19 := And.right h16; hs dX9_less_34 (And.intro (oq_489) (And.intro (((And.intro (rfl) ((And.intro (rfl) ((And.intro (rfl) (hc18)))))))) (n0 (P := P) (let lg17 : LGt := setU lg (lowv ((a1 * a4) - (a3 * a2)) (a2 * a4) (it13 489 20)).1 (lowv ((a1 * a4) - (a3 * a2)) (a2 * a4) (it13 489 20)).2; have h20 := h19; hs dX9_less_37 (And.intro rfl (And.intro rfl (hk _ _ h20))))))))))))))))))))))))))))))))))))))))))))))
  · exact h.elim
theorem ct_X9_less {E : Ev} {l : Launch} : CT E l yX9_less (wsY yX9_less cX9_less 11 none) rm_X9_less 0 sp_X9_less := ct_of (T := T_X9_less) (own := RX9) (by decide) rfl (fun ci h10 hc => by have h2 : (99 : Nat) = ci := Nat.eq_of_beq_eq_true hc; omega) ⟨rfl, rfl⟩ ⟨fok_X9, clok_X9, jok_X9, List.forall_mem_cons.mpr ⟨cok_V ct_X9_productF (by decide) rfl ml_X9_137 im_X9_product se_X9_product co_X9_product mo_X9_product (by decide), List.forall_mem_cons.mpr ⟨cok_V ct_X9_differenceF (by decide) rfl ml_X9_145 im_X9_difference se_X9_difference co_X9_difference mo_X9_difference (by decide), List.forall_mem_cons.mpr ⟨cok_V ct_X9_lowestF (by decide) rfl ml_X9_141 im_X9_lowest se_X9_lowest co_X9_lowest mo_X9_lowest (by decide), fun _ h => absurd h List.not_mem_nil⟩⟩⟩⟩ bd_X9_less
def sp_X9_lessF : Spc := fun as N lg it rf K => match as with | [.ref a0, .long a1, .long a2, .long a3, .long a4] => (N = NT ∧ rf = RF0 ∧ a0 = 489 ∧ (o01 it) ∧ (¬ a2 = 0) ∧ (¬ a4 = 0)) ∧ K none (setU lg (gLess a1 a2 a3 a4 (it 489 20)).1 (gLess a1 a2 a3 a4 (it 489 20)).2.1) (setO it (gLess a1 a2 a3 a4 (it 489 20)).2.2) rf | _ => False
theorem sn_X9_lessF (as : List Value) (N : Nat) (lg : LGt) (it : ITt) (rf : RFt) (K : Post) (h : sp_X9_lessF as N lg it rf K) : sp_X9_less as N lg it rf K := by
  unfold sp_X9_lessF at h
  split at h
  · rename_i a0 a1 a2 a3 a4
    obtain ⟨⟨rfl, rfl, rfl, hx0, hx1, hx2⟩, hk⟩ := h
    refine ⟨⟨rfl, rfl, rfl⟩, fun lg' it' => lg' = setU lg (gLess a1 a2 a3 a4 (it 489 20)).1 (gLess a1 a2 a3 a4 (it 489 20)).2.1 ∧ it' = setO it (gLess a1 a2 a3 a4 (it 489 20)).2.2, ?_, fun lg' it' q => by obtain ⟨rfl, rfl⟩ := q; exact hk⟩
    have z1 := o01_s (it := it) (oro_01 (b := ovm a1 a4) hx0)
    unfold w_X9_less
    refine ⟨hx0, z1, o01_o z1, o01_o (o01_o z1), ?_, ?_, ?_⟩
    · simp only [setO_o]
      exact lowc hx1 hx2
    · simp only [setO_o, setO_setO]
      rfl
    · simp only [setO_o, setO_setO]
      rfl
  · exact h.elim
theorem ct_X9_lessF {E : Ev} {l : Launch} : CT E l yX9_less (wsY yX9_less cX9_less 11 none) rm_X9_less 0 sp_X9_lessF := ct_weak ct_X9_less sn_X9_lessF
def w_X9_by_b43 (a1 : Int64) (a2 : Int64) (a3 : Int64) (a4 : Int64) (K : LGt → ITt → Prop)  (x9 : Int64) (x11 : Int64) (lg : LGt) (it : ITt) : Prop := ((¬ it 489 20 = 0) ∨ (¬ x11 = 0)) ∧ (let lg19 : LGt := setU lg (lowv x9 x11 (it 489 20)).1 (lowv x9 x11 (it 489 20)).2; K lg19 it)
def w_X9_by (a1 : Int64) (a2 : Int64) (a3 : Int64) (a4 : Int64) (K : LGt → ITt → Prop)  (lg : LGt) (it : ITt) : Prop := (o01 it) ∧ (let it1 : ITt := setO it (oro (it 489 20) (ovm a1 a4)); (o01 it1) ∧ (let it5 : ITt := setO it1 (oro (it1 489 20) (ovm a2 a3)); ((0 ≤ a3) → (w_X9_by_b43 a1 a2 a3 a4 K  (a1 * a4) (a2 * a3) lg it5)) ∧ ((¬ 0 ≤ a3) → ((o01 it5) ∧ (let it11 : ITt := setO it5 (oro (it5 489 20) (ovd (0 : Int64) (a1 * a4))); (o01 it11) ∧ (let it15 : ITt := setO it11 (oro (it11 489 20) (ovd (0 : Int64) (a2 * a3))); w_X9_by_b43 a1 a2 a3 a4 K  ((0 : Int64) - (a1 * a4)) ((0 : Int64) - (a2 * a3)) lg it15))))))
def sp_X9_by : Spc := fun as N lg it rf K => match as with | [.ref a0, .long a1, .long a2, .long a3, .long a4] => (N = NT ∧ rf = RF0 ∧ a0 = 489) ∧ ∃ R : LGt → ITt → Prop, w_X9_by a1 a2 a3 a4 R  lg it ∧ ∀ lg' it', R lg' it' → K none lg' it' RF0 | _ => False
def T_X9_by : Tab := (FL_X9, CL_X9, JL_X9, [(137, 0, 3, 9, 0, sp_X9_productF), (145, 0, 3, 9, 0, sp_X9_differenceF), (141, 0, 3, 9, 0, sp_X9_lowestF)], 99, none)
def rm_X9_by : Room := { frames := 1, cells := 0, slots := 0, locals := 30 }
set_option maxRecDepth 100000 in
theorem bd_X9_by (as : List Value) (N : Nat) (lg : LGt) (it : ITt) (rf : RFt) (Q : Post) (h : sp_X9_by as N lg it rf Q) : Bd T_X9_by cX9_by 13 0 as N lg it rf Q := by
  unfold sp_X9_by at h
  split at h
  · rename_i a0 a1 a2 a3 a4
    refine ⟨Nat.le_of_ble_eq_true rfl, fun P hs hw hf => ?_⟩
    obtain ⟨⟨rfl, rfl, rfl⟩, R, h, hk⟩ := h
    have b43 : ∀   (x9 : Int64) (x11 : Int64) (lg : LGt) (it : ITt), w_X9_by_b43 a1 a2 a3 a4 R  x9 x11 lg it → P 43 [.ref 489, uu, uu, uu, uu, uu, uu, uu, uu, .long x9, uu, .long x11, uu] [] NT lg it RF0 := by
      intro x9 x11 lg it h
      unfold w_X9_by_b43 at h
      exact (hs dX9_by_43 (hs dX9_by_44 (hs dX9_by_46 ((have hc20 := And.left h; have h21 := And.right h; hs dX9_by_48 (And.intro (oq_489) (And.intro (((And.intro (rfl) ((And.intro (rfl) ((And.intro (rfl) (hc20)))))))) (n0 (P := P) (let lg19 : LGt := setU lg (lowv x9 x11 (it 489 20)).1 (lowv x9 x11 (it 489 20)).2; have h22 := h21; hs dX9_by_51 (And.intro rfl (And.intro rfl (hk _ _ h22))))))))))))
    unfold w_X9_by at h
    exact gs (P := P) [.ref 489, .long a1, uu, .long a2, uu, .long a3, uu, .long a4, uu, uu, uu, uu, uu] rfl (hs dX9_by_0 (hs dX9_by_1 (hs dX9_by_2 ((have hc2 := And.left h; have h3 := And.right h; hs dX9_by_4 (And.intro (oq_489) (And.intro (((And.intro (rfl) ((And.intro (rfl) ((And.intro (rfl) (hc2)))))))) (n0 (P := P) (let it1 : ITt := setO it (oro (it 489 20) (ovm a1 a4)); have h4 := h3; hs dX9_by_7 (gs (P := P) [.ref 489, .long a1, uu, .long a2, uu, .long a3, uu, .long a4, uu, .long (a1 * a4), uu, uu, uu] rfl (hs dX9_by_9 (hs dX9_by_10 (hs dX9_by_11 ((have hc6 := And.left h4; have h7 := And.right h4; hs dX9_by_13 (And.intro (oq_489) (And.intro (((And.intro (rfl) ((And.intro (rfl) ((And.intro (rfl) (hc6)))))))) (n0 (P := P) (let it5 : ITt := setO it1 (oro (it1 489 20) (ovm a2 a3)); have h8 := h7; hs dX9_by_16 (gs (P := P) [.ref 489, .long a1, uu, .long a2, uu, .long a3, uu, .long a4, uu, .long (a1 * a4), uu, .long (a2 * a3), uu] rfl (hs dX9_by_18 (hs dX9_by_20 (gxl (P := P) kl_0 (hs dX9_by_21 (hs dX9_by_22 (And.intro (fun c => have h9 := And.left h8 ((lg_cmp_ge _ _).mp c); hf [.ref 489, uu, uu, uu, uu, uu, uu, uu, uu, .long (a1 * a4), uu, .long (a2 * a3), uu] ⟨Or.inr rfl, ⟨Or.inl rfl, ⟨Or.inl rfl, ⟨Or.inl rfl, ⟨Or.inl rfl, ⟨Or.inl rfl, ⟨Or.inl rfl, ⟨Or.inl rfl, ⟨Or.inl rfl, ⟨Or.inr rfl, ⟨Or.inl rfl, ⟨Or.inr rfl, ⟨Or.inl rfl, trivial⟩⟩⟩⟩⟩⟩⟩⟩⟩⟩⟩⟩⟩ (b43   _ _ _ _  h9)) (fun c => have h10 := And.right h8 (fun q => c ((lg_cmp_ge _ _).mpr q)); hs dX9_by_25 (hs dX9_by_26 (gxl (P := P) kl_0 (hs dX9_by_27 ((have hc12 := And.left h10; have h13 := And.right h10; hs dX9_by_29 (And.intro (oq_489) (And.intro (((And.intro (rfl) ((And.intro (rfl) ((And.intro (rfl) (hc12)))))))) (n0 (P := P) (let it11 : ITt := setO it5 (oro (it5 489 20) (ovd (0 : Int64) (a1 * a4))); have h14 := h13; hs dX9_by_32 (gs (P := P) [.ref 489, .long a1, uu, .long a2, uu, .long a3, uu, .long a4, uu, .long ((0 : Int64) - (a1 * a4)), uu, .long (a2 * a3), uu] rfl (hs dX9_by_34 (hs dX9_by_35 (gxl (P := P) kl_0 (hs dX9_by_36 ((have hc16 := And.left h14; have h17 := And.right h14; hs dX9_by_38 (And.intro (oq_489) (And.intro (((And.intro (rfl) ((And.intro (rfl) ((And.intro (rfl) (hc16)))))))) (n0 (P := P) (let it15 : ITt := setO it11 (oro (it11 489 20) (ovd (0 : Int64) (a2 * a3))); have h18 := h17; hs dX9_by_41 (gs (P := P) [.ref 489, .long a1, uu, .long a2, uu, .long a3, uu, .long a4, uu, .long ((0 : Int64) - (a1 * a4)), uu, .long ((0 : Int64) - (a2 * a3)), uu] rfl (hf [.ref 489, uu, uu, uu, uu, uu, uu, uu, uu, .long ((0 : Int64) - (a1 * a4)), uu, .long ((0 : Int64) - (a2 * a3)), uu] ⟨Or.inr rfl, ⟨Or.inl rfl, ⟨Or.inl rfl, ⟨Or.inl rfl, ⟨Or.inl rfl, ⟨Or.inl rfl, ⟨Or.inl rfl, ⟨Or.inl rfl, ⟨Or.inl rfl, ⟨Or.inr rfl, ⟨Or.inl rfl, ⟨Or.inr rfl, ⟨Or.inl rfl, trivial⟩⟩⟩⟩⟩⟩⟩⟩⟩⟩⟩⟩⟩ (b43   _ _ _ _  h18))))))))))))))))))))))))))))))))))))))))))))))))))
  · exact h.elim
theorem ct_X9_by {E : Ev} {l : Launch} : CT E l yX9_by (wsY yX9_by cX9_by 13 none) rm_X9_by 0 sp_X9_by := ct_of (T := T_X9_by) (own := RX9) (by decide) rfl (fun ci h10 hc => by have h2 : (99 : Nat) = ci := Nat.eq_of_beq_eq_true hc; omega) ⟨rfl, rfl⟩ ⟨fok_X9, clok_X9, jok_X9, List.forall_mem_cons.mpr ⟨cok_V ct_X9_productF (by decide) rfl ml_X9_137 im_X9_product se_X9_product co_X9_product mo_X9_product (by decide), List.forall_mem_cons.mpr ⟨cok_V ct_X9_differenceF (by decide) rfl ml_X9_145 im_X9_difference se_X9_difference co_X9_difference mo_X9_difference (by decide), List.forall_mem_cons.mpr ⟨cok_V ct_X9_lowestF (by decide) rfl ml_X9_141 im_X9_lowest se_X9_lowest co_X9_lowest mo_X9_lowest (by decide), fun _ h => absurd h List.not_mem_nil⟩⟩⟩⟩ bd_X9_by
def sp_X9_byF : Spc := fun as N lg it rf K => match as with | [.ref a0, .long a1, .long a2, .long a3, .long a4] => (N = NT ∧ rf = RF0 ∧ a0 = 489 ∧ (o01 it) ∧ (¬ a2 = 0) ∧ ((¬ a3 = 0) ∨ (¬ it 489 20 = 0))) ∧ K none (setU lg (gBy a1 a2 a3 a4 (it 489 20)).1 (gBy a1 a2 a3 a4 (it 489 20)).2.1) (setO it (gBy a1 a2 a3 a4 (it 489 20)).2.2) rf | _ => False
theorem sn_X9_byF (as : List Value) (N : Nat) (lg : LGt) (it : ITt) (rf : RFt) (K : Post) (h : sp_X9_byF as N lg it rf K) : sp_X9_by as N lg it rf K := by
  unfold sp_X9_byF at h
  split at h
  · rename_i a0 a1 a2 a3 a4
    obtain ⟨⟨rfl, rfl, rfl, hx0, hx1, hx2⟩, hk⟩ := h
    refine ⟨⟨rfl, rfl, rfl⟩, fun lg' it' => lg' = setU lg (gBy a1 a2 a3 a4 (it 489 20)).1 (gBy a1 a2 a3 a4 (it 489 20)).2.1 ∧ it' = setO it (gBy a1 a2 a3 a4 (it 489 20)).2.2, ?_, fun lg' it' q => by obtain ⟨rfl, rfl⟩ := q; exact hk⟩
    have z1 := o01_s (it := it) (oro_01 (b := ovm a1 a4) hx0)
    unfold w_X9_by
    refine ⟨hx0, z1, fun c => ?_, fun c => ⟨o01_o z1, o01_o (o01_o z1), ?_⟩⟩
    · unfold w_X9_by_b43
      simp only [setO_o, setO_setO]
      refine ⟨?_, ?_, ?_⟩
      · rcases hx2 with h2 | h2
        · exact lowc hx1 h2
        · exact Or.inl (oro_n (oro_n h2))
      · unfold gBy
        rw [if_pos c]
        rfl
      · unfold gBy
        rw [if_pos c]
        rfl
    · unfold w_X9_by_b43
      simp only [setO_o, setO_setO]
      refine ⟨?_, ?_, ?_⟩
      · rcases hx2 with h2 | h2
        · rcases lowc (o := oro (it 489 20) (ovm a1 a4)) hx1 h2 with h3 | h3
          · exact Or.inl (oro_n (oro_n h3))
          · exact Or.inr (sub_ne h3)
        · exact Or.inl (oro_n (oro_n (oro_n (oro_n h2))))
      · unfold gBy
        rw [if_neg c]
        rfl
      · unfold gBy
        rw [if_neg c]
        rfl
  · exact h.elim
theorem ct_X9_byF {E : Ev} {l : Launch} : CT E l yX9_by (wsY yX9_by cX9_by 13 none) rm_X9_by 0 sp_X9_byF := ct_weak ct_X9_by sn_X9_byF
def w_X9_isLess (a1 : Int64) (a2 : Int64) (a3 : Int64) (a4 : Int64) (K : Int32 → LGt → ITt → Prop)  (lg : LGt) (it : ITt) : Prop := (o01 it) ∧ (¬ a2 = 0) ∧ (¬ a4 = 0) ∧ (let q1 : Int64 × Int64 × Int32 := gLess a1 a2 a3 a4 (it 489 20); let lg2 : LGt := setU lg q1.1 q1.2.1; let it3 : ITt := setO it q1.2.2; ((0 ≤ (lg2 489 18)) → (K (0 : Int32) lg2 it3)) ∧ ((¬ 0 ≤ (lg2 489 18)) → (K (1 : Int32) lg2 it3)))
def sp_X9_isLess : Spc := fun as N lg it rf K => match as with | [.ref a0, .long a1, .long a2, .long a3, .long a4] => (N = NT ∧ rf = RF0 ∧ a0 = 489) ∧ ∃ R : Int32 → LGt → ITt → Prop, w_X9_isLess a1 a2 a3 a4 R  lg it ∧ ∀ v lg' it', R v lg' it' → K (some (.int v)) lg' it' RF0 | _ => False
def T_X9_isLess : Tab := (FL_X9, CL_X9, JL_X9, [(151, 0, 5, 9, 0, sp_X9_lessF)], 99, (some .boolean))
def rm_X9_isLess : Room := { frames := 2, cells := 0, slots := 0, locals := 60 }
set_option maxRecDepth 100000 in
theorem bd_X9_isLess (as : List Value) (N : Nat) (lg : LGt) (it : ITt) (rf : RFt) (Q : Post) (h : sp_X9_isLess as N lg it rf Q) : Bd T_X9_isLess cX9_isLess 9 0 as N lg it rf Q := by
  unfold sp_X9_isLess at h
  split at h
  · rename_i a0 a1 a2 a3 a4
    refine ⟨Nat.le_of_ble_eq_true rfl, fun P hs hw hf => ?_⟩
    obtain ⟨⟨rfl, rfl, rfl⟩, R, h, hk⟩ := h
    unfold w_X9_isLess at h
    exact gs (P := P) [.ref 489, .long a1, uu, .long a2, uu, .long a3, uu, .long a4, uu] rfl (hs dX9_isLess_0 (hs dX9_isLess_1 (hs dX9_isLess_2 (hs dX9_isLess_3 (hs dX9_isLess_5 ((have hc4 := And.left h; have h5 := And.right h; have hc6 := And.left h5; have h7 := And.right h5; have hc8 := And.left h7; have h9 := And.right h7; hs dX9_isLess_7 (And.intro (oq_489) (And.intro (((And.intro (rfl) ((And.intro (rfl) ((And.intro (rfl) ((And.intro (hc4) ((And.intro (hc6) (hc8)))))))))))) (n0 (P := P) (let q1 : Int64 × Int64 × Int32 := gLess a1 a2 a3 a4 (it 489 20); let lg2 : LGt := setU lg q1.1 q1.2.1; let it3 : ITt := setO it q1.2.2; have h10 := h9; hs dX9_isLess_10 (hs dX9_isLess_11 (And.intro (oq_489) (hs dX9_isLess_14 (gxl (P := P) kl_0 (hs dX9_isLess_15 (hs dX9_isLess_16 (And.intro (fun c => have h11 := And.left h10 ((lg_cmp_ge _ _).mp c); hs dX9_isLess_23 (gx (P := P) ki_0 (hs dX9_isLess_24 (And.intro rfl (And.intro rfl (And.intro (by decide) (hk _ _ _ h11))))))) (fun c => have h12 := And.right h10 (fun q => c ((lg_cmp_ge _ _).mpr q)); hs dX9_isLess_19 (gx (P := P) ki_1 (hs dX9_isLess_20 (hs dX9_isLess_24 (And.intro rfl (And.intro rfl (And.intro (by decide) (hk _ _ _ h12))))))))))))))))))))))))))
  · exact h.elim
theorem ct_X9_isLess {E : Ev} {l : Launch} : CT E l yX9_isLess (wsY yX9_isLess cX9_isLess 9 (some .boolean)) rm_X9_isLess 0 sp_X9_isLess := ct_of (T := T_X9_isLess) (own := RX9) (by decide) rfl (fun ci h10 hc => by have h2 : (99 : Nat) = ci := Nat.eq_of_beq_eq_true hc; omega) ⟨rfl, rfl⟩ ⟨fok_X9, clok_X9, jok_X9, List.forall_mem_cons.mpr ⟨cok_V ct_X9_lessF (by decide) rfl ml_X9_151 im_X9_less se_X9_less co_X9_less mo_X9_less (by decide), fun _ h => absurd h List.not_mem_nil⟩⟩ bd_X9_isLess
def sp_X9_isLessF : Spc := fun as N lg it rf K => match as with | [.ref a0, .long a1, .long a2, .long a3, .long a4] => (N = NT ∧ rf = RF0 ∧ a0 = 489 ∧ (o01 it) ∧ (¬ a2 = 0) ∧ (¬ a4 = 0)) ∧ K (some (.int (b2 ((gLess a1 a2 a3 a4 (it 489 20)).1 < 0)))) (setU lg (gLess a1 a2 a3 a4 (it 489 20)).1 (gLess a1 a2 a3 a4 (it 489 20)).2.1) (setO it (gLess a1 a2 a3 a4 (it 489 20)).2.2) rf | _ => False
theorem sn_X9_isLessF (as : List Value) (N : Nat) (lg : LGt) (it : ITt) (rf : RFt) (K : Post) (h : sp_X9_isLessF as N lg it rf K) : sp_X9_isLess as N lg it rf K := by
  unfold sp_X9_isLessF at h
  split at h
  · rename_i a0 a1 a2 a3 a4
    obtain ⟨⟨rfl, rfl, rfl, hx0, hx1, hx2⟩, hk⟩ := h
    refine ⟨⟨rfl, rfl, rfl⟩, fun v lg' it' => v = b2 ((gLess a1 a2 a3 a4 (it 489 20)).1 < 0) ∧ lg' = setU lg (gLess a1 a2 a3 a4 (it 489 20)).1 (gLess a1 a2 a3 a4 (it 489 20)).2.1 ∧ it' = setO it (gLess a1 a2 a3 a4 (it 489 20)).2.2, ?_, fun v lg' it' q => by obtain ⟨rfl, rfl, rfl⟩ := q; exact hk⟩
    unfold w_X9_isLess
    have e : setU lg (gLess a1 a2 a3 a4 (it 489 20)).1 (gLess a1 a2 a3 a4 (it 489 20)).2.1 489 18 = (gLess a1 a2 a3 a4 (it 489 20)).1 := by unfold setU; rw [u2_ne (by decide), u2_eq]
    refine ⟨hx0, hx1, hx2, fun c => ?_, fun c => ?_⟩
    · have c1 : 0 ≤ setU lg (gLess a1 a2 a3 a4 (it 489 20)).1 (gLess a1 a2 a3 a4 (it 489 20)).2.1 489 18 := c
      rw [e] at c1
      exact ⟨(b2_n (Int64.not_lt.mpr c1)).symm, rfl, rfl⟩
    · have c1 : ¬ 0 ≤ setU lg (gLess a1 a2 a3 a4 (it 489 20)).1 (gLess a1 a2 a3 a4 (it 489 20)).2.1 489 18 := c
      rw [e] at c1
      exact ⟨(b2_p (Int64.not_le.mp c1)).symm, rfl, rfl⟩
  · exact h.elim
theorem ct_X9_isLessF {E : Ev} {l : Launch} : CT E l yX9_isLess (wsY yX9_isLess cX9_isLess 9 (some .boolean)) rm_X9_isLess 0 sp_X9_isLessF := ct_weak ct_X9_isLess sn_X9_isLessF
def w_X9_quartersUp (a0 : Int32) (K : Int64 → LGt → ITt → Prop)  (lg : LGt) (it : ITt) : Prop := ((¬ a0 = 0) → (((¬ a0 = 4) → (((¬ a0 = 2) → (K a0.toInt64 lg it)) ∧ ((a0 = 2) → (K (1 : Int64) lg it)))) ∧ ((a0 = 4) → (K (1 : Int64) lg it)))) ∧ ((a0 = 0) → (K (0 : Int64) lg it))
def sp_X9_quartersUp : Spc := fun as N lg it rf K => match as with | [.int a0] => (N = NT ∧ rf = RF0) ∧ ∃ R : Int64 → LGt → ITt → Prop, w_X9_quartersUp a0 R  lg it ∧ ∀ v lg' it', R v lg' it' → K (some (.long v)) lg' it' RF0 | _ => False
def T_X9_quartersUp : Tab := (FL_X9, CL_X9, JL_X9, [], 99, (some .long))
def rm_X9_quartersUp : Room := { frames := 0, cells := 0, slots := 0, locals := 0 }
set_option maxRecDepth 100000 in
theorem bd_X9_quartersUp (as : List Value) (N : Nat) (lg : LGt) (it : ITt) (rf : RFt) (Q : Post) (h : sp_X9_quartersUp as N lg it rf Q) : Bd T_X9_quartersUp cX9_quartersUp 1 0 as N lg it rf Q := by
  unfold sp_X9_quartersUp at h
  split at h
  · rename_i a0
    refine ⟨Nat.le_of_ble_eq_true rfl, fun P hs hw hf => ?_⟩
    obtain ⟨⟨rfl, rfl⟩, R, h, hk⟩ := h
    unfold w_X9_quartersUp at h
    exact gs (P := P) [.int a0] rfl (hs dX9_quartersUp_0 (hs dX9_quartersUp_1 (And.intro (fun c => have h1 := And.left h c; hs dX9_quartersUp_8 (hs dX9_quartersUp_9 (gx (P := P) ki_4 (hs dX9_quartersUp_10 (And.intro (fun c => have h3 := And.left h1 c; hs dX9_quartersUp_17 (hs dX9_quartersUp_18 (gx (P := P) ki_2 (hs dX9_quartersUp_19 (And.intro (fun c => have h5 := And.left h3 c; hs dX9_quartersUp_26 (hs dX9_quartersUp_27 (hs dX9_quartersUp_28 (And.intro rfl (And.intro rfl (hk _ _ _ h5)))))) (fun c => have h6 := And.right h3 c; hs dX9_quartersUp_22 (gxl (P := P) kl_1 (hs dX9_quartersUp_23 (hs dX9_quartersUp_28 (And.intro rfl (And.intro rfl (hk _ _ _ h6)))))))))))) (fun c => have h4 := And.right h1 c; hs dX9_quartersUp_13 (gxl (P := P) kl_1 (hs dX9_quartersUp_14 (hs dX9_quartersUp_28 (And.intro rfl (And.intro rfl (hk _ _ _ h4)))))))))))) (fun c => have h2 := And.right h c; hs dX9_quartersUp_4 (gxl (P := P) kl_0 (hs dX9_quartersUp_5 (hs dX9_quartersUp_28 (And.intro rfl (And.intro rfl (hk _ _ _ h2))))))))))
  · exact h.elim
theorem ct_X9_quartersUp {E : Ev} {l : Launch} : CT E l yX9_quartersUp (wsY yX9_quartersUp cX9_quartersUp 1 (some .long)) rm_X9_quartersUp 0 sp_X9_quartersUp := ct_of (T := T_X9_quartersUp) (own := RX9) (by decide) rfl (fun ci h10 hc => by have h2 : (99 : Nat) = ci := Nat.eq_of_beq_eq_true hc; omega) ⟨rfl, rfl⟩ ⟨fok_X9, clok_X9, jok_X9, fun _ h => absurd h List.not_mem_nil⟩ bd_X9_quartersUp
def quU (q : Int32) : Int64 := if q = 0 then 0 else if q = 4 then 1 else if q = 2 then 1 else q.toInt64
def sp_X9_quartersUpF : Spc := fun as N lg it rf K => match as with | [.int a0] => (N = NT ∧ rf = RF0) ∧ K (some (.long (quU a0))) lg it rf | _ => False
theorem sn_X9_quartersUpF (as : List Value) (N : Nat) (lg : LGt) (it : ITt) (rf : RFt) (K : Post) (h : sp_X9_quartersUpF as N lg it rf K) : sp_X9_quartersUp as N lg it rf K := by
  unfold sp_X9_quartersUpF at h
  split at h
  · rename_i a0
    obtain ⟨⟨rfl, rfl⟩, hk⟩ := h
    refine ⟨⟨rfl, rfl⟩, fun v lg' it' => v = (quU a0) ∧ lg' = lg ∧ it' = it, ?_, fun v lg' it' q => by obtain ⟨rfl, rfl, rfl⟩ := q; exact hk⟩
    unfold w_X9_quartersUp
    repeat' (first | intro c | with_reducible apply And.intro)
    all_goals first | rfl | (unfold wTold; rw [if_neg (Int32.not_lt.mpr c)]) | (unfold wTold; rw [if_pos (Int32.not_le.mp c)]) | simp_all [quU]
  · exact h.elim
theorem ct_X9_quartersUpF {E : Ev} {l : Launch} : CT E l yX9_quartersUp (wsY yX9_quartersUp cX9_quartersUp 1 (some .long)) rm_X9_quartersUp 0 sp_X9_quartersUpF := ct_weak ct_X9_quartersUp sn_X9_quartersUpF
def w_X9_quartersDown (a0 : Int32) (K : Int64 → LGt → ITt → Prop)  (lg : LGt) (it : ITt) : Prop := ((a0 = 0) → (K (1 : Int64) lg it)) ∧ ((¬ a0 = 0) → (((¬ a0 = 4) → (((¬ a0 = 2) → (K (4 : Int64) lg it)) ∧ ((a0 = 2) → (K (2 : Int64) lg it)))) ∧ ((a0 = 4) → (K (1 : Int64) lg it))))
def sp_X9_quartersDown : Spc := fun as N lg it rf K => match as with | [.int a0] => (N = NT ∧ rf = RF0) ∧ ∃ R : Int64 → LGt → ITt → Prop, w_X9_quartersDown a0 R  lg it ∧ ∀ v lg' it', R v lg' it' → K (some (.long v)) lg' it' RF0 | _ => False
def T_X9_quartersDown : Tab := (FL_X9, CL_X9, JL_X9, [], 99, (some .long))
def rm_X9_quartersDown : Room := { frames := 0, cells := 0, slots := 0, locals := 0 }
set_option maxRecDepth 100000 in
theorem bd_X9_quartersDown (as : List Value) (N : Nat) (lg : LGt) (it : ITt) (rf : RFt) (Q : Post) (h : sp_X9_quartersDown as N lg it rf Q) : Bd T_X9_quartersDown cX9_quartersDown 1 0 as N lg it rf Q := by
  unfold sp_X9_quartersDown at h
  split at h
  · rename_i a0
    refine ⟨Nat.le_of_ble_eq_true rfl, fun P hs hw hf => ?_⟩
    obtain ⟨⟨rfl, rfl⟩, R, h, hk⟩ := h
    unfold w_X9_quartersDown at h
    exact gs (P := P) [.int a0] rfl (hs dX9_quartersDown_0 (hs dX9_quartersDown_1 (And.intro (fun c => have h1 := And.left h c; hs dX9_quartersDown_9 (gxl (P := P) kl_1 (hs dX9_quartersDown_10 (hs dX9_quartersDown_27 (And.intro rfl (And.intro rfl (hk _ _ _ h1))))))) (fun c => have h2 := And.right h c; hs dX9_quartersDown_4 (hs dX9_quartersDown_5 (gx (P := P) ki_4 (hs dX9_quartersDown_6 (And.intro (fun c => have h3 := And.left h2 c; hs dX9_quartersDown_13 (hs dX9_quartersDown_14 (gx (P := P) ki_2 (hs dX9_quartersDown_15 (And.intro (fun c => have h5 := And.left h3 c; hs dX9_quartersDown_24 (hs dX9_quartersDown_27 (And.intro rfl (And.intro rfl (hk _ _ _ h5))))) (fun c => have h6 := And.right h3 c; hs dX9_quartersDown_18 (hs dX9_quartersDown_21 (hs dX9_quartersDown_27 (And.intro rfl (And.intro rfl (hk _ _ _ h6))))))))))) (fun c => have h4 := And.right h2 c; hs dX9_quartersDown_9 (gxl (P := P) kl_1 (hs dX9_quartersDown_10 (hs dX9_quartersDown_27 (And.intro rfl (And.intro rfl (hk _ _ _ h4)))))))))))))))
  · exact h.elim
theorem ct_X9_quartersDown {E : Ev} {l : Launch} : CT E l yX9_quartersDown (wsY yX9_quartersDown cX9_quartersDown 1 (some .long)) rm_X9_quartersDown 0 sp_X9_quartersDown := ct_of (T := T_X9_quartersDown) (own := RX9) (by decide) rfl (fun ci h10 hc => by have h2 : (99 : Nat) = ci := Nat.eq_of_beq_eq_true hc; omega) ⟨rfl, rfl⟩ ⟨fok_X9, clok_X9, jok_X9, fun _ h => absurd h List.not_mem_nil⟩ bd_X9_quartersDown
def quD (q : Int32) : Int64 := if q = 0 then 1 else if q = 4 then 1 else if q = 2 then 2 else 4
def sp_X9_quartersDownF : Spc := fun as N lg it rf K => match as with | [.int a0] => (N = NT ∧ rf = RF0) ∧ K (some (.long (quD a0))) lg it rf | _ => False
theorem sn_X9_quartersDownF (as : List Value) (N : Nat) (lg : LGt) (it : ITt) (rf : RFt) (K : Post) (h : sp_X9_quartersDownF as N lg it rf K) : sp_X9_quartersDown as N lg it rf K := by
  unfold sp_X9_quartersDownF at h
  split at h
  · rename_i a0
    obtain ⟨⟨rfl, rfl⟩, hk⟩ := h
    refine ⟨⟨rfl, rfl⟩, fun v lg' it' => v = (quD a0) ∧ lg' = lg ∧ it' = it, ?_, fun v lg' it' q => by obtain ⟨rfl, rfl, rfl⟩ := q; exact hk⟩
    unfold w_X9_quartersDown
    repeat' (first | intro c | with_reducible apply And.intro)
    all_goals first | rfl | (unfold wTold; rw [if_neg (Int32.not_lt.mpr c)]) | (unfold wTold; rw [if_pos (Int32.not_le.mp c)]) | simp_all [quD]
  · exact h.elim
theorem ct_X9_quartersDownF {E : Ev} {l : Launch} : CT E l yX9_quartersDown (wsY yX9_quartersDown cX9_quartersDown 1 (some .long)) rm_X9_quartersDown 0 sp_X9_quartersDownF := ct_weak ct_X9_quartersDown sn_X9_quartersDownF
def w_X9_wallTold (a0 : Int32) (K : Int32 → LGt → ITt → Prop)  (lg : LGt) (it : ITt) : Prop := ((0 ≤ a0) → (K a0 lg it)) ∧ ((¬ 0 ≤ a0) → (K ((-5) : Int32) lg it))
def sp_X9_wallTold : Spc := fun as N lg it rf K => match as with | [.int a0] => (N = NT ∧ rf = RF0) ∧ ∃ R : Int32 → LGt → ITt → Prop, w_X9_wallTold a0 R  lg it ∧ ∀ v lg' it', R v lg' it' → K (some (.int v)) lg' it' RF0 | _ => False
def T_X9_wallTold : Tab := (FL_X9, CL_X9, JL_X9, [], 99, (some .int))
def rm_X9_wallTold : Room := { frames := 0, cells := 0, slots := 0, locals := 0 }
set_option maxRecDepth 100000 in
theorem bd_X9_wallTold (as : List Value) (N : Nat) (lg : LGt) (it : ITt) (rf : RFt) (Q : Post) (h : sp_X9_wallTold as N lg it rf Q) : Bd T_X9_wallTold cX9_wallTold 1 0 as N lg it rf Q := by
  unfold sp_X9_wallTold at h
  split at h
  · rename_i a0
    refine ⟨Nat.le_of_ble_eq_true rfl, fun P hs hw hf => ?_⟩
    obtain ⟨⟨rfl, rfl⟩, R, h, hk⟩ := h
    unfold w_X9_wallTold at h
    exact gs (P := P) [.int a0] rfl (hs dX9_wallTold_0 (hs dX9_wallTold_1 (And.intro (fun c => have h1 := And.left h c; hs dX9_wallTold_9 (hs dX9_wallTold_10 (And.intro rfl (And.intro rfl (hk _ _ _ h1))))) (fun c => have h2 := And.right h c; hs dX9_wallTold_4 (gx (P := P) kb_m5 (hs dX9_wallTold_6 (hs dX9_wallTold_10 (And.intro rfl (And.intro rfl (hk _ _ _ h2))))))))))
  · exact h.elim
theorem ct_X9_wallTold {E : Ev} {l : Launch} : CT E l yX9_wallTold (wsY yX9_wallTold cX9_wallTold 1 (some .int)) rm_X9_wallTold 0 sp_X9_wallTold := ct_of (T := T_X9_wallTold) (own := RX9) (by decide) rfl (fun ci h10 hc => by have h2 : (99 : Nat) = ci := Nat.eq_of_beq_eq_true hc; omega) ⟨rfl, rfl⟩ ⟨fok_X9, clok_X9, jok_X9, fun _ h => absurd h List.not_mem_nil⟩ bd_X9_wallTold
def wTold (w : Int32) : Int32 := if w < 0 then -5 else w
def sp_X9_wallToldF : Spc := fun as N lg it rf K => match as with | [.int a0] => (N = NT ∧ rf = RF0) ∧ K (some (.int (wTold a0))) lg it rf | _ => False
theorem sn_X9_wallToldF (as : List Value) (N : Nat) (lg : LGt) (it : ITt) (rf : RFt) (K : Post) (h : sp_X9_wallToldF as N lg it rf K) : sp_X9_wallTold as N lg it rf K := by
  unfold sp_X9_wallToldF at h
  split at h
  · rename_i a0
    obtain ⟨⟨rfl, rfl⟩, hk⟩ := h
    refine ⟨⟨rfl, rfl⟩, fun v lg' it' => v = (wTold a0) ∧ lg' = lg ∧ it' = it, ?_, fun v lg' it' q => by obtain ⟨rfl, rfl, rfl⟩ := q; exact hk⟩
    unfold w_X9_wallTold
    repeat' (first | intro c | with_reducible apply And.intro)
    all_goals first | rfl | (unfold wTold; rw [if_neg (Int32.not_lt.mpr c)]) | (unfold wTold; rw [if_pos (Int32.not_le.mp c)]) | simp_all [wTold]
  · exact h.elim
theorem ct_X9_wallToldF {E : Ev} {l : Launch} : CT E l yX9_wallTold (wsY yX9_wallTold cX9_wallTold 1 (some .int)) rm_X9_wallTold 0 sp_X9_wallToldF := ct_weak ct_X9_wallTold sn_X9_wallToldF
