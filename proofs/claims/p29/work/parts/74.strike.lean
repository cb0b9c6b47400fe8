/-! the first side: a strike is done -/
def SI (lg : LGt) (it : ITt) (V : Rlv) (a i : Nat) (d : QQ) : Prop := ∀ j, j < rN V → abF (fv lg it (a + 4 + 2 * j)) = (if j < i then mvP V d j else some (rP V j)) ∧ abF (fv lg it (a + 5 + 2 * j)) = some (rS V j)
def OVx (V : Rlv) (T d : QQ) (x : Int32) (i : Nat) : Prop := (x.toInt = 0 ∧ (oP (some T) (some d)).isSome = true ∧ alls i (mvP V d)) ∨ (x.toInt = 1 ∧ (oP (some T) (some d) = none ∨ ∃ j, j < i ∧ mvP V d j = none))
theorem si_0 {lg0 lg : LGt} {it0 it : ITt} {a a2 : Nat} {d : QQ} (hok : Ok8 it0 a) (h6 : (it0 a 0).toNatClampNeg ≤ 6) (hne : a2 < a ∨ a + 17 ≤ a2) (hc : ∀ c, c ≠ a2 → fv lg it c = fv lg0 it0 c) : SI lg it (vw8 lg0 it0 a) a (0 : Int32).toNatClampNeg d := by
  intro j hj
  have hj : j < (it0 a 0).toNatClampNeg := hj
  rw [hc _ (by omega), hc _ (by omega), if_neg (show ¬ j < (0 : Int32).toNatClampNeg from Nat.not_lt_zero _), vP_lt hj, vS_lt hj]
  exact ⟨abF_0 (hok j hj).1, abF_0 (hok j hj).2⟩
theorem si_s {lg lg' : LGt} {it it' : ITt} {V : Rlv} {a i : Nat} {d : QQ} (h : SI lg it V a i d) (h6 : rN V ≤ 6) (hf : a + 17 ≤ 437 ∨ 450 ≤ a) (hc : ∀ c, c ≠ 442 → c ≠ a + 4 + 2 * i → fv lg' it' c = fv lg it c) (hn : abF (fv lg' it' (a + 4 + 2 * i)) = mvP V d i) : SI lg' it' V a (i + 1) d := by
  intro j hj
  obtain ⟨p, q⟩ := h j hj
  constructor
  · by_cases e : j = i
    · subst e; rw [hn, if_pos (Nat.lt_succ_self _)]
    · rw [hc _ (by omega) (by omega), p]
      by_cases z : j < i
      · rw [if_pos z, if_pos (by omega)]
      · rw [if_neg z, if_neg (by omega)]
  · rw [hc _ (by omega) (by omega)]; exact q
theorem ov_0 {lg : LGt} {it : ITt} {V : Rlv} {T d : QQ} {a2 : Nat} (h : abF (fv lg it a2) = oP (some T) (some d)) (h1 : it a2 2 = 0 ∨ it a2 2 = 1) : OVx V T d (it a2 2) (0 : Int32).toNatClampNeg := by
  rcases h1 with c | c
  · refine Or.inl ⟨by rw [c, ti_0], ?_, fun i hi => absurd hi (Nat.not_lt_zero _)⟩
    rw [← h, abF_0 (v := fv lg it a2) c]
    rfl
  · refine Or.inr ⟨by rw [c, ti_1], Or.inl ?_⟩
    rw [← h]
    exact abF_1 (v := fv lg it a2) (fun q => by rw [show it a2 2 = 0 from q] at c; exact absurd c (by decide))
theorem ov_1 {V : Rlv} {T d : QQ} {x y : Int32} {i : Nat} (h : OVx V T d x i) (hx : ¬ x.toInt = 0) (hy : y.toInt = 1) : OVx V T d y (i + 1) := by
  rcases h with ⟨z, _⟩ | ⟨_, z⟩
  · exact absurd z hx
  · refine Or.inr ⟨hy, z.imp id (fun ⟨j, a, b⟩ => ⟨j, by omega, b⟩)⟩
theorem ov_k {V : Rlv} {T d r : QQ} {x y : Int32} {i : Nat} (h : OVx V T d x i) (hx : x.toInt = 0) (hr : mvP V d i = some r) (hy : y.toInt = 0) : OVx V T d y (i + 1) := by
  rcases h with ⟨_, z, w⟩ | ⟨z, _⟩
  · refine Or.inl ⟨hy, z, fun j hj => ?_⟩
    by_cases e : j = i
    · rw [e, hr]; rfl
    · exact w j (by omega)
  · omega
theorem ov_n {V : Rlv} {T d : QQ} {x y : Int32} {i : Nat} (h : OVx V T d x i) (hx : x.toInt = 0) (hr : mvP V d i = none) (hy : y.toInt = 1) : OVx V T d y (i + 1) := Or.inr ⟨hy, Or.inr ⟨i, Nat.lt_succ_self _, hr⟩⟩
theorem isn {X : Option QQ} (h : ¬ X = none) : X.isSome = true := by
  cases X with
  | none => exact absurd rfl h
  | some x => rfl
theorem stp_0 {V : Rlv} {T d : QQ} {x : Int32} {w : Nat} (h : OVx V T d x (rN V)) (hx : ¬ x.toInt = 0) : stpd V T w d = none := by
  rcases h with ⟨z, _⟩ | ⟨_, z⟩
  · exact absurd z hx
  · exact stp_n (z.imp id Or.inl)
theorem abF_s {v : FV} {q : QQ} (h : abF v = some q) : v.2.2 = 0 ∧ (v.1, v.2.1) = q := by
  by_cases c : v.2.2 = 0
  · rw [abF_0 c] at h
    injection h with h
    exact ⟨c, h⟩
  · rw [abF_1 c] at h; cases h
theorem qg_s {X : Option QQ} (h : X.isSome = true) : X = some (qg X) := by
  cases X with
  | none => cases h
  | some x => rfl
theorem stk_end {V : Rlv} {lg0 lg lg' : LGt} {it0 it it' : ITt} {a a2 w : Nat} {T d : QQ} {v x4 : Int32} (B : Nat → Prop) (hV : V = vw8 lg0 it0 a) (h6 : rN V ≤ 6) (hf : a + 17 ≤ 437 ∨ 450 ≤ a) (hSI : SI lg it V a (rN V) d) (hov : OVx V T d x4 (rN V)) (hx : x4.toInt = 0) (hr0 : it' a = it0 a) (hr1 : it' (a + 1) = it0 (a + 1)) (hr2 : it' (a + 16) = it0 (a + 16)) (hC : abF (fv lg' it' a2) = oP (some T) (some d)) (hk : ∀ c, (∀ b, B b → c ≠ a + 5 + 2 * b) → (c < 442 ∨ 450 ≤ c) → fv lg' it' c = fv lg it c) (hb : ∀ b, B b → abF (fv lg' it' (a + 5 + 2 * b)) = nsp V w b) (ho : ∀ j, ¬ B j → nsp V w j = some (rS V j)) (hBn : ∀ b, B b → b < rN V) (hv : (v = 1 ∧ ∀ b, B b → (nsp V w b).isSome = true) ∨ (v = 0 ∧ ∃ b, B b ∧ nsp V w b = none)) : (v = 1 ∧ ∃ r, stpd V T w d = some r ∧ vw8 lg' it' a = r.2 ∧ Ok8 it' a ∧ abF (fv lg' it' a2) = some r.1) ∨ (v = 0 ∧ stpd V T w d = none) := by
  rcases hv with ⟨e1, hs⟩ | ⟨e0, b, hB, hb0⟩
  · refine Or.inl ⟨e1, ?_⟩
    rcases hov with ⟨_, sC, sP⟩ | ⟨z, _⟩
    · have sS : alls (rN V) (nsp V w) := by
        intro j hj
        by_cases c : B j
        · exact hs j c
        · rw [ho j c]; rfl
      have hcell : ∀ j, j < rN V → abF (fv lg' it' (a + 4 + 2 * j)) = mvP V d j ∧ abF (fv lg' it' (a + 5 + 2 * j)) = nsp V w j := by
        intro j hj
        obtain ⟨p, q⟩ := hSI j hj
        rw [if_pos hj] at p
        constructor
        · rw [hk _ (fun b hB => by have := hBn b hB; omega) (by omega)]; exact p
        · by_cases c : B j
          · exact hb j c
          · rw [hk _ (fun b hB => fun z => c (by have e : j = b := by omega
                                                 rw [e]; exact hB)) (by omega), ho j c]
            exact q
      have hC2 : oP (some T) (some d) = some (qg (oP (some T) (some d))) := qg_s sC
      refine ⟨_, stp_y hC2 sP sS, ?_, ?_, by rw [hC]; exact hC2⟩
      · have n0 : rN V = (it0 a 0).toNatClampNeg := by rw [hV]; rfl
        unfold vw8
        rw [hr0, hr1, hr2, ← n0]
        have eM : rM V = (fun i => if i < rN V then it0 (a + 1) i else 0) := by rw [n0, hV]; rfl
        have eE : rE V = it0 a 4 := by rw [hV]; rfl
        have eA : rA V = it0 (a + 16) 0 := by rw [hV]; rfl
        have eB : rB V = it0 (a + 16) 1 := by rw [hV]; rfl
        have eP : (fun i => if i < rN V then (lg' (a + 4 + 2 * i) 0, lg' (a + 4 + 2 * i) 1) else ((0, 1) : QQ)) = cutF (rN V) (mvP V d) := by
          funext i
          unfold cutF
          split
          · rename_i c
            have z := (hcell i c).1
            rw [qg_s (sP i c)] at z
            exact (abF_s z).2
          · rfl
        have eS : (fun i => if i < rN V then (lg' (a + 5 + 2 * i) 0, lg' (a + 5 + 2 * i) 1) else ((0, 1) : QQ)) = cutF (rN V) (nsp V w) := by
          funext i
          unfold cutF
          split
          · rename_i c
            have z := (hcell i c).2
            rw [qg_s (sS i c)] at z
            exact (abF_s z).2
          · rfl
        rw [eP, eS, ← eM, ← eE, ← eA, ← eB]
      · intro j hj
        have hj : j < rN V := by rw [hr0] at hj; rw [hV]; exact hj
        have z := hcell j hj
        have z1 := z.1
        have z2 := z.2
        rw [qg_s (sP j hj)] at z1
        rw [qg_s (sS j hj)] at z2
        exact ⟨(abF_s z1).1, (abF_s z2).1⟩
    · omega
  · exact Or.inr ⟨e0, stp_n (Or.inr (Or.inr ⟨b, hBn b hB, hb0⟩))⟩
theorem cw_w0 {V : Rlv} {w : Nat} {x : Int} (h : x = cw V w) (hx : x = 0) (hw : w ≤ rN V) (hn : rN V ≤ 6) : w = 0 ∧ ¬ w = rN V := by unfold cw at h; split at h <;> omega
theorem cw_w9 {V : Rlv} {w : Nat} {x : Int} (h : x = cw V w) (hx : x = 9) (hw : w ≤ rN V) (hn : rN V ≤ 6) : w = rN V := by unfold cw at h; split at h <;> omega
theorem cw_wm {V : Rlv} {w : Nat} {x : Int} (h : x = cw V w) (hx : ¬ x = 0) (hx9 : ¬ x = 9) : ¬ w = 0 ∧ ¬ w = rN V ∧ x = w := by unfold cw at h; split at h <;> omega
theorem nsp_00 {V : Rlv} : nsp V 0 0 = tnS (rS V 0) (rA V) := by unfold nsp; rw [if_pos rfl, if_pos rfl]
theorem nsp_0o {V : Rlv} {j : Nat} (h : ¬ j = 0) : nsp V 0 j = some (rS V j) := by unfold nsp; rw [if_pos rfl, if_neg h]
theorem nsp_nn {V : Rlv} {w : Nat} (h0 : ¬ w = 0) (hn : w = rN V) : nsp V w (w - 1) = tnS (rS V (w - 1)) (rB V) := by unfold nsp; rw [if_neg h0, if_pos hn, if_pos rfl]
theorem nsp_no {V : Rlv} {w j : Nat} (h0 : ¬ w = 0) (hn : w = rN V) (h : ¬ j = w - 1) : nsp V w j = some (rS V j) := by unfold nsp; rw [if_neg h0, if_pos hn, if_neg h]
theorem nsp_1 {V : Rlv} {w : Nat} (h0 : ¬ w = 0) (hn : ¬ w = rN V) : nsp V w (w - 1) = pL1 (rS V (w - 1)) (rS V w) (rM V (w - 1)) (rM V w) (rE V) := by unfold nsp; rw [if_neg h0, if_neg hn, if_pos rfl]
theorem nsp_2 {V : Rlv} {w : Nat} (h0 : ¬ w = 0) (hn : ¬ w = rN V) : nsp V w w = pL2 (rS V (w - 1)) (rS V w) (rM V (w - 1)) (rM V w) (rE V) := by unfold nsp; rw [if_neg h0, if_neg hn, if_neg (by omega), if_pos rfl]
theorem nsp_o {V : Rlv} {w j : Nat} (h0 : ¬ w = 0) (hn : ¬ w = rN V) (h1 : ¬ j = w - 1) (h2 : ¬ j = w) : nsp V w j = some (rS V j) := by unfold nsp; rw [if_neg h0, if_neg hn, if_neg h1, if_neg h2]
set_option maxRecDepth 100000 in
theorem f_X5_strike {a1 : Nat} (ha1 : a1 ∈ rb) {a2 : Nat} (ha2 : Ob NT a2 1) (a3 : Int32) {lg0 : LGt} {it0 : ITt} (hI : I8 lg0 it0) (hok : Ok8 it0 a1) (T : QQ) (hT : abF (fv lg0 it0 a2) = some T) (d : QQ) (hd : abF (fv lg0 it0 438) = some d) (w : Nat) (hw : a3.toInt = cw (vw8 lg0 it0 a1) w) (hwl : w ≤ rN (vw8 lg0 it0 a1)) (hn1 : 1 ≤ rN (vw8 lg0 it0 a1)) (hne : a2 < a1 ∨ a1 + 17 ≤ a2) (hn2 : a2 < 437 ∨ 450 ≤ a2) (he : 0 ≤ (it0 a1 4).toInt ∧ (it0 a1 4).toInt ≤ 4) (hwa : w = 0 → 0 ≤ (it0 (a1 + 16) 0).toInt ∧ (it0 (a1 + 16) 0).toInt ≤ 4) (hwb : w = rN (vw8 lg0 it0 a1) → 0 ≤ (it0 (a1 + 16) 1).toInt ∧ (it0 (a1 + 16) 1).toInt ≤ 4) : w_X5_strike a1 a2 a3 (fun (v : Int32) (lg' : LGt) (it' : ITt) => (I8 lg' it' ∧ Kc (fun j => (442 ≤ j ∧ j < 450) ∨ (a1 + 4 ≤ j ∧ j < a1 + 16) ∨ (a2 ≤ j ∧ j < a2 + 1)) lg0 it0 lg' it') ∧ ((v = 1 ∧ ∃ r, stpd (vw8 lg0 it0 a1) T w d = some r ∧ vw8 lg' it' a1 = r.2 ∧ Ok8 it' a1 ∧ abF (fv lg' it' a2) = some r.1) ∨ (v = 0 ∧ stpd (vw8 lg0 it0 a1) T w d = none)))  lg0 it0 := by
  have hb_a3 := And.intro a3.le_toInt a3.toInt_lt
  have hKr : Kc (fun j => (442 ≤ j ∧ j < 450) ∨ (a1 + 4 ≤ j ∧ j < a1 + 16) ∨ (a2 ≤ j ∧ j < a2 + 1)) lg0 it0 lg0 it0 := kc_r
  generalize hp : (fun (v : Int32) (lg' : LGt) (it' : ITt) => (I8 lg' it' ∧ Kc (fun j => (442 ≤ j ∧ j < 450) ∨ (a1 + 4 ≤ j ∧ j < a1 + 16) ∨ (a2 ≤ j ∧ j < a2 + 1)) lg0 it0 lg' it') ∧ ((v = 1 ∧ ∃ r, stpd (vw8 lg0 it0 a1) T w d = some r ∧ vw8 lg' it' a1 = r.2 ∧ Ok8 it' a1 ∧ abF (fv lg' it' a2) = some r.1) ∨ (v = 0 ∧ stpd (vw8 lg0 it0 a1) T w d = none))) = Pz
  unfold w_X5_strike
  have hfar := rb_far ha1
  have h6 := i8_3 hI (obr ha1)
  have hkn := cl32 h6.1
  have h6n : rN (vw8 lg0 it0 a1) ≤ 6 := by show (it0 a1 0).toNatClampNeg ≤ 6; omega
  have hwl2 : w ≤ (it0 a1 0).toNatClampNeg := hwl
  have hn12 : 1 ≤ (it0 a1 0).toNatClampNeg := hn1
  intro q65 em_q65 lg66 em_lg66 it67 em_it67
  have hI68 : I8 lg66 it67 := by rw [em_it67]; exact i8_u hI (ok8_1 (ha2) (fun _ => by rw [em_q65]; exact stF_01 _ _ _ _ _))
  have hK69 : Kc (fun j => (442 ≤ j ∧ j < 450) ∨ (a1 + 4 ≤ j ∧ j < a1 + 16) ∨ (a2 ≤ j ∧ j < a2 + 1)) lg0 it0 lg66 it67 := by rw [em_lg66, em_it67]; exact kc_f (by first | omega | (dsimp only; omega)) hKr
  have tf70 : abF (fv lg0 it0 a2) = (some T) := hT
  have tf71 : abF (fv lg0 it0 438) = (some d) := by rw [fv_k hKr (by first | omega | (dsimp only; omega))]; exact hd
  have T72 : abF (fv lg66 it67 a2) = (oP (some T) (some d)) := by rw [em_lg66, em_it67, fv_at, em_q65, ab_p, tf70, tf71]
  try have e73 : (it67 a1 0).toInt = (it0 a1 0).toInt := by rw [em_it67]; exact congrArg Int32.toInt (congrFun (u2_row (by omega)) 0)
  have lp17 : ∀ (n : Nat) (x4 : Int32) (x5 : Int32) (lg : LGt) (it : ITt), I8 lg it → Kc (fun j => (442 ≤ j ∧ j < 450) ∨ (a1 + 4 ≤ j ∧ j < a1 + 16) ∨ (a2 ≤ j ∧ j < a2 + 1)) lg0 it0 lg it → ((0 ≤ (x5).toInt ∧ (x5).toInt ≤ (it0 a1 0).toInt) ∧ (SI lg it (vw8 lg0 it0 a1) a1 (x5).toNatClampNeg d) ∧ (abF (fv lg it a2) = oP (some T) (some d)) ∧ (OVx (vw8 lg0 it0 a1) T d x4 (x5).toNatClampNeg)) → (7 - (x5).toInt).toNat < n → w_X5_strike_b17 a1 a2 a3 Pz  n x4 x5 lg it := by
    intro n17
    induction n17 with
    | zero => intro x4 x5 lg it _ _ _ hn; exact absurd hn (Nat.not_lt_zero _)
    | succ n17 ih17 =>
      intro x4 x5 lg76 it77 hI74 hK75 hv hn
      unfold w_X5_strike_b17
      obtain ⟨hv17_0, hv17_1, hv17_2, hv17_3⟩ := hv
      have e0 : (it77 a1 0).toInt = (it0 a1 0).toInt := congrArg (fun f => Int32.toInt (f 0)) (hK75 a1 (by first | omega | (dsimp only; omega))).2
      have f78 : 0 ≤ (it77 a1 0).toInt ∧ (it77 a1 0).toInt ≤ 6 := i8_3 hI74 (obr ha1)
      refine ⟨fun c23 => ?_, fun c23 => ?_⟩
      · try simp only [Int32.lt_iff_toInt_lt, Int32.le_iff_toInt_le, ← Int32.toInt_inj, Int32.toInt_toInt64, ti_m14, ti_m13, ti_m12, ti_m11, ti_m10, ti_m9, ti_m6, ti_m5, ti_m4, ti_m3, ti_m2, ti_m1, ti_0, ti_1, ti_2, ti_3, ti_4, ti_5, ti_6, ti_7, ti_8, ti_9, ti_10, ti_11, ti_12, ti_19, ti_20, ti_21, ti_44, ti_45, ti_48, ti_57, ti_59, ti_60, ti_98, ti_99, ti_100, ti_101, ti_103, ti_108, ti_110, ti_114, ti_127] at c23
        have hxn : x5.toNatClampNeg = rN (vw8 lg0 it0 a1) := by show _ = (it0 a1 0).toNatClampNeg; exact cl_eq (by omega)
        refine ⟨fun c98 => ?_, fun c98 => ?_⟩
        · try simp only [Int32.lt_iff_toInt_lt, Int32.le_iff_toInt_le, ← Int32.toInt_inj, Int32.toInt_toInt64, ti_m14, ti_m13, ti_m12, ti_m11, ti_m10, ti_m9, ti_m6, ti_m5, ti_m4, ti_m3, ti_m2, ti_m1, ti_0, ti_1, ti_2, ti_3, ti_4, ti_5, ti_6, ti_7, ti_8, ti_9, ti_10, ti_11, ti_12, ti_19, ti_20, ti_21, ti_44, ti_45, ti_48, ti_57, ti_59, ti_60, ti_98, ti_99, ti_100, ti_101, ti_103, ti_108, ti_110, ti_114, ti_127] at c98
          refine ⟨fun c104 => ?_, fun c104 => ?_⟩
          · try simp only [Int32.lt_iff_toInt_lt, Int32.le_iff_toInt_le, ← Int32.toInt_inj, Int32.toInt_toInt64, ti_m14, ti_m13, ti_m12, ti_m11, ti_m10, ti_m9, ti_m6, ti_m5, ti_m4, ti_m3, ti_m2, ti_m1, ti_0, ti_1, ti_2, ti_3, ti_4, ti_5, ti_6, ti_7, ti_8, ti_9, ti_10, ti_11, ti_12, ti_19, ti_20, ti_21, ti_44, ti_45, ti_48, ti_57, ti_59, ti_60, ti_98, ti_99, ti_100, ti_101, ti_103, ti_108, ti_110, ti_114, ti_127] at c104
            refine ⟨fun c127 => ?_, fun c127 => ?_⟩
            · try simp only [Int32.lt_iff_toInt_lt, Int32.le_iff_toInt_le, ← Int32.toInt_inj, Int32.toInt_toInt64, ti_m14, ti_m13, ti_m12, ti_m11, ti_m10, ti_m9, ti_m6, ti_m5, ti_m4, ti_m3, ti_m2, ti_m1, ti_0, ti_1, ti_2, ti_3, ti_4, ti_5, ti_6, ti_7, ti_8, ti_9, ti_10, ti_11, ti_12, ti_19, ti_20, ti_21, ti_44, ti_45, ti_48, ti_57, ti_59, ti_60, ti_98, ti_99, ti_100, ti_101, ti_103, ti_108, ti_110, ti_114, ti_127] at c127
              have hwm := cw_wm hw c104 c127
              have hwmn : ¬ w = (it0 a1 0).toNatClampNeg := hwm.2.1
              have hz2 : a3.toNatClampNeg = w := by have z := cl32 (i := a3) (by omega); omega
              have hz1 : (a3 - 1).toNatClampNeg = w - 1 := by rw [cl_sub1 (by omega), hz2]
              have f_ : (a3 - 1).toInt = a3.toInt - 1 := sb32 rfl ti_1 (by omega) (by omega)
              try have f79 : ((a3 - 1) : Int32).toInt = (a3).toInt - 1 := sb32 (a := (a3).toInt) (b := 1) (rfl) (ti_1) (by omega) (by omega)
              refine ⟨_, f_X5_collide (ha1) ((a3 - 1)) (a3) hI74 (by omega) (by omega) (by omega) (_) (_) (by rw [hz1]; exact (hv17_1 _ (show w - 1 < (it0 a1 0).toNatClampNeg by omega)).2) (by rw [hz2]; exact (hv17_1 _ (show w < (it0 a1 0).toNatClampNeg by omega)).2) (by rw [(hK75 a1 (by first | omega | (dsimp only; omega))).2]; exact he), ?_⟩
              intro v85 lg80 it81 hq
              obtain ⟨⟨hI82, hK83⟩, ha86⟩ := hq
              have hK84 : Kc (fun j => (442 ≤ j ∧ j < 450) ∨ (a1 + 4 ≤ j ∧ j < a1 + 16) ∨ (a2 ≤ j ∧ j < a2 + 1)) lg0 it0 lg80 it81 := kc_t hK75 hK83 (fun j hj => by first | omega | exact False.elim hj | (dsimp only at hj ⊢; omega))
              try have e87 : (it81 a1 0).toInt = (it77 a1 0).toInt := congrArg (fun f => Int32.toInt (f 0)) (hK83 a1 (by first | omega | (dsimp only; omega))).2
              have T88 : abF (fv lg80 it81 a2) = (oP (some T) (some d)) := by rw [fv_k hK83 (by first | omega | (dsimp only; omega))]; exact hv17_2
              rw [hz1, hz2, (hK75 (a1 + 1) (by first | omega | (dsimp only; omega))).2, (hK75 a1 (by first | omega | (dsimp only; omega))).2, ← vM_lt (lg := lg0) (r := a1) (it := it0) (i := w - 1) (by omega), ← vM_lt (lg := lg0) (r := a1) (it := it0) (i := w) (by omega)] at ha86
              have ha86x : _ ∧ _ ∧ ((v85 = 1 ∧ (nsp (vw8 lg0 it0 a1) w (w - 1)).isSome = true ∧ (nsp (vw8 lg0 it0 a1) w w).isSome = true) ∨ (v85 = 0 ∧ (nsp (vw8 lg0 it0 a1) w (w - 1) = none ∨ nsp (vw8 lg0 it0 a1) w w = none))) := ⟨(ha86.1).trans (nsp_1 hwm.1 hwm.2.1).symm, (ha86.2.1).trans (nsp_2 hwm.1 hwm.2.1).symm, by rw [nsp_1 hwm.1 hwm.2.1, nsp_2 hwm.1 hwm.2.1]; exact ha86.2.2⟩
              refine ⟨ib (ha86x.2.2.elim (fun z => Or.inr z.1) (fun z => Or.inl z.1)), ?_⟩
              subst hp
              exact ⟨⟨hI82, hK84⟩, stk_end (fun b => b = w - 1 ∨ b = w) rfl h6n hfar (by have z := hv17_1; rw [hxn] at z; exact z) (by have z := hv17_3; rw [hxn] at z; exact z) c98 (hK84 (a1) (by first | omega | (dsimp only; omega))).2 (hK84 (a1 + 1) (by first | omega | (dsimp only; omega))).2 (hK84 (a1 + 16) (by first | omega | (dsimp only; omega))).2 T88 (fun c h1 h2 => fv_k hK83 (by have z1 := h1 (w - 1) (Or.inl rfl); have z2 := h1 w (Or.inr rfl); first | omega | (dsimp only; omega))) (fun b h => by rcases h with rfl | rfl; exact ha86x.1; exact ha86x.2.1) (fun j h => nsp_o hwm.1 hwm.2.1 (fun z => h (Or.inl z)) (fun z => h (Or.inr z))) (fun b h => by show b < (it0 a1 0).toNatClampNeg; omega) (ha86x.2.2.imp (fun z => ⟨z.1, fun b h => by rcases h with rfl | rfl; exact z.2.1; exact z.2.2⟩) (fun z => ⟨z.1, z.2.elim (fun y => ⟨w - 1, Or.inl rfl, y⟩) (fun y => ⟨w, Or.inr rfl, y⟩)⟩))⟩
            · try simp only [Int32.lt_iff_toInt_lt, Int32.le_iff_toInt_le, ← Int32.toInt_inj, Int32.toInt_toInt64, ti_m14, ti_m13, ti_m12, ti_m11, ti_m10, ti_m9, ti_m6, ti_m5, ti_m4, ti_m3, ti_m2, ti_m1, ti_0, ti_1, ti_2, ti_3, ti_4, ti_5, ti_6, ti_7, ti_8, ti_9, ti_10, ti_11, ti_12, ti_19, ti_20, ti_21, ti_44, ti_45, ti_48, ti_57, ti_59, ti_60, ti_98, ti_99, ti_100, ti_101, ti_103, ti_108, ti_110, ti_114, ti_127] at c127
              have hw9 := cw_w9 hw c127 hwl h6n
              have hw9n : w = (it0 a1 0).toNatClampNeg := hw9
              have hz0 := cl_sub1 (a := it77 a1 0) (by omega)
              have hze : (it77 a1 0).toNatClampNeg = (it0 a1 0).toNatClampNeg := cl_eq (by omega)
              have hz1 : (it77 a1 0 - 1).toNatClampNeg = w - 1 := by omega
              try have f89 : (((it77 a1 0) - 1) : Int32).toInt = ((it77 a1 0)).toInt - 1 := sb32 (a := ((it77 a1 0)).toInt) (b := 1) (rfl) (ti_1) (by omega) (by omega)
              have hi90 : vp_in ((it77 a1 0) - 1) 6 := vp_of (by first | omega | ((try simp only [Int32.lt_iff_toInt_lt, Int32.le_iff_toInt_le, ← Int32.toInt_inj, Int32.toInt_toInt64, ti_m14, ti_m13, ti_m12, ti_m11, ti_m10, ti_m9, ti_m6, ti_m5, ti_m4, ti_m3, ti_m2, ti_m1, ti_0, ti_1, ti_2, ti_3, ti_4, ti_5, ti_6, ti_7, ti_8, ti_9, ti_10, ti_11, ti_12, ti_19, ti_20, ti_21, ti_44, ti_45, ti_48, ti_57, ti_59, ti_60, ti_98, ti_99, ti_100, ti_101, ti_103, ti_108, ti_110, ti_114, ti_127]); omega) | (split <;> omega)) (by first | omega | ((try simp only [Int32.lt_iff_toInt_lt, Int32.le_iff_toInt_le, ← Int32.toInt_inj, Int32.toInt_toInt64, ti_m14, ti_m13, ti_m12, ti_m11, ti_m10, ti_m9, ti_m6, ti_m5, ti_m4, ti_m3, ti_m2, ti_m1, ti_0, ti_1, ti_2, ti_3, ti_4, ti_5, ti_6, ti_7, ti_8, ti_9, ti_10, ti_11, ti_12, ti_19, ti_20, ti_21, ti_44, ti_45, ti_48, ti_57, ti_59, ti_60, ti_98, ti_99, ti_100, ti_101, ti_103, ti_108, ti_110, ti_114, ti_127]); omega) | (split <;> omega))
              refine ⟨hi90, ?_⟩
              have hz91 := vlt hi90
              refine ⟨_, f_X5_rebound ((rpo5 ha1 (vlt (hi90)))) ((it77 (a1 + 16) 1)) hI74 (_) (by rw [hz1]; exact (hv17_1 _ (show w - 1 < (it0 a1 0).toNatClampNeg by omega)).2) (by rw [(hK75 (a1 + 16) (by first | omega | (dsimp only; omega))).2]; exact hwb hw9) (by omega), ?_⟩
              intro v97 lg92 it93 hq
              obtain ⟨⟨hI94, hK95⟩, ha98⟩ := hq
              have hK96 : Kc (fun j => (442 ≤ j ∧ j < 450) ∨ (a1 + 4 ≤ j ∧ j < a1 + 16) ∨ (a2 ≤ j ∧ j < a2 + 1)) lg0 it0 lg92 it93 := kc_t hK75 hK95 (fun j hj => by first | omega | exact False.elim hj | (dsimp only at hj ⊢; omega))
              try have e99 : (it93 a1 0).toInt = (it77 a1 0).toInt := congrArg (fun f => Int32.toInt (f 0)) (hK95 a1 (by first | omega | (dsimp only; omega))).2
              have T100 : abF (fv lg92 it93 a2) = (oP (some T) (some d)) := by rw [fv_k hK95 (by first | omega | (dsimp only; omega))]; exact hv17_2
              rw [hz1, (hK75 (a1 + 16) (by first | omega | (dsimp only; omega))).2] at ha98
              have ha98x : abF (fv lg92 it93 (a1 + 5 + 2 * (w - 1))) = nsp (vw8 lg0 it0 a1) w (w - 1) ∧ ((v97 = 1 ∧ (nsp (vw8 lg0 it0 a1) w (w - 1)).isSome = true) ∨ (v97 = 0 ∧ nsp (vw8 lg0 it0 a1) w (w - 1) = none)) := by rw [nsp_nn (by omega) hw9]; exact ha98
              refine ⟨ib (ha98x.2.elim (fun z => Or.inr z.1) (fun z => Or.inl z.1)), ?_⟩
              subst hp
              exact ⟨⟨hI94, hK96⟩, stk_end (fun b => b = w - 1) rfl h6n hfar (by have z := hv17_1; rw [hxn] at z; exact z) (by have z := hv17_3; rw [hxn] at z; exact z) c98 (hK96 (a1) (by first | omega | (dsimp only; omega))).2 (hK96 (a1 + 1) (by first | omega | (dsimp only; omega))).2 (hK96 (a1 + 16) (by first | omega | (dsimp only; omega))).2 T100 (fun c h1 h2 => fv_k hK95 (by have z1 := h1 _ rfl; first | omega | (dsimp only; omega))) (fun b h => by subst h; exact ha98x.1) (fun j h => nsp_no (by omega) hw9 h) (fun b h => by show b < (it0 a1 0).toNatClampNeg; omega) (ha98x.2.imp (fun z => ⟨z.1, fun b h => by subst h; exact z.2⟩) (fun z => ⟨z.1, w - 1, rfl, z.2⟩))⟩
          · try simp only [Int32.lt_iff_toInt_lt, Int32.le_iff_toInt_le, ← Int32.toInt_inj, Int32.toInt_toInt64, ti_m14, ti_m13, ti_m12, ti_m11, ti_m10, ti_m9, ti_m6, ti_m5, ti_m4, ti_m3, ti_m2, ti_m1, ti_0, ti_1, ti_2, ti_3, ti_4, ti_5, ti_6, ti_7, ti_8, ti_9, ti_10, ti_11, ti_12, ti_19, ti_20, ti_21, ti_44, ti_45, ti_48, ti_57, ti_59, ti_60, ti_98, ti_99, ti_100, ti_101, ti_103, ti_108, ti_110, ti_114, ti_127] at c104
            have hw0 := cw_w0 hw c104 hwl h6n
            refine ⟨_, f_X5_rebound ((rpo5 ha1 (show 0 < 6 by decide))) ((it77 (a1 + 16) 0)) hI74 (_) ((hv17_1 0 (show 0 < (it0 a1 0).toNatClampNeg by omega)).2) (by rw [(hK75 (a1 + 16) (by first | omega | (dsimp only; omega))).2]; exact hwa hw0.1) (by omega), ?_⟩
            intro v106 lg101 it102 hq
            obtain ⟨⟨hI103, hK104⟩, ha107⟩ := hq
            have hK105 : Kc (fun j => (442 ≤ j ∧ j < 450) ∨ (a1 + 4 ≤ j ∧ j < a1 + 16) ∨ (a2 ≤ j ∧ j < a2 + 1)) lg0 it0 lg101 it102 := kc_t hK75 hK104 (fun j hj => by first | omega | exact False.elim hj | (dsimp only at hj ⊢; omega))
            try have e108 : (it102 a1 0).toInt = (it77 a1 0).toInt := congrArg (fun f => Int32.toInt (f 0)) (hK104 a1 (by first | omega | (dsimp only; omega))).2
            have T109 : abF (fv lg101 it102 a2) = (oP (some T) (some d)) := by rw [fv_k hK104 (by first | omega | (dsimp only; omega))]; exact hv17_2
            rw [(hK75 (a1 + 16) (by first | omega | (dsimp only; omega))).2] at ha107
            have ha107x : abF (fv lg101 it102 (a1 + 5 + 2 * 0)) = nsp (vw8 lg0 it0 a1) w 0 ∧ ((v106 = 1 ∧ (nsp (vw8 lg0 it0 a1) w 0).isSome = true) ∨ (v106 = 0 ∧ nsp (vw8 lg0 it0 a1) w 0 = none)) := by rw [hw0.1]; exact ha107
            refine ⟨ib (ha107x.2.elim (fun z => Or.inr z.1) (fun z => Or.inl z.1)), ?_⟩
            subst hp
            exact ⟨⟨hI103, hK105⟩, stk_end (fun b => b = 0) rfl h6n hfar (by have z := hv17_1; rw [hxn] at z; exact z) (by have z := hv17_3; rw [hxn] at z; exact z) c98 (hK105 (a1) (by first | omega | (dsimp only; omega))).2 (hK105 (a1 + 1) (by first | omega | (dsimp only; omega))).2 (hK105 (a1 + 16) (by first | omega | (dsimp only; omega))).2 T109 (fun c h1 h2 => fv_k hK104 (by have z1 := h1 _ rfl; first | omega | (dsimp only; omega))) (fun b h => by subst h; exact ha107x.1) (fun j h => by rw [hw0.1]; exact nsp_0o h) (fun b h => by show b < (it0 a1 0).toNatClampNeg; omega) (ha107x.2.imp (fun z => ⟨z.1, fun b h => by subst h; exact z.2⟩) (fun z => ⟨z.1, 0, rfl, z.2⟩))⟩
        · try simp only [Int32.lt_iff_toInt_lt, Int32.le_iff_toInt_le, ← Int32.toInt_inj, Int32.toInt_toInt64, ti_m14, ti_m13, ti_m12, ti_m11, ti_m10, ti_m9, ti_m6, ti_m5, ti_m4, ti_m3, ti_m2, ti_m1, ti_0, ti_1, ti_2, ti_3, ti_4, ti_5, ti_6, ti_7, ti_8, ti_9, ti_10, ti_11, ti_12, ti_19, ti_20, ti_21, ti_44, ti_45, ti_48, ti_57, ti_59, ti_60, ti_98, ti_99, ti_100, ti_101, ti_103, ti_108, ti_110, ti_114, ti_127] at c98
          subst hp
          exact ⟨⟨hI74, hK75⟩, Or.inr ⟨rfl, stp_0 (by have z := hv17_3; rw [hxn] at z; exact z) c98⟩⟩
      · try simp only [Int32.lt_iff_toInt_lt, Int32.le_iff_toInt_le, ← Int32.toInt_inj, Int32.toInt_toInt64, ti_m14, ti_m13, ti_m12, ti_m11, ti_m10, ti_m9, ti_m6, ti_m5, ti_m4, ti_m3, ti_m2, ti_m1, ti_0, ti_1, ti_2, ti_3, ti_4, ti_5, ti_6, ti_7, ti_8, ti_9, ti_10, ti_11, ti_12, ti_19, ti_20, ti_21, ti_44, ti_45, ti_48, ti_57, ti_59, ti_60, ti_98, ti_99, ti_100, ti_101, ti_103, ti_108, ti_110, ti_114, ti_127] at c23
        have hlt : x5.toNatClampNeg < (it0 a1 0).toNatClampNeg := cl_lt (by omega) (by omega)
        have tP0 : abF (fv lg76 it77 (a1 + 4 + 2 * x5.toNatClampNeg)) = (some (rP (vw8 lg0 it0 a1) x5.toNatClampNeg)) := by have z := (hv17_1 _ hlt).1; rw [if_neg (Nat.lt_irrefl _)] at z; exact z
        have tS0 : abF (fv lg76 it77 (a1 + 5 + 2 * x5.toNatClampNeg)) = (some (rS (vw8 lg0 it0 a1) x5.toNatClampNeg)) := (hv17_1 _ hlt).2
        have hi110 : vp_in x5 6 := vp_of (by first | omega | ((try simp only [Int32.lt_iff_toInt_lt, Int32.le_iff_toInt_le, ← Int32.toInt_inj, Int32.toInt_toInt64, ti_m14, ti_m13, ti_m12, ti_m11, ti_m10, ti_m9, ti_m6, ti_m5, ti_m4, ti_m3, ti_m2, ti_m1, ti_0, ti_1, ti_2, ti_3, ti_4, ti_5, ti_6, ti_7, ti_8, ti_9, ti_10, ti_11, ti_12, ti_19, ti_20, ti_21, ti_44, ti_45, ti_48, ti_57, ti_59, ti_60, ti_98, ti_99, ti_100, ti_101, ti_103, ti_108, ti_110, ti_114, ti_127]); omega) | (split <;> omega)) (by first | omega | ((try simp only [Int32.lt_iff_toInt_lt, Int32.le_iff_toInt_le, ← Int32.toInt_inj, Int32.toInt_toInt64, ti_m14, ti_m13, ti_m12, ti_m11, ti_m10, ti_m9, ti_m6, ti_m5, ti_m4, ti_m3, ti_m2, ti_m1, ti_0, ti_1, ti_2, ti_3, ti_4, ti_5, ti_6, ti_7, ti_8, ti_9, ti_10, ti_11, ti_12, ti_19, ti_20, ti_21, ti_44, ti_45, ti_48, ti_57, ti_59, ti_60, ti_98, ti_99, ti_100, ti_101, ti_103, ti_108, ti_110, ti_114, ti_127]); omega) | (split <;> omega))
        refine ⟨hi110, ?_⟩
        have hz111 := vlt hi110
        have hc114 : it77 (a1 + 5 + 2 * x5.toNatClampNeg) 2 &&& 1 = it77 (a1 + 5 + 2 * x5.toNatClampNeg) 2 := ib (i8_1 hI74 ((rpo5 ha1 (vlt (hi110)))))
        refine ⟨hc114, ?_⟩
        intro lg112 em_lg112 it113 em_it113
        have hI115 : I8 lg112 it113 := by rw [em_it113]; exact i8_u hI74 (ok8_1 (oq_442) (fun _ => i8_1 hI74 ((rpo5 ha1 (vlt (hi110))))))
        have hK116 : Kc (fun j => (442 ≤ j ∧ j < 450) ∨ (a1 + 4 ≤ j ∧ j < a1 + 16) ∨ (a2 ≤ j ∧ j < a2 + 1)) lg0 it0 lg112 it113 := by rw [em_lg112, em_it113]; exact kc_f (by first | omega | (dsimp only; omega)) hK75
        have T117 : abF (fv lg112 it113 442) = (some (rS (vw8 lg0 it0 a1) x5.toNatClampNeg)) := by rw [em_lg112, em_it113]; exact (congrArg abF fv_a3).trans tS0
        have T118 : abF (fv lg112 it113 a2) = (oP (some T) (some d)) := by rw [em_lg112, em_it113, fv_ne (by omega)]; exact hv17_2
        have T119 : abF (fv lg112 it113 (a1 + 4 + 2 * x5.toNatClampNeg)) = (some (rP (vw8 lg0 it0 a1) x5.toNatClampNeg)) := by rw [em_lg112, em_it113, fv_ne (by omega)]; exact tP0
        have T120 : abF (fv lg112 it113 (a1 + 5 + 2 * x5.toNatClampNeg)) = (some (rS (vw8 lg0 it0 a1) x5.toNatClampNeg)) := by rw [em_lg112, em_it113, fv_ne (by omega)]; exact tS0
        try have e121 : (it113 a1 0).toInt = (it77 a1 0).toInt := by rw [em_it113]; exact congrArg Int32.toInt (congrFun (u2_row (by omega)) 0)
        intro q122 em_q122 lg123 em_lg123 it124 em_it124
        have hI125 : I8 lg123 it124 := by rw [em_it124]; exact i8_u hI115 (ok8_1 (oq_442) (fun _ => by rw [em_q122]; exact stF_01 _ _ _ _ _))
        have hK126 : Kc (fun j => (442 ≤ j ∧ j < 450) ∨ (a1 + 4 ≤ j ∧ j < a1 + 16) ∨ (a2 ≤ j ∧ j < a2 + 1)) lg0 it0 lg123 it124 := by rw [em_lg123, em_it124]; exact kc_f (by first | omega | (dsimp only; omega)) hK116
        have tf127 : abF (fv lg112 it113 438) = (some d) := by rw [fv_k hK116 (by first | omega | (dsimp only; omega))]; exact hd
        have T128 : abF (fv lg123 it124 442) = (oT (some (rS (vw8 lg0 it0 a1) x5.toNatClampNeg)) (some d)) := by rw [em_lg123, em_it124, fv_at, em_q122, ab_t, T117, tf127]
        have T129 : abF (fv lg123 it124 a2) = (oP (some T) (some d)) := by rw [em_lg123, em_it124, fv_ne (by omega)]; exact T118
        have T130 : abF (fv lg123 it124 (a1 + 4 + 2 * x5.toNatClampNeg)) = (some (rP (vw8 lg0 it0 a1) x5.toNatClampNeg)) := by rw [em_lg123, em_it124, fv_ne (by omega)]; exact T119
        have T131 : abF (fv lg123 it124 (a1 + 5 + 2 * x5.toNatClampNeg)) = (some (rS (vw8 lg0 it0 a1) x5.toNatClampNeg)) := by rw [em_lg123, em_it124, fv_ne (by omega)]; exact T120
        try have e132 : (it124 a1 0).toInt = (it113 a1 0).toInt := by rw [em_it124]; exact congrArg Int32.toInt (congrFun (u2_row (by omega)) 0)
        have hi133 : vp_in x5 6 := vp_of (by first | omega | ((try simp only [Int32.lt_iff_toInt_lt, Int32.le_iff_toInt_le, ← Int32.toInt_inj, Int32.toInt_toInt64, ti_m14, ti_m13, ti_m12, ti_m11, ti_m10, ti_m9, ti_m6, ti_m5, ti_m4, ti_m3, ti_m2, ti_m1, ti_0, ti_1, ti_2, ti_3, ti_4, ti_5, ti_6, ti_7, ti_8, ti_9, ti_10, ti_11, ti_12, ti_19, ti_20, ti_21, ti_44, ti_45, ti_48, ti_57, ti_59, ti_60, ti_98, ti_99, ti_100, ti_101, ti_103, ti_108, ti_110, ti_114, ti_127]); omega) | (split <;> omega)) (by first | omega | ((try simp only [Int32.lt_iff_toInt_lt, Int32.le_iff_toInt_le, ← Int32.toInt_inj, Int32.toInt_toInt64, ti_m14, ti_m13, ti_m12, ti_m11, ti_m10, ti_m9, ti_m6, ti_m5, ti_m4, ti_m3, ti_m2, ti_m1, ti_0, ti_1, ti_2, ti_3, ti_4, ti_5, ti_6, ti_7, ti_8, ti_9, ti_10, ti_11, ti_12, ti_19, ti_20, ti_21, ti_44, ti_45, ti_48, ti_57, ti_59, ti_60, ti_98, ti_99, ti_100, ti_101, ti_103, ti_108, ti_110, ti_114, ti_127]); omega) | (split <;> omega))
        refine ⟨hi133, ?_⟩
        have hz134 := vlt hi133
        intro q135 em_q135 lg136 em_lg136 it137 em_it137
        have hI138 : I8 lg136 it137 := by rw [em_it137]; exact i8_u hI125 (ok8_1 ((rpo4 ha1 (vlt (hi133)))) (fun _ => by rw [em_q135]; exact stF_01 _ _ _ _ _))
        have hK139 : Kc (fun j => (442 ≤ j ∧ j < 450) ∨ (a1 + 4 ≤ j ∧ j < a1 + 16) ∨ (a2 ≤ j ∧ j < a2 + 1)) lg0 it0 lg136 it137 := by rw [em_lg136, em_it137]; exact kc_f (by first | omega | (dsimp only; omega)) hK126
        have T140 : abF (fv lg136 it137 (a1 + 4 + 2 * x5.toNatClampNeg)) = (oP (some (rP (vw8 lg0 it0 a1) x5.toNatClampNeg)) (oT (some (rS (vw8 lg0 it0 a1) x5.toNatClampNeg)) (some d))) := by rw [em_lg136, em_it137, fv_at, em_q135, ab_p, T130, T128]
        have T141 : abF (fv lg136 it137 442) = (oT (some (rS (vw8 lg0 it0 a1) x5.toNatClampNeg)) (some d)) := by rw [em_lg136, em_it137, fv_ne (by omega)]; exact T128
        have T142 : abF (fv lg136 it137 a2) = (oP (some T) (some d)) := by rw [em_lg136, em_it137, fv_ne (by omega)]; exact T129
        have T143 : abF (fv lg136 it137 (a1 + 5 + 2 * x5.toNatClampNeg)) = (some (rS (vw8 lg0 it0 a1) x5.toNatClampNeg)) := by rw [em_lg136, em_it137, fv_ne (by omega)]; exact T131
        try have e144 : (it137 a1 0).toInt = (it124 a1 0).toInt := by rw [em_it137]; exact congrArg Int32.toInt (congrFun (u2_row (by omega)) 0)
        refine ⟨fun c67 => ?_, fun c67 => ?_⟩
        · try simp only [Int32.lt_iff_toInt_lt, Int32.le_iff_toInt_le, ← Int32.toInt_inj, Int32.toInt_toInt64, ti_m14, ti_m13, ti_m12, ti_m11, ti_m10, ti_m9, ti_m6, ti_m5, ti_m4, ti_m3, ti_m2, ti_m1, ti_0, ti_1, ti_2, ti_3, ti_4, ti_5, ti_6, ti_7, ti_8, ti_9, ti_10, ti_11, ti_12, ti_19, ti_20, ti_21, ti_44, ti_45, ti_48, ti_57, ti_59, ti_60, ti_98, ti_99, ti_100, ti_101, ti_103, ti_108, ti_110, ti_114, ti_127] at c67
          try have f145 : ((x5 + 1) : Int32).toInt = (x5).toInt + 1 := ad32 (a := (x5).toInt) (b := 1) (rfl) (ti_1) (by omega) (by omega)
          exact ih17 ((1 : Int32)) ((x5 + 1)) _ _ hI138 hK139 ⟨⟨by omega, by omega⟩, by rw [cl_add1 (by omega) (by omega)]; exact si_s hv17_1 h6n hfar (fun c h1 h2 => by rw [em_lg136, em_it137, fv_ne h2, em_lg123, em_it124, fv_ne h1, em_lg112, em_it113, fv_ne h1]) T140, T142, by rw [cl_add1 (by omega) (by omega)]; exact ov_1 hv17_3 c67 ti_1⟩ (by omega)
        · try simp only [Int32.lt_iff_toInt_lt, Int32.le_iff_toInt_le, ← Int32.toInt_inj, Int32.toInt_toInt64, ti_m14, ti_m13, ti_m12, ti_m11, ti_m10, ti_m9, ti_m6, ti_m5, ti_m4, ti_m3, ti_m2, ti_m1, ti_0, ti_1, ti_2, ti_3, ti_4, ti_5, ti_6, ti_7, ti_8, ti_9, ti_10, ti_11, ti_12, ti_19, ti_20, ti_21, ti_44, ti_45, ti_48, ti_57, ti_59, ti_60, ti_98, ti_99, ti_100, ti_101, ti_103, ti_108, ti_110, ti_114, ti_127] at c67
          have hi146 : vp_in x5 6 := vp_of (by first | omega | ((try simp only [Int32.lt_iff_toInt_lt, Int32.le_iff_toInt_le, ← Int32.toInt_inj, Int32.toInt_toInt64, ti_m14, ti_m13, ti_m12, ti_m11, ti_m10, ti_m9, ti_m6, ti_m5, ti_m4, ti_m3, ti_m2, ti_m1, ti_0, ti_1, ti_2, ti_3, ti_4, ti_5, ti_6, ti_7, ti_8, ti_9, ti_10, ti_11, ti_12, ti_19, ti_20, ti_21, ti_44, ti_45, ti_48, ti_57, ti_59, ti_60, ti_98, ti_99, ti_100, ti_101, ti_103, ti_108, ti_110, ti_114, ti_127]); omega) | (split <;> omega)) (by first | omega | ((try simp only [Int32.lt_iff_toInt_lt, Int32.le_iff_toInt_le, ← Int32.toInt_inj, Int32.toInt_toInt64, ti_m14, ti_m13, ti_m12, ti_m11, ti_m10, ti_m9, ti_m6, ti_m5, ti_m4, ti_m3, ti_m2, ti_m1, ti_0, ti_1, ti_2, ti_3, ti_4, ti_5, ti_6, ti_7, ti_8, ti_9, ti_10, ti_11, ti_12, ti_19, ti_20, ti_21, ti_44, ti_45, ti_48, ti_57, ti_59, ti_60, ti_98, ti_99, ti_100, ti_101, ti_103, ti_108, ti_110, ti_114, ti_127]); omega) | (split <;> omega))
          refine ⟨hi146, ?_⟩
          have hz147 := vlt hi146
          refine ⟨fun c80 => ?_, fun c80 => ?_⟩
          · try simp only [Int32.lt_iff_toInt_lt, Int32.le_iff_toInt_le, ← Int32.toInt_inj, Int32.toInt_toInt64, ti_m14, ti_m13, ti_m12, ti_m11, ti_m10, ti_m9, ti_m6, ti_m5, ti_m4, ti_m3, ti_m2, ti_m1, ti_0, ti_1, ti_2, ti_3, ti_4, ti_5, ti_6, ti_7, ti_8, ti_9, ti_10, ti_11, ti_12, ti_19, ti_20, ti_21, ti_44, ti_45, ti_48, ti_57, ti_59, ti_60, ti_98, ti_99, ti_100, ti_101, ti_103, ti_108, ti_110, ti_114, ti_127] at c80
            try have f148 : ((x5 + 1) : Int32).toInt = (x5).toInt + 1 := ad32 (a := (x5).toInt) (b := 1) (rfl) (ti_1) (by omega) (by omega)
            exact ih17 ((0 : Int32)) ((x5 + 1)) _ _ hI138 hK139 ⟨⟨by omega, by omega⟩, by rw [cl_add1 (by omega) (by omega)]; exact si_s hv17_1 h6n hfar (fun c h1 h2 => by rw [em_lg136, em_it137, fv_ne h2, em_lg123, em_it124, fv_ne h1, em_lg112, em_it113, fv_ne h1]) T140, T142, by rw [cl_add1 (by omega) (by omega)]; exact ov_k hv17_3 c67 (tsm T140 c80) ti_0⟩ (by omega)
          · try simp only [Int32.lt_iff_toInt_lt, Int32.le_iff_toInt_le, ← Int32.toInt_inj, Int32.toInt_toInt64, ti_m14, ti_m13, ti_m12, ti_m11, ti_m10, ti_m9, ti_m6, ti_m5, ti_m4, ti_m3, ti_m2, ti_m1, ti_0, ti_1, ti_2, ti_3, ti_4, ti_5, ti_6, ti_7, ti_8, ti_9, ti_10, ti_11, ti_12, ti_19, ti_20, ti_21, ti_44, ti_45, ti_48, ti_57, ti_59, ti_60, ti_98, ti_99, ti_100, ti_101, ti_103, ti_108, ti_110, ti_114, ti_127] at c80
            try have f149 : ((x5 + 1) : Int32).toInt = (x5).toInt + 1 := ad32 (a := (x5).toInt) (b := 1) (rfl) (ti_1) (by omega) (by omega)
            exact ih17 ((1 : Int32)) ((x5 + 1)) _ _ hI138 hK139 ⟨⟨by omega, by omega⟩, by rw [cl_add1 (by omega) (by omega)]; exact si_s hv17_1 h6n hfar (fun c h1 h2 => by rw [em_lg136, em_it137, fv_ne h2, em_lg123, em_it124, fv_ne h1, em_lg112, em_it113, fv_ne h1]) T140, T142, by rw [cl_add1 (by omega) (by omega)]; exact ov_n hv17_3 c67 (tno T140 c80) ti_1⟩ (by omega)
  have t150 := ti_0
  exact ⟨_, lp17 ((7 - ((0 : Int32)).toInt).toNat + 1) ((it67 a2 2)) ((0 : Int32)) _ _ hI68 hK69 ⟨⟨by omega, by omega⟩, si_0 hok h6n hne (fun c hc => by rw [em_lg66, em_it67, fv_ne hc]), T72, ov_0 T72 (i8_1 hI68 ha2)⟩ (Nat.lt_succ_self _)⟩
