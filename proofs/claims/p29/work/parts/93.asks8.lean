/-! what is asked of a rail, answered by the first side -/
def half (q : QQ) (b : Int32) : Int64 := if b = 0 then q.1 else q.2
theorem hl_s {lg : LGt} {it : ITt} {r : Nat} {q : QQ} {b : Int32} (h : abF (fv lg it r) = some q) : hlf (lg r 0) (lg r 1) (it r 2) b = half q b := by
  unfold hlf half
  by_cases o : it r 2 = 0
  · rw [abF_0 (v := fv lg it r) o] at h
    injection h with h
    rw [if_pos o, ← h]
    rfl
  · rw [abF_1 (v := fv lg it r) o] at h
    cases h
theorem rP_f {lg : LGt} {it : ITt} {r i : Nat} {V : Rlv} (h : RV lg it r V) (hi : i < rN V) : abF (fv lg it (r + 4 + 2 * i)) = some (rP V i) := by
  obtain ⟨e, ok, _⟩ := h
  have hi2 : i < (it r 0).toNatClampNeg := by rw [← e] at hi; exact hi
  rw [abF_0 (v := fv lg it (r + 4 + 2 * i)) (ok i hi2).1, ← e, vP_lt hi2]
  rfl
theorem rS_f {lg : LGt} {it : ITt} {r i : Nat} {V : Rlv} (h : RV lg it r V) (hi : i < rN V) : abF (fv lg it (r + 5 + 2 * i)) = some (rS V i) := by
  obtain ⟨e, ok, _⟩ := h
  have hi2 : i < (it r 0).toNatClampNeg := by rw [← e] at hi; exact hi
  rw [abF_0 (v := fv lg it (r + 5 + 2 * i)) (ok i hi2).2, ← e, vS_lt hi2]
  rfl
theorem rM_f {lg : LGt} {it : ITt} {r i : Nat} {V : Rlv} (h : RV lg it r V) (hi : i < rN V) : it (r + 1) i = rM V i := by
  obtain ⟨e, _, _⟩ := h
  have hi2 : i < (it r 0).toNatClampNeg := by rw [← e] at hi; exact hi
  rw [← e, vM_lt hi2]
theorem rN_f {lg : LGt} {it : ITt} {r : Nat} {V : Rlv} (hI : I8 lg it) (hr : r ∈ rb) (h : RV lg it r V) : (it r 0).toInt = rN V := by
  have b := i8_3 hI (obr hr)
  have k := cl32 b.1
  rw [← h.1]
  exact k.symm
/-- place or speed of one -/
def psA (V : Rlv) (i : Nat) (k : Int32) : QQ := if k = 0 then rP V i else rS V i
theorem fra_f {lg : LGt} {it : ITt} {r : Nat} {V : Rlv} {a k b : Int32} (h : RV lg it r V) (hi : a.toNatClampNeg < rN V) : hlf (lg (fra r a k) 0) (lg (fra r a k) 1) (it (fra r a k) 2) b = half (psA V a.toNatClampNeg k) b := by
  unfold fra psA
  by_cases c : k = 0
  · rw [if_pos c, if_pos c]; exact hl_s (rP_f h hi)
  · rw [if_neg c, if_neg c]; exact hl_s (rS_f h hi)
def ofA (V : Rlv) (a k b : Int32) : Int64 := if ¬ (0 ≤ a.toInt ∧ a.toInt < rN V) ∨ ¬ (0 ≤ k.toInt ∧ k.toInt ≤ 2) ∨ ¬ (0 ≤ b.toInt ∧ b.toInt ≤ 1) then MNL else if k = 2 then (if b = 0 then (rM V a.toNatClampNeg).toInt64 else 1) else half (psA V a.toNatClampNeg k) b
noncomputable def tdI (V : Rlv) (a : Int32) : Int := if a.toInt = 0 then rN V else if a.toInt = 1 then (rE V).toInt else if a.toInt = 2 then (wTold (rA V)).toInt else if a.toInt = 3 then (wTold (rB V)).toInt else if a.toInt = 4 then (cnt V 20 : Int) else if a.toInt = 5 then ((runA V 20).1 : Int) else -1
noncomputable def whI (V : Rlv) (a : Int32) : Int := if a.toInt < 0 then -1 else if (cnt V 20 : Int) ≤ a.toInt then -5 else whr V a.toNatClampNeg
noncomputable def tmA (V : Rlv) (a b : Int32) : Int64 := if a.toInt < 0 ∨ (cnt V 20 : Int) ≤ a.toInt ∨ ¬ (0 ≤ b.toInt ∧ b.toInt ≤ 1) then MNL else half (runA V (a.toNatClampNeg + 1)).2.1 b
/-- how many strikes are meant by s: all of them by -1 -/
noncomputable def stk (V : Rlv) (s : Int32) : Nat := if s.toInt = -1 then cnt V 20 else s.toNatClampNeg + 1
noncomputable def bhA (V : Rlv) (a s k b : Int32) : Int64 := if ¬ (0 ≤ a.toInt ∧ a.toInt < rN V) ∨ s.toInt < -1 ∨ (cnt V 20 : Int) ≤ s.toInt ∨ ¬ (0 ≤ k.toInt ∧ k.toInt ≤ 1) ∨ ¬ (0 ≤ b.toInt ∧ b.toInt ≤ 1) then MNL else half (psA (runA V (stk V s)).2.2 a.toNatClampNeg k) b
theorem le0 {x y : Int32} : x ≤ y ↔ x.toInt ≤ y.toInt := Int32.le_iff_toInt_le
theorem lt0 {x y : Int32} : x < y ↔ x.toInt < y.toInt := Int32.lt_iff_toInt_lt
theorem w20 {lg0 : LGt} {it0 : ITt} (hI : I8 lg0 it0) (V : Rlv) (hV : RV lg0 it0 2 V) (hVO : VO V) (hc : CI lg0 it0) : w_X0_work 2 20 (fun (lg' : LGt) (it' : ITt) => (I8 lg' it' ∧ Kc (fun j => (55 ≤ j ∧ j < 450)) lg0 it0 lg' it') ∧ (CIs lg' it' V 20 ∧ CI lg' it')) lg0 it0 := by
  have h := f_X0_work in_rb_2 20 hI (Or.inl rfl) hV.2.1 (by rw [hV.1]; exact hVO) (by rw [ti_20]; omega) hc
  rw [hV.1, show (20 : Int32).toNatClampNeg = 20 by decide] at h
  exact h
theorem rn_run {V : Rlv} {k : Nat} : rN (runA V k).2.2 = rN V := (run_k V k).1
theorem f_X8_of (a1 a2 a3 : Int32) {lg0 : LGt} {it0 : ITt} (hI : I8 lg0 it0) (V : Rlv) (hV : RV lg0 it0 2 V) : w_X8_of a1 a2 a3 (fun (v : Int64) (lg' : LGt) (it' : ITt) => (I8 lg' it' ∧ Kc (fun j => False) lg0 it0 lg' it') ∧ v = ofA V a1 a2 a3) lg0 it0 := by
  have hn := rN_f hI in_rb_2 hV
  unfold w_X8_of
  rw [hn, lt0, lt0, ti_0, ti_2]
  refine ⟨fun c => ⟨⟨hI, kc_r⟩, by unfold ofA; rw [if_pos (Or.inl c)]⟩, fun c => ⟨fun c2 => ⟨⟨hI, kc_r⟩, by unfold ofA; rw [if_pos (Or.inr (Or.inl (by omega)))]⟩, fun c2 => ⟨fun c3 => ⟨⟨hI, kc_r⟩, by unfold ofA; rw [if_pos (Or.inr (Or.inl (by omega)))]⟩, fun c3 => ⟨fun c4 => ?_, fun c4 => ⟨⟨hI, kc_r⟩, by unfold ofA; rw [if_pos (Or.inr (Or.inr c4))]⟩⟩⟩⟩⟩
  have hi : a1.toNatClampNeg < rN V := by have := cl32 c.1; omega
  have hv : vp_in a1 6 := vp_of c.1 (by have := hV.2.2; have e : rN V = (it0 2 0).toNatClampNeg := by rw [← hV.1]; rfl
                                        omega)
  have hno : ¬ (¬ (0 ≤ a1.toInt ∧ a1.toInt < rN V) ∨ ¬ (0 ≤ a2.toInt ∧ a2.toInt ≤ 2) ∨ ¬ (0 ≤ a3.toInt ∧ a3.toInt ≤ 1)) := by omega
  refine ⟨fun c5 => ⟨hv, ⟨hI, kc_r⟩, ?_⟩, fun c5 => ⟨fun c6 => ⟨⟨hI, kc_r⟩, ?_⟩, fun c6 => ⟨hv, ⟨hI, kc_r⟩, ?_⟩⟩⟩
  · unfold ofA; rw [if_neg hno, if_neg c5]; exact fra_f hV hi
  · unfold ofA; rw [if_neg hno, if_pos c5, if_neg c6]
  · unfold ofA; rw [if_neg hno, if_pos c5, if_pos c6]; exact congrArg Int32.toInt64 (rM_f hV hi)
theorem f_X8_told (a1 : Int32) {lg0 : LGt} {it0 : ITt} (hI : I8 lg0 it0) (V : Rlv) (hV : RV lg0 it0 2 V) (hVO : VO V) (hc : CI lg0 it0) : w_X8_told a1 (fun (v : Int32) (lg' : LGt) (it' : ITt) => (I8 lg' it' ∧ Kc (fun j => (55 ≤ j ∧ j < 450)) lg0 it0 lg' it') ∧ v.toInt = tdI V a1 ∧ CI lg' it') lg0 it0 := by
  have eE : it0 2 4 = rE V := by rw [← hV.1]; rfl
  have eA : it0 18 0 = rA V := by rw [← hV.1]; rfl
  have eB : it0 18 1 = rB V := by rw [← hV.1]; rfl
  have z0 : (0 : Int32).toNatClampNeg = 0 := by decide
  have z1 : (1 : Int32).toNatClampNeg = 1 := by decide
  unfold w_X8_told
  refine ⟨fun c => ⟨⟨hI, kc_r⟩, ?_, hc⟩, fun c => ⟨⟨hI, kc_r⟩, ?_, hc⟩, fun c => ⟨⟨hI, kc_r⟩, ?_, hc⟩, fun c => ?_, fun c => ?_, fun c => ?_, fun c => ?_, trivial⟩
  · unfold tdI; rw [if_neg (by omega), if_neg (by omega), if_neg (by omega), if_neg (by omega), if_neg (by omega), if_neg (by omega)]; exact ti_m1
  · unfold tdI; rw [if_pos c]; exact rN_f hI in_rb_2 hV
  · unfold tdI; rw [if_neg (by omega), if_pos c, eE]
  · refine ⟨_, f_X8_toldWall 0 hI (by rw [ti_0]; omega) (by rw [z0, eA]; exact hVO.2.2.2.2.2.1.1), ?_⟩
    rintro v lg' it' ⟨⟨J, K⟩, e⟩
    refine ⟨⟨J, kc_t kc_r K (fun j hj => hj.elim)⟩, ?_, ci_k hc K (fun j hj => hj.elim)⟩
    unfold tdI; rw [if_neg (by omega), if_neg (by omega), if_pos c, e, z0, eA]
  · refine ⟨_, f_X8_toldWall 1 hI (by rw [ti_1]; omega) (by rw [z1, eB]; exact hVO.2.2.2.2.2.2.1), ?_⟩
    rintro v lg' it' ⟨⟨J, K⟩, e⟩
    refine ⟨⟨J, kc_t kc_r K (fun j hj => hj.elim)⟩, ?_, ci_k hc K (fun j hj => hj.elim)⟩
    unfold tdI; rw [if_neg (by omega), if_neg (by omega), if_neg (by omega), if_pos c, e, z1, eB]
  · refine ⟨_, w20 hI V hV hVO hc, ?_⟩
    rintro lg' it' ⟨⟨J, K⟩, s, C⟩
    refine ⟨⟨J, K⟩, ?_, C⟩
    unfold tdI; rw [if_neg (by omega), if_neg (by omega), if_neg (by omega), if_neg (by omega), if_pos c]; exact s.1
  · refine ⟨_, w20 hI V hV hVO hc, ?_⟩
    rintro lg' it' ⟨⟨J, K⟩, s, C⟩
    refine ⟨⟨J, K⟩, ?_, C⟩
    unfold tdI; rw [if_neg (by omega), if_neg (by omega), if_neg (by omega), if_neg (by omega), if_neg (by omega), if_pos c]; exact s.2.1
theorem f_X8_where (a1 : Int32) {lg0 : LGt} {it0 : ITt} (hI : I8 lg0 it0) (V : Rlv) (hV : RV lg0 it0 2 V) (hVO : VO V) (hc : CI lg0 it0) : w_X8_where a1 (fun (v : Int32) (lg' : LGt) (it' : ITt) => (I8 lg' it' ∧ Kc (fun j => (55 ≤ j ∧ j < 450)) lg0 it0 lg' it') ∧ v.toInt = whI V a1 ∧ CI lg' it') lg0 it0 := by
  have hcl := cnt_le V 20
  have t5 : (-5 : Int32).toInt = -5 := by decide
  unfold w_X8_where
  rw [le0, ti_0]
  refine ⟨fun c => ⟨_, w20 hI V hV hVO hc, ?_⟩, fun c => ⟨⟨hI, kc_r⟩, ?_, hc⟩⟩
  · rintro lg' it' ⟨⟨J, K⟩, s, C⟩
    rw [le0, s.1]
    refine ⟨fun c2 => ⟨⟨J, K⟩, ?_, C⟩, fun c2 => ⟨vp_of c (by omega), ⟨J, K⟩, ?_, C⟩⟩
    · unfold whI; rw [if_neg (by omega), if_pos c2]; exact t5
    · unfold whI; rw [if_neg (by omega), if_neg c2]; exact s.2.2.2 _ (by have := cl32 c; omega)
  · unfold whI; rw [if_pos (by omega)]; exact ti_m1
theorem f_X8_time (a1 a2 : Int32) {lg0 : LGt} {it0 : ITt} (hI : I8 lg0 it0) (V : Rlv) (hV : RV lg0 it0 2 V) (hVO : VO V) (hc : CI lg0 it0) : w_X8_time a1 a2 (fun (v : Int64) (lg' : LGt) (it' : ITt) => (I8 lg' it' ∧ Kc (fun j => (55 ≤ j ∧ j < 450)) lg0 it0 lg' it') ∧ v = tmA V a1 a2 ∧ CI lg' it') lg0 it0 := by
  have hcl := cnt_le V 20
  unfold w_X8_time
  refine ⟨_, w20 hI V hV hVO hc, ?_⟩
  rintro lg' it' ⟨⟨J, K⟩, s, C⟩
  rw [lt0, le0, s.1, ti_0]
  refine ⟨fun c => ⟨⟨J, K⟩, ?_, C⟩, fun c => ⟨fun c2 => ⟨⟨J, K⟩, ?_, C⟩, fun c2 => ⟨fun c3 => ?_, fun c3 => ⟨⟨J, K⟩, ?_, C⟩⟩⟩⟩
  · unfold tmA; rw [if_pos (Or.inl c)]
  · unfold tmA; rw [if_pos (Or.inr (Or.inl c2))]
  case refine_4 => unfold tmA; rw [if_pos (Or.inr (Or.inr c3))]
  have k := cl32 (i := a1) (by omega)
  have f : (a1 + 1).toInt = a1.toInt + 1 := ad32 rfl ti_1 (by omega) (by omega)
  have fk : (a1 + 1).toNatClampNeg = a1.toNatClampNeg + 1 := by have := cl32 (i := a1 + 1) (by omega); omega
  refine ⟨vp_of (by omega) (by omega), ⟨J, K⟩, ?_, C⟩
  unfold tmA; rw [if_neg (by omega), fk]
  exact hl_s (s.2.2.1 _ (by omega)).2
theorem f_X8_behind (a1 a2 a3 a4 : Int32) {lg0 : LGt} {it0 : ITt} (hI : I8 lg0 it0) (V : Rlv) (hV : RV lg0 it0 2 V) (hVO : VO V) (hc : CI lg0 it0) : w_X8_behind a1 a2 a3 a4 (fun (v : Int64) (lg' : LGt) (it' : ITt) => (I8 lg' it' ∧ Kc (fun j => (55 ≤ j ∧ j < 450)) lg0 it0 lg' it') ∧ v = bhA V a1 a2 a3 a4 ∧ CI lg' it') lg0 it0 := by
  have hcl := cnt_le V 20
  have h6 := hVO.1
  unfold w_X8_behind
  refine ⟨_, w20 hI V hV hVO hc, ?_⟩
  rintro lg' it' ⟨⟨J, K⟩, s, C⟩
  have V2 : RV lg' it' 2 V := rv_k hV K (fun j hj => by omega)
  have hn := rN_f J in_rb_2 V2
  rw [hn, lt0, le0, lt0, lt0, s.1, ti_0, ti_1, ti_m1]
  refine ⟨fun c => ⟨⟨J, K⟩, by unfold bhA; rw [if_pos (Or.inl c)], C⟩, fun c => ⟨fun c2 => ⟨⟨J, K⟩, by unfold bhA; rw [if_pos (Or.inr (Or.inl c2))], C⟩, fun c2 => ⟨fun c3 => ⟨⟨J, K⟩, by unfold bhA; rw [if_pos (Or.inr (Or.inr (Or.inl c3)))], C⟩, fun c3 => ⟨fun c4 => ⟨⟨J, K⟩, by unfold bhA; rw [if_pos (Or.inr (Or.inr (Or.inr (Or.inl (by omega)))))], C⟩, fun c4 => ⟨fun c5 => ⟨⟨J, K⟩, by unfold bhA; rw [if_pos (Or.inr (Or.inr (Or.inr (Or.inl (by omega)))))], C⟩, fun c5 => ⟨fun c6 => ?_, fun c6 => ⟨⟨J, K⟩, by unfold bhA; rw [if_pos (Or.inr (Or.inr (Or.inr (Or.inr c6))))], C⟩⟩⟩⟩⟩⟩⟩
  have hi : a1.toNatClampNeg < rN V := by have := cl32 c.1; omega
  have hv : vp_in a1 6 := vp_of c.1 (by omega)
  have fin : ∀ (s0 : Int32), s0.toInt = (stk V a2 : Int) → stk V a2 ≤ cnt V 20 → w_X8_behind_b79 a1 a2 a3 a4 (fun (v : Int64) (lg'' : LGt) (it'' : ITt) => (I8 lg'' it'' ∧ Kc (fun j => (55 ≤ j ∧ j < 450)) lg0 it0 lg'' it'') ∧ v = bhA V a1 a2 a3 a4 ∧ CI lg'' it'') s0 lg' it' := by
    intro s0 hs hle
    have ks := cl32 (i := s0) (by omega)
    have e : s0.toNatClampNeg = stk V a2 := by omega
    unfold w_X8_behind_b79
    refine ⟨vp_of (by omega) (by omega), hv, ⟨J, K⟩, ?_, C⟩
    unfold bhA; rw [if_neg (by omega), e]
    exact fra_f (s.2.2.1 _ hle).1 (by rw [rn_run]; exact hi)
  refine ⟨fun c7 => fin _ ?_ ?_, fun c7 => fin _ ?_ ?_⟩
  · have n1 : ¬ a2.toInt = -1 := fun q => c7 (Int32.toInt_inj.mp (by rw [q]; rfl))
    have k := cl32 (i := a2) (by omega)
    have f : (a2 + 1).toInt = a2.toInt + 1 := ad32 rfl ti_1 (by omega) (by omega)
    unfold stk; rw [if_neg n1]; omega
  · have n1 : ¬ a2.toInt = -1 := fun q => c7 (Int32.toInt_inj.mp (by rw [q]; rfl))
    have k := cl32 (i := a2) (by omega)
    unfold stk; rw [if_neg n1]; omega
  · unfold stk; rw [if_pos (by rw [c7]; exact ti_m1)]; exact s.1
  · unfold stk; rw [if_pos (by rw [c7]; exact ti_m1)]; exact Nat.le_refl _
