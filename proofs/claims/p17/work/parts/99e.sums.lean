/-! sums over a rail: push and then, on both sides -/
def smT (V : Rlv) (w : Int32) (k : Nat) : Option QQ := oT (if w.toInt = 1 then oT (some (rS V k)) (some (rS V k)) else some (rS V k)) (mF (rM V k))
def smN (V : Rlv) (w : Int32) : Nat → Option QQ
  | 0 => some (0, 1)
  | k + 1 => oP (smN V w k) (smT V w k)
def hfO (X : Option QQ) (b : Int32) : Int64 := match X with | none => MNL | some q => half q b
def puA (V : Rlv) (a b : Int32) : Int64 := if a.toInt < 0 ∨ 1 < a.toInt ∨ ¬ (0 ≤ b.toInt ∧ b.toInt ≤ 1) then MNL else hfO (smN V a (rN V)) b
noncomputable def thA (V : Rlv) (a b : Int32) : Int64 := puA (runA V (cnt V 20)).2.2 a b
theorem hl_o {lg : LGt} {it : ITt} {r : Nat} {X : Option QQ} {b : Int32} (h : abF (fv lg it r) = X) : hlf (lg r 0) (lg r 1) (it r 2) b = hfO X b := by
  cases X with
  | some q => exact hl_s h
  | none =>
    by_cases o : it r 2 = 0
    · rw [abF_0 (v := fv lg it r) o] at h; cases h
    · unfold hlf hfO; rw [if_neg o]
set_option maxRecDepth 100000 in
theorem f_X8_addUp {a1 : Nat} (ha1 : a1 ∈ rb) (a2 : Int32) {lg0 : LGt} {it0 : ITt} (hI : I8 lg0 it0) (V : Rlv) (hV : RV lg0 it0 a1 V) : w_X8_addUp a1 a2 (fun (lg' : LGt) (it' : ITt) => (I8 lg' it' ∧ Kc (fun j => (486 ≤ j ∧ j < 489)) lg0 it0 lg' it') ∧ abF (fv lg' it' 486) = smN V a2 (rN V)) lg0 it0 := by
  generalize hp : (fun (lg' : LGt) (it' : ITt) => (I8 lg' it' ∧ Kc (fun j => (486 ≤ j ∧ j < 489)) lg0 it0 lg' it') ∧ abF (fv lg' it' 486) = smN V a2 (rN V)) = Pz
  have hlo := rb_low ha1
  have h6 : rN V ≤ 6 := by rw [← hV.1]; exact hV.2.2
  have i1 : a2 = 1 ↔ a2.toInt = 1 := by rw [← ti_1]; exact Int32.toInt_inj.symm
  have lp : ∀ (n : Nat) (x : Int32) (lg : LGt) (it : ITt) (k : Nat), I8 lg it → Kc (fun j => (486 ≤ j ∧ j < 489)) lg0 it0 lg it → x.toInt = k → k ≤ rN V → abF (fv lg it 486) = smN V a2 k → rN V - k < n → w_X8_addUp_b10 a1 a2 Pz n x lg it := by
    intro n
    induction n with
    | zero => intro x lg it k _ _ _ _ _ hn; exact absurd hn (Nat.not_lt_zero _)
    | succ n ih =>
      intro x lg it k hJ hK hx hk hS hn
      have R : RV lg it a1 V := rv_k hV hK (fun j hj => by omega)
      have hN : (it a1 0).toInt = rN V := rN_f hJ ha1 R
      unfold w_X8_addUp_b10
      rw [le0, hN, hx]
      refine ⟨fun c => ?_, fun c => ?_⟩
      · obtain rfl : k = rN V := by omega
        subst hp
        exact ⟨⟨hJ, hK⟩, hS⟩
      have hxk : x.toNatClampNeg = k := by have := cl32 (i := x) (by omega); omega
      have hv : vp_in x 6 := vp_of (by omega) (by omega)
      have fx : (x + 1).toInt = x.toInt + 1 := ad32 rfl ti_1 (by omega) (by omega)
      have fxk : (x + 1).toInt = ((k + 1 : Nat) : Int) := by omega
      have hkn : rN V - (k + 1) < n := by omega
      have hk6 : k < 6 := by omega
      have hkN : k < rN V := by omega
      rw [hxk]
      refine ⟨hv, ib (i8_1 hJ (rpo5 ha1 hk6)), ?_⟩
      intro lg8 m8 it9 m9
      have J8 : I8 lg8 it9 := by rw [m9]; exact i8_u hJ (ok8_1 oq_487 (fun _ => i8_1 hJ (rpo5 ha1 hk6)))
      have K8 : Kc (fun j => (486 ≤ j ∧ j < 489)) lg0 it0 lg8 it9 := by rw [m8, m9]; exact kc_f (by omega) hK
      have e487 : fv lg8 it9 487 = fv lg it (a1 + 5 + 2 * k) := by rw [m8, m9]; exact fv_a3
      have e486 : fv lg8 it9 486 = fv lg it 486 := by rw [m8, m9]; exact fv_ne (by decide)
      have s487 : abF (fv lg8 it9 487) = some (rS V k) := by rw [e487]; exact rS_f R hkN
      have s486 : abF (fv lg8 it9 486) = smN V a2 k := by rw [e486]; exact hS
      -- times the mass, and to the sum
      have b49 : ∀ (lgA : LGt) (itA : ITt) (T : Option QQ), I8 lgA itA → Kc (fun j => (486 ≤ j ∧ j < 489)) lg0 it0 lgA itA → abF (fv lgA itA 487) = T → abF (fv lgA itA 486) = smN V a2 k → oP (smN V a2 k) (oT T (mF (rM V k))) = smN V a2 (k + 1) → w_X8_addUp_b49 a1 a2 Pz (w_X8_addUp_b10 a1 a2 Pz n) x lgA itA := by
        intro lgA itA T JA KA tA sA eS
        have RA : RV lgA itA a1 V := rv_k hV KA (fun j hj => by omega)
        have eM : itA (a1 + 1) k = rM V k := rM_f RA hkN
        unfold w_X8_addUp_b49
        rw [hxk, eM]
        refine ⟨hv, ?_⟩
        intro lg23 m23 it24 m24
        have J24 : I8 lg23 it24 := by rw [m24]; exact i8_u JA (ok8_1 oq_488 (fun _ => Or.inl rfl))
        have K24 : Kc (fun j => (486 ≤ j ∧ j < 489)) lg0 it0 lg23 it24 := by rw [m23, m24]; exact kc_f (by omega) KA
        have e488 : fv lg23 it24 488 = ((rM V k).toInt64, 1, 0) := by rw [m23, m24]; exact fv_a3
        have x487 : fv lg23 it24 487 = fv lgA itA 487 := by rw [m23, m24]; exact fv_ne (by decide)
        have x486 : fv lg23 it24 486 = fv lgA itA 486 := by rw [m23, m24]; exact fv_ne (by decide)
        intro q26 mq lg27 m27 it28 m28
        have J28 : I8 lg27 it28 := by rw [m28]; exact i8_u J24 (ok8_1 oq_487 (fun _ => by rw [mq]; exact stF_01 _ _ _ _ _))
        have K28 : Kc (fun j => (486 ≤ j ∧ j < 489)) lg0 it0 lg27 it28 := by rw [m27, m28]; exact kc_f (by omega) K24
        have y487 : fv lg27 it28 487 = q26 := by rw [m27, m28]; exact fv_at
        have y486 : fv lg27 it28 486 = fv lgA itA 486 := by rw [← x486, m27, m28]; exact fv_ne (by decide)
        have aq : abF q26 = oT T (mF (rM V k)) := by rw [mq, ab_t, x487, tA, e488]; rfl
        intro q30 mq2 lg31 m31 it32 m32
        have J32 : I8 lg31 it32 := by rw [m32]; exact i8_u J28 (ok8_1 oq_486 (fun _ => by rw [mq2]; exact stF_01 _ _ _ _ _))
        have K32 : Kc (fun j => (486 ≤ j ∧ j < 489)) lg0 it0 lg31 it32 := by rw [m31, m32]; exact kc_f (by omega) K28
        have z486 : fv lg31 it32 486 = q30 := by rw [m31, m32]; exact fv_at
        have aq2 : abF q30 = smN V a2 (k + 1) := by rw [mq2, ab_p, y486, sA, y487, aq]; exact eS
        exact ih (x + 1) lg31 it32 (k + 1) J32 K32 fxk (by omega) (by rw [z486]; exact aq2) hkn
      refine ⟨fun c2 => ?_, fun c2 => ⟨hv, ?_⟩⟩
      · refine b49 lg8 it9 _ J8 K8 s487 s486 ?_
        show _ = oP (smN V a2 k) (smT V a2 k)
        unfold smT
        rw [if_neg (fun q => c2 (i1.mpr q))]
      · intro q17 mq lg18 m18 it19 m19
        have J19 : I8 lg18 it19 := by rw [m19]; exact i8_u J8 (ok8_1 oq_487 (fun _ => by rw [mq]; exact stF_01 _ _ _ _ _))
        have K19 : Kc (fun j => (486 ≤ j ∧ j < 489)) lg0 it0 lg18 it19 := by rw [m18, m19]; exact kc_f (by omega) K8
        have R8 : RV lg8 it9 a1 V := rv_k hV K8 (fun j hj => by omega)
        have y487 : abF (fv lg18 it19 487) = oT (some (rS V k)) (some (rS V k)) := by
          rw [show fv lg18 it19 487 = q17 by rw [m18, m19]; exact fv_at, mq, ab_t, s487, rS_f R8 hkN]
        have y486 : abF (fv lg18 it19 486) = smN V a2 k := by
          rw [show fv lg18 it19 486 = fv lg8 it9 486 by rw [m18, m19]; exact fv_ne (by decide)]; exact s486
        refine b49 lg18 it19 _ J19 K19 y487 y486 ?_
        show _ = oP (smN V a2 k) (smT V a2 k)
        unfold smT
        rw [if_pos (i1.mp c2)]
  unfold w_X8_addUp
  intro lg1 m1 it2 m2
  exact ⟨_, lp (rN V + 1) 0 lg1 it2 0 (by rw [m2]; exact i8_u hI (ok8_1 oq_486 (fun _ => Or.inl rfl))) (by rw [m1, m2]; exact kc_f (by omega) kc_r) ti_0 (Nat.zero_le _) (by rw [show fv lg1 it2 486 = (0, 1, 0) by rw [m1, m2]; exact fv_a3]; rfl) (by omega)⟩
theorem f_X8_push (a1 a2 : Int32) {lg0 : LGt} {it0 : ITt} (hI : I8 lg0 it0) (V : Rlv) (hV : RV lg0 it0 2 V) : w_X8_push a1 a2 (fun (v : Int64) (lg' : LGt) (it' : ITt) => (I8 lg' it' ∧ Kc (fun j => (486 ≤ j ∧ j < 489)) lg0 it0 lg' it') ∧ v = puA V a1 a2) lg0 it0 := by
  unfold w_X8_push
  rw [lt0, lt0, ti_0, ti_1]
  refine ⟨fun c => ⟨⟨hI, kc_r⟩, by unfold puA; rw [if_pos (Or.inl c)]⟩, fun c => ⟨fun c2 => ⟨⟨hI, kc_r⟩, by unfold puA; rw [if_pos (Or.inr (Or.inl c2))]⟩, fun c2 => ⟨fun c3 => ⟨_, f_X8_addUp in_rb_2 a1 hI V hV, ?_⟩, fun c3 => ⟨⟨hI, kc_r⟩, by unfold puA; rw [if_pos (Or.inr (Or.inr c3))]⟩⟩⟩⟩
  rintro lg' it' ⟨⟨J, K⟩, e⟩
  exact ⟨⟨J, K⟩, by unfold puA; rw [if_neg (by omega)]; exact hl_o e⟩
theorem f_X8_then (a1 a2 : Int32) {lg0 : LGt} {it0 : ITt} (hI : I8 lg0 it0) (V : Rlv) (hV : RV lg0 it0 2 V) (hVO : VO V) (hc : CI lg0 it0) : w_X8_then a1 a2 (fun (v : Int64) (lg' : LGt) (it' : ITt) => (I8 lg' it' ∧ Kc (fun j => (55 ≤ j ∧ j < 450) ∨ (486 ≤ j ∧ j < 489)) lg0 it0 lg' it') ∧ v = thA V a1 a2 ∧ CI lg' it') lg0 it0 := by
  have hcl := cnt_le V 20
  unfold w_X8_then
  rw [lt0, lt0, ti_0, ti_1]
  refine ⟨fun c => ⟨⟨hI, kc_r⟩, by unfold thA puA; rw [if_pos (Or.inl c)], hc⟩, fun c => ⟨fun c2 => ⟨⟨hI, kc_r⟩, by unfold thA puA; rw [if_pos (Or.inr (Or.inl c2))], hc⟩, fun c2 => ⟨fun c3 => ⟨_, w20 hI V hV hVO hc, ?_⟩, fun c3 => ⟨⟨hI, kc_r⟩, by unfold thA puA; rw [if_pos (Or.inr (Or.inr c3))], hc⟩⟩⟩⟩
  rintro lgA itA ⟨⟨JA, KA⟩, s, C⟩
  have kA := cl32 (i := itA 55 3) (by rw [s.1]; omega)
  have e : (itA 55 3).toNatClampNeg = cnt V 20 := by have := s.1; omega
  refine ⟨vp_of (by rw [s.1]; omega) (by rw [s.1]; omega), ?_⟩
  rw [e]
  refine ⟨_, f_X8_addUp (rst (by omega)) a1 JA _ (s.2.2.1 _ (Nat.le_refl _)).1, ?_⟩
  rintro lg' it' ⟨⟨J, K⟩, h⟩
  exact ⟨⟨J, kc_t (kc_t kc_r KA (fun j hj => Or.inl hj)) K (fun j hj => Or.inr hj)⟩, by unfold thA puA; rw [if_neg (by omega)]; exact hl_o h, ci_k C K (fun j hj => by omega)⟩
/-! the second side -/
theorem f_X9_sums (a1 : Int32) {lg0 : LGt} {it0 : ITt} (hI : I9 lg0 it0) (W : Rlv) (hW : vm9 lg0 it0 = W) (hWO : VO W) (ha : a1.toInt = 0 ∨ a1.toInt = 1) : w_X9_sums a1 (fun (v : Int32) (lg' : LGt) (it' : ITt) => (I9 lg' it' ∧ Kd (fun j => False) (fun k => k = 18 ∨ k = 19 ∨ k = 20) lg0 it0 lg' it') ∧ ((v = 0 ∧ smN W a1 (rN W) = none) ∨ (v = 1 ∧ smN W a1 (rN W) = some (lg' 489 18, lg' 489 19)))) lg0 it0 := by
  generalize hp : (fun (v : Int32) (lg' : LGt) (it' : ITt) => (I9 lg' it' ∧ Kd (fun j => False) (fun k => k = 18 ∨ k = 19 ∨ k = 20) lg0 it0 lg' it') ∧ ((v = 0 ∧ smN W a1 (rN W) = none) ∨ (v = 1 ∧ smN W a1 (rN W) = some (lg' 489 18, lg' 489 19)))) = Pz
  have i0 : a1 = 0 ↔ a1.toInt = 0 := by rw [← ti_0]; exact Int32.toInt_inj.symm
  have hN0 : (it0 489 0).toInt = rN W := by rw [← hW]; exact (cl32 (i9_f hI (j := 489) (k := 0) rfl).1).symm
  have h6 := hWO.1
  have lp : ∀ (n : Nat) (p q : Int64) (x : Int32) (lg : LGt) (it : ITt) (k : Nat), I9 lg it → Kd (fun j => False) (fun k => k = 18 ∨ k = 19 ∨ k = 20) lg0 it0 lg it → x.toInt = k → k ≤ rN W → Sv (it 489 20) p q (smN W a1 k) → (¬ it 489 20 = 0 → smN W a1 k = none) → ¬ q = 0 → rN W - k < n → w_X9_sums_b13 a1 Pz n p q x lg it := by
    intro n
    induction n with
    | zero => intro p q x lg it k _ _ _ _ _ _ _ hn; exact absurd hn (Nat.not_lt_zero _)
    | succ n ih =>
      intro p q x lg it k hJ hK hx hk hS hO hq0 hn
      have hV : vm9 lg it = W := by rw [vm9_k hK (fun j hj => hj.elim) (fun k hk => by omega)]; exact hW
      have hN : (it 489 0).toInt = rN W := by rw [(hK.2 0 (by omega)).2]; exact hN0
      have o := i9_o hJ
      unfold w_X9_sums_b13
      rw [le0, hN, hx]
      refine ⟨fun c => ?_, fun c => ?_⟩
      · obtain rfl : k = rN W := by omega
        intro lg5 m5 lg7 m7
        have e18 : lg7 489 18 = p := by rw [m7, u2_ne (by decide), m5, u2_eq]
        have e19 : lg7 489 19 = q := by rw [m7, u2_eq]
        have J7 : I9 lg7 it := by rw [m7]; exact i9_l (by rw [m5]; exact i9_l hJ (by decide) (by decide) (by decide)) (by decide) (by decide) (by decide)
        have K7 : Kd (fun j => False) (fun k => k = 18 ∨ k = 19 ∨ k = 20) lg0 it0 lg7 it := by rw [m7]; exact kd_lf (Or.inr (Or.inl rfl)) (by rw [m5]; exact kd_lf (Or.inl rfl) hK)
        have fin : ∀ (v : Int32) (it2 : ITt), it2 = u2 it 489 20 0 → ((v = 0 ∧ smN W a1 (rN W) = none) ∨ (v = 1 ∧ smN W a1 (rN W) = some (p, q))) → Pz v lg7 it2 := by
          intro v it2 m2 h
          subst hp
          refine ⟨⟨by rw [m2]; exact i9_u J7 (ok9_b (a := 0) (b := 1) rfl (by rw [ti_0]; omega)) (by decide) (fun _ => by decide), by rw [m2]; exact kd_uf (Or.inr (Or.inr rfl)) K7⟩, ?_⟩
          rw [e18, e19]; exact h
        exact ⟨fun c2 it11 m11 => fin 0 it11 m11 (Or.inl ⟨rfl, hO c2⟩), fun c2 it13 m13 => fin 1 it13 m13 (Or.inr ⟨rfl, (hS c2).1⟩)⟩
      have hxk : x.toNatClampNeg = k := by have := cl32 (i := x) (by omega); omega
      have hv : vp_in x 6 := vp_of (by omega) (by omega)
      have fx : (x + 1).toInt = x.toInt + 1 := ad32 rfl ti_1 (by omega) (by omega)
      have fxk : (x + 1).toInt = ((k + 1 : Nat) : Int) := by omega
      have hkn : rN W - (k + 1) < n := by omega
      have hkN : k < rN W := by omega
      have d505 : ¬ lg 505 k = 0 := ((T9_v (by rw [hV]; exact hWO)) k (by omega) (by omega)).1.2
      have d1 : ¬ (1 : Int64) = 0 := by decide
      rw [hxk]
      -- the sum
      have b109 : ∀ (lgA : LGt) (itA : ITt), I9 lgA itA → Kd (fun j => False) (fun k => k = 18 ∨ k = 19 ∨ k = 20) lg0 it0 lgA itA → Sv (itA 489 20) p q (smN W a1 k) → Sv (itA 489 20) (lgA 489 18) (lgA 489 19) (smT W a1 k) → (¬ itA 489 20 = 0 → smN W a1 k = none ∨ smT W a1 k = none) → ¬ lgA 489 19 = 0 → w_X9_sums_b109 a1 Pz (w_X9_sums_b13 a1 Pz n) p q x lgA itA := by
        intro lgA itA JA KA s1 s2 hO2 d19
        unfold w_X9_sums_b109
        refine ⟨i9_o JA, hq0, d19, ?_⟩
        intro q63 mq lg64 m64 it65 m65
        obtain ⟨z1, z2, z3⟩ := sv_p s1 s2
        have e20 : it65 489 20 = q63.2.2 := by rw [m65, setO_o]
        have e18 : lg64 489 18 = q63.1 := by rw [m64, setU_18]
        have e19 : lg64 489 19 = q63.2.1 := by rw [m64, setU_19]
        have eS : smN W a1 (k + 1) = oP (smN W a1 k) (smT W a1 k) := rfl
        rw [e18, e19]
        refine ih _ _ (x + 1) lg64 it65 (k + 1) (by rw [m64, m65]; exact i9_g JA (by rw [mq]; exact gP_o (i9_o JA))) (by rw [m64, m65]; exact kd_g (Or.inl rfl) (Or.inr (Or.inl rfl)) (Or.inr (Or.inr rfl)) KA) fxk (by omega) ?_ ?_ ?_ hkn
        · rw [e20, eS, mq]; exact z1
        · intro h
          rw [e20, mq] at h
          rw [eS]
          rcases z3 h with h2 | h2
          · rcases hO2 h2 with h3 | h3
            · rw [h3]; rfl
            · rw [h3]; cases smN W a1 k <;> rfl
          · exact h2
        · rw [mq]; exact gP_d hq0 d19
      have i1 : ¬ a1 = 0 → a1.toInt = 1 := fun h => ha.resolve_left (fun z => h (i0.mpr z))
      refine ⟨fun c2 => ⟨hv, hv, hv, hv, o, d505, d505, ?_⟩, fun c2 => ⟨hv, hv, hv, o, d505, d1, ?_⟩⟩
      · intro q25 mq lg26 m26 it27 m27
        obtain ⟨z1, z2, z3⟩ := sv_t (svS (o := it 489 20) hV hWO rfl hkN) (svS (o := it 489 20) hV hWO rfl hkN)
        have J27 : I9 lg26 it27 := by rw [m26, m27]; exact i9_g hJ (by rw [mq]; exact gT_o o)
        have K27 : Kd (fun j => False) (fun k => k = 18 ∨ k = 19 ∨ k = 20) lg0 it0 lg26 it27 := by rw [m26, m27]; exact kd_g (Or.inl rfl) (Or.inr (Or.inl rfl)) (Or.inr (Or.inr rfl)) hK
        have e20 : it27 489 20 = q25.2.2 := by rw [m27, setO_o]
        have e18 : lg26 489 18 = q25.1 := by rw [m26, setU_18]
        have e19 : lg26 489 19 = q25.2.1 := by rw [m26, setU_19]
        have V27 : vm9 lg26 it27 = W := by rw [vm9_k K27 (fun j hj => hj.elim) (fun k hk => by omega)]; exact hW
        have d27 : ¬ lg26 489 19 = 0 := by rw [e19, mq]; exact gT_d d505 d505
        refine ⟨hv, i9_o J27, d27, d1, ?_⟩
        intro q37 mq2 lg38 m38 it39 m39
        have w1 : Sv (it27 489 20) (lg26 489 18) (lg26 489 19) (oT (some (rS W k)) (some (rS W k))) := by rw [e20, e18, e19, mq]; exact z1
        obtain ⟨y1, y2, y3⟩ := sv_t w1 (svM (o := it27 489 20) V27 rfl hkN)
        have t20 : it39 489 20 = q37.2.2 := by rw [m39, setO_o]
        have t18 : lg38 489 18 = q37.1 := by rw [m38, setU_18]
        have t19 : lg38 489 19 = q37.2.1 := by rw [m38, setU_19]
        have eT : smT W a1 k = oT (oT (some (rS W k)) (some (rS W k))) (mF (rM W k)) := by unfold smT; rw [if_pos (i1 c2)]
        refine b109 lg38 it39 (by rw [m38, m39]; exact i9_g J27 (by rw [mq2]; exact gT_o (i9_o J27))) (by rw [m38, m39]; exact kd_g (Or.inl rfl) (Or.inr (Or.inl rfl)) (Or.inr (Or.inr rfl)) K27) ?_ ?_ ?_ ?_
        · refine sv_w hS (fun h => z2 ?_)
          rw [← mq, ← e20]
          refine y2 ?_
          rw [← mq2, ← t20]; exact h
        · rw [t20, t18, t19, eT, mq2]; exact y1
        · intro h
          rw [t20, mq2] at h
          rcases y3 h with h2 | h2
          · rw [e20, mq] at h2
            rcases z3 h2 with h3 | h3
            · exact Or.inl (hO h3)
            · refine Or.inr ?_
              rw [eT, h3]; cases mF (rM W k) <;> rfl
          · exact Or.inr (by rw [eT]; exact h2)
        · rw [t19, mq2]; exact gT_d d27 d1
      · intro q53 mq lg54 m54 it55 m55
        obtain ⟨z1, z2, z3⟩ := sv_t (svS (o := it 489 20) hV hWO rfl hkN) (svM (o := it 489 20) hV rfl hkN)
        have e20 : it55 489 20 = q53.2.2 := by rw [m55, setO_o]
        have e18 : lg54 489 18 = q53.1 := by rw [m54, setU_18]
        have e19 : lg54 489 19 = q53.2.1 := by rw [m54, setU_19]
        have eT : smT W a1 k = oT (some (rS W k)) (mF (rM W k)) := by unfold smT; rw [if_neg (by have := i0.mp c2; omega)]
        refine b109 lg54 it55 (by rw [m54, m55]; exact i9_g hJ (by rw [mq]; exact gT_o o)) (by rw [m54, m55]; exact kd_g (Or.inl rfl) (Or.inr (Or.inl rfl)) (Or.inr (Or.inr rfl)) hK) ?_ ?_ ?_ ?_
        · refine sv_w hS (fun h => z2 ?_)
          rw [← mq, ← e20]; exact h
        · rw [e20, e18, e19, eT, mq]; exact z1
        · intro h
          rw [e20, mq] at h
          rcases z3 h with h3 | h3
          · exact Or.inl (hO h3)
          · exact Or.inr (by rw [eT]; exact h3)
        · rw [e19, mq]; exact gT_d d505 d1
  unfold w_X9_sums
  intro it1 m1
  have z20 : it1 489 20 = 0 := by rw [m1, u2_eq]
  exact ⟨_, lp (rN W + 1) 0 1 0 lg0 it1 0 (by rw [m1]; exact i9_u hI (ok9_b (a := 0) (b := 1) rfl (by rw [ti_0]; omega)) (by decide) (fun _ => by decide)) (by rw [m1]; exact kd_uf (Or.inr (Or.inr rfl)) kd_r) ti_0 (Nat.zero_le _) (sv_c (by decide)) (fun h => absurd z20 h) (by decide) (by omega)⟩
theorem pu_9 {W : Rlv} {a1 a2 v : Int32} {lg : LGt} {it : ITt} {P : Int64 → LGt → ITt → Prop} (hb : 0 ≤ a2.toInt ∧ a2.toInt ≤ 1) (ha : 0 ≤ a1.toInt ∧ a1.toInt ≤ 1) (h : (v = 0 ∧ smN W a1 (rN W) = none) ∨ (v = 1 ∧ smN W a1 (rN W) = some (lg 489 18, lg 489 19))) (hP : P (puA W a1 a2) lg it) : ((v = 0) → (P MNL lg it)) ∧ ((¬ v = 0) → (((¬ a2 = 0) → (P (lg 489 19) lg it)) ∧ ((a2 = 0) → (P (lg 489 18) lg it)))) := by
  have e : puA W a1 a2 = hfO (smN W a1 (rN W)) a2 := by unfold puA; rw [if_neg (by omega)]
  rw [e] at hP
  rcases h with ⟨rfl, h⟩ | ⟨rfl, h⟩
  · rw [h] at hP
    exact ⟨fun _ => hP, fun c => absurd rfl c⟩
  · rw [h] at hP
    refine ⟨fun c => absurd c (by decide), fun _ => ⟨fun c => ?_, fun c => ?_⟩⟩
    · have hP : P (half (lg 489 18, lg 489 19) a2) lg it := hP
      unfold half at hP; rw [if_neg c] at hP; exact hP
    · have hP : P (half (lg 489 18, lg 489 19) a2) lg it := hP
      unfold half at hP; rw [if_pos c] at hP; exact hP
theorem f_X9_push (a1 a2 : Int32) {lg0 : LGt} {it0 : ITt} (hI : I9 lg0 it0) (hVO : VO (vw9 lg0 it0)) : w_X9_push a1 a2 (fun (v : Int64) (lg' : LGt) (it' : ITt) => (I9 lg' it' ∧ Kd (fun j => 501 ≤ j ∧ j ≤ 512) (fun k => k = 18 ∨ k = 19 ∨ k = 20 ∨ (28 ≤ k ∧ k ≤ 43)) lg0 it0 lg' it') ∧ v = puA (vw9 lg0 it0) a1 a2) lg0 it0 := by
  unfold w_X9_push
  rw [Int32.toInt_toInt64, tl_0, show ((1 : Int64) : Int64).toInt = 1 by decide]
  refine ⟨fun c => ⟨⟨hI, kd_r⟩, by unfold puA; rw [if_pos (by omega)]⟩, fun c => ⟨fun c2 => ⟨_, f_X9_minds hI, ?_⟩, fun c2 => ⟨⟨hI, kd_r⟩, by unfold puA; rw [if_pos (Or.inr (Or.inr c2))]⟩⟩⟩
  rintro lgA itA ⟨⟨JA, KA⟩, eA⟩
  refine ⟨_, f_X9_sums a1 JA _ eA hVO (by omega), ?_⟩
  rintro v lg' it' ⟨⟨J, K⟩, h⟩
  exact pu_9 (P := fun (v : Int64) (lg' : LGt) (it' : ITt) => (I9 lg' it' ∧ Kd (fun j => 501 ≤ j ∧ j ≤ 512) (fun k => k = 18 ∨ k = 19 ∨ k = 20 ∨ (28 ≤ k ∧ k ≤ 43)) lg0 it0 lg' it') ∧ v = puA (vw9 lg0 it0) a1 a2) c2 c h ⟨⟨J, kd_t (kd_t kd_r KA (fun j hj => by omega) (fun k hk => by omega)) K (fun j hj => hj.elim) (fun k hk => by omega)⟩, rfl⟩
theorem f_X9_then (a1 a2 : Int32) {lg0 : LGt} {it0 : ITt} (hI : I9 lg0 it0) (hVO : VO (vw9 lg0 it0)) : w_X9_then a1 a2 (fun (v : Int64) (lg' : LGt) (it' : ITt) => (I9 lg' it' ∧ Kd (fun j => 501 ≤ j ∧ j ≤ 512) (fun k => k = 18 ∨ k = 19 ∨ k = 20 ∨ (28 ≤ k ∧ k ≤ 43)) lg0 it0 lg' it') ∧ v = thA (vw9 lg0 it0) a1 a2) lg0 it0 := by
  unfold w_X9_then
  rw [Int32.toInt_toInt64, tl_0, show ((1 : Int64) : Int64).toInt = 1 by decide]
  refine ⟨fun c => ⟨⟨hI, kd_r⟩, by unfold thA puA; rw [if_pos (by omega)]⟩, fun c => ⟨fun c2 => ⟨_, f_X9_findAll hI hVO, ?_⟩, fun c2 => ⟨⟨hI, kd_r⟩, by unfold thA puA; rw [if_pos (Or.inr (Or.inr c2))]⟩⟩⟩
  rintro lgA itA ⟨⟨JA, KA⟩, _, _, _, _, eA⟩
  have e20 : (runA (vw9 lg0 it0) 20).2 = (runA (vw9 lg0 it0) (cnt (vw9 lg0 it0) 20)).2 := (cnt_min (vw9 lg0 it0) 20).2.1
  rw [e20] at eA
  refine ⟨_, f_X9_sums a1 JA _ eA (run_vo hVO _).1 (by omega), ?_⟩
  rintro v lg' it' ⟨⟨J, K⟩, h⟩
  exact pu_9 (P := fun (v : Int64) (lg' : LGt) (it' : ITt) => (I9 lg' it' ∧ Kd (fun j => 501 ≤ j ∧ j ≤ 512) (fun k => k = 18 ∨ k = 19 ∨ k = 20 ∨ (28 ≤ k ∧ k ≤ 43)) lg0 it0 lg' it') ∧ v = thA (vw9 lg0 it0) a1 a2) c2 c h ⟨⟨J, kd_t (kdA KA) K (fun j hj => hj.elim) (fun k hk => by omega)⟩, rfl⟩
