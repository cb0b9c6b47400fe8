/-! what happens to a rail -/
def ngS (s : QQ) : QQ := match oL (some (0, 1)) (some s) with | some r => r | none => s
def trN (V : Rlv) (k : Nat) : Rlv := (rN V, rM V, rP V, (fun j => if j < k then ngS (rS V j) else rS V j), rE V, rA V, rB V)
def gon (n : Int32) : Int32 := if n.toInt = 9 then -1 else n
noncomputable def wlE (V : Rlv) (s n : Int32) : Rlv := @ite _ (Bey V s) (Classical.propDecidable _) V (if s.toInt = 0 then setA V (gon n) else setB V (gon n))
noncomputable def hpA (V : Rlv) (k n : Int32) : Rlv :=
  if k.toInt = 0 then (if 0 ≤ n.toInt ∧ n.toInt < rN V then setS V n.toNatClampNeg (0, 1) else V)
  else if k.toInt = 1 then trN V (rN V) else if k.toInt = 2 then setE V n else wlE (wlE V 0 n) 1 n
noncomputable def hpN (V : Rlv) (X : Pr) : Nat → Rlv
  | 0 => V
  | k + 1 => hpA (hpN V X k) (X.2.1 k) (X.2.2 k)
theorem trN_s {V : Rlv} {k : Nat} : trN V (k + 1) = setS (trN V k) k (ngS (rS V k)) := by
  unfold trN setS
  refine congrArg (fun f => ((rN V, rM V, rP V, f, rE V, rA V, rB V) : Rlv)) (funext fun j => ?_)
  show (if j < k + 1 then ngS (rS V j) else rS V j) = if j = k then ngS (rS V k) else (if j < k then ngS (rS V j) else rS V j)
  by_cases c : j = k
  · rw [if_pos (by omega), if_pos c, c]
  · rw [if_neg c]
    by_cases c2 : j < k
    · rw [if_pos c2, if_pos (by omega)]
    · rw [if_neg c2, if_neg (by omega)]
theorem trN_o {V : Rlv} {k : Nat} (h : ngS (rS V k) = rS V k) : trN V (k + 1) = trN V k := by
  unfold trN
  refine congrArg (fun f => ((rN V, rM V, rP V, f, rE V, rA V, rB V) : Rlv)) (funext fun j => ?_)
  show (if j < k + 1 then ngS (rS V j) else rS V j) = if j < k then ngS (rS V j) else rS V j
  by_cases c : j = k
  · subst c; rw [if_pos (by omega), if_neg (by omega)]; exact h
  · by_cases c2 : j < k
    · rw [if_pos c2, if_pos (by omega)]
    · rw [if_neg c2, if_neg (by omega)]
theorem ng_pos {s : QQ} (h : 0 < s.2.toInt) : 0 < (ngS s).2.toInt := by
  unfold ngS
  split
  · rename_i r e
    exact pos_l (pos_s (by decide)) (pos_s h) r e
  · exact h
theorem vo_trN {V : Rlv} (h : VO V) : ∀ k, k ≤ rN V → VO (trN V k)
  | 0, _ => by
    have e : trN V 0 = V := by
      unfold trN
      have : (fun j => if j < 0 then ngS (rS V j) else rS V j) = rS V := funext fun j => if_neg (Nat.not_lt_zero _)
      rw [this]
    rw [e]; exact h
  | k + 1, hk => by rw [trN_s]; exact vo_setS (vo_trN h k (by omega)) hk (ng_pos (h.2.1 k).2)
theorem gon_b {n : Int32} (h : (0 ≤ n.toInt ∧ n.toInt ≤ 4) ∨ n.toInt = 9) : -1 ≤ (gon n).toInt ∧ (gon n).toInt ≤ 4 := by
  unfold gon
  split
  · rw [ti_m1]; omega
  · omega
theorem vo_wlE {V : Rlv} {s n : Int32} (h : VO V) (hn : (0 ≤ n.toInt ∧ n.toInt ≤ 4) ∨ n.toInt = 9) : VO (wlE V s n) := by
  unfold wlE
  split
  · exact h
  · split
    · exact vo_setA h (gon_b hn)
    · exact vo_setB h (gon_b hn)
theorem vo_hp {V : Rlv} {k n : Int32} (h : VO V) (he : okE k n) : VO (hpA V k n) := by
  unfold okE at he
  unfold hpA
  split
  · split
    · rename_i c
      exact vo_setS h (by have := cl32 c.1; omega) (show 0 < (1 : Int64).toInt by decide)
    · exact h
  · split
    · exact vo_trN h _ (Nat.le_refl _)
    · split
      · exact vo_setE h (by omega)
      · exact vo_wlE (vo_wlE h (by omega)) (by omega)
theorem vo_hpN {V : Rlv} {X : Pr} (h : VO V) (he : AE X) : ∀ k, VO (hpN V X k)
  | 0 => h
  | k + 1 => vo_hp (vo_hpN h he k) (he k)
theorem fv_lo {lg lg' : LGt} {it it' : ITt} {j : Nat} (h1 : lg' j = lg j) (h2 : it' j = it j) : fv lg' it' j = fv lg it j := by unfold fv; rw [h1, h2]
/-! the first side -/
set_option maxRecDepth 100000 in
theorem f_X8_turnAll {a1 : Nat} (ha1 : a1 ∈ rb) {lg0 : LGt} {it0 : ITt} (hI : I8 lg0 it0) (V : Rlv) (hV : RV lg0 it0 a1 V) : w_X8_turnAll a1 (fun (lg' : LGt) (it' : ITt) => (I8 lg' it' ∧ Kc (fun j => (a1 ≤ j ∧ j < a1 + 17) ∨ (486 ≤ j ∧ j < 489)) lg0 it0 lg' it') ∧ RV lg' it' a1 (trN V (rN V))) lg0 it0 := by
  generalize hp : (fun (lg' : LGt) (it' : ITt) => (I8 lg' it' ∧ Kc (fun j => (a1 ≤ j ∧ j < a1 + 17) ∨ (486 ≤ j ∧ j < 489)) lg0 it0 lg' it') ∧ RV lg' it' a1 (trN V (rN V))) = Pz
  have hlo := rb_low ha1
  have h6 : rN V ≤ 6 := by rw [← hV.1]; exact hV.2.2
  have lp : ∀ (n : Nat) (x : Int32) (lg : LGt) (it : ITt) (k : Nat), I8 lg it → Kc (fun j => (a1 ≤ j ∧ j < a1 + 17) ∨ (486 ≤ j ∧ j < 489)) lg0 it0 lg it → x.toInt = k → k ≤ rN V → RV lg it a1 (trN V k) → rN V - k < n → w_X8_turnAll_b2 a1 Pz n x lg it := by
    intro n
    induction n with
    | zero => intro x lg it k _ _ _ _ _ hn; exact absurd hn (Nat.not_lt_zero _)
    | succ n ih =>
      intro x lg it k hJ hK hx hk hR hn
      have hN : (it a1 0).toInt = rN (trN V k) := rN_f hJ ha1 hR
      have hN : (it a1 0).toInt = rN V := hN
      unfold w_X8_turnAll_b2
      rw [le0, hN, hx]
      refine ⟨fun c => ?_, fun c => ?_⟩
      · obtain rfl : k = rN V := by omega
        subst hp
        exact ⟨⟨hJ, hK⟩, hR⟩
      have hxk : x.toNatClampNeg = k := by have := cl32 (i := x) (by omega); omega
      have hv : vp_in x 6 := vp_of (by omega) (by omega)
      have fx : (x + 1).toInt = x.toInt + 1 := ad32 rfl ti_1 (by omega) (by omega)
      intro lg3 m3 it4 m4
      have J4 : I8 lg3 it4 := by rw [m4]; exact i8_u hJ (ok8_1 oq_486 (fun _ => Or.inl rfl))
      have K4 : Kc (fun j => (a1 ≤ j ∧ j < a1 + 17) ∨ (486 ≤ j ∧ j < 489)) lg0 it0 lg3 it4 := by rw [m3, m4]; exact kc_f (by omega) hK
      have R4 : RV lg3 it4 a1 (trN V k) := by rw [m3, m4]; exact rv_f hR (by omega)
      have f486 : fv lg3 it4 486 = (0, 1, 0) := by rw [m3, m4]; exact fv_a3
      refine ⟨hv, ?_⟩
      rw [hxk]
      intro q8 mq8 lg9 m9 it10 m10
      have J10 : I8 lg9 it10 := by rw [m10]; exact i8_u J4 (ok8_1 oq_486 (fun _ => by rw [mq8]; exact stF_01 _ _ _ _ _))
      have K10 : Kc (fun j => (a1 ≤ j ∧ j < a1 + 17) ∨ (486 ≤ j ∧ j < 489)) lg0 it0 lg9 it10 := by rw [m9, m10]; exact kc_f (by omega) K4
      have R10 : RV lg9 it10 a1 (trN V k) := by rw [m9, m10]; exact rv_f R4 (by omega)
      have e10 : fv lg9 it10 486 = q8 := by rw [m9, m10]; exact fv_at
      have eo : it10 486 2 = q8.2.2 := by rw [← e10]; rfl
      have ea : lg9 486 0 = q8.1 ∧ lg9 486 1 = q8.2.1 := by rw [← e10]; exact ⟨rfl, rfl⟩
      have es : rS (trN V k) k = rS V k := if_neg (Nat.lt_irrefl k)
      have eq8 : abF q8 = oL (some (0, 1)) (some (rS V k)) := by
        rw [mq8, ab_l, f486, rS_f R4 (i := k) (by show k < rN V; omega), es]
        rfl
      have fxk : (x + 1).toInt = ((k + 1 : Nat) : Int) := by omega
      rw [eo]
      refine ⟨fun c2 => ?_, fun c2 => ⟨hv, ?_⟩⟩
      · rw [abF_1 c2] at eq8
        have e2 : trN V (k + 1) = trN V k := trN_o (by unfold ngS; rw [← eq8])
        exact ih (x + 1) lg9 it10 (k + 1) J10 K10 fxk (by omega) (by rw [e2]; exact R10) (by omega)
      · rw [abF_0 c2] at eq8
        have e2 : trN V (k + 1) = setS (trN V k) k (q8.1, q8.2.1) := by rw [trN_s]; unfold ngS; rw [← eq8]
        refine ⟨by rw [c2]; rfl, ?_⟩
        intro lg16 m16 it17 m17
        rw [ea.1, ea.2] at m16
        rw [c2] at m17
        exact ih (x + 1) lg16 it17 (k + 1) (by rw [m17]; exact i8_u J10 (ok8_1 (rpo5 ha1 (by omega)) (fun _ => Or.inl rfl))) (by rw [m16, m17]; exact kc_f (by omega) K10) fxk (by omega) (by rw [e2, m16, m17]; exact rv_setS R10 (by show k < rN V; omega)) (by omega)
  unfold w_X8_turnAll
  have e0 : trN V 0 = V := by
    unfold trN
    have : (fun j => if j < 0 then ngS (rS V j) else rS V j) = rS V := funext fun j => if_neg (Nat.not_lt_zero _)
    rw [this]
  exact ⟨_, lp (rN V + 1) 0 lg0 it0 0 hI kc_r ti_0 (Nat.zero_le _) (by rw [e0]; exact hV) (by omega)⟩
set_option maxRecDepth 100000 in
theorem f_X8_happen {a1 : Nat} (ha1 : a1 ∈ rb) (a2 a3 : Int32) {lg0 : LGt} {it0 : ITt} (hI : I8 lg0 it0) (V : Rlv) (hV : RV lg0 it0 a1 V) (he : okE a2 a3) : w_X8_happen a1 a2 a3 (fun (lg' : LGt) (it' : ITt) => (I8 lg' it' ∧ Kc (fun j => (a1 ≤ j ∧ j < a1 + 17) ∨ (486 ≤ j ∧ j < 489)) lg0 it0 lg' it') ∧ RV lg' it' a1 (hpA V a2 a3)) lg0 it0 := by
  have hlo := rb_low ha1
  have h6 : rN V ≤ 6 := by rw [← hV.1]; exact hV.2.2
  have hN : (it0 a1 0).toInt = rN V := rN_f hI ha1 hV
  unfold w_X8_happen
  refine ⟨fun c => ?_, fun c => ?_, fun c => ?_, fun c => ?_, trivial⟩
  · have e : hpA V a2 a3 = wlE (wlE V 0 a3) 1 a3 := by unfold hpA; rw [if_neg (by omega), if_neg (by omega), if_neg (by omega)]
    rw [e]
    generalize hp : (fun (lg' : LGt) (it' : ITt) => (I8 lg' it' ∧ Kc (fun j => (a1 ≤ j ∧ j < a1 + 17) ∨ (486 ≤ j ∧ j < 489)) lg0 it0 lg' it') ∧ RV lg' it' a1 (wlE (wlE V 0 a3) 1 a3)) = Pz
    have i9x : a3 = 9 ↔ a3.toInt = 9 := by rw [← ti_9]; exact Int32.toInt_inj.symm
    -- one side, then C
    have side : ∀ (s : Int32) (W : Rlv) (lg : LGt) (it : ITt) (n : Nat), (s.toInt = 0 ∨ s.toInt = 1) → I8 lg it → Kc (fun j => (a1 ≤ j ∧ j < a1 + 17) ∨ (486 ≤ j ∧ j < 489)) lg0 it0 lg it → RV lg it a1 W → (∀ (lg' : LGt) (it' : ITt), I8 lg' it' → Kc (fun j => (a1 ≤ j ∧ j < a1 + 17) ∨ (486 ≤ j ∧ j < 489)) lg0 it0 lg' it' → RV lg' it' a1 (wlE W s a3) → w_X8_happen_b72 a1 a2 a3 Pz n (s + 1) lg' it') → w_X8_happen_b72 a1 a2 a3 Pz (n + 1) s lg it := by
      intro s W lg it n hs J K R nx
      unfold w_X8_happen_b72
      rw [lt0, ti_1, i9x]
      refine ⟨fun c2 => absurd c2 (by omega), fun _ => ⟨_, f_X8_isAnyBeyond ha1 s J W R, ?_⟩⟩
      rintro v lgA itA ⟨⟨JA, KA⟩, hb⟩
      have RA : RV lgA itA a1 W := rv_k R KA (fun j hj => by omega)
      have KA2 := kc_t K KA (fun j hj => Or.inr hj)
      have hv : vp_in s 2 := vp_of (by omega) (by omega)
      have ks := cl32 (i := s) (by omega)
      have put : ∀ (w : Int32) (it2 : ITt), w = gon a3 → it2 = u2 itA (a1 + 16) s.toNatClampNeg w → ¬ Bey W s → w_X8_happen_b72 a1 a2 a3 Pz n (s + 1) lgA it2 := by
        intro w it2 hw m2 hnb
        refine nx lgA it2 (by rw [m2]; exact i8_u JA (ok8_a (rob ha1 16 (by decide) rfl) (by decide))) (by rw [m2]; exact kc_u (by omega) KA2) ?_
        unfold wlE
        rw [if_neg hnb, m2]
        by_cases z : s.toInt = 0
        · rw [if_pos z, show s.toNatClampNeg = 0 by omega, ← hw]; exact rv_setA RA
        · rw [if_neg z, show s.toNatClampNeg = 1 by omega, ← hw]; exact rv_setB RA
      refine ⟨fun c3 => ?_, fun c3 => ?_⟩
      · have hb1 := (hb.resolve_right (fun q => c3 q.1)).2
        refine nx lgA itA JA KA2 ?_
        unfold wlE
        rw [if_pos hb1]
        exact RA
      · have hb0 := (hb.resolve_left (fun q => by rw [q.1] at c3; exact absurd c3 (by decide))).2
        refine ⟨fun c4 => ⟨hv, fun it40 m40 => put _ it40 ?_ m40 hb0⟩, fun c4 => ⟨hv, fun it43 m43 => put _ it43 ?_ m43 hb0⟩⟩
        · unfold gon; rw [if_neg c4]
        · unfold gon; rw [if_pos c4]
    refine ⟨3, side 0 V lg0 it0 2 (Or.inl ti_0) hI kc_r hV ?_⟩
    intro lgA itA JA KA RA
    refine side (0 + 1) (wlE V 0 a3) lgA itA 1 (Or.inr (by decide)) JA KA RA ?_
    intro lgB itB JB KB RB
    unfold w_X8_happen_b72
    refine ⟨fun _ => ?_, fun c2 => absurd (show (1 : Int32) < 0 + 1 + 1 by decide) c2⟩
    subst hp
    exact ⟨⟨JB, KB⟩, RB⟩
  · rw [lt0, le0, ti_0, hN]
    have no : ¬ (0 ≤ a3.toInt ∧ a3.toInt < rN V) → hpA V a2 a3 = V := fun q => by unfold hpA; rw [if_pos c, if_neg q]
    refine ⟨fun c2 => ⟨⟨hI, kc_r⟩, by rw [no (by omega)]; exact hV⟩, fun c2 => ⟨fun c3 => ⟨⟨hI, kc_r⟩, by rw [no (by omega)]; exact hV⟩, fun c3 => ?_⟩⟩
    have k3 := cl32 (i := a3) (by omega)
    have e : hpA V a2 a3 = setS V a3.toNatClampNeg (0, 1) := by unfold hpA; rw [if_pos c, if_pos (by omega)]
    rw [e]
    refine ⟨vp_of (by omega) (by omega), fun lg9 m9 it10 m10 => ?_⟩
    rw [m9, m10]
    exact ⟨⟨i8_u hI (ok8_1 (rpo5 ha1 (by omega)) (fun _ => Or.inl rfl)), kc_f (by omega) kc_r⟩, rv_setS hV (by omega)⟩
  · have e : hpA V a2 a3 = trN V (rN V) := by unfold hpA; rw [if_neg (by omega), if_pos c]
    rw [e]
    exact ⟨_, f_X8_turnAll ha1 hI V hV, fun lg' it' h => h⟩
  · have e : hpA V a2 a3 = setE V a3 := by unfold hpA; rw [if_neg (by omega), if_neg (by omega), if_pos c]
    rw [e]
    intro it21 m21
    rw [m21]
    exact ⟨⟨i8_u hI (ok8_3 (obr ha1) (fun q => absurd q (by decide))), kc_u (by omega) kc_r⟩, rv_setE hV⟩
