/-! looked: the first booked strike that isn't so, on both sides -/
def hitP (V : Rlv) (c : Nat) (X : Pr) (k : Nat) : Prop := (0 ≤ (X.2.1 k).toInt ∧ (X.2.1 k).toInt < c) ∧ whr V (X.2.1 k).toNatClampNeg = (X.2.2 k).toInt
noncomputable def fuF (V : Rlv) (c : Nat) (X : Pr) : Nat → Nat → Int
  | 0, _ => -5
  | f + 1, k => @ite _ (hitP V c X k) (Classical.propDecidable _) (fuF V c X f (k + 1)) k
theorem fu_pq {V : Rlv} {c : Nat} {X Y : Pr} (h : ∀ k, k < X.1.toNatClampNeg → X.2.1 k = Y.2.1 k ∧ X.2.2 k = Y.2.2 k) : ∀ f k, k + f ≤ X.1.toNatClampNeg → fuF V c X f k = fuF V c Y f k
  | 0, _, _ => rfl
  | f + 1, k, hk => by
    obtain ⟨a, b⟩ := h k (by omega)
    have e : hitP V c X k ↔ hitP V c Y k := by unfold hitP; rw [a, b]
    unfold fuF
    by_cases z : hitP V c X k
    · rw [if_pos z, if_pos (e.mp z)]; exact fu_pq h f (k + 1) (by omega)
    · rw [if_neg z, if_neg (fun q => z (e.mpr q))]
noncomputable def lkI (V : Rlv) (c : Nat) (X : Pr) : Int := fuF V c X X.1.toNatClampNeg 0
theorem lk_pq {V : Rlv} {c : Nat} {X Y : Pr} (h : PQ X Y) : lkI V c X = lkI V c Y := by
  unfold lkI
  rw [fu_pq h.2.2.2 _ 0 (by omega), h.1]
theorem f_X0_firstUnlike {a1 : Nat} (ha : a1 = 19 ∨ a1 = 25) {lg0 : LGt} {it0 : ITt} (hI : I8 lg0 it0) (V : Rlv) (c : Nat) (hc : (it0 55 3).toInt = c) (c20 : c ≤ 20) (hw : WK it0 V c) : w_X0_firstUnlike a1 (fun (v : Int32) (lg' : LGt) (it' : ITt) => lg' = lg0 ∧ it' = it0 ∧ v.toInt = lkI V c (p8 it0 a1)) lg0 it0 := by
  have ha1 : a1 ∈ pb := by rcases ha with rfl | rfl <;> decide
  have hln := pb_len ha1
  have b := i8_2 hI (obp ha1)
  have l8 : ((LAY (a1 + 1)).2 : Int) ≤ 8 := by rcases ha with rfl | rfl <;> decide +kernel
  have kb := cl32 b.1
  have tm5 : (-5 : Int32).toInt = -5 := by decide
  generalize hn0 : (it0 a1 2).toNatClampNeg = n0 at kb
  have eL : lkI V c (p8 it0 a1) = fuF V c (p8 it0 a1) n0 0 := by unfold lkI; rw [← hn0]; rfl
  rw [eL]
  have lp : ∀ (n : Nat) (x : Int32) (k : Nat), x.toInt = k → k ≤ n0 → fuF V c (p8 it0 a1) n0 0 = fuF V c (p8 it0 a1) (n0 - k) k → n0 - k < n → w_X0_firstUnlike_b2 a1 (fun (v : Int32) (lg' : LGt) (it' : ITt) => lg' = lg0 ∧ it' = it0 ∧ v.toInt = fuF V c (p8 it0 a1) n0 0) n x lg0 it0 := by
    intro n
    induction n with
    | zero => intro x k _ _ _ hn; exact absurd hn (Nat.not_lt_zero _)
    | succ n ih =>
      intro x k hx hk hF hn
      have hxk : x.toNatClampNeg = k := by have := cl32 (i := x) (by omega); omega
      have fx : (x + 1).toInt = x.toInt + 1 := ad32 rfl ti_1 (by omega) (by omega)
      unfold w_X0_firstUnlike_b2
      rw [le0, ← kb, hx]
      refine ⟨fun c2 => ⟨rfl, rfl, ?_⟩, fun c2 => ⟨vp_of (by omega) (by omega), ?_⟩⟩
      · rw [hF, show n0 - k = 0 by omega]; exact tm5
      rw [hxk, lt0, le0, ti_0, hc]
      have eF : fuF V c (p8 it0 a1) (n0 - k) k = @ite _ (hitP V c (p8 it0 a1) k) (Classical.propDecidable _) (fuF V c (p8 it0 a1) (n0 - (k + 1)) (k + 1)) k := by
        rw [show n0 - k = (n0 - (k + 1)) + 1 by omega]; rfl
      have no : ¬ hitP V c (p8 it0 a1) k → fuF V c (p8 it0 a1) n0 0 = k := fun z => by rw [hF, eF, if_neg z]
      refine ⟨fun c3 => ⟨rfl, rfl, ?_⟩, fun c3 => ⟨fun c4 => ⟨rfl, rfl, ?_⟩, fun c4 => ⟨vp_of (by omega) (by omega), vp_of (by omega) (by omega), fun c5 => ?_, fun c5 => ⟨rfl, rfl, ?_⟩⟩⟩⟩
      · rw [no (fun z => by have z1 : 0 ≤ (it0 (a1 + 1) k).toInt := z.1.1; omega)]
      · rw [no (fun z => by have z1 : (it0 (a1 + 1) k).toInt < c := z.1.2; omega)]
      · have kf := cl32 (i := it0 (a1 + 1) k) (by omega)
        have hit : hitP V c (p8 it0 a1) k := ⟨⟨show 0 ≤ (it0 (a1 + 1) k).toInt by omega, show (it0 (a1 + 1) k).toInt < c by omega⟩, by
          show whr V (it0 (a1 + 1) k).toNatClampNeg = (it0 (a1 + 2) k).toInt
          rw [← hw _ (by omega), c5]⟩
        exact ih (x + 1) (k + 1) (by omega) (by omega) (by rw [hF, eF, if_pos hit]) (by omega)
      · have kf := cl32 (i := it0 (a1 + 1) k) (by omega)
        rw [no (fun z => c5 ?_)]
        have z2 : whr V (it0 (a1 + 1) k).toNatClampNeg = (it0 (a1 + 2) k).toInt := z.2
        exact Int32.toInt_inj.mp (by rw [hw _ (by omega)]; exact z2)
  unfold w_X0_firstUnlike
  exact ⟨_, lp (n0 + 1) 0 0 ti_0 (Nat.zero_le _) rfl (by omega)⟩
theorem f_X8_looked {lg0 : LGt} {it0 : ITt} (hI : I8 lg0 it0) (V : Rlv) (hV : RV lg0 it0 2 V) (hVO : VO V) (hc : CI lg0 it0) : w_X8_looked (fun (v : Int32) (lg' : LGt) (it' : ITt) => (I8 lg' it' ∧ Kc (fun j => (55 ≤ j ∧ j < 450)) lg0 it0 lg' it') ∧ v.toInt = lkI V (cnt V 20) (p8 it0 25) ∧ CI lg' it') lg0 it0 := by
  unfold w_X8_looked
  refine ⟨_, w20 hI V hV hVO hc, ?_⟩
  rintro lgA itA ⟨⟨JA, KA⟩, s, C⟩
  refine ⟨_, f_X0_firstUnlike (Or.inr rfl) JA V (cnt V 20) s.1 (cnt_le V 20) s.2.2.2, ?_⟩
  rintro v lg' it' ⟨rfl, rfl, e⟩
  exact ⟨⟨JA, KA⟩, by rw [e, p8_k KA (fun j hj => by omega)], C⟩
theorem f_X9_looked {lg0 : LGt} {it0 : ITt} (hI : I9 lg0 it0) (hVO : VO (vw9 lg0 it0)) : w_X9_looked (fun (v : Int32) (lg' : LGt) (it' : ITt) => (I9 lg' it' ∧ Kd (fun j => 501 ≤ j ∧ j ≤ 512) (fun k => k = 18 ∨ k = 19 ∨ k = 20 ∨ (28 ≤ k ∧ k ≤ 43)) lg0 it0 lg' it') ∧ v.toInt = lkI (vw9 lg0 it0) (cnt (vw9 lg0 it0) 20) (p9 it0 11 499)) lg0 it0 := by
  have hcl := cnt_le (vw9 lg0 it0) 20
  have tm5 : (-5 : Int32).toInt = -5 := by decide
  unfold w_X9_looked
  refine ⟨_, f_X9_findAll hI hVO, ?_⟩
  rintro lgA itA ⟨⟨JA, KA0⟩, _, g1, g2, g3, _⟩
  have KA := kdA KA0
  generalize hVx : vw9 lg0 it0 = V at hcl g1 g2 g3
  have b := i9_f JA (j := 489) (k := 11) rfl
  have kb := cl32 b.1
  generalize hn0 : (itA 489 11).toNatClampNeg = n0 at kb
  have eP : p9 itA 11 499 = p9 it0 11 499 := p9_k KA (by decide) (by omega) (by omega) (by omega)
  rw [← eP]
  have eL : lkI V (cnt V 20) (p9 itA 11 499) = fuF V (cnt V 20) (p9 itA 11 499) n0 0 := by unfold lkI; rw [← hn0]; rfl
  rw [eL]
  have lp : ∀ (n : Nat) (x : Int32) (k : Nat), x.toInt = k → k ≤ n0 → fuF V (cnt V 20) (p9 itA 11 499) n0 0 = fuF V (cnt V 20) (p9 itA 11 499) (n0 - k) k → n0 - k < n → w_X9_looked_b6 (fun (v : Int32) (lg' : LGt) (it' : ITt) => (I9 lg' it' ∧ Kd (fun j => 501 ≤ j ∧ j ≤ 512) (fun k => k = 18 ∨ k = 19 ∨ k = 20 ∨ (28 ≤ k ∧ k ≤ 43)) lg0 it0 lg' it') ∧ v.toInt = fuF V (cnt V 20) (p9 itA 11 499) n0 0) n x lgA itA := by
    intro n
    induction n with
    | zero => intro x k _ _ _ hn; exact absurd hn (Nat.not_lt_zero _)
    | succ n ih =>
      intro x k hx hk hF hn
      have hxk : x.toNatClampNeg = k := by have := cl32 (i := x) (by omega); omega
      have fx : (x + 1).toInt = x.toInt + 1 := ad32 rfl ti_1 (by omega) (by omega)
      have f499 := i9_f JA (j := 499) (k := k) rfl
      have kf := cl32 f499.1
      unfold w_X9_looked_b6
      rw [le0, ← kb, hx]
      refine ⟨fun c2 => ⟨⟨JA, KA⟩, ?_⟩, fun c2 => ⟨vp_of (by omega) (by omega), vp_of (by omega) (by omega), ?_⟩⟩
      · rw [hF, show n0 - k = 0 by omega]; exact tm5
      rw [hxk]
      have eF : fuF V (cnt V 20) (p9 itA 11 499) (n0 - k) k = @ite _ (hitP V (cnt V 20) (p9 itA 11 499) k) (Classical.propDecidable _) (fuF V (cnt V 20) (p9 itA 11 499) (n0 - (k + 1)) (k + 1)) k := by
        rw [show n0 - k = (n0 - (k + 1)) + 1 by omega]; rfl
      have st : w_X9_isStruck (itA 499 k) (itA 500 k) (fun (v : Int32) (lg' : LGt) (it' : ITt) => lg' = lgA ∧ it' = itA ∧ ((v = 1 ∧ hitP V (cnt V 20) (p9 itA 11 499) k) ∨ (v = 0 ∧ ¬ hitP V (cnt V 20) (p9 itA 11 499) k))) lgA itA := by
        unfold w_X9_isStruck
        rw [le0, g1]
        refine ⟨fun c3 => ⟨rfl, rfl, Or.inr ⟨rfl, fun z => ?_⟩⟩, fun c3 => ⟨vp_of (by omega) (by omega), fun c4 => ⟨rfl, rfl, Or.inr ⟨rfl, fun z => c4 ?_⟩⟩, fun c4 => ⟨rfl, rfl, Or.inl ⟨rfl, ⟨⟨?_, ?_⟩, ?_⟩⟩⟩⟩⟩
        · have z1 : (itA 499 k).toInt < cnt V 20 := z.1.2
          omega
        · have z2 : whr V (itA 499 k).toNatClampNeg = (itA 500 k).toInt := z.2
          exact Int32.toInt_inj.mp (by rw [(g3 _ (by omega)).1]; exact z2)
        · show 0 ≤ (itA 499 k).toInt; omega
        · show (itA 499 k).toInt < cnt V 20; omega
        · show whr V (itA 499 k).toNatClampNeg = (itA 500 k).toInt
          rw [← (g3 _ (by omega)).1, c4]
      refine ⟨_, st, ?_⟩
      rintro v lg' it' ⟨rfl, rfl, hv⟩
      refine ⟨fun c3 => ?_, fun c3 => ⟨⟨JA, KA⟩, ?_⟩⟩
      · have z := (hv.resolve_right (fun q => c3 q.1)).2
        exact ih (x + 1) (k + 1) (by omega) (by omega) (by rw [hF, eF, if_pos z]) (by omega)
      · have z := (hv.resolve_left (fun q => by rw [q.1] at c3; exact absurd c3 (by decide))).2
        rw [hF, eF, if_neg z]
  exact ⟨_, lp (n0 + 1) 0 0 ti_0 (Nat.zero_le _) rfl (by omega)⟩
