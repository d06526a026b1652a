def mWh (set : Int32) : Nat := ff (fun j => decide (hasB set j)) 7
def rm_X9_which_bad : Room := { frames := 1, cells := 0, slots := 0, locals := 22 }
set_option maxRecDepth 100000 in
set_option maxHeartbeats 4000000 in
theorem c_X9_which_bad (V : VT) (ad : Nat → Nat) (nw rw ps im kp tx sw sv da co pl me fa ao al : Nat → Int32) (ax ta ts tv il : Int32) (s z k n o m : Nat) (hM : okM nw sw s z k n o m) (l : Int32) (hb : ¬ (¬ l < 0 ∧ ¬ 2 < l)) : CI V yX9_which cX9_which 4 .int rm_X9_which_bad [.ref (ad 0), .int l] (wMo V ad nw rw ps im kp tx sw sv da co pl me fa ao al (nI s) (nI z) ax ta ts tv (nI k) il) (fun r_ w_ => r_ = (-1) ∧ w_ = wMo V ad nw rw ps im kp tx sw sv da co pl me fa ao al (nI s) (nI z) ax ta ts tv (nI k) il) := by
  refine CI_intro (by decide) (Nat.le_of_ble_eq_true rfl) (fun K cx hret => ?_)
  show G V K 4 0 0 (wMo V ad nw rw ps im kp tx sw sv da co pl me fa ao al (nI s) (nI z) ax ta ts tv (nI k) il) 0 [(0, .ref (ad 0)), (1, .int l)] []
  obtain ⟨hs6, hz, hk6, hn, hn6, hn1, ho, ho4, hm, hm7, hat, hc, hcj, hsw⟩ := hM
  refine g_iload_n (v := l) cx dX9_which_0 rfl ?_
  refine g_iconst (v := 0) cx dX9_which_1 (by decide) ?_
  refine g_iconst (v := 2) cx dX9_which_2 (by decide) ?_
  refine k_callsi (r0 := bI (¬ l < 0 ∧ ¬ 2 < l)) (ws' := wMo V ad nw rw ps im kp tx sw sv da co pl me fa ao al (nI s) (nI z) ax ta ts tv (nI k) il) (As := [.int l, .int 0, .int 2]) (rest := []) cx (c_X9_in V l 0 2) ml_X9_76 dX9_which_3 [] rfl rfl [] rfl rfl rfl rfl rfl (Nat.le_of_ble_eq_true rfl) ⟨Nat.le_of_ble_eq_true rfl, Nat.le_of_ble_eq_true rfl⟩ ⟨Nat.le_refl _, Nat.le_refl _⟩ ?_
  refine g_if_ne_b cx 11 dX9_which_6 (by decide) (fun hw1 => absurd hw1 (hb)) (fun hw1 => ?_)
  refine g_iconst (v := (-1)) cx dX9_which_9 (by decide) ?_
  exact hret _ _ _ _ dX9_which_10 (rfl) ⟨rfl, rfl⟩
def rm_X9_which_two : Room := { frames := 5, cells := 0, slots := 0, locals := 122 }
set_option maxRecDepth 100000 in
set_option maxHeartbeats 4000000 in
theorem c_X9_which_two (V : VT) (ad : Nat → Nat) (nw rw ps im kp tx sw sv da co pl me fa ao al : Nat → Int32) (ax ta ts tv il : Int32) (s z k n o m : Nat) (hM : okM nw sw s z k n o m) (l : Int32) (W : M7) (hW : mFF n o (nw 16) ((nw, da, co, pl, me), fa, ao) = W) (hl : l = nI 2) : CI V yX9_which cX9_which 4 .int rm_X9_which_two [.ref (ad 0), .int l] (wMo V ad nw rw ps im kp tx sw sv da co pl me fa ao al (nI s) (nI z) ax ta ts tv (nI k) il) (fun r_ w_ => r_ = bI (mAg W.2.1 sw sv k) ∧ w_ = wMo V ad W.1.1 rw ps im kp tx sw sv W.1.2.1 W.1.2.2.1 W.1.2.2.2.1 W.1.2.2.2.2 W.2.1 W.2.2 al (nI s) (nI z) ax ta ts tv (nI k) il) := by
  refine CI_intro (by decide) (Nat.le_of_ble_eq_true rfl) (fun K cx hret => ?_)
  show G V K 4 0 0 (wMo V ad nw rw ps im kp tx sw sv da co pl me fa ao al (nI s) (nI z) ax ta ts tv (nI k) il) 0 [(0, .ref (ad 0)), (1, .int l)] []
  obtain ⟨hs6, hz, hk6, hn, hn6, hn1, ho, ho4, hm, hm7, hat, hc, hcj, hsw⟩ := hM
  refine g_iload_n (v := l) cx dX9_which_0 rfl ?_
  refine g_iconst (v := 0) cx dX9_which_1 (by decide) ?_
  refine g_iconst (v := 2) cx dX9_which_2 (by decide) ?_
  refine k_callsi (r0 := bI (¬ l < 0 ∧ ¬ 2 < l)) (ws' := wMo V ad nw rw ps im kp tx sw sv da co pl me fa ao al (nI s) (nI z) ax ta ts tv (nI k) il) (As := [.int l, .int 0, .int 2]) (rest := []) cx (c_X9_in V l 0 2) ml_X9_76 dX9_which_3 [] rfl rfl [] rfl rfl rfl rfl rfl (Nat.le_of_ble_eq_true rfl) ⟨Nat.le_of_ble_eq_true rfl, Nat.le_of_ble_eq_true rfl⟩ ⟨Nat.le_refl _, Nat.le_refl _⟩ ?_
  refine g_if_ne_b cx 11 dX9_which_6 (by decide) (fun hw1 => ?_) (fun hw1 => absurd (⟨rf_ltMN hl (b := 0) (nl 0) (by omega) (by omega) (by omega), rf_ltMN (nl 2) hl (by omega) (by omega) (by omega)⟩) hw1)
  refine g_iload_n (v := l) cx dX9_which_11 rfl ?_
  refine g_iconst (v := 2) cx dX9_which_12 (by decide) ?_
  refine g_icmp_ne cx 36 dX9_which_13 (by decide) (fun hw2 => absurd (rf_eqMP hl (nl 2) (by omega) (by omega) (by omega)) hw2) (fun hw2 => ?_)
  refine g_aload_n (v := ad 0) cx dX9_which_16 rfl ?_
  refine g_aload_n (v := ad 0) cx dX9_which_17 rfl ?_
  refine g_get (v := .ref (ad 1)) cx fk_X9_7 dX9_which_18 0 rfl rfl ?_
  refine g_bipush (v := 16) cx dX9_which_21 (by decide) ?_
  refine g_iald cx dX9_which_23 1 16 rfl (nl 16) (by omega) (by first | decide | omega) ?_
  refine g_top (y := nw 16) (rfl) ?_
  refine w_calli (r0 := bI (mAg (mFF n o (nw 16) ((nw, da, co, pl, me), fa, ao)).2.1 sw sv k)) (ws' := wMo V ad ((mFF n o (nw 16) ((nw, da, co, pl, me), fa, ao)).1.1) rw ps im kp tx sw sv ((mFF n o (nw 16) ((nw, da, co, pl, me), fa, ao)).1.2.1) ((mFF n o (nw 16) ((nw, da, co, pl, me), fa, ao)).1.2.2.1) ((mFF n o (nw 16) ((nw, da, co, pl, me), fa, ao)).1.2.2.2.1) ((mFF n o (nw 16) ((nw, da, co, pl, me), fa, ao)).1.2.2.2.2) ((mFF n o (nw 16) ((nw, da, co, pl, me), fa, ao)).2.1) ((mFF n o (nw 16) ((nw, da, co, pl, me), fa, ao)).2.2) al (nI s) (nI z) ax ta ts tv (nI k) il) (As := [.int (nw 16)]) (rest := []) cx (c_X9_isSo V ad nw rw ps im kp tx sw sv da co pl me fa ao al (nI s) (nI z) ax ta ts tv il (nw 16) n hn (by omega) o ho (by omega) hc hat k (by omega) hsw) ml_X9_198 dX9_which_24 (q0 := 0) rfl rfl rfl rfl rfl (Nat.le_of_ble_eq_true rfl) ⟨Nat.le_of_ble_eq_true rfl, Nat.le_of_ble_eq_true rfl⟩ ⟨Nat.le_refl _, Nat.le_refl _⟩ ?_
  rw [hW]
  refine g_if_eq_b cx 34 dX9_which_27 (by decide) (fun hw3 => ?_) (fun hw3 => ?_)
  · skip
    refine g_iconst (v := 0) cx dX9_which_34 (by decide) ?_
    exact hret _ _ _ _ dX9_which_35 (rfl) (⟨bI_f hw3, rfl⟩)
  · skip
    refine g_iconst (v := 1) cx dX9_which_30 (by decide) ?_
    refine g_goto cx 35 dX9_which_31 (by decide) ?_
    exact hret _ _ _ _ dX9_which_35 (rfl) (⟨bI_t hw3, rfl⟩)
def rm_X9_which_zero : Room := { frames := 6, cells := 0, slots := 0, locals := 145 }
set_option maxRecDepth 100000 in
set_option maxHeartbeats 4000000 in
theorem c_X9_which_zero (V : VT) (ad : Nat → Nat) (nw rw ps im kp tx sw sv da co pl me fa ao al : Nat → Int32) (ax ta ts tv il : Int32) (s z k n o m : Nat) (hM : okM nw sw s z k n o m) (l : Int32) (t : M9) (ht : fkN n o k sw sv m (0, ((nw, da, co, pl, me), fa, ao), al) = t) (hl : l = nI 0) : CI V yX9_which cX9_which 4 .int rm_X9_which_zero [.ref (ad 0), .int l] (wMo V ad nw rw ps im kp tx sw sv da co pl me fa ao al (nI s) (nI z) ax ta ts tv (nI k) il) (fun r_ w_ => r_ = mOnes t.1 8 ∧ w_ = wMo V ad t.2.1.1.1 rw ps im kp tx sw sv t.2.1.1.2.1 t.2.1.1.2.2.1 t.2.1.1.2.2.2.1 t.2.1.1.2.2.2.2 t.2.1.2.1 t.2.1.2.2 t.2.2 (nI s) (nI z) ax ta ts tv (nI k) il) := by
  refine CI_intro (by decide) (Nat.le_of_ble_eq_true rfl) (fun K cx hret => ?_)
  show G V K 4 0 0 (wMo V ad nw rw ps im kp tx sw sv da co pl me fa ao al (nI s) (nI z) ax ta ts tv (nI k) il) 0 [(0, .ref (ad 0)), (1, .int l)] []
  obtain ⟨hs6, hz, hk6, hn, hn6, hn1, ho, ho4, hm, hm7, hat, hc, hcj, hsw⟩ := hM
  refine g_iload_n (v := l) cx dX9_which_0 rfl ?_
  refine g_iconst (v := 0) cx dX9_which_1 (by decide) ?_
  refine g_iconst (v := 2) cx dX9_which_2 (by decide) ?_
  refine k_callsi (r0 := bI (¬ l < 0 ∧ ¬ 2 < l)) (ws' := wMo V ad nw rw ps im kp tx sw sv da co pl me fa ao al (nI s) (nI z) ax ta ts tv (nI k) il) (As := [.int l, .int 0, .int 2]) (rest := []) cx (c_X9_in V l 0 2) ml_X9_76 dX9_which_3 [] rfl rfl [] rfl rfl rfl rfl rfl (Nat.le_of_ble_eq_true rfl) ⟨Nat.le_of_ble_eq_true rfl, Nat.le_of_ble_eq_true rfl⟩ ⟨Nat.le_refl _, Nat.le_refl _⟩ ?_
  refine g_if_ne_b cx 11 dX9_which_6 (by decide) (fun hw1 => ?_) (fun hw1 => absurd (⟨rf_ltMN hl (b := 0) (nl 0) (by omega) (by omega) (by omega), rf_ltMN (nl 2) hl (by omega) (by omega) (by omega)⟩) hw1)
  refine g_iload_n (v := l) cx dX9_which_11 rfl ?_
  refine g_iconst (v := 2) cx dX9_which_12 (by decide) ?_
  refine g_icmp_ne cx 36 dX9_which_13 (by decide) (fun hw2 => ?_) (fun hw2 => absurd hw2 (rf_eqMN hl (nl 2) (by omega) (by omega) (by omega)))
  refine g_aload_n (v := ad 0) cx dX9_which_36 rfl ?_
  refine w_calli (r0 := (fkN n o k sw sv m (0, ((nw, da, co, pl, me), fa, ao), al)).1) (ws' := wMo V ad ((fkN n o k sw sv m (0, ((nw, da, co, pl, me), fa, ao), al)).2.1.1.1) rw ps im kp tx sw sv ((fkN n o k sw sv m (0, ((nw, da, co, pl, me), fa, ao), al)).2.1.1.2.1) ((fkN n o k sw sv m (0, ((nw, da, co, pl, me), fa, ao), al)).2.1.1.2.2.1) ((fkN n o k sw sv m (0, ((nw, da, co, pl, me), fa, ao), al)).2.1.1.2.2.2.1) ((fkN n o k sw sv m (0, ((nw, da, co, pl, me), fa, ao), al)).2.1.1.2.2.2.2) ((fkN n o k sw sv m (0, ((nw, da, co, pl, me), fa, ao), al)).2.1.2.1) ((fkN n o k sw sv m (0, ((nw, da, co, pl, me), fa, ao), al)).2.1.2.2) ((fkN n o k sw sv m (0, ((nw, da, co, pl, me), fa, ao), al)).2.2) (nI s) (nI z) ax ta ts tv (nI k) il) (As := []) (rest := []) cx (c_X9_findLinks V ad nw rw ps im kp tx sw sv da co pl me fa ao al (nI s) (nI z) ax ta ts tv il n hn (by omega) o ho (by omega) hat k (by omega) hsw m hm hm7 hcj) ml_X9_201 dX9_which_37 (q0 := 0) rfl rfl rfl rfl rfl (Nat.le_of_ble_eq_true rfl) ⟨Nat.le_of_ble_eq_true rfl, Nat.le_of_ble_eq_true rfl⟩ ⟨Nat.le_refl _, Nat.le_refl _⟩ ?_
  rw [ht]
  refine g_istore_n (lv' := [(0, .ref (ad 0)), (1, .int l), (2, .int t.1)]) cx dX9_which_40 (by decide) rfl ?_
  refine g_iload_n (v := l) cx dX9_which_41 rfl ?_
  refine g_if_ne cx 50 dX9_which_42 (by decide) (fun hw3 => absurd (rf_eqMP hl (nl 0) (by omega) (by omega) (by omega)) hw3) (fun hw3 => ?_)
  refine g_iload_n (v := t.1) cx dX9_which_45 rfl ?_
  refine k_callsi (r0 := mOnes t.1 8) (ws' := wMo V ad t.2.1.1.1 rw ps im kp tx sw sv t.2.1.1.2.1 t.2.1.1.2.2.1 t.2.1.1.2.2.2.1 t.2.1.1.2.2.2.2 t.2.1.2.1 t.2.1.2.2 t.2.2 (nI s) (nI z) ax ta ts tv (nI k) il) (As := [.int t.1]) (rest := []) cx (c_X9_ones V t.1) ml_X9_173 dX9_which_46 [] rfl rfl [] rfl rfl rfl rfl rfl (Nat.le_of_ble_eq_true rfl) ⟨Nat.le_of_ble_eq_true rfl, Nat.le_of_ble_eq_true rfl⟩ ⟨Nat.le_refl _, Nat.le_refl _⟩ ?_
  exact hret _ _ _ _ dX9_which_49 (rfl) ⟨rfl, rfl⟩
def rm_X9_which_one : Room := { frames := 6, cells := 0, slots := 0, locals := 145 }
set_option maxRecDepth 100000 in
set_option maxHeartbeats 4000000 in
theorem c_X9_which_one (V : VT) (ad : Nat → Nat) (nw rw ps im kp tx sw sv da co pl me fa ao al : Nat → Int32) (ax ta ts tv il : Int32) (s z k n o m : Nat) (hM : okM nw sw s z k n o m) (l : Int32) (t : M9) (ht : fkN n o k sw sv m (0, ((nw, da, co, pl, me), fa, ao), al) = t) (hl : l = nI 1) : CI V yX9_which cX9_which 4 .int rm_X9_which_one [.ref (ad 0), .int l] (wMo V ad nw rw ps im kp tx sw sv da co pl me fa ao al (nI s) (nI z) ax ta ts tv (nI k) il) (fun r_ w_ => r_ = (if mWh t.1 < 7 then nI (mWh t.1) else -9) ∧ w_ = wMo V ad t.2.1.1.1 rw ps im kp tx sw sv t.2.1.1.2.1 t.2.1.1.2.2.1 t.2.1.1.2.2.2.1 t.2.1.1.2.2.2.2 t.2.1.2.1 t.2.1.2.2 t.2.2 (nI s) (nI z) ax ta ts tv (nI k) il) := by
  refine CI_intro (by decide) (Nat.le_of_ble_eq_true rfl) (fun K cx hret => ?_)
  show G V K 4 0 0 (wMo V ad nw rw ps im kp tx sw sv da co pl me fa ao al (nI s) (nI z) ax ta ts tv (nI k) il) 0 [(0, .ref (ad 0)), (1, .int l)] []
  obtain ⟨hs6, hz, hk6, hn, hn6, hn1, ho, ho4, hm, hm7, hat, hc, hcj, hsw⟩ := hM
  refine g_iload_n (v := l) cx dX9_which_0 rfl ?_
  refine g_iconst (v := 0) cx dX9_which_1 (by decide) ?_
  refine g_iconst (v := 2) cx dX9_which_2 (by decide) ?_
  refine k_callsi (r0 := bI (¬ l < 0 ∧ ¬ 2 < l)) (ws' := wMo V ad nw rw ps im kp tx sw sv da co pl me fa ao al (nI s) (nI z) ax ta ts tv (nI k) il) (As := [.int l, .int 0, .int 2]) (rest := []) cx (c_X9_in V l 0 2) ml_X9_76 dX9_which_3 [] rfl rfl [] rfl rfl rfl rfl rfl (Nat.le_of_ble_eq_true rfl) ⟨Nat.le_of_ble_eq_true rfl, Nat.le_of_ble_eq_true rfl⟩ ⟨Nat.le_refl _, Nat.le_refl _⟩ ?_
  refine g_if_ne_b cx 11 dX9_which_6 (by decide) (fun hw1 => ?_) (fun hw1 => absurd (⟨rf_ltMN hl (b := 0) (nl 0) (by omega) (by omega) (by omega), rf_ltMN (nl 2) hl (by omega) (by omega) (by omega)⟩) hw1)
  refine g_iload_n (v := l) cx dX9_which_11 rfl ?_
  refine g_iconst (v := 2) cx dX9_which_12 (by decide) ?_
  refine g_icmp_ne cx 36 dX9_which_13 (by decide) (fun hw2 => ?_) (fun hw2 => absurd hw2 (rf_eqMN hl (nl 2) (by omega) (by omega) (by omega)))
  refine g_aload_n (v := ad 0) cx dX9_which_36 rfl ?_
  refine w_calli (r0 := (fkN n o k sw sv m (0, ((nw, da, co, pl, me), fa, ao), al)).1) (ws' := wMo V ad ((fkN n o k sw sv m (0, ((nw, da, co, pl, me), fa, ao), al)).2.1.1.1) rw ps im kp tx sw sv ((fkN n o k sw sv m (0, ((nw, da, co, pl, me), fa, ao), al)).2.1.1.2.1) ((fkN n o k sw sv m (0, ((nw, da, co, pl, me), fa, ao), al)).2.1.1.2.2.1) ((fkN n o k sw sv m (0, ((nw, da, co, pl, me), fa, ao), al)).2.1.1.2.2.2.1) ((fkN n o k sw sv m (0, ((nw, da, co, pl, me), fa, ao), al)).2.1.1.2.2.2.2) ((fkN n o k sw sv m (0, ((nw, da, co, pl, me), fa, ao), al)).2.1.2.1) ((fkN n o k sw sv m (0, ((nw, da, co, pl, me), fa, ao), al)).2.1.2.2) ((fkN n o k sw sv m (0, ((nw, da, co, pl, me), fa, ao), al)).2.2) (nI s) (nI z) ax ta ts tv (nI k) il) (As := []) (rest := []) cx (c_X9_findLinks V ad nw rw ps im kp tx sw sv da co pl me fa ao al (nI s) (nI z) ax ta ts tv il n hn (by omega) o ho (by omega) hat k (by omega) hsw m hm hm7 hcj) ml_X9_201 dX9_which_37 (q0 := 0) rfl rfl rfl rfl rfl (Nat.le_of_ble_eq_true rfl) ⟨Nat.le_of_ble_eq_true rfl, Nat.le_of_ble_eq_true rfl⟩ ⟨Nat.le_refl _, Nat.le_refl _⟩ ?_
  rw [ht]
  refine g_istore_n (lv' := [(0, .ref (ad 0)), (1, .int l), (2, .int t.1)]) cx dX9_which_40 (by decide) rfl ?_
  refine g_iload_n (v := l) cx dX9_which_41 rfl ?_
  refine g_if_ne cx 50 dX9_which_42 (by decide) (fun hw3 => ?_) (fun hw3 => absurd hw3 (rf_eqMN hl (nl 0) (by omega) (by omega) (by omega)))
  refine g_iconst (v := 0) cx dX9_which_50 (by decide) ?_
  refine g_istore_n (lv' := [(0, .ref (ad 0)), (1, .int l), (2, .int t.1), (3, .int 0)]) cx dX9_which_51 (by decide) rfl ?_
  refine rf_dn (P := fun j => G V K 4 0 0 (wMo V ad t.2.1.1.1 rw ps im kp tx sw sv t.2.1.1.2.1 t.2.1.1.2.2.1 t.2.1.1.2.2.2.1 t.2.1.1.2.2.2.2 t.2.1.2.1 t.2.1.2.2 t.2.2 (nI s) (nI z) ax ta ts tv (nI k) il) 52 [(0, .ref (ad 0)), (1, .int l), (2, .int t.1), (3, .int (nI j))] []) (mWh t.1) (fun j hj ihj => ?_) ?_
  · skip
    have hle : mWh t.1 ≤ 7 := ff_le _ _
    have hno : ¬ hasB t.1 j := of_decide_eq_false (ff_no (fun j => decide (hasB t.1 j)) 7 j hj)
    refine g_iload_n (v := nI j) cx dX9_which_52 rfl ?_
    refine g_bipush (v := 7) cx dX9_which_53 (by decide) ?_
    refine g_icmp_ge cx 74 dX9_which_55 (by decide) (fun hw4 => absurd hw4 (rf_geMN rfl (nl 7) (by omega) (by omega) (by omega))) (fun hw4 => ?_)
    refine g_iload_n (v := t.1) cx dX9_which_58 rfl ?_
    refine g_iload_n (v := nI j) cx dX9_which_59 rfl ?_
    refine k_callsi (r0 := bI (hasB t.1 j)) (ws' := wMo V ad t.2.1.1.1 rw ps im kp tx sw sv t.2.1.1.2.1 t.2.1.1.2.2.1 t.2.1.1.2.2.2.1 t.2.1.1.2.2.2.2 t.2.1.2.1 t.2.1.2.2 t.2.2 (nI s) (nI z) ax ta ts tv (nI k) il) (As := [.int t.1, .int (nI j)]) (rest := []) cx (c_X9_has V t.1 (nI j) j rfl) ml_X9_124 dX9_which_60 [] rfl rfl [] rfl rfl rfl rfl rfl (Nat.le_of_ble_eq_true rfl) ⟨Nat.le_of_ble_eq_true rfl, Nat.le_of_ble_eq_true rfl⟩ ⟨Nat.le_refl _, Nat.le_refl _⟩ ?_
    refine g_if_eq_b cx 68 dX9_which_63 (by decide) (fun hw5 => ?_) (fun hw5 => absurd hw5 (hno))
    refine g_iinc (x := nI j) (v := nI (j + 1)) (lv' := [(0, .ref (ad 0)), (1, .int l), (2, .int t.1), (3, .int (nI (j + 1)))]) cx dX9_which_68 rfl (by decide) (nI_add _ _) rfl ?_
    refine g_goto cx 52 dX9_which_71 (by decide) ?_
    exact ihj
  · skip
    rcases Nat.lt_or_ge (mWh t.1) 7 with he | he
    · have hy : hasB t.1 (mWh t.1) := of_decide_eq_true (ff_yes (fun j => decide (hasB t.1 j)) 7 he)
      refine g_iload_n (v := nI (mWh t.1)) cx dX9_which_52 rfl ?_
      refine g_bipush (v := 7) cx dX9_which_53 (by decide) ?_
      refine g_icmp_ge cx 74 dX9_which_55 (by decide) (fun hw6 => absurd hw6 (rf_geMN rfl (nl 7) (by omega) (by omega) (by omega))) (fun hw6 => ?_)
      refine g_iload_n (v := t.1) cx dX9_which_58 rfl ?_
      refine g_iload_n (v := nI (mWh t.1)) cx dX9_which_59 rfl ?_
      refine k_callsi (r0 := bI (hasB t.1 (mWh t.1))) (ws' := wMo V ad t.2.1.1.1 rw ps im kp tx sw sv t.2.1.1.2.1 t.2.1.1.2.2.1 t.2.1.1.2.2.2.1 t.2.1.1.2.2.2.2 t.2.1.2.1 t.2.1.2.2 t.2.2 (nI s) (nI z) ax ta ts tv (nI k) il) (As := [.int t.1, .int (nI (mWh t.1))]) (rest := []) cx (c_X9_has V t.1 (nI (mWh t.1)) (mWh t.1) rfl) ml_X9_124 dX9_which_60 [] rfl rfl [] rfl rfl rfl rfl rfl (Nat.le_of_ble_eq_true rfl) ⟨Nat.le_of_ble_eq_true rfl, Nat.le_of_ble_eq_true rfl⟩ ⟨Nat.le_refl _, Nat.le_refl _⟩ ?_
      refine g_if_eq_b cx 68 dX9_which_63 (by decide) (fun hw7 => absurd (hy) hw7) (fun hw7 => ?_)
      refine g_iload_n (v := nI (mWh t.1)) cx dX9_which_66 rfl ?_
      exact hret _ _ _ _ dX9_which_67 (rfl) (⟨(if_pos he).symm, rfl⟩)
    · have he2 : mWh t.1 = 7 := Nat.le_antisymm (ff_le _ _) he
      refine g_iload_n (v := nI (mWh t.1)) cx dX9_which_52 rfl ?_
      refine g_bipush (v := 7) cx dX9_which_53 (by decide) ?_
      refine g_icmp_ge cx 74 dX9_which_55 (by decide) (fun hw8 => ?_) (fun hw8 => absurd (rf_geMP rfl (nl 7) (by omega) (by omega) (by omega)) hw8)
      refine g_bipush (v := (-9)) cx dX9_which_74 (by decide) ?_
      exact hret _ _ _ _ dX9_which_76 (rfl) (⟨(if_neg (by omega)).symm, rfl⟩)
def rm_X9_ask_none : Room := { frames := 6, cells := 0, slots := 0, locals := 145 }
set_option maxRecDepth 100000 in
set_option maxHeartbeats 4000000 in
theorem c_X9_ask_none (V : VT) (ad : Nat → Nat) (nw rw ps im kp tx sw sv da co pl me fa ao al : Nat → Int32) (ax ta ts tv il : Int32) (s z k n o m : Nat) (hM : okM nw sw s z k n o m) (t : M9) (ht : fkN n o k sw sv m (0, ((nw, da, co, pl, me), fa, ao), al) = t) (h1 : ¬ 2 ≤ mOnes t.1 8) : CI V yX9_ask cX9_ask 9 .int rm_X9_ask_none [.ref (ad 0)] (wMo V ad nw rw ps im kp tx sw sv da co pl me fa ao al (nI s) (nI z) ax ta ts tv (nI k) il) (fun r_ w_ => r_ = (-9) ∧ w_ = wMo V ad t.2.1.1.1 rw ps im kp tx sw sv t.2.1.1.2.1 t.2.1.1.2.2.1 t.2.1.1.2.2.2.1 t.2.1.1.2.2.2.2 t.2.1.2.1 t.2.1.2.2 t.2.2 (nI s) (nI z) ax ta ts tv (nI k) il) := by
  refine CI_intro (by decide) (Nat.le_of_ble_eq_true rfl) (fun K cx hret => ?_)
  show G V K 9 0 0 (wMo V ad nw rw ps im kp tx sw sv da co pl me fa ao al (nI s) (nI z) ax ta ts tv (nI k) il) 0 [(0, .ref (ad 0))] []
  obtain ⟨hs6, hz, hk6, hn, hn6, hn1, ho, ho4, hm, hm7, hat, hc, hcj, hsw⟩ := hM
  refine g_aload_n (v := ad 0) cx dX9_ask_0 rfl ?_
  refine w_calli (r0 := (fkN n o k sw sv m (0, ((nw, da, co, pl, me), fa, ao), al)).1) (ws' := wMo V ad ((fkN n o k sw sv m (0, ((nw, da, co, pl, me), fa, ao), al)).2.1.1.1) rw ps im kp tx sw sv ((fkN n o k sw sv m (0, ((nw, da, co, pl, me), fa, ao), al)).2.1.1.2.1) ((fkN n o k sw sv m (0, ((nw, da, co, pl, me), fa, ao), al)).2.1.1.2.2.1) ((fkN n o k sw sv m (0, ((nw, da, co, pl, me), fa, ao), al)).2.1.1.2.2.2.1) ((fkN n o k sw sv m (0, ((nw, da, co, pl, me), fa, ao), al)).2.1.1.2.2.2.2) ((fkN n o k sw sv m (0, ((nw, da, co, pl, me), fa, ao), al)).2.1.2.1) ((fkN n o k sw sv m (0, ((nw, da, co, pl, me), fa, ao), al)).2.1.2.2) ((fkN n o k sw sv m (0, ((nw, da, co, pl, me), fa, ao), al)).2.2) (nI s) (nI z) ax ta ts tv (nI k) il) (As := []) (rest := []) cx (c_X9_findLinks V ad nw rw ps im kp tx sw sv da co pl me fa ao al (nI s) (nI z) ax ta ts tv il n hn (by omega) o ho (by omega) hat k (by omega) hsw m hm hm7 hcj) ml_X9_201 dX9_ask_1 (q0 := 0) rfl rfl rfl rfl rfl (Nat.le_of_ble_eq_true rfl) ⟨Nat.le_of_ble_eq_true rfl, Nat.le_of_ble_eq_true rfl⟩ ⟨Nat.le_refl _, Nat.le_refl _⟩ ?_
  rw [ht]
  refine g_istore_n (lv' := [(0, .ref (ad 0)), (1, .int t.1)]) cx dX9_ask_4 (by decide) rfl ?_
  refine g_iload_n (v := t.1) cx dX9_ask_5 rfl ?_
  refine k_callsi (r0 := mOnes t.1 8) (ws' := wMo V ad t.2.1.1.1 rw ps im kp tx sw sv t.2.1.1.2.1 t.2.1.1.2.2.1 t.2.1.1.2.2.2.1 t.2.1.1.2.2.2.2 t.2.1.2.1 t.2.1.2.2 t.2.2 (nI s) (nI z) ax ta ts tv (nI k) il) (As := [.int t.1]) (rest := []) cx (c_X9_ones V t.1) ml_X9_173 dX9_ask_6 [] rfl rfl [] rfl rfl rfl rfl rfl (Nat.le_of_ble_eq_true rfl) ⟨Nat.le_of_ble_eq_true rfl, Nat.le_of_ble_eq_true rfl⟩ ⟨Nat.le_refl _, Nat.le_refl _⟩ ?_
  refine g_iconst (v := 2) cx dX9_ask_9 (by decide) ?_
  refine g_icmp_ge cx 16 dX9_ask_10 (by decide) (fun hw1 => absurd hw1 (h1)) (fun hw1 => ?_)
  refine g_bipush (v := (-9)) cx dX9_ask_13 (by decide) ?_
  exact hret _ _ _ _ dX9_ask_15 (rfl) ⟨rfl, rfl⟩
def rm_X9_ask_ok : Room := { frames := 6, cells := 0, slots := 0, locals := 145 }
set_option maxRecDepth 100000 in
set_option maxHeartbeats 4000000 in
theorem c_X9_ask_ok (V : VT) (ad : Nat → Nat) (nw rw ps im kp tx sw sv da co pl me fa ao al : Nat → Int32) (ax ta ts tv il : Int32) (s z k n o m : Nat) (hM : okM nw sw s z k n o m) (t : M9) (ht : fkN n o k sw sv m (0, ((nw, da, co, pl, me), fa, ao), al) = t) (h1 : 2 ≤ mOnes t.1 8) : CI V yX9_ask cX9_ask 9 .int rm_X9_ask_ok [.ref (ad 0)] (wMo V ad nw rw ps im kp tx sw sv da co pl me fa ao al (nI s) (nI z) ax ta ts tv (nI k) il) (fun r_ w_ => r_ = (mBst t.2.2 t.1 6).1 ∧ w_ = wMo V ad t.2.1.1.1 rw ps im kp tx sw sv t.2.1.1.2.1 t.2.1.1.2.2.1 t.2.1.1.2.2.2.1 t.2.1.1.2.2.2.2 t.2.1.2.1 t.2.1.2.2 t.2.2 (nI s) (nI z) ax ta ts tv (nI k) il) := by
  refine CI_intro (by decide) (Nat.le_of_ble_eq_true rfl) (fun K cx hret => ?_)
  show G V K 9 0 0 (wMo V ad nw rw ps im kp tx sw sv da co pl me fa ao al (nI s) (nI z) ax ta ts tv (nI k) il) 0 [(0, .ref (ad 0))] []
  obtain ⟨hs6, hz, hk6, hn, hn6, hn1, ho, ho4, hm, hm7, hat, hc, hcj, hsw⟩ := hM
  refine g_aload_n (v := ad 0) cx dX9_ask_0 rfl ?_
  refine w_calli (r0 := (fkN n o k sw sv m (0, ((nw, da, co, pl, me), fa, ao), al)).1) (ws' := wMo V ad ((fkN n o k sw sv m (0, ((nw, da, co, pl, me), fa, ao), al)).2.1.1.1) rw ps im kp tx sw sv ((fkN n o k sw sv m (0, ((nw, da, co, pl, me), fa, ao), al)).2.1.1.2.1) ((fkN n o k sw sv m (0, ((nw, da, co, pl, me), fa, ao), al)).2.1.1.2.2.1) ((fkN n o k sw sv m (0, ((nw, da, co, pl, me), fa, ao), al)).2.1.1.2.2.2.1) ((fkN n o k sw sv m (0, ((nw, da, co, pl, me), fa, ao), al)).2.1.1.2.2.2.2) ((fkN n o k sw sv m (0, ((nw, da, co, pl, me), fa, ao), al)).2.1.2.1) ((fkN n o k sw sv m (0, ((nw, da, co, pl, me), fa, ao), al)).2.1.2.2) ((fkN n o k sw sv m (0, ((nw, da, co, pl, me), fa, ao), al)).2.2) (nI s) (nI z) ax ta ts tv (nI k) il) (As := []) (rest := []) cx (c_X9_findLinks V ad nw rw ps im kp tx sw sv da co pl me fa ao al (nI s) (nI z) ax ta ts tv il n hn (by omega) o ho (by omega) hat k (by omega) hsw m hm hm7 hcj) ml_X9_201 dX9_ask_1 (q0 := 0) rfl rfl rfl rfl rfl (Nat.le_of_ble_eq_true rfl) ⟨Nat.le_of_ble_eq_true rfl, Nat.le_of_ble_eq_true rfl⟩ ⟨Nat.le_refl _, Nat.le_refl _⟩ ?_
  rw [ht]
  refine g_istore_n (lv' := [(0, .ref (ad 0)), (1, .int t.1)]) cx dX9_ask_4 (by decide) rfl ?_
  refine g_iload_n (v := t.1) cx dX9_ask_5 rfl ?_
  refine k_callsi (r0 := mOnes t.1 8) (ws' := wMo V ad t.2.1.1.1 rw ps im kp tx sw sv t.2.1.1.2.1 t.2.1.1.2.2.1 t.2.1.1.2.2.2.1 t.2.1.1.2.2.2.2 t.2.1.2.1 t.2.1.2.2 t.2.2 (nI s) (nI z) ax ta ts tv (nI k) il) (As := [.int t.1]) (rest := []) cx (c_X9_ones V t.1) ml_X9_173 dX9_ask_6 [] rfl rfl [] rfl rfl rfl rfl rfl (Nat.le_of_ble_eq_true rfl) ⟨Nat.le_of_ble_eq_true rfl, Nat.le_of_ble_eq_true rfl⟩ ⟨Nat.le_refl _, Nat.le_refl _⟩ ?_
  refine g_iconst (v := 2) cx dX9_ask_9 (by decide) ?_
  refine g_icmp_ge cx 16 dX9_ask_10 (by decide) (fun hw1 => ?_) (fun hw1 => absurd (h1) hw1)
  generalize hAl : t.2.2 = Al at hret ⊢
  generalize hSS : t.1 = S at hret ⊢
  refine g_bipush (v := (-9)) cx dX9_ask_16 (by decide) ?_
  refine g_istore_n (lv' := [(0, .ref (ad 0)), (1, .int S), (2, .int (-9))]) cx dX9_ask_18 (by decide) rfl ?_
  refine g_bipush (v := 8) cx dX9_ask_19 (by decide) ?_
  refine g_istore_n (lv' := [(0, .ref (ad 0)), (1, .int S), (2, .int (-9)), (3, .int 8)]) cx dX9_ask_21 (by decide) rfl ?_
  refine g_iconst (v := 0) cx dX9_ask_22 (by decide) ?_
  refine g_istore (lv' := [(0, .ref (ad 0)), (1, .int S), (2, .int (-9)), (3, .int 8), (4, .int 0)]) cx dX9_ask_23 (by decide) rfl ?_
  refine rf_dn (P := fun i => G V K 9 0 0 (wMo V ad t.2.1.1.1 rw ps im kp tx sw sv t.2.1.1.2.1 t.2.1.1.2.2.1 t.2.1.1.2.2.2.1 t.2.1.1.2.2.2.2 t.2.1.2.1 t.2.1.2.2 Al (nI s) (nI z) ax ta ts tv (nI k) il) 25 [(0, .ref (ad 0)), (1, .int S), (2, .int ((mBst Al S i).1)), (3, .int ((mBst Al S i).2)), (4, .int (nI i))] []) (6) (fun i hi ihi => ?_) ?_
  · skip
    have hi6 : i < 6 := hi
    refine g_iload (v := nI i) cx dX9_ask_25 rfl ?_
    refine g_bipush (v := 6) cx dX9_ask_27 (by decide) ?_
    refine g_icmp_ge cx 175 dX9_ask_29 (by decide) (fun hw2 => absurd hw2 (rf_geMN rfl (nl 6) (by omega) (by omega) (by omega))) (fun hw2 => ?_)
    refine g_iconst (v := 0) cx dX9_ask_32 (by decide) ?_
    refine g_istore (lv' := [(0, .ref (ad 0)), (1, .int S), (2, .int ((mBst Al S i).1)), (3, .int ((mBst Al S i).2)), (4, .int (nI i)), (5, .int 0)]) cx dX9_ask_33 (by decide) rfl ?_
    refine g_iconst (v := 0) cx dX9_ask_35 (by decide) ?_
    refine g_istore (lv' := [(0, .ref (ad 0)), (1, .int S), (2, .int ((mBst Al S i).1)), (3, .int ((mBst Al S i).2)), (4, .int (nI i)), (5, .int 0), (6, .int 0)]) cx dX9_ask_36 (by decide) rfl ?_
    refine rf_dn (P := fun k2 => G V K 9 0 0 (wMo V ad t.2.1.1.1 rw ps im kp tx sw sv t.2.1.1.2.1 t.2.1.1.2.2.1 t.2.1.1.2.2.2.1 t.2.1.1.2.2.2.2 t.2.1.2.1 t.2.1.2.2 Al (nI s) (nI z) ax ta ts tv (nI k) il) 38 [(0, .ref (ad 0)), (1, .int S), (2, .int ((mBst Al S i).1)), (3, .int ((mBst Al S i).2)), (4, .int (nI i)), (5, .int (mMost Al S i k2)), (6, .int (nI k2))] []) (7) (fun k2 hk2 ihk2 => ?_) ?_
    · skip
      have hk7 : k2 < 7 := hk2
      refine g_iload (v := nI k2) cx dX9_ask_38 rfl ?_
      refine g_bipush (v := 7) cx dX9_ask_40 (by decide) ?_
      refine g_icmp_ge cx 143 dX9_ask_42 (by decide) (fun hw3 => absurd hw3 (rf_geMN rfl (nl 7) (by omega) (by omega) (by omega))) (fun hw3 => ?_)
      refine g_iconst (v := 0) cx dX9_ask_45 (by decide) ?_
      refine g_istore (lv' := [(0, .ref (ad 0)), (1, .int S), (2, .int ((mBst Al S i).1)), (3, .int ((mBst Al S i).2)), (4, .int (nI i)), (5, .int (mMost Al S i k2)), (6, .int (nI k2)), (7, .int 0)]) cx dX9_ask_46 (by decide) rfl ?_
      refine g_iconst (v := 0) cx dX9_ask_48 (by decide) ?_
      refine g_istore (lv' := [(0, .ref (ad 0)), (1, .int S), (2, .int ((mBst Al S i).1)), (3, .int ((mBst Al S i).2)), (4, .int (nI i)), (5, .int (mMost Al S i k2)), (6, .int (nI k2)), (7, .int 0), (8, .int 0)]) cx dX9_ask_49 (by decide) rfl ?_
      refine rf_dn (P := fun j => G V K 9 0 0 (wMo V ad t.2.1.1.1 rw ps im kp tx sw sv t.2.1.1.2.1 t.2.1.1.2.2.1 t.2.1.1.2.2.2.1 t.2.1.1.2.2.2.2 t.2.1.2.1 t.2.1.2.2 Al (nI s) (nI z) ax ta ts tv (nI k) il) 51 [(0, .ref (ad 0)), (1, .int S), (2, .int ((mBst Al S i).1)), (3, .int ((mBst Al S i).2)), (4, .int (nI i)), (5, .int (mMost Al S i k2)), (6, .int (nI k2)), (7, .int (mLk Al S i k2 j)), (8, .int (nI j))] []) (7) (fun j hj ihj => ?_) ?_
      · skip
        have hj7 : j < 7 := hj
        refine g_iload (v := nI j) cx dX9_ask_51 rfl ?_
        refine g_bipush (v := 7) cx dX9_ask_53 (by decide) ?_
        refine g_icmp_ge cx 121 dX9_ask_55 (by decide) (fun hw4 => absurd hw4 (rf_geMN rfl (nl 7) (by omega) (by omega) (by omega))) (fun hw4 => ?_)
        refine g_iload (v := mLk Al S i k2 j) cx dX9_ask_58 rfl ?_
        refine g_iload_n (v := S) cx dX9_ask_60 rfl ?_
        refine g_iload (v := nI k2) cx dX9_ask_61 rfl ?_
        refine k_callsi (r0 := bI (hasB S k2)) (ws' := wMo V ad t.2.1.1.1 rw ps im kp tx sw sv t.2.1.1.2.1 t.2.1.1.2.2.1 t.2.1.1.2.2.2.1 t.2.1.1.2.2.2.2 t.2.1.2.1 t.2.1.2.2 Al (nI s) (nI z) ax ta ts tv (nI k) il) (As := [.int S, .int (nI k2)]) (rest := [.int (mLk Al S i k2 j)]) cx (c_X9_has V S (nI k2) k2 rfl) ml_X9_124 dX9_ask_63 [] rfl rfl [] rfl rfl rfl rfl rfl (Nat.le_of_ble_eq_true rfl) ⟨Nat.le_of_ble_eq_true rfl, Nat.le_of_ble_eq_true rfl⟩ ⟨Nat.le_refl _, Nat.le_refl _⟩ ?_
        refine g_if_eq_b cx 111 dX9_ask_66 (by decide) (fun hw5 => ?_) (fun hw5 => ?_)
        · skip
          refine g_iconst (v := 0) cx dX9_ask_111 (by decide) ?_
          refine g_iadd cx dX9_ask_112 ?_
          refine g_istore (lv' := [(0, .ref (ad 0)), (1, .int S), (2, .int ((mBst Al S i).1)), (3, .int ((mBst Al S i).2)), (4, .int (nI i)), (5, .int (mMost Al S i k2)), (6, .int (nI k2)), (7, .int ((mLk Al S i k2 j) + 0)), (8, .int (nI j))]) cx dX9_ask_113 (by decide) rfl ?_
          refine g_iinc (x := nI j) (v := nI (j + 1)) (lv' := [(0, .ref (ad 0)), (1, .int S), (2, .int ((mBst Al S i).1)), (3, .int ((mBst Al S i).2)), (4, .int (nI i)), (5, .int (mMost Al S i k2)), (6, .int (nI k2)), (7, .int ((mLk Al S i k2 j) + 0)), (8, .int (nI (j + 1)))]) cx dX9_ask_115 rfl (by decide) (nI_add _ _) rfl ?_
          refine g_goto cx 51 dX9_ask_118 (by decide) ?_
          rw [show mLk Al S i k2 (j + 1) = mLk Al S i k2 j + (if hasB S k2 ∧ hasB S j ∧ Al (6 * k2 + i) = Al (6 * j + i) then 1 else 0) from rfl, if_neg (fun h => hw5 h.1)] at ihj
          exact ihj
        · skip
          refine g_iload_n (v := S) cx dX9_ask_69 rfl ?_
          refine g_iload (v := nI j) cx dX9_ask_70 rfl ?_
          refine k_callsi (r0 := bI (hasB S j)) (ws' := wMo V ad t.2.1.1.1 rw ps im kp tx sw sv t.2.1.1.2.1 t.2.1.1.2.2.1 t.2.1.1.2.2.2.1 t.2.1.1.2.2.2.2 t.2.1.2.1 t.2.1.2.2 Al (nI s) (nI z) ax ta ts tv (nI k) il) (As := [.int S, .int (nI j)]) (rest := [.int (mLk Al S i k2 j)]) cx (c_X9_has V S (nI j) j rfl) ml_X9_124 dX9_ask_72 [] rfl rfl [] rfl rfl rfl rfl rfl (Nat.le_of_ble_eq_true rfl) ⟨Nat.le_of_ble_eq_true rfl, Nat.le_of_ble_eq_true rfl⟩ ⟨Nat.le_refl _, Nat.le_refl _⟩ ?_
          refine g_if_eq_b cx 111 dX9_ask_75 (by decide) (fun hw6 => ?_) (fun hw6 => ?_)
          · skip
            refine g_iconst (v := 0) cx dX9_ask_111 (by decide) ?_
            refine g_iadd cx dX9_ask_112 ?_
            refine g_istore (lv' := [(0, .ref (ad 0)), (1, .int S), (2, .int ((mBst Al S i).1)), (3, .int ((mBst Al S i).2)), (4, .int (nI i)), (5, .int (mMost Al S i k2)), (6, .int (nI k2)), (7, .int ((mLk Al S i k2 j) + 0)), (8, .int (nI j))]) cx dX9_ask_113 (by decide) rfl ?_
            refine g_iinc (x := nI j) (v := nI (j + 1)) (lv' := [(0, .ref (ad 0)), (1, .int S), (2, .int ((mBst Al S i).1)), (3, .int ((mBst Al S i).2)), (4, .int (nI i)), (5, .int (mMost Al S i k2)), (6, .int (nI k2)), (7, .int ((mLk Al S i k2 j) + 0)), (8, .int (nI (j + 1)))]) cx dX9_ask_115 rfl (by decide) (nI_add _ _) rfl ?_
            refine g_goto cx 51 dX9_ask_118 (by decide) ?_
            rw [show mLk Al S i k2 (j + 1) = mLk Al S i k2 j + (if hasB S k2 ∧ hasB S j ∧ Al (6 * k2 + i) = Al (6 * j + i) then 1 else 0) from rfl, if_neg (fun h => hw6 h.2.1)] at ihj
            exact ihj
          · skip
            refine g_aload_n (v := ad 0) cx dX9_ask_78 rfl ?_
            refine g_get (v := .ref (ad 15)) cx fk_X9_53 dX9_ask_79 0 rfl rfl ?_
            refine g_bipush (v := 6) cx dX9_ask_82 (by decide) ?_
            refine g_iload (v := nI k2) cx dX9_ask_84 rfl ?_
            refine g_imul cx dX9_ask_86 ?_
            refine g_iload (v := nI i) cx dX9_ask_87 rfl ?_
            refine g_iadd cx dX9_ask_89 ?_
            refine g_iald cx dX9_ask_90 15 ((6 * k2) + i) rfl (rf_add (rf_mul (nl 6) rfl) rfl) (by omega) (by first | decide | omega) ?_
            refine g_top (y := Al ((6 * k2) + i)) (rfl) ?_
            refine g_aload_n (v := ad 0) cx dX9_ask_91 rfl ?_
            refine g_get (v := .ref (ad 15)) cx fk_X9_53 dX9_ask_92 0 rfl rfl ?_
            refine g_bipush (v := 6) cx dX9_ask_95 (by decide) ?_
            refine g_iload (v := nI j) cx dX9_ask_97 rfl ?_
            refine g_imul cx dX9_ask_99 ?_
            refine g_iload (v := nI i) cx dX9_ask_100 rfl ?_
            refine g_iadd cx dX9_ask_102 ?_
            refine g_iald cx dX9_ask_103 15 ((6 * j) + i) rfl (rf_add (rf_mul (nl 6) rfl) rfl) (by omega) (by first | decide | omega) ?_
            refine g_top (y := Al ((6 * j) + i)) (rfl) ?_
            refine g_icmp_ne cx 111 dX9_ask_104 (by decide) (fun hw7 => ?_) (fun hw7 => ?_)
            · skip
              refine g_iconst (v := 0) cx dX9_ask_111 (by decide) ?_
              refine g_iadd cx dX9_ask_112 ?_
              refine g_istore (lv' := [(0, .ref (ad 0)), (1, .int S), (2, .int ((mBst Al S i).1)), (3, .int ((mBst Al S i).2)), (4, .int (nI i)), (5, .int (mMost Al S i k2)), (6, .int (nI k2)), (7, .int ((mLk Al S i k2 j) + 0)), (8, .int (nI j))]) cx dX9_ask_113 (by decide) rfl ?_
              refine g_iinc (x := nI j) (v := nI (j + 1)) (lv' := [(0, .ref (ad 0)), (1, .int S), (2, .int ((mBst Al S i).1)), (3, .int ((mBst Al S i).2)), (4, .int (nI i)), (5, .int (mMost Al S i k2)), (6, .int (nI k2)), (7, .int ((mLk Al S i k2 j) + 0)), (8, .int (nI (j + 1)))]) cx dX9_ask_115 rfl (by decide) (nI_add _ _) rfl ?_
              refine g_goto cx 51 dX9_ask_118 (by decide) ?_
              rw [show mLk Al S i k2 (j + 1) = mLk Al S i k2 j + (if hasB S k2 ∧ hasB S j ∧ Al (6 * k2 + i) = Al (6 * j + i) then 1 else 0) from rfl, if_neg (fun h => hw7 h.2.2)] at ihj
              exact ihj
            · skip
              refine g_iconst (v := 1) cx dX9_ask_107 (by decide) ?_
              refine g_goto cx 112 dX9_ask_108 (by decide) ?_
              refine g_iadd cx dX9_ask_112 ?_
              refine g_istore (lv' := [(0, .ref (ad 0)), (1, .int S), (2, .int ((mBst Al S i).1)), (3, .int ((mBst Al S i).2)), (4, .int (nI i)), (5, .int (mMost Al S i k2)), (6, .int (nI k2)), (7, .int ((mLk Al S i k2 j) + 1)), (8, .int (nI j))]) cx dX9_ask_113 (by decide) rfl ?_
              refine g_iinc (x := nI j) (v := nI (j + 1)) (lv' := [(0, .ref (ad 0)), (1, .int S), (2, .int ((mBst Al S i).1)), (3, .int ((mBst Al S i).2)), (4, .int (nI i)), (5, .int (mMost Al S i k2)), (6, .int (nI k2)), (7, .int ((mLk Al S i k2 j) + 1)), (8, .int (nI (j + 1)))]) cx dX9_ask_115 rfl (by decide) (nI_add _ _) rfl ?_
              refine g_goto cx 51 dX9_ask_118 (by decide) ?_
              rw [show mLk Al S i k2 (j + 1) = mLk Al S i k2 j + (if hasB S k2 ∧ hasB S j ∧ Al (6 * k2 + i) = Al (6 * j + i) then 1 else 0) from rfl, if_pos ⟨hw5, hw6, hw7⟩] at ihj
              exact ihj
      · skip
        refine g_iload (v := nI 7) cx dX9_ask_51 rfl ?_
        refine g_bipush (v := 7) cx dX9_ask_53 (by decide) ?_
        refine g_icmp_ge cx 121 dX9_ask_55 (by decide) (fun hw8 => ?_) (fun hw8 => absurd (rf_geMP rfl (nl 7) (by omega) (by omega) (by omega)) hw8)
        refine g_iload (v := mLk Al S i k2 7) cx dX9_ask_121 rfl ?_
        refine g_iload (v := mMost Al S i k2) cx dX9_ask_123 rfl ?_
        refine g_icmp_le cx 133 dX9_ask_125 (by decide) (fun hw9 => ?_) (fun hw9 => ?_)
        · skip
          refine g_iload (v := mMost Al S i k2) cx dX9_ask_133 rfl ?_
          refine g_istore (lv' := [(0, .ref (ad 0)), (1, .int S), (2, .int ((mBst Al S i).1)), (3, .int ((mBst Al S i).2)), (4, .int (nI i)), (5, .int (mMost Al S i k2)), (6, .int (nI k2)), (7, .int (mLk Al S i k2 7)), (8, .int (nI 7))]) cx dX9_ask_135 (by decide) rfl ?_
          refine g_iinc (x := nI k2) (v := nI (k2 + 1)) (lv' := [(0, .ref (ad 0)), (1, .int S), (2, .int ((mBst Al S i).1)), (3, .int ((mBst Al S i).2)), (4, .int (nI i)), (5, .int (mMost Al S i k2)), (6, .int (nI (k2 + 1))), (7, .int (mLk Al S i k2 7)), (8, .int (nI 7))]) cx dX9_ask_137 rfl (by decide) (nI_add _ _) rfl ?_
          refine g_goto cx 38 dX9_ask_140 (by decide) ?_
          refine g_lvk (lv' := [(0, .ref (ad 0)), (1, .int S), (2, .int ((mBst Al S i).1)), (3, .int ((mBst Al S i).2)), (4, .int (nI i)), (5, .int (mMost Al S i k2)), (6, .int (nI (k2 + 1)))]) [0, 1, 2, 3, 4, 5, 6] rfl ?_
          rw [show mMost Al S i (k2 + 1) = if mMost Al S i k2 < mLk Al S i k2 7 then mLk Al S i k2 7 else mMost Al S i k2 from rfl, if_neg (Int32.not_lt.mpr hw9)] at ihk2
          exact ihk2
        · skip
          refine g_iload (v := mLk Al S i k2 7) cx dX9_ask_128 rfl ?_
          refine g_goto cx 135 dX9_ask_130 (by decide) ?_
          refine g_istore (lv' := [(0, .ref (ad 0)), (1, .int S), (2, .int ((mBst Al S i).1)), (3, .int ((mBst Al S i).2)), (4, .int (nI i)), (5, .int (mLk Al S i k2 7)), (6, .int (nI k2)), (7, .int (mLk Al S i k2 7)), (8, .int (nI 7))]) cx dX9_ask_135 (by decide) rfl ?_
          refine g_iinc (x := nI k2) (v := nI (k2 + 1)) (lv' := [(0, .ref (ad 0)), (1, .int S), (2, .int ((mBst Al S i).1)), (3, .int ((mBst Al S i).2)), (4, .int (nI i)), (5, .int (mLk Al S i k2 7)), (6, .int (nI (k2 + 1))), (7, .int (mLk Al S i k2 7)), (8, .int (nI 7))]) cx dX9_ask_137 rfl (by decide) (nI_add _ _) rfl ?_
          refine g_goto cx 38 dX9_ask_140 (by decide) ?_
          refine g_lvk (lv' := [(0, .ref (ad 0)), (1, .int S), (2, .int ((mBst Al S i).1)), (3, .int ((mBst Al S i).2)), (4, .int (nI i)), (5, .int (mLk Al S i k2 7)), (6, .int (nI (k2 + 1)))]) [0, 1, 2, 3, 4, 5, 6] rfl ?_
          rw [show mMost Al S i (k2 + 1) = if mMost Al S i k2 < mLk Al S i k2 7 then mLk Al S i k2 7 else mMost Al S i k2 from rfl, if_pos (Int32.not_le.mp hw9)] at ihk2
          exact ihk2
    · skip
      refine g_iload (v := nI 7) cx dX9_ask_38 rfl ?_
      refine g_bipush (v := 7) cx dX9_ask_40 (by decide) ?_
      refine g_icmp_ge cx 143 dX9_ask_42 (by decide) (fun hw10 => ?_) (fun hw10 => absurd (rf_geMP rfl (nl 7) (by omega) (by omega) (by omega)) hw10)
      refine g_iload (v := mMost Al S i 7) cx dX9_ask_143 rfl ?_
      refine g_iload_n (v := (mBst Al S i).2) cx dX9_ask_145 rfl ?_
      refine g_icmp_ge cx 154 dX9_ask_146 (by decide) (fun hw11 => ?_) (fun hw11 => ?_)
      · skip
        refine g_iload_n (v := (mBst Al S i).1) cx dX9_ask_154 rfl ?_
        refine g_istore_n (lv' := [(0, .ref (ad 0)), (1, .int S), (2, .int ((mBst Al S i).1)), (3, .int ((mBst Al S i).2)), (4, .int (nI i)), (5, .int (mMost Al S i 7)), (6, .int (nI 7))]) cx dX9_ask_155 (by decide) rfl ?_
        refine g_iload (v := mMost Al S i 7) cx dX9_ask_156 rfl ?_
        refine g_iload_n (v := (mBst Al S i).2) cx dX9_ask_158 rfl ?_
        refine g_icmp_ge cx 167 dX9_ask_159 (by decide) (fun hw12 => ?_) (fun hw12 => absurd (hw11) hw12)
        refine g_iload_n (v := (mBst Al S i).2) cx dX9_ask_167 rfl ?_
        refine g_istore_n (lv' := [(0, .ref (ad 0)), (1, .int S), (2, .int ((mBst Al S i).1)), (3, .int ((mBst Al S i).2)), (4, .int (nI i)), (5, .int (mMost Al S i 7)), (6, .int (nI 7))]) cx dX9_ask_168 (by decide) rfl ?_
        refine g_iinc (x := nI i) (v := nI (i + 1)) (lv' := [(0, .ref (ad 0)), (1, .int S), (2, .int ((mBst Al S i).1)), (3, .int ((mBst Al S i).2)), (4, .int (nI (i + 1))), (5, .int (mMost Al S i 7)), (6, .int (nI 7))]) cx dX9_ask_169 rfl (by decide) (nI_add _ _) rfl ?_
        refine g_goto cx 25 dX9_ask_172 (by decide) ?_
        refine g_lvk (lv' := [(0, .ref (ad 0)), (1, .int S), (2, .int ((mBst Al S i).1)), (3, .int ((mBst Al S i).2)), (4, .int (nI (i + 1)))]) [0, 1, 2, 3, 4] rfl ?_
        rw [show mBst Al S (i + 1) = if mMost Al S i 7 < (mBst Al S i).2 then (nI i, mMost Al S i 7) else mBst Al S i from rfl, if_neg (Int32.not_lt.mpr hw11)] at ihi
        exact ihi
      · skip
        refine g_iload (v := nI i) cx dX9_ask_149 rfl ?_
        refine g_goto cx 155 dX9_ask_151 (by decide) ?_
        refine g_istore_n (lv' := [(0, .ref (ad 0)), (1, .int S), (2, .int (nI i)), (3, .int ((mBst Al S i).2)), (4, .int (nI i)), (5, .int (mMost Al S i 7)), (6, .int (nI 7))]) cx dX9_ask_155 (by decide) rfl ?_
        refine g_iload (v := mMost Al S i 7) cx dX9_ask_156 rfl ?_
        refine g_iload_n (v := (mBst Al S i).2) cx dX9_ask_158 rfl ?_
        refine g_icmp_ge cx 167 dX9_ask_159 (by decide) (fun hw13 => absurd hw13 (hw11)) (fun hw13 => ?_)
        refine g_iload (v := mMost Al S i 7) cx dX9_ask_162 rfl ?_
        refine g_goto cx 168 dX9_ask_164 (by decide) ?_
        refine g_istore_n (lv' := [(0, .ref (ad 0)), (1, .int S), (2, .int (nI i)), (3, .int (mMost Al S i 7)), (4, .int (nI i)), (5, .int (mMost Al S i 7)), (6, .int (nI 7))]) cx dX9_ask_168 (by decide) rfl ?_
        refine g_iinc (x := nI i) (v := nI (i + 1)) (lv' := [(0, .ref (ad 0)), (1, .int S), (2, .int (nI i)), (3, .int (mMost Al S i 7)), (4, .int (nI (i + 1))), (5, .int (mMost Al S i 7)), (6, .int (nI 7))]) cx dX9_ask_169 rfl (by decide) (nI_add _ _) rfl ?_
        refine g_goto cx 25 dX9_ask_172 (by decide) ?_
        refine g_lvk (lv' := [(0, .ref (ad 0)), (1, .int S), (2, .int (nI i)), (3, .int (mMost Al S i 7)), (4, .int (nI (i + 1)))]) [0, 1, 2, 3, 4] rfl ?_
        rw [show mBst Al S (i + 1) = if mMost Al S i 7 < (mBst Al S i).2 then (nI i, mMost Al S i 7) else mBst Al S i from rfl, if_pos (Int32.not_le.mp hw11)] at ihi
        exact ihi
  · skip
    refine g_iload (v := nI 6) cx dX9_ask_25 rfl ?_
    refine g_bipush (v := 6) cx dX9_ask_27 (by decide) ?_
    refine g_icmp_ge cx 175 dX9_ask_29 (by decide) (fun hw14 => ?_) (fun hw14 => absurd (rf_geMP rfl (nl 6) (by omega) (by omega) (by omega)) hw14)
    refine g_iload_n (v := (mBst Al S 6).1) cx dX9_ask_175 rfl ?_
    exact hret _ _ _ _ dX9_ask_176 (rfl) ⟨rfl, rfl⟩
