abbrev mAg (fa sw sv : Nat → Int32) (k : Nat) : Prop := ∀ j, j < k → fa (sn sw j) = sv j
theorem mAg_s {fa sw sv : Nat → Int32} {i : Nat} (h : mAg fa sw sv i) (e : fa (sn sw i) = sv i) : mAg fa sw sv (i + 1) := fun j hj => by
  by_cases c : j = i
  · rw [c]; exact e
  · exact h j (by omega)
def mAl (fa al : Nat → Int32) (j n : Nat) : Nat → Int32 := fl (fun i g => upd g (6 * j + i) (fa i)) n al
abbrev M9 : Type := Int32 × M7 × (Nat → Int32)
def fkStep (n o k : Nat) (sw sv : Nat → Int32) (j : Nat) (t : M9) : M9 := if hasB (t.2.1.1.1 16) j then t
  else if mAg (mFF n o (t.2.1.1.1 16 ||| ((1 : Int32) <<< (nI j &&& 31))) t.2.1).2.1 sw sv k then (t.1 ||| ((1 : Int32) <<< (nI j &&& 31)), mFF n o (t.2.1.1.1 16 ||| ((1 : Int32) <<< (nI j &&& 31))) t.2.1, mAl (mFF n o (t.2.1.1.1 16 ||| ((1 : Int32) <<< (nI j &&& 31))) t.2.1).2.1 t.2.2 j 6)
  else (t.1, mFF n o (t.2.1.1.1 16 ||| ((1 : Int32) <<< (nI j &&& 31))) t.2.1, t.2.2)
def fkN (n o k : Nat) (sw sv : Nat → Int32) (i : Nat) (t : M9) : M9 := fl (fkStep n o k sw sv) i t
def mS9 (nw N : Nat → Int32) : Prop := ∀ k, k < 99 → N k = nw k
theorem mFF_k {n o : Nat} {c : Int32} {t : M7} : mS9 t.1.1 (mFF n o c t).1.1 := fun k hk => by
  show brg (brg t.1.1 t.2.2 0 0 99) _ 0 0 99 k = _
  rw [brg_at, if_pos (by omega), brg_at, if_pos (by omega), show 0 + (0 + (k - 0) - 0) = k by omega]
theorem fkStep_k {n o k j : Nat} {sw sv : Nat → Int32} {t : M9} : mS9 t.2.1.1.1 (fkStep n o k sw sv j t).2.1.1.1 := by
  unfold fkStep
  split
  · exact fun _ _ => rfl
  · split <;> exact mFF_k
theorem fkN_k {n o k : Nat} {sw sv : Nat → Int32} {t : M9} : ∀ i, mS9 t.2.1.1.1 (fkN n o k sw sv i t).2.1.1.1
  | 0 => fun _ _ => rfl
  | i + 1 => fun q hq => (fkStep_k q hq).trans (fkN_k i q hq)
theorem okAM.s9 {nw N : Nat → Int32} {o : Nat} (h : okAM nw o) (ho : o ≤ 4) (k : mS9 nw N) : okAM N o := fun i hi => by
  have e : N (71 + 5 * i + 3) = nw (71 + 5 * i + 3) := k _ (by omega)
  have e2 : mt N i = mt nw i := by unfold mt; rw [e]
  rw [e2, e]; exact h i hi
theorem okc.s9 {nw N : Nat → Int32} {c : Int32} {n : Nat} (h : okc nw c n) (k : mS9 nw N) : okc N c n := by unfold okc; rw [k 1 (by omega)]; exact h
def mLk (al : Nat → Int32) (set : Int32) (i k n : Nat) : Int32 := fl (fun j a => a + (if hasB set k ∧ hasB set j ∧ al (6 * k + i) = al (6 * j + i) then 1 else 0)) n 0
def mMost (al : Nat → Int32) (set : Int32) (i n : Nat) : Int32 := fl (fun k a => if a < mLk al set i k 7 then mLk al set i k 7 else a) n 0
def mBst (al : Nat → Int32) (set : Int32) (n : Nat) : Int32 × Int32 := fl (fun i b => if mMost al set i 7 < b.2 then (nI i, mMost al set i 7) else b) n (-9, 8)
def rm_X9_drive_bad : Room := { frames := 2, cells := 0, slots := 0, locals := 43 }
set_option maxRecDepth 100000 in
set_option maxHeartbeats 4000000 in
theorem c_X9_drive_bad (V : VT) (ad : Nat → Nat) (nw rw ps im kp tx sw sv da co pl me fa ao al : Nat → Int32) (ax ta ts tv il : Int32) (s z k n o m : Nat) (hM : okM nw sw s z k n o m) (l w : Int32) (hb : ¬ ((¬ l < 0 ∧ ¬ nw 0 - 1 < l) ∧ (¬ w < 0 ∧ ¬ 9 < w))) : CI V yX9_drive cX9_drive 3 .int rm_X9_drive_bad [.ref (ad 0), .int l, .int w] (wMo V ad nw rw ps im kp tx sw sv da co pl me fa ao al (nI s) (nI z) ax ta ts tv (nI k) il) (fun r_ w_ => r_ = (-1000000) ∧ w_ = wMo V ad nw rw ps im kp tx sw sv da co pl me fa ao al (nI s) (nI z) ax ta ts tv (nI k) il) := by
  refine CI_intro (by decide) (Nat.le_of_ble_eq_true rfl) (fun K cx hret => ?_)
  show G V K 3 0 0 (wMo V ad nw rw ps im kp tx sw sv da co pl me fa ao al (nI s) (nI z) ax ta ts tv (nI k) il) 0 [(0, .ref (ad 0)), (1, .int l), (2, .int w)] []
  obtain ⟨hs6, hz, hk6, hn, hn6, hn1, ho, ho4, hm, hm7, hat, hc, hcj, hsw⟩ := hM
  refine g_aload_n (v := ad 0) cx dX9_drive_0 rfl ?_
  refine g_iload_n (v := l) cx dX9_drive_1 rfl ?_
  refine w_calli (r0 := bI (¬ l < 0 ∧ ¬ nw 0 - 1 < l)) (ws' := wMo V ad nw rw ps im kp tx sw sv da co pl me fa ao al (nI s) (nI z) ax ta ts tv (nI k) il) (As := [.int l]) (rest := []) cx (c_X9_isDrive V ad nw rw ps im kp tx sw sv da co pl me fa ao al (nI s) (nI z) ax ta ts tv (nI k) il l) ml_X9_182 dX9_drive_2 (q0 := 0) rfl rfl rfl rfl rfl (Nat.le_of_ble_eq_true rfl) ⟨Nat.le_of_ble_eq_true rfl, Nat.le_of_ble_eq_true rfl⟩ ⟨Nat.le_refl _, Nat.le_refl _⟩ ?_
  refine g_if_eq_b cx 18 dX9_drive_5 (by decide) (fun hw1 => ?_) (fun hw1 => ?_)
  · skip
    refine g_ldc (v := (-1000000)) cx cw_X9_185 dX9_drive_18 ?_
    exact hret _ _ _ _ dX9_drive_20 (rfl) ⟨rfl, rfl⟩
  · skip
    refine g_iload_n (v := w) cx dX9_drive_8 rfl ?_
    refine g_iconst (v := 0) cx dX9_drive_9 (by decide) ?_
    refine g_bipush (v := 9) cx dX9_drive_10 (by decide) ?_
    refine k_callsi (r0 := bI (¬ w < 0 ∧ ¬ 9 < w)) (ws' := wMo V ad nw rw ps im kp tx sw sv da co pl me fa ao al (nI s) (nI z) ax ta ts tv (nI k) il) (As := [.int w, .int 0, .int 9]) (rest := []) cx (c_X9_in V w 0 9) ml_X9_76 dX9_drive_12 [] rfl rfl [] rfl rfl rfl rfl rfl (Nat.le_of_ble_eq_true rfl) ⟨Nat.le_of_ble_eq_true rfl, Nat.le_of_ble_eq_true rfl⟩ ⟨Nat.le_refl _, Nat.le_refl _⟩ ?_
    refine g_if_ne_b cx 21 dX9_drive_15 (by decide) (fun hw2 => ?_) (fun hw2 => ?_)
    · skip
      exact absurd ⟨hw1, hw2⟩ hb
    · skip
      refine g_ldc (v := (-1000000)) cx cw_X9_185 dX9_drive_18 ?_
      exact hret _ _ _ _ dX9_drive_20 (rfl) ⟨rfl, rfl⟩
def rm_X9_drive_nine : Room := { frames := 2, cells := 0, slots := 0, locals := 43 }
set_option maxRecDepth 100000 in
set_option maxHeartbeats 4000000 in
theorem c_X9_drive_nine (V : VT) (ad : Nat → Nat) (nw rw ps im kp tx sw sv da co pl me fa ao al : Nat → Int32) (ax ta ts tv il : Int32) (s z k n o m : Nat) (hM : okM nw sw s z k n o m) (l w : Int32) (q t : Nat) (hl : l = nI q) (hq : q < n) (hw : w = nI t) (ht : t = 9) : CI V yX9_drive cX9_drive 3 .int rm_X9_drive_nine [.ref (ad 0), .int l, .int w] (wMo V ad nw rw ps im kp tx sw sv da co pl me fa ao al (nI s) (nI z) ax ta ts tv (nI k) il) (fun r_ w_ => r_ = mOff nw q ∧ w_ = wMo V ad nw rw ps im kp tx sw sv da co pl me fa ao al (nI s) (nI z) ax ta ts tv (nI k) il) := by
  refine CI_intro (by decide) (Nat.le_of_ble_eq_true rfl) (fun K cx hret => ?_)
  show G V K 3 0 0 (wMo V ad nw rw ps im kp tx sw sv da co pl me fa ao al (nI s) (nI z) ax ta ts tv (nI k) il) 0 [(0, .ref (ad 0)), (1, .int l), (2, .int w)] []
  obtain ⟨hs6, hz, hk6, hn, hn6, hn1, ho, ho4, hm, hm7, hat, hc, hcj, hsw⟩ := hM
  refine g_aload_n (v := ad 0) cx dX9_drive_0 rfl ?_
  refine g_iload_n (v := l) cx dX9_drive_1 rfl ?_
  refine w_calli (r0 := bI (¬ l < 0 ∧ ¬ nw 0 - 1 < l)) (ws' := wMo V ad nw rw ps im kp tx sw sv da co pl me fa ao al (nI s) (nI z) ax ta ts tv (nI k) il) (As := [.int l]) (rest := []) cx (c_X9_isDrive V ad nw rw ps im kp tx sw sv da co pl me fa ao al (nI s) (nI z) ax ta ts tv (nI k) il l) ml_X9_182 dX9_drive_2 (q0 := 0) rfl rfl rfl rfl rfl (Nat.le_of_ble_eq_true rfl) ⟨Nat.le_of_ble_eq_true rfl, Nat.le_of_ble_eq_true rfl⟩ ⟨Nat.le_refl _, Nat.le_refl _⟩ ?_
  refine g_if_eq_b cx 18 dX9_drive_5 (by decide) (fun hw1 => absurd (⟨rf_ltMN hl (b := 0) (nl 0) (by omega) (by omega) (by omega), by rw [hn, hl]; exact rf_predN (by omega) (by omega) (by omega)⟩) hw1) (fun hw1 => ?_)
  refine g_iload_n (v := w) cx dX9_drive_8 rfl ?_
  refine g_iconst (v := 0) cx dX9_drive_9 (by decide) ?_
  refine g_bipush (v := 9) cx dX9_drive_10 (by decide) ?_
  refine k_callsi (r0 := bI (¬ w < 0 ∧ ¬ 9 < w)) (ws' := wMo V ad nw rw ps im kp tx sw sv da co pl me fa ao al (nI s) (nI z) ax ta ts tv (nI k) il) (As := [.int w, .int 0, .int 9]) (rest := []) cx (c_X9_in V w 0 9) ml_X9_76 dX9_drive_12 [] rfl rfl [] rfl rfl rfl rfl rfl (Nat.le_of_ble_eq_true rfl) ⟨Nat.le_of_ble_eq_true rfl, Nat.le_of_ble_eq_true rfl⟩ ⟨Nat.le_refl _, Nat.le_refl _⟩ ?_
  refine g_if_ne_b cx 21 dX9_drive_15 (by decide) (fun hw2 => ?_) (fun hw2 => absurd (⟨rf_ltMN hw (b := 0) (nl 0) (by omega) (by omega) (by omega), rf_ltMN (nl 9) hw (by omega) (by omega) (by omega)⟩) hw2)
  refine g_iload_n (v := w) cx dX9_drive_21 rfl ?_
  refine g_bipush (v := 9) cx dX9_drive_22 (by decide) ?_
  refine g_icmp_ne cx 35 dX9_drive_24 (by decide) (fun hw3 => absurd (rf_eqMP hw (nl 9) (by omega) (by omega) ht) hw3) (fun hw3 => ?_)
  refine g_aload_n (v := ad 0) cx dX9_drive_27 rfl ?_
  refine g_iload_n (v := l) cx dX9_drive_28 rfl ?_
  refine w_calli (r0 := mOff nw q) (ws' := wMo V ad nw rw ps im kp tx sw sv da co pl me fa ao al (nI s) (nI z) ax ta ts tv (nI k) il) (As := [.int l]) (rest := []) cx (c_X9_offOf V ad nw rw ps im kp tx sw sv da co pl me fa ao al (nI s) (nI z) ax ta ts tv (nI k) il l q hl (by omega)) ml_X9_186 dX9_drive_29 (q0 := 0) rfl rfl rfl rfl rfl (Nat.le_of_ble_eq_true rfl) ⟨Nat.le_of_ble_eq_true rfl, Nat.le_of_ble_eq_true rfl⟩ ⟨Nat.le_refl _, Nat.le_refl _⟩ ?_
  refine g_goto cx 49 dX9_drive_32 (by decide) ?_
  exact hret _ _ _ _ dX9_drive_49 (rfl) ⟨rfl, rfl⟩
def rm_X9_drive_ok : Room := { frames := 2, cells := 0, slots := 0, locals := 43 }
set_option maxRecDepth 100000 in
set_option maxHeartbeats 4000000 in
theorem c_X9_drive_ok (V : VT) (ad : Nat → Nat) (nw rw ps im kp tx sw sv da co pl me fa ao al : Nat → Int32) (ax ta ts tv il : Int32) (s z k n o m : Nat) (hM : okM nw sw s z k n o m) (l w : Int32) (q t : Nat) (hl : l = nI q) (hq : q < n) (hw : w = nI t) (ht : t < 9) : CI V yX9_drive cX9_drive 3 .int rm_X9_drive_ok [.ref (ad 0), .int l, .int w] (wMo V ad nw rw ps im kp tx sw sv da co pl me fa ao al (nI s) (nI z) ax ta ts tv (nI k) il) (fun r_ w_ => r_ = nw (17 + 9 * q + t) ∧ w_ = wMo V ad nw rw ps im kp tx sw sv da co pl me fa ao al (nI s) (nI z) ax ta ts tv (nI k) il) := by
  refine CI_intro (by decide) (Nat.le_of_ble_eq_true rfl) (fun K cx hret => ?_)
  show G V K 3 0 0 (wMo V ad nw rw ps im kp tx sw sv da co pl me fa ao al (nI s) (nI z) ax ta ts tv (nI k) il) 0 [(0, .ref (ad 0)), (1, .int l), (2, .int w)] []
  obtain ⟨hs6, hz, hk6, hn, hn6, hn1, ho, ho4, hm, hm7, hat, hc, hcj, hsw⟩ := hM
  refine g_aload_n (v := ad 0) cx dX9_drive_0 rfl ?_
  refine g_iload_n (v := l) cx dX9_drive_1 rfl ?_
  refine w_calli (r0 := bI (¬ l < 0 ∧ ¬ nw 0 - 1 < l)) (ws' := wMo V ad nw rw ps im kp tx sw sv da co pl me fa ao al (nI s) (nI z) ax ta ts tv (nI k) il) (As := [.int l]) (rest := []) cx (c_X9_isDrive V ad nw rw ps im kp tx sw sv da co pl me fa ao al (nI s) (nI z) ax ta ts tv (nI k) il l) ml_X9_182 dX9_drive_2 (q0 := 0) rfl rfl rfl rfl rfl (Nat.le_of_ble_eq_true rfl) ⟨Nat.le_of_ble_eq_true rfl, Nat.le_of_ble_eq_true rfl⟩ ⟨Nat.le_refl _, Nat.le_refl _⟩ ?_
  refine g_if_eq_b cx 18 dX9_drive_5 (by decide) (fun hw1 => absurd (⟨rf_ltMN hl (b := 0) (nl 0) (by omega) (by omega) (by omega), by rw [hn, hl]; exact rf_predN (by omega) (by omega) (by omega)⟩) hw1) (fun hw1 => ?_)
  refine g_iload_n (v := w) cx dX9_drive_8 rfl ?_
  refine g_iconst (v := 0) cx dX9_drive_9 (by decide) ?_
  refine g_bipush (v := 9) cx dX9_drive_10 (by decide) ?_
  refine k_callsi (r0 := bI (¬ w < 0 ∧ ¬ 9 < w)) (ws' := wMo V ad nw rw ps im kp tx sw sv da co pl me fa ao al (nI s) (nI z) ax ta ts tv (nI k) il) (As := [.int w, .int 0, .int 9]) (rest := []) cx (c_X9_in V w 0 9) ml_X9_76 dX9_drive_12 [] rfl rfl [] rfl rfl rfl rfl rfl (Nat.le_of_ble_eq_true rfl) ⟨Nat.le_of_ble_eq_true rfl, Nat.le_of_ble_eq_true rfl⟩ ⟨Nat.le_refl _, Nat.le_refl _⟩ ?_
  refine g_if_ne_b cx 21 dX9_drive_15 (by decide) (fun hw2 => ?_) (fun hw2 => absurd (⟨rf_ltMN hw (b := 0) (nl 0) (by omega) (by omega) (by omega), rf_ltMN (nl 9) hw (by omega) (by omega) (by omega)⟩) hw2)
  refine g_iload_n (v := w) cx dX9_drive_21 rfl ?_
  refine g_bipush (v := 9) cx dX9_drive_22 (by decide) ?_
  refine g_icmp_ne cx 35 dX9_drive_24 (by decide) (fun hw3 => ?_) (fun hw3 => absurd hw3 (rf_eqMN hw (nl 9) (by omega) (by omega) (by omega)))
  refine g_aload_n (v := ad 0) cx dX9_drive_35 rfl ?_
  refine g_get (v := .ref (ad 1)) cx fk_X9_7 dX9_drive_36 0 rfl rfl ?_
  refine g_bipush (v := 17) cx dX9_drive_39 (by decide) ?_
  refine g_bipush (v := 9) cx dX9_drive_41 (by decide) ?_
  refine g_iload_n (v := l) cx dX9_drive_43 rfl ?_
  refine g_imul cx dX9_drive_44 ?_
  refine g_iadd cx dX9_drive_45 ?_
  refine g_iload_n (v := w) cx dX9_drive_46 rfl ?_
  refine g_iadd cx dX9_drive_47 ?_
  refine g_iald cx dX9_drive_48 1 ((17 + (9 * q)) + t) rfl (rf_add (rf_add (nl 17) (rf_mul (nl 9) hl)) hw) (by omega) (by first | decide | omega) ?_
  refine g_top (y := nw ((17 + (9 * q)) + t)) (rfl) ?_
  exact hret _ _ _ _ dX9_drive_49 (rfl) ⟨rfl, rfl⟩
def rm_X9_link_bad : Room := { frames := 2, cells := 0, slots := 0, locals := 43 }
set_option maxRecDepth 100000 in
set_option maxHeartbeats 4000000 in
theorem c_X9_link_bad (V : VT) (ad : Nat → Nat) (nw rw ps im kp tx sw sv da co pl me fa ao al : Nat → Int32) (ax ta ts tv il : Int32) (s z k n o m : Nat) (hM : okM nw sw s z k n o m) (l w : Int32) (hb : ¬ ((¬ l < 0 ∧ ¬ nw 0 + nw 1 - 1 < l) ∧ (¬ w < 0 ∧ ¬ 1 < w))) : CI V yX9_link cX9_link 3 .int rm_X9_link_bad [.ref (ad 0), .int l, .int w] (wMo V ad nw rw ps im kp tx sw sv da co pl me fa ao al (nI s) (nI z) ax ta ts tv (nI k) il) (fun r_ w_ => r_ = (-1) ∧ w_ = wMo V ad nw rw ps im kp tx sw sv da co pl me fa ao al (nI s) (nI z) ax ta ts tv (nI k) il) := by
  refine CI_intro (by decide) (Nat.le_of_ble_eq_true rfl) (fun K cx hret => ?_)
  show G V K 3 0 0 (wMo V ad nw rw ps im kp tx sw sv da co pl me fa ao al (nI s) (nI z) ax ta ts tv (nI k) il) 0 [(0, .ref (ad 0)), (1, .int l), (2, .int w)] []
  obtain ⟨hs6, hz, hk6, hn, hn6, hn1, ho, ho4, hm, hm7, hat, hc, hcj, hsw⟩ := hM
  refine g_aload_n (v := ad 0) cx dX9_link_0 rfl ?_
  refine g_iload_n (v := l) cx dX9_link_1 rfl ?_
  refine w_calli (r0 := bI (¬ l < 0 ∧ ¬ nw 0 + nw 1 - 1 < l)) (ws' := wMo V ad nw rw ps im kp tx sw sv da co pl me fa ao al (nI s) (nI z) ax ta ts tv (nI k) il) (As := [.int l]) (rest := []) cx (c_X9_isLink V ad nw rw ps im kp tx sw sv da co pl me fa ao al (nI s) (nI z) ax ta ts tv (nI k) il l) ml_X9_170 dX9_link_2 (q0 := 0) rfl rfl rfl rfl rfl (Nat.le_of_ble_eq_true rfl) ⟨Nat.le_of_ble_eq_true rfl, Nat.le_of_ble_eq_true rfl⟩ ⟨Nat.le_refl _, Nat.le_refl _⟩ ?_
  refine g_if_eq_b cx 17 dX9_link_5 (by decide) (fun hw1 => ?_) (fun hw1 => ?_)
  · skip
    refine g_iconst (v := (-1)) cx dX9_link_17 (by decide) ?_
    exact hret _ _ _ _ dX9_link_18 (rfl) ⟨rfl, rfl⟩
  · skip
    refine g_iload_n (v := w) cx dX9_link_8 rfl ?_
    refine g_iconst (v := 0) cx dX9_link_9 (by decide) ?_
    refine g_iconst (v := 1) cx dX9_link_10 (by decide) ?_
    refine k_callsi (r0 := bI (¬ w < 0 ∧ ¬ 1 < w)) (ws' := wMo V ad nw rw ps im kp tx sw sv da co pl me fa ao al (nI s) (nI z) ax ta ts tv (nI k) il) (As := [.int w, .int 0, .int 1]) (rest := []) cx (c_X9_in V w 0 1) ml_X9_76 dX9_link_11 [] rfl rfl [] rfl rfl rfl rfl rfl (Nat.le_of_ble_eq_true rfl) ⟨Nat.le_of_ble_eq_true rfl, Nat.le_of_ble_eq_true rfl⟩ ⟨Nat.le_refl _, Nat.le_refl _⟩ ?_
    refine g_if_ne_b cx 19 dX9_link_14 (by decide) (fun hw2 => ?_) (fun hw2 => ?_)
    · skip
      exact absurd ⟨hw1, hw2⟩ hb
    · skip
      refine g_iconst (v := (-1)) cx dX9_link_17 (by decide) ?_
      exact hret _ _ _ _ dX9_link_18 (rfl) ⟨rfl, rfl⟩
def rm_X9_link_len : Room := { frames := 2, cells := 0, slots := 0, locals := 43 }
set_option maxRecDepth 100000 in
set_option maxHeartbeats 4000000 in
theorem c_X9_link_len (V : VT) (ad : Nat → Nat) (nw rw ps im kp tx sw sv da co pl me fa ao al : Nat → Int32) (ax ta ts tv il : Int32) (s z k n o m : Nat) (hM : okM nw sw s z k n o m) (l w : Int32) (q t : Nat) (hl : l = nI q) (hq : q < m) (hw : w = nI t) (ht : t = 0) : CI V yX9_link cX9_link 3 .int rm_X9_link_len [.ref (ad 0), .int l, .int w] (wMo V ad nw rw ps im kp tx sw sv da co pl me fa ao al (nI s) (nI z) ax ta ts tv (nI k) il) (fun r_ w_ => r_ = nw (9 + q) ∧ w_ = wMo V ad nw rw ps im kp tx sw sv da co pl me fa ao al (nI s) (nI z) ax ta ts tv (nI k) il) := by
  refine CI_intro (by decide) (Nat.le_of_ble_eq_true rfl) (fun K cx hret => ?_)
  show G V K 3 0 0 (wMo V ad nw rw ps im kp tx sw sv da co pl me fa ao al (nI s) (nI z) ax ta ts tv (nI k) il) 0 [(0, .ref (ad 0)), (1, .int l), (2, .int w)] []
  obtain ⟨hs6, hz, hk6, hn, hn6, hn1, ho, ho4, hm, hm7, hat, hc, hcj, hsw⟩ := hM
  refine g_aload_n (v := ad 0) cx dX9_link_0 rfl ?_
  refine g_iload_n (v := l) cx dX9_link_1 rfl ?_
  refine w_calli (r0 := bI (¬ l < 0 ∧ ¬ nw 0 + nw 1 - 1 < l)) (ws' := wMo V ad nw rw ps im kp tx sw sv da co pl me fa ao al (nI s) (nI z) ax ta ts tv (nI k) il) (As := [.int l]) (rest := []) cx (c_X9_isLink V ad nw rw ps im kp tx sw sv da co pl me fa ao al (nI s) (nI z) ax ta ts tv (nI k) il l) ml_X9_170 dX9_link_2 (q0 := 0) rfl rfl rfl rfl rfl (Nat.le_of_ble_eq_true rfl) ⟨Nat.le_of_ble_eq_true rfl, Nat.le_of_ble_eq_true rfl⟩ ⟨Nat.le_refl _, Nat.le_refl _⟩ ?_
  refine g_if_eq_b cx 17 dX9_link_5 (by decide) (fun hw1 => absurd (⟨rf_ltMN hl (b := 0) (nl 0) (by omega) (by omega) (by omega), by rw [hm, hl]; exact rf_predN (by omega) (by omega) (by omega)⟩) hw1) (fun hw1 => ?_)
  refine g_iload_n (v := w) cx dX9_link_8 rfl ?_
  refine g_iconst (v := 0) cx dX9_link_9 (by decide) ?_
  refine g_iconst (v := 1) cx dX9_link_10 (by decide) ?_
  refine k_callsi (r0 := bI (¬ w < 0 ∧ ¬ 1 < w)) (ws' := wMo V ad nw rw ps im kp tx sw sv da co pl me fa ao al (nI s) (nI z) ax ta ts tv (nI k) il) (As := [.int w, .int 0, .int 1]) (rest := []) cx (c_X9_in V w 0 1) ml_X9_76 dX9_link_11 [] rfl rfl [] rfl rfl rfl rfl rfl (Nat.le_of_ble_eq_true rfl) ⟨Nat.le_of_ble_eq_true rfl, Nat.le_of_ble_eq_true rfl⟩ ⟨Nat.le_refl _, Nat.le_refl _⟩ ?_
  refine g_if_ne_b cx 19 dX9_link_14 (by decide) (fun hw2 => ?_) (fun hw2 => absurd (⟨rf_ltMN hw (b := 0) (nl 0) (by omega) (by omega) (by omega), rf_ltMN (nl 1) hw (by omega) (by omega) (by omega)⟩) hw2)
  refine g_iload_n (v := w) cx dX9_link_19 rfl ?_
  refine g_if_ne cx 35 dX9_link_20 (by decide) (fun hw3 => absurd (rf_eqMP hw (nl 0) (by omega) (by omega) ht) hw3) (fun hw3 => ?_)
  refine g_aload_n (v := ad 0) cx dX9_link_23 rfl ?_
  refine g_get (v := .ref (ad 1)) cx fk_X9_7 dX9_link_24 0 rfl rfl ?_
  refine g_bipush (v := 9) cx dX9_link_27 (by decide) ?_
  refine g_iload_n (v := l) cx dX9_link_29 rfl ?_
  refine g_iadd cx dX9_link_30 ?_
  refine g_iald cx dX9_link_31 1 (9 + q) rfl (rf_add (nl 9) hl) (by omega) (by first | decide | omega) ?_
  refine g_top (y := nw (9 + q)) (rfl) ?_
  refine g_goto cx 54 dX9_link_32 (by decide) ?_
  exact hret _ _ _ _ dX9_link_54 (rfl) ⟨rfl, rfl⟩
def rm_X9_link_cut : Room := { frames := 2, cells := 0, slots := 0, locals := 43 }
set_option maxRecDepth 100000 in
set_option maxHeartbeats 4000000 in
theorem c_X9_link_cut (V : VT) (ad : Nat → Nat) (nw rw ps im kp tx sw sv da co pl me fa ao al : Nat → Int32) (ax ta ts tv il : Int32) (s z k n o m : Nat) (hM : okM nw sw s z k n o m) (l w : Int32) (q t : Nat) (hl : l = nI q) (hq : q < m) (hw : w = nI t) (ht : t = 1) : CI V yX9_link cX9_link 3 .int rm_X9_link_cut [.ref (ad 0), .int l, .int w] (wMo V ad nw rw ps im kp tx sw sv da co pl me fa ao al (nI s) (nI z) ax ta ts tv (nI k) il) (fun r_ w_ => r_ = bI (hasB (nw 16) q) ∧ w_ = wMo V ad nw rw ps im kp tx sw sv da co pl me fa ao al (nI s) (nI z) ax ta ts tv (nI k) il) := by
  refine CI_intro (by decide) (Nat.le_of_ble_eq_true rfl) (fun K cx hret => ?_)
  show G V K 3 0 0 (wMo V ad nw rw ps im kp tx sw sv da co pl me fa ao al (nI s) (nI z) ax ta ts tv (nI k) il) 0 [(0, .ref (ad 0)), (1, .int l), (2, .int w)] []
  obtain ⟨hs6, hz, hk6, hn, hn6, hn1, ho, ho4, hm, hm7, hat, hc, hcj, hsw⟩ := hM
  refine g_aload_n (v := ad 0) cx dX9_link_0 rfl ?_
  refine g_iload_n (v := l) cx dX9_link_1 rfl ?_
  refine w_calli (r0 := bI (¬ l < 0 ∧ ¬ nw 0 + nw 1 - 1 < l)) (ws' := wMo V ad nw rw ps im kp tx sw sv da co pl me fa ao al (nI s) (nI z) ax ta ts tv (nI k) il) (As := [.int l]) (rest := []) cx (c_X9_isLink V ad nw rw ps im kp tx sw sv da co pl me fa ao al (nI s) (nI z) ax ta ts tv (nI k) il l) ml_X9_170 dX9_link_2 (q0 := 0) rfl rfl rfl rfl rfl (Nat.le_of_ble_eq_true rfl) ⟨Nat.le_of_ble_eq_true rfl, Nat.le_of_ble_eq_true rfl⟩ ⟨Nat.le_refl _, Nat.le_refl _⟩ ?_
  refine g_if_eq_b cx 17 dX9_link_5 (by decide) (fun hw1 => absurd (⟨rf_ltMN hl (b := 0) (nl 0) (by omega) (by omega) (by omega), by rw [hm, hl]; exact rf_predN (by omega) (by omega) (by omega)⟩) hw1) (fun hw1 => ?_)
  refine g_iload_n (v := w) cx dX9_link_8 rfl ?_
  refine g_iconst (v := 0) cx dX9_link_9 (by decide) ?_
  refine g_iconst (v := 1) cx dX9_link_10 (by decide) ?_
  refine k_callsi (r0 := bI (¬ w < 0 ∧ ¬ 1 < w)) (ws' := wMo V ad nw rw ps im kp tx sw sv da co pl me fa ao al (nI s) (nI z) ax ta ts tv (nI k) il) (As := [.int w, .int 0, .int 1]) (rest := []) cx (c_X9_in V w 0 1) ml_X9_76 dX9_link_11 [] rfl rfl [] rfl rfl rfl rfl rfl (Nat.le_of_ble_eq_true rfl) ⟨Nat.le_of_ble_eq_true rfl, Nat.le_of_ble_eq_true rfl⟩ ⟨Nat.le_refl _, Nat.le_refl _⟩ ?_
  refine g_if_ne_b cx 19 dX9_link_14 (by decide) (fun hw2 => ?_) (fun hw2 => absurd (⟨rf_ltMN hw (b := 0) (nl 0) (by omega) (by omega) (by omega), rf_ltMN (nl 1) hw (by omega) (by omega) (by omega)⟩) hw2)
  refine g_iload_n (v := w) cx dX9_link_19 rfl ?_
  refine g_if_ne cx 35 dX9_link_20 (by decide) (fun hw3 => ?_) (fun hw3 => absurd hw3 (rf_eqMN hw (nl 0) (by omega) (by omega) (by omega)))
  refine g_aload_n (v := ad 0) cx dX9_link_35 rfl ?_
  refine g_get (v := .ref (ad 1)) cx fk_X9_7 dX9_link_36 0 rfl rfl ?_
  refine g_bipush (v := 16) cx dX9_link_39 (by decide) ?_
  refine g_iald cx dX9_link_41 1 16 rfl (nl 16) (by omega) (by first | decide | omega) ?_
  refine g_top (y := nw 16) (rfl) ?_
  refine g_iload_n (v := l) cx dX9_link_42 rfl ?_
  refine k_callsi (r0 := bI (hasB (nw 16) q)) (ws' := wMo V ad nw rw ps im kp tx sw sv da co pl me fa ao al (nI s) (nI z) ax ta ts tv (nI k) il) (As := [.int (nw 16), .int l]) (rest := []) cx (c_X9_has V (nw 16) l q hl) ml_X9_124 dX9_link_43 [] rfl rfl [] rfl rfl rfl rfl rfl (Nat.le_of_ble_eq_true rfl) ⟨Nat.le_of_ble_eq_true rfl, Nat.le_of_ble_eq_true rfl⟩ ⟨Nat.le_refl _, Nat.le_refl _⟩ ?_
  refine g_if_eq_b cx 53 dX9_link_46 (by decide) (fun hw4 => ?_) (fun hw4 => ?_)
  · skip
    refine g_iconst (v := 0) cx dX9_link_53 (by decide) ?_
    exact hret _ _ _ _ dX9_link_54 (rfl) (⟨bI_f hw4, rfl⟩)
  · skip
    refine g_iconst (v := 1) cx dX9_link_49 (by decide) ?_
    refine g_goto cx 54 dX9_link_50 (by decide) ?_
    exact hret _ _ _ _ dX9_link_54 (rfl) (⟨bI_t hw4, rfl⟩)
def rm_X9_order_bad : Room := { frames := 2, cells := 0, slots := 0, locals := 43 }
set_option maxRecDepth 100000 in
set_option maxHeartbeats 4000000 in
theorem c_X9_order_bad (V : VT) (ad : Nat → Nat) (nw rw ps im kp tx sw sv da co pl me fa ao al : Nat → Int32) (ax ta ts tv il : Int32) (s z k n o m : Nat) (hM : okM nw sw s z k n o m) (l w : Int32) (hb : ¬ ((¬ l < 0 ∧ ¬ nw 3 - 1 < l) ∧ (¬ w < 0 ∧ ¬ 4 < w))) : CI V yX9_order cX9_order 3 .int rm_X9_order_bad [.ref (ad 0), .int l, .int w] (wMo V ad nw rw ps im kp tx sw sv da co pl me fa ao al (nI s) (nI z) ax ta ts tv (nI k) il) (fun r_ w_ => r_ = (-1) ∧ w_ = wMo V ad nw rw ps im kp tx sw sv da co pl me fa ao al (nI s) (nI z) ax ta ts tv (nI k) il) := by
  refine CI_intro (by decide) (Nat.le_of_ble_eq_true rfl) (fun K cx hret => ?_)
  show G V K 3 0 0 (wMo V ad nw rw ps im kp tx sw sv da co pl me fa ao al (nI s) (nI z) ax ta ts tv (nI k) il) 0 [(0, .ref (ad 0)), (1, .int l), (2, .int w)] []
  obtain ⟨hs6, hz, hk6, hn, hn6, hn1, ho, ho4, hm, hm7, hat, hc, hcj, hsw⟩ := hM
  refine g_aload_n (v := ad 0) cx dX9_order_0 rfl ?_
  refine g_iload_n (v := l) cx dX9_order_1 rfl ?_
  refine w_calli (r0 := bI (¬ l < 0 ∧ ¬ nw 3 - 1 < l)) (ws' := wMo V ad nw rw ps im kp tx sw sv da co pl me fa ao al (nI s) (nI z) ax ta ts tv (nI k) il) (As := [.int l]) (rest := []) cx (c_X9_isOrder V ad nw rw ps im kp tx sw sv da co pl me fa ao al (nI s) (nI z) ax ta ts tv (nI k) il l) ml_X9_189 dX9_order_2 (q0 := 0) rfl rfl rfl rfl rfl (Nat.le_of_ble_eq_true rfl) ⟨Nat.le_of_ble_eq_true rfl, Nat.le_of_ble_eq_true rfl⟩ ⟨Nat.le_refl _, Nat.le_refl _⟩ ?_
  refine g_if_eq_b cx 33 dX9_order_5 (by decide) (fun hw1 => ?_) (fun hw1 => ?_)
  · skip
    refine g_iconst (v := (-1)) cx dX9_order_33 (by decide) ?_
    exact hret _ _ _ _ dX9_order_34 (rfl) ⟨rfl, rfl⟩
  · skip
    refine g_iload_n (v := w) cx dX9_order_8 rfl ?_
    refine g_iconst (v := 0) cx dX9_order_9 (by decide) ?_
    refine g_iconst (v := 4) cx dX9_order_10 (by decide) ?_
    refine k_callsi (r0 := bI (¬ w < 0 ∧ ¬ 4 < w)) (ws' := wMo V ad nw rw ps im kp tx sw sv da co pl me fa ao al (nI s) (nI z) ax ta ts tv (nI k) il) (As := [.int w, .int 0, .int 4]) (rest := []) cx (c_X9_in V w 0 4) ml_X9_76 dX9_order_11 [] rfl rfl [] rfl rfl rfl rfl rfl (Nat.le_of_ble_eq_true rfl) ⟨Nat.le_of_ble_eq_true rfl, Nat.le_of_ble_eq_true rfl⟩ ⟨Nat.le_refl _, Nat.le_refl _⟩ ?_
    refine g_if_eq_b cx 33 dX9_order_14 (by decide) (fun hw2 => ?_) (fun hw2 => ?_)
    · skip
      refine g_iconst (v := (-1)) cx dX9_order_33 (by decide) ?_
      exact hret _ _ _ _ dX9_order_34 (rfl) ⟨rfl, rfl⟩
    · skip
      exact absurd ⟨hw1, hw2⟩ hb
def rm_X9_order_ok : Room := { frames := 2, cells := 0, slots := 0, locals := 43 }
set_option maxRecDepth 100000 in
set_option maxHeartbeats 4000000 in
theorem c_X9_order_ok (V : VT) (ad : Nat → Nat) (nw rw ps im kp tx sw sv da co pl me fa ao al : Nat → Int32) (ax ta ts tv il : Int32) (s z k n o m : Nat) (hM : okM nw sw s z k n o m) (l w : Int32) (q t : Nat) (hl : l = nI q) (hq : q < o) (hw : w = nI t) (ht : t < 5) : CI V yX9_order cX9_order 3 .int rm_X9_order_ok [.ref (ad 0), .int l, .int w] (wMo V ad nw rw ps im kp tx sw sv da co pl me fa ao al (nI s) (nI z) ax ta ts tv (nI k) il) (fun r_ w_ => r_ = nw (71 + 5 * q + t) ∧ w_ = wMo V ad nw rw ps im kp tx sw sv da co pl me fa ao al (nI s) (nI z) ax ta ts tv (nI k) il) := by
  refine CI_intro (by decide) (Nat.le_of_ble_eq_true rfl) (fun K cx hret => ?_)
  show G V K 3 0 0 (wMo V ad nw rw ps im kp tx sw sv da co pl me fa ao al (nI s) (nI z) ax ta ts tv (nI k) il) 0 [(0, .ref (ad 0)), (1, .int l), (2, .int w)] []
  obtain ⟨hs6, hz, hk6, hn, hn6, hn1, ho, ho4, hm, hm7, hat, hc, hcj, hsw⟩ := hM
  refine g_aload_n (v := ad 0) cx dX9_order_0 rfl ?_
  refine g_iload_n (v := l) cx dX9_order_1 rfl ?_
  refine w_calli (r0 := bI (¬ l < 0 ∧ ¬ nw 3 - 1 < l)) (ws' := wMo V ad nw rw ps im kp tx sw sv da co pl me fa ao al (nI s) (nI z) ax ta ts tv (nI k) il) (As := [.int l]) (rest := []) cx (c_X9_isOrder V ad nw rw ps im kp tx sw sv da co pl me fa ao al (nI s) (nI z) ax ta ts tv (nI k) il l) ml_X9_189 dX9_order_2 (q0 := 0) rfl rfl rfl rfl rfl (Nat.le_of_ble_eq_true rfl) ⟨Nat.le_of_ble_eq_true rfl, Nat.le_of_ble_eq_true rfl⟩ ⟨Nat.le_refl _, Nat.le_refl _⟩ ?_
  refine g_if_eq_b cx 33 dX9_order_5 (by decide) (fun hw1 => absurd (⟨rf_ltMN hl (b := 0) (nl 0) (by omega) (by omega) (by omega), by rw [ho, hl]; exact rf_predN (by omega) (by omega) (by omega)⟩) hw1) (fun hw1 => ?_)
  refine g_iload_n (v := w) cx dX9_order_8 rfl ?_
  refine g_iconst (v := 0) cx dX9_order_9 (by decide) ?_
  refine g_iconst (v := 4) cx dX9_order_10 (by decide) ?_
  refine k_callsi (r0 := bI (¬ w < 0 ∧ ¬ 4 < w)) (ws' := wMo V ad nw rw ps im kp tx sw sv da co pl me fa ao al (nI s) (nI z) ax ta ts tv (nI k) il) (As := [.int w, .int 0, .int 4]) (rest := []) cx (c_X9_in V w 0 4) ml_X9_76 dX9_order_11 [] rfl rfl [] rfl rfl rfl rfl rfl (Nat.le_of_ble_eq_true rfl) ⟨Nat.le_of_ble_eq_true rfl, Nat.le_of_ble_eq_true rfl⟩ ⟨Nat.le_refl _, Nat.le_refl _⟩ ?_
  refine g_if_eq_b cx 33 dX9_order_14 (by decide) (fun hw2 => absurd (⟨rf_ltMN hw (b := 0) (nl 0) (by omega) (by omega) (by omega), rf_ltMN (nl 4) hw (by omega) (by omega) (by omega)⟩) hw2) (fun hw2 => ?_)
  refine g_aload_n (v := ad 0) cx dX9_order_17 rfl ?_
  refine g_get (v := .ref (ad 1)) cx fk_X9_7 dX9_order_18 0 rfl rfl ?_
  refine g_bipush (v := 71) cx dX9_order_21 (by decide) ?_
  refine g_iconst (v := 5) cx dX9_order_23 (by decide) ?_
  refine g_iload_n (v := l) cx dX9_order_24 rfl ?_
  refine g_imul cx dX9_order_25 ?_
  refine g_iadd cx dX9_order_26 ?_
  refine g_iload_n (v := w) cx dX9_order_27 rfl ?_
  refine g_iadd cx dX9_order_28 ?_
  refine g_iald cx dX9_order_29 1 ((71 + (5 * q)) + t) rfl (rf_add (rf_add (nl 71) (rf_mul (nl 5) hl)) hw) (by omega) (by first | decide | omega) ?_
  refine g_top (y := nw ((71 + (5 * q)) + t)) (rfl) ?_
  refine g_goto cx 34 dX9_order_30 (by decide) ?_
  exact hret _ _ _ _ dX9_order_34 (rfl) ⟨rfl, rfl⟩
def rm_X9_result_bad : Room := { frames := 2, cells := 0, slots := 0, locals := 43 }
set_option maxRecDepth 100000 in
set_option maxHeartbeats 4000000 in
theorem c_X9_result_bad (V : VT) (ad : Nat → Nat) (nw rw ps im kp tx sw sv da co pl me fa ao al : Nat → Int32) (ax ta ts tv il : Int32) (s z k n o m : Nat) (hM : okM nw sw s z k n o m) (l w : Int32) (hb : ¬ ((¬ l < 0 ∧ ¬ nw 3 - 1 < l) ∧ (¬ w < 0 ∧ ¬ 1 < w))) : CI V yX9_result cX9_result 3 .int rm_X9_result_bad [.ref (ad 0), .int l, .int w] (wMo V ad nw rw ps im kp tx sw sv da co pl me fa ao al (nI s) (nI z) ax ta ts tv (nI k) il) (fun r_ w_ => r_ = (-1) ∧ w_ = wMo V ad nw rw ps im kp tx sw sv da co pl me fa ao al (nI s) (nI z) ax ta ts tv (nI k) il) := by
  refine CI_intro (by decide) (Nat.le_of_ble_eq_true rfl) (fun K cx hret => ?_)
  show G V K 3 0 0 (wMo V ad nw rw ps im kp tx sw sv da co pl me fa ao al (nI s) (nI z) ax ta ts tv (nI k) il) 0 [(0, .ref (ad 0)), (1, .int l), (2, .int w)] []
  obtain ⟨hs6, hz, hk6, hn, hn6, hn1, ho, ho4, hm, hm7, hat, hc, hcj, hsw⟩ := hM
  refine g_aload_n (v := ad 0) cx dX9_result_0 rfl ?_
  refine g_iload_n (v := l) cx dX9_result_1 rfl ?_
  refine w_calli (r0 := bI (¬ l < 0 ∧ ¬ nw 3 - 1 < l)) (ws' := wMo V ad nw rw ps im kp tx sw sv da co pl me fa ao al (nI s) (nI z) ax ta ts tv (nI k) il) (As := [.int l]) (rest := []) cx (c_X9_isOrder V ad nw rw ps im kp tx sw sv da co pl me fa ao al (nI s) (nI z) ax ta ts tv (nI k) il l) ml_X9_189 dX9_result_2 (q0 := 0) rfl rfl rfl rfl rfl (Nat.le_of_ble_eq_true rfl) ⟨Nat.le_of_ble_eq_true rfl, Nat.le_of_ble_eq_true rfl⟩ ⟨Nat.le_refl _, Nat.le_refl _⟩ ?_
  refine g_if_eq_b cx 17 dX9_result_5 (by decide) (fun hw1 => ?_) (fun hw1 => ?_)
  · skip
    refine g_iconst (v := (-1)) cx dX9_result_17 (by decide) ?_
    exact hret _ _ _ _ dX9_result_18 (rfl) ⟨rfl, rfl⟩
  · skip
    refine g_iload_n (v := w) cx dX9_result_8 rfl ?_
    refine g_iconst (v := 0) cx dX9_result_9 (by decide) ?_
    refine g_iconst (v := 1) cx dX9_result_10 (by decide) ?_
    refine k_callsi (r0 := bI (¬ w < 0 ∧ ¬ 1 < w)) (ws' := wMo V ad nw rw ps im kp tx sw sv da co pl me fa ao al (nI s) (nI z) ax ta ts tv (nI k) il) (As := [.int w, .int 0, .int 1]) (rest := []) cx (c_X9_in V w 0 1) ml_X9_76 dX9_result_11 [] rfl rfl [] rfl rfl rfl rfl rfl (Nat.le_of_ble_eq_true rfl) ⟨Nat.le_of_ble_eq_true rfl, Nat.le_of_ble_eq_true rfl⟩ ⟨Nat.le_refl _, Nat.le_refl _⟩ ?_
    refine g_if_ne_b cx 19 dX9_result_14 (by decide) (fun hw2 => ?_) (fun hw2 => ?_)
    · skip
      exact absurd ⟨hw1, hw2⟩ hb
    · skip
      refine g_iconst (v := (-1)) cx dX9_result_17 (by decide) ?_
      exact hret _ _ _ _ dX9_result_18 (rfl) ⟨rfl, rfl⟩
def rm_X9_result_none : Room := { frames := 2, cells := 0, slots := 0, locals := 43 }
set_option maxRecDepth 100000 in
set_option maxHeartbeats 4000000 in
theorem c_X9_result_none (V : VT) (ad : Nat → Nat) (nw rw ps im kp tx sw sv da co pl me fa ao al : Nat → Int32) (ax ta ts tv il : Int32) (s z k n o m : Nat) (hM : okM nw sw s z k n o m) (l w : Int32) (q t : Nat) (hl : l = nI q) (hq : q < o) (hw : w = nI t) (ht : t < 2) (h1 : ¬ nw 4 = 1) : CI V yX9_result cX9_result 3 .int rm_X9_result_none [.ref (ad 0), .int l, .int w] (wMo V ad nw rw ps im kp tx sw sv da co pl me fa ao al (nI s) (nI z) ax ta ts tv (nI k) il) (fun r_ w_ => r_ = (-9) ∧ w_ = wMo V ad nw rw ps im kp tx sw sv da co pl me fa ao al (nI s) (nI z) ax ta ts tv (nI k) il) := by
  refine CI_intro (by decide) (Nat.le_of_ble_eq_true rfl) (fun K cx hret => ?_)
  show G V K 3 0 0 (wMo V ad nw rw ps im kp tx sw sv da co pl me fa ao al (nI s) (nI z) ax ta ts tv (nI k) il) 0 [(0, .ref (ad 0)), (1, .int l), (2, .int w)] []
  obtain ⟨hs6, hz, hk6, hn, hn6, hn1, ho, ho4, hm, hm7, hat, hc, hcj, hsw⟩ := hM
  refine g_aload_n (v := ad 0) cx dX9_result_0 rfl ?_
  refine g_iload_n (v := l) cx dX9_result_1 rfl ?_
  refine w_calli (r0 := bI (¬ l < 0 ∧ ¬ nw 3 - 1 < l)) (ws' := wMo V ad nw rw ps im kp tx sw sv da co pl me fa ao al (nI s) (nI z) ax ta ts tv (nI k) il) (As := [.int l]) (rest := []) cx (c_X9_isOrder V ad nw rw ps im kp tx sw sv da co pl me fa ao al (nI s) (nI z) ax ta ts tv (nI k) il l) ml_X9_189 dX9_result_2 (q0 := 0) rfl rfl rfl rfl rfl (Nat.le_of_ble_eq_true rfl) ⟨Nat.le_of_ble_eq_true rfl, Nat.le_of_ble_eq_true rfl⟩ ⟨Nat.le_refl _, Nat.le_refl _⟩ ?_
  refine g_if_eq_b cx 17 dX9_result_5 (by decide) (fun hw1 => absurd (⟨rf_ltMN hl (b := 0) (nl 0) (by omega) (by omega) (by omega), by rw [ho, hl]; exact rf_predN (by omega) (by omega) (by omega)⟩) hw1) (fun hw1 => ?_)
  refine g_iload_n (v := w) cx dX9_result_8 rfl ?_
  refine g_iconst (v := 0) cx dX9_result_9 (by decide) ?_
  refine g_iconst (v := 1) cx dX9_result_10 (by decide) ?_
  refine k_callsi (r0 := bI (¬ w < 0 ∧ ¬ 1 < w)) (ws' := wMo V ad nw rw ps im kp tx sw sv da co pl me fa ao al (nI s) (nI z) ax ta ts tv (nI k) il) (As := [.int w, .int 0, .int 1]) (rest := []) cx (c_X9_in V w 0 1) ml_X9_76 dX9_result_11 [] rfl rfl [] rfl rfl rfl rfl rfl (Nat.le_of_ble_eq_true rfl) ⟨Nat.le_of_ble_eq_true rfl, Nat.le_of_ble_eq_true rfl⟩ ⟨Nat.le_refl _, Nat.le_refl _⟩ ?_
  refine g_if_ne_b cx 19 dX9_result_14 (by decide) (fun hw2 => ?_) (fun hw2 => absurd (⟨rf_ltMN hw (b := 0) (nl 0) (by omega) (by omega) (by omega), rf_ltMN (nl 1) hw (by omega) (by omega) (by omega)⟩) hw2)
  refine g_aload_n (v := ad 0) cx dX9_result_19 rfl ?_
  refine g_get (v := .ref (ad 1)) cx fk_X9_7 dX9_result_20 0 rfl rfl ?_
  refine g_iconst (v := 4) cx dX9_result_23 (by decide) ?_
  refine g_iald cx dX9_result_24 1 4 rfl (nl 4) (by omega) (by first | decide | omega) ?_
  refine g_top (y := nw 4) (rfl) ?_
  refine g_iconst (v := 1) cx dX9_result_25 (by decide) ?_
  refine g_icmp_ne cx 45 dX9_result_26 (by decide) (fun hw3 => ?_) (fun hw3 => absurd hw3 (h1))
  refine g_bipush (v := (-9)) cx dX9_result_45 (by decide) ?_
  exact hret _ _ _ _ dX9_result_47 (rfl) ⟨rfl, rfl⟩
def rm_X9_result_ok : Room := { frames := 2, cells := 0, slots := 0, locals := 43 }
set_option maxRecDepth 100000 in
set_option maxHeartbeats 4000000 in
theorem c_X9_result_ok (V : VT) (ad : Nat → Nat) (nw rw ps im kp tx sw sv da co pl me fa ao al : Nat → Int32) (ax ta ts tv il : Int32) (s z k n o m : Nat) (hM : okM nw sw s z k n o m) (l w : Int32) (q t : Nat) (hl : l = nI q) (hq : q < o) (hw : w = nI t) (ht : t < 2) (h1 : nw 4 = 1) : CI V yX9_result cX9_result 3 .int rm_X9_result_ok [.ref (ad 0), .int l, .int w] (wMo V ad nw rw ps im kp tx sw sv da co pl me fa ao al (nI s) (nI z) ax ta ts tv (nI k) il) (fun r_ w_ => r_ = nw (91 + 2 * q + t) ∧ w_ = wMo V ad nw rw ps im kp tx sw sv da co pl me fa ao al (nI s) (nI z) ax ta ts tv (nI k) il) := by
  refine CI_intro (by decide) (Nat.le_of_ble_eq_true rfl) (fun K cx hret => ?_)
  show G V K 3 0 0 (wMo V ad nw rw ps im kp tx sw sv da co pl me fa ao al (nI s) (nI z) ax ta ts tv (nI k) il) 0 [(0, .ref (ad 0)), (1, .int l), (2, .int w)] []
  obtain ⟨hs6, hz, hk6, hn, hn6, hn1, ho, ho4, hm, hm7, hat, hc, hcj, hsw⟩ := hM
  refine g_aload_n (v := ad 0) cx dX9_result_0 rfl ?_
  refine g_iload_n (v := l) cx dX9_result_1 rfl ?_
  refine w_calli (r0 := bI (¬ l < 0 ∧ ¬ nw 3 - 1 < l)) (ws' := wMo V ad nw rw ps im kp tx sw sv da co pl me fa ao al (nI s) (nI z) ax ta ts tv (nI k) il) (As := [.int l]) (rest := []) cx (c_X9_isOrder V ad nw rw ps im kp tx sw sv da co pl me fa ao al (nI s) (nI z) ax ta ts tv (nI k) il l) ml_X9_189 dX9_result_2 (q0 := 0) rfl rfl rfl rfl rfl (Nat.le_of_ble_eq_true rfl) ⟨Nat.le_of_ble_eq_true rfl, Nat.le_of_ble_eq_true rfl⟩ ⟨Nat.le_refl _, Nat.le_refl _⟩ ?_
  refine g_if_eq_b cx 17 dX9_result_5 (by decide) (fun hw1 => absurd (⟨rf_ltMN hl (b := 0) (nl 0) (by omega) (by omega) (by omega), by rw [ho, hl]; exact rf_predN (by omega) (by omega) (by omega)⟩) hw1) (fun hw1 => ?_)
  refine g_iload_n (v := w) cx dX9_result_8 rfl ?_
  refine g_iconst (v := 0) cx dX9_result_9 (by decide) ?_
  refine g_iconst (v := 1) cx dX9_result_10 (by decide) ?_
  refine k_callsi (r0 := bI (¬ w < 0 ∧ ¬ 1 < w)) (ws' := wMo V ad nw rw ps im kp tx sw sv da co pl me fa ao al (nI s) (nI z) ax ta ts tv (nI k) il) (As := [.int w, .int 0, .int 1]) (rest := []) cx (c_X9_in V w 0 1) ml_X9_76 dX9_result_11 [] rfl rfl [] rfl rfl rfl rfl rfl (Nat.le_of_ble_eq_true rfl) ⟨Nat.le_of_ble_eq_true rfl, Nat.le_of_ble_eq_true rfl⟩ ⟨Nat.le_refl _, Nat.le_refl _⟩ ?_
  refine g_if_ne_b cx 19 dX9_result_14 (by decide) (fun hw2 => ?_) (fun hw2 => absurd (⟨rf_ltMN hw (b := 0) (nl 0) (by omega) (by omega) (by omega), rf_ltMN (nl 1) hw (by omega) (by omega) (by omega)⟩) hw2)
  refine g_aload_n (v := ad 0) cx dX9_result_19 rfl ?_
  refine g_get (v := .ref (ad 1)) cx fk_X9_7 dX9_result_20 0 rfl rfl ?_
  refine g_iconst (v := 4) cx dX9_result_23 (by decide) ?_
  refine g_iald cx dX9_result_24 1 4 rfl (nl 4) (by omega) (by first | decide | omega) ?_
  refine g_top (y := nw 4) (rfl) ?_
  refine g_iconst (v := 1) cx dX9_result_25 (by decide) ?_
  refine g_icmp_ne cx 45 dX9_result_26 (by decide) (fun hw3 => absurd (h1) hw3) (fun hw3 => ?_)
  refine g_aload_n (v := ad 0) cx dX9_result_29 rfl ?_
  refine g_get (v := .ref (ad 1)) cx fk_X9_7 dX9_result_30 0 rfl rfl ?_
  refine g_bipush (v := 91) cx dX9_result_33 (by decide) ?_
  refine g_iconst (v := 2) cx dX9_result_35 (by decide) ?_
  refine g_iload_n (v := l) cx dX9_result_36 rfl ?_
  refine g_imul cx dX9_result_37 ?_
  refine g_iadd cx dX9_result_38 ?_
  refine g_iload_n (v := w) cx dX9_result_39 rfl ?_
  refine g_iadd cx dX9_result_40 ?_
  refine g_iald cx dX9_result_41 1 ((91 + (2 * q)) + t) rfl (rf_add (rf_add (nl 91) (rf_mul (nl 2) hl)) hw) (by omega) (by first | decide | omega) ?_
  refine g_top (y := nw ((91 + (2 * q)) + t)) (rfl) ?_
  refine g_goto cx 47 dX9_result_42 (by decide) ?_
  exact hret _ _ _ _ dX9_result_47 (rfl) ⟨rfl, rfl⟩
def rm_X9_time_bad : Room := { frames := 1, cells := 0, slots := 0, locals := 22 }
set_option maxRecDepth 100000 in
set_option maxHeartbeats 4000000 in
theorem c_X9_time_bad (V : VT) (ad : Nat → Nat) (nw rw ps im kp tx sw sv da co pl me fa ao al : Nat → Int32) (ax ta ts tv il : Int32) (s z k n o m : Nat) (hM : okM nw sw s z k n o m) (l : Int32) (hb : ¬ (¬ l < 0 ∧ ¬ 1 < l)) : CI V yX9_time cX9_time 2 .int rm_X9_time_bad [.ref (ad 0), .int l] (wMo V ad nw rw ps im kp tx sw sv da co pl me fa ao al (nI s) (nI z) ax ta ts tv (nI k) il) (fun r_ w_ => r_ = (-1) ∧ w_ = wMo V ad nw rw ps im kp tx sw sv da co pl me fa ao al (nI s) (nI z) ax ta ts tv (nI k) il) := by
  refine CI_intro (by decide) (Nat.le_of_ble_eq_true rfl) (fun K cx hret => ?_)
  show G V K 2 0 0 (wMo V ad nw rw ps im kp tx sw sv da co pl me fa ao al (nI s) (nI z) ax ta ts tv (nI k) il) 0 [(0, .ref (ad 0)), (1, .int l)] []
  obtain ⟨hs6, hz, hk6, hn, hn6, hn1, ho, ho4, hm, hm7, hat, hc, hcj, hsw⟩ := hM
  refine g_iload_n (v := l) cx dX9_time_0 rfl ?_
  refine g_iconst (v := 0) cx dX9_time_1 (by decide) ?_
  refine g_iconst (v := 1) cx dX9_time_2 (by decide) ?_
  refine k_callsi (r0 := bI (¬ l < 0 ∧ ¬ 1 < l)) (ws' := wMo V ad nw rw ps im kp tx sw sv da co pl me fa ao al (nI s) (nI z) ax ta ts tv (nI k) il) (As := [.int l, .int 0, .int 1]) (rest := []) cx (c_X9_in V l 0 1) ml_X9_76 dX9_time_3 [] rfl rfl [] rfl rfl rfl rfl rfl (Nat.le_of_ble_eq_true rfl) ⟨Nat.le_of_ble_eq_true rfl, Nat.le_of_ble_eq_true rfl⟩ ⟨Nat.le_refl _, Nat.le_refl _⟩ ?_
  refine g_if_eq_b cx 20 dX9_time_6 (by decide) (fun hw1 => ?_) (fun hw1 => absurd hw1 (hb))
  refine g_iconst (v := (-1)) cx dX9_time_20 (by decide) ?_
  exact hret _ _ _ _ dX9_time_21 (rfl) ⟨rfl, rfl⟩
def rm_X9_time_ok : Room := { frames := 1, cells := 0, slots := 0, locals := 22 }
set_option maxRecDepth 100000 in
set_option maxHeartbeats 4000000 in
theorem c_X9_time_ok (V : VT) (ad : Nat → Nat) (nw rw ps im kp tx sw sv da co pl me fa ao al : Nat → Int32) (ax ta ts tv il : Int32) (s z k n o m : Nat) (hM : okM nw sw s z k n o m) (l : Int32) (q : Nat) (hl : l = nI q) (hq : q < 2) : CI V yX9_time cX9_time 2 .int rm_X9_time_ok [.ref (ad 0), .int l] (wMo V ad nw rw ps im kp tx sw sv da co pl me fa ao al (nI s) (nI z) ax ta ts tv (nI k) il) (fun r_ w_ => r_ = nw (5 + q) ∧ w_ = wMo V ad nw rw ps im kp tx sw sv da co pl me fa ao al (nI s) (nI z) ax ta ts tv (nI k) il) := by
  refine CI_intro (by decide) (Nat.le_of_ble_eq_true rfl) (fun K cx hret => ?_)
  show G V K 2 0 0 (wMo V ad nw rw ps im kp tx sw sv da co pl me fa ao al (nI s) (nI z) ax ta ts tv (nI k) il) 0 [(0, .ref (ad 0)), (1, .int l)] []
  obtain ⟨hs6, hz, hk6, hn, hn6, hn1, ho, ho4, hm, hm7, hat, hc, hcj, hsw⟩ := hM
  refine g_iload_n (v := l) cx dX9_time_0 rfl ?_
  refine g_iconst (v := 0) cx dX9_time_1 (by decide) ?_
  refine g_iconst (v := 1) cx dX9_time_2 (by decide) ?_
  refine k_callsi (r0 := bI (¬ l < 0 ∧ ¬ 1 < l)) (ws' := wMo V ad nw rw ps im kp tx sw sv da co pl me fa ao al (nI s) (nI z) ax ta ts tv (nI k) il) (As := [.int l, .int 0, .int 1]) (rest := []) cx (c_X9_in V l 0 1) ml_X9_76 dX9_time_3 [] rfl rfl [] rfl rfl rfl rfl rfl (Nat.le_of_ble_eq_true rfl) ⟨Nat.le_of_ble_eq_true rfl, Nat.le_of_ble_eq_true rfl⟩ ⟨Nat.le_refl _, Nat.le_refl _⟩ ?_
  refine g_if_eq_b cx 20 dX9_time_6 (by decide) (fun hw1 => absurd (⟨rf_ltMN hl (b := 0) (nl 0) (by omega) (by omega) (by omega), rf_ltMN (nl 1) hl (by omega) (by omega) (by omega)⟩) hw1) (fun hw1 => ?_)
  refine g_aload_n (v := ad 0) cx dX9_time_9 rfl ?_
  refine g_get (v := .ref (ad 1)) cx fk_X9_7 dX9_time_10 0 rfl rfl ?_
  refine g_iconst (v := 5) cx dX9_time_13 (by decide) ?_
  refine g_iload_n (v := l) cx dX9_time_14 rfl ?_
  refine g_iadd cx dX9_time_15 ?_
  refine g_iald cx dX9_time_16 1 (5 + q) rfl (rf_add (nl 5) hl) (by omega) (by first | decide | omega) ?_
  refine g_top (y := nw (5 + q)) (rfl) ?_
  refine g_goto cx 21 dX9_time_17 (by decide) ?_
  exact hret _ _ _ _ dX9_time_21 (rfl) ⟨rfl, rfl⟩
def rm_X9_reached_bad : Room := { frames := 1, cells := 0, slots := 0, locals := 22 }
set_option maxRecDepth 100000 in
set_option maxHeartbeats 4000000 in
theorem c_X9_reached_bad (V : VT) (ad : Nat → Nat) (nw rw ps im kp tx sw sv da co pl me fa ao al : Nat → Int32) (ax ta ts tv il : Int32) (s z k n o m : Nat) (hM : okM nw sw s z k n o m) (l : Int32) (hb : ¬ (¬ l < 0 ∧ ¬ 1 < l)) : CI V yX9_reached cX9_reached 4 .int rm_X9_reached_bad [.ref (ad 0), .int l] (wMo V ad nw rw ps im kp tx sw sv da co pl me fa ao al (nI s) (nI z) ax ta ts tv (nI k) il) (fun r_ w_ => r_ = (-1) ∧ w_ = wMo V ad nw rw ps im kp tx sw sv da co pl me fa ao al (nI s) (nI z) ax ta ts tv (nI k) il) := by
  refine CI_intro (by decide) (Nat.le_of_ble_eq_true rfl) (fun K cx hret => ?_)
  show G V K 4 0 0 (wMo V ad nw rw ps im kp tx sw sv da co pl me fa ao al (nI s) (nI z) ax ta ts tv (nI k) il) 0 [(0, .ref (ad 0)), (1, .int l)] []
  obtain ⟨hs6, hz, hk6, hn, hn6, hn1, ho, ho4, hm, hm7, hat, hc, hcj, hsw⟩ := hM
  refine g_iload_n (v := l) cx dX9_reached_0 rfl ?_
  refine g_iconst (v := 0) cx dX9_reached_1 (by decide) ?_
  refine g_iconst (v := 1) cx dX9_reached_2 (by decide) ?_
  refine k_callsi (r0 := bI (¬ l < 0 ∧ ¬ 1 < l)) (ws' := wMo V ad nw rw ps im kp tx sw sv da co pl me fa ao al (nI s) (nI z) ax ta ts tv (nI k) il) (As := [.int l, .int 0, .int 1]) (rest := []) cx (c_X9_in V l 0 1) ml_X9_76 dX9_reached_3 [] rfl rfl [] rfl rfl rfl rfl rfl (Nat.le_of_ble_eq_true rfl) ⟨Nat.le_of_ble_eq_true rfl, Nat.le_of_ble_eq_true rfl⟩ ⟨Nat.le_refl _, Nat.le_refl _⟩ ?_
  refine g_if_ne_b cx 11 dX9_reached_6 (by decide) (fun hw1 => absurd hw1 (hb)) (fun hw1 => ?_)
  refine g_iconst (v := (-1)) cx dX9_reached_9 (by decide) ?_
  exact hret _ _ _ _ dX9_reached_10 (rfl) ⟨rfl, rfl⟩
def rm_X9_reached_A : Room := { frames := 2, cells := 0, slots := 0, locals := 43 }
set_option maxRecDepth 100000 in
set_option maxHeartbeats 4000000 in
theorem c_X9_reached_A (V : VT) (ad : Nat → Nat) (nw rw ps im kp tx sw sv da co pl me fa ao al : Nat → Int32) (ax ta ts tv il : Int32) (s z k n o m : Nat) (hM : okM nw sw s z k n o m) (l : Int32) (hl : l = nI 0) : CI V yX9_reached cX9_reached 4 .int rm_X9_reached_A [.ref (ad 0), .int l] (wMo V ad nw rw ps im kp tx sw sv da co pl me fa ao al (nI s) (nI z) ax ta ts tv (nI k) il) (fun r_ w_ => r_ = ((1 : Int32) <<< ((nI (mA (nw 16) n) - 1 + 1) &&& 31)) - 1 ∧ w_ = wMo V ad nw rw ps im kp tx sw sv da co pl me fa ao al (nI s) (nI z) ax ta ts tv (nI k) il) := by
  refine CI_intro (by decide) (Nat.le_of_ble_eq_true rfl) (fun K cx hret => ?_)
  show G V K 4 0 0 (wMo V ad nw rw ps im kp tx sw sv da co pl me fa ao al (nI s) (nI z) ax ta ts tv (nI k) il) 0 [(0, .ref (ad 0)), (1, .int l)] []
  obtain ⟨hs6, hz, hk6, hn, hn6, hn1, ho, ho4, hm, hm7, hat, hc, hcj, hsw⟩ := hM
  refine g_iload_n (v := l) cx dX9_reached_0 rfl ?_
  refine g_iconst (v := 0) cx dX9_reached_1 (by decide) ?_
  refine g_iconst (v := 1) cx dX9_reached_2 (by decide) ?_
  refine k_callsi (r0 := bI (¬ l < 0 ∧ ¬ 1 < l)) (ws' := wMo V ad nw rw ps im kp tx sw sv da co pl me fa ao al (nI s) (nI z) ax ta ts tv (nI k) il) (As := [.int l, .int 0, .int 1]) (rest := []) cx (c_X9_in V l 0 1) ml_X9_76 dX9_reached_3 [] rfl rfl [] rfl rfl rfl rfl rfl (Nat.le_of_ble_eq_true rfl) ⟨Nat.le_of_ble_eq_true rfl, Nat.le_of_ble_eq_true rfl⟩ ⟨Nat.le_refl _, Nat.le_refl _⟩ ?_
  refine g_if_ne_b cx 11 dX9_reached_6 (by decide) (fun hw1 => ?_) (fun hw1 => absurd (⟨rf_ltMN hl (b := 0) (nl 0) (by omega) (by omega) (by omega), rf_ltMN (nl 1) hl (by omega) (by omega) (by omega)⟩) hw1)
  refine g_aload_n (v := ad 0) cx dX9_reached_11 rfl ?_
  refine g_get (v := .ref (ad 1)) cx fk_X9_7 dX9_reached_12 0 rfl rfl ?_
  refine g_iconst (v := 0) cx dX9_reached_15 (by decide) ?_
  refine g_iald cx dX9_reached_16 1 0 rfl (nl 0) (by omega) (by first | decide | omega) ?_
  refine g_top (y := nw 0) (rfl) ?_
  refine g_istore_n (lv' := [(0, .ref (ad 0)), (1, .int l), (2, .int (nw 0))]) cx dX9_reached_17 (by decide) rfl ?_
  refine g_iconst (v := 1) cx dX9_reached_18 (by decide) ?_
  refine g_iload_n (v := nw 0) cx dX9_reached_19 rfl ?_
  refine g_ishl cx dX9_reached_20 ?_
  refine g_iconst (v := 1) cx dX9_reached_21 (by decide) ?_
  refine g_isub cx dX9_reached_22 ?_
  refine g_istore_n (lv' := [(0, .ref (ad 0)), (1, .int l), (2, .int (nw 0)), (3, .int (((1 : Int32) <<< ((nw 0) &&& 31)) - 1))]) cx dX9_reached_23 (by decide) rfl ?_
  refine g_iload_n (v := l) cx dX9_reached_24 rfl ?_
  refine g_if_ne cx 48 dX9_reached_25 (by decide) (fun hw2 => absurd (rf_eqMP hl (nl 0) (by omega) (by omega) (by omega)) hw2) (fun hw2 => ?_)
  refine g_iconst (v := 1) cx dX9_reached_28 (by decide) ?_
  refine g_aload_n (v := ad 0) cx dX9_reached_29 rfl ?_
  refine g_aload_n (v := ad 0) cx dX9_reached_30 rfl ?_
  refine g_get (v := .ref (ad 1)) cx fk_X9_7 dX9_reached_31 0 rfl rfl ?_
  refine g_bipush (v := 16) cx dX9_reached_34 (by decide) ?_
  refine g_iald cx dX9_reached_36 1 16 rfl (nl 16) (by omega) (by first | decide | omega) ?_
  refine g_top (y := nw 16) (rfl) ?_
  refine w_calli (r0 := nI (mA (nw 16) n) - 1) (ws' := wMo V ad nw rw ps im kp tx sw sv da co pl me fa ao al (nI s) (nI z) ax ta ts tv (nI k) il) (As := [.int (nw 16)]) (rest := [.int 1]) cx (c_X9_lastOfA V ad nw rw ps im kp tx sw sv da co pl me fa ao al (nI s) (nI z) ax ta ts tv (nI k) il (nw 16) n hn (by omega)) ml_X9_134 dX9_reached_37 (q0 := 0) rfl rfl rfl rfl rfl (Nat.le_of_ble_eq_true rfl) ⟨Nat.le_of_ble_eq_true rfl, Nat.le_of_ble_eq_true rfl⟩ ⟨Nat.le_refl _, Nat.le_refl _⟩ ?_
  refine g_iconst (v := 1) cx dX9_reached_40 (by decide) ?_
  refine g_iadd cx dX9_reached_41 ?_
  refine g_ishl cx dX9_reached_42 ?_
  refine g_iconst (v := 1) cx dX9_reached_43 (by decide) ?_
  refine g_isub cx dX9_reached_44 ?_
  refine g_goto cx 67 dX9_reached_45 (by decide) ?_
  exact hret _ _ _ _ dX9_reached_67 (rfl) ⟨rfl, rfl⟩
def rm_X9_reached_B : Room := { frames := 2, cells := 0, slots := 0, locals := 44 }
set_option maxRecDepth 100000 in
set_option maxHeartbeats 4000000 in
theorem c_X9_reached_B (V : VT) (ad : Nat → Nat) (nw rw ps im kp tx sw sv da co pl me fa ao al : Nat → Int32) (ax ta ts tv il : Int32) (s z k n o m : Nat) (hM : okM nw sw s z k n o m) (l : Int32) (hl : l = nI 1) : CI V yX9_reached cX9_reached 4 .int rm_X9_reached_B [.ref (ad 0), .int l] (wMo V ad nw rw ps im kp tx sw sv da co pl me fa ao al (nI s) (nI z) ax ta ts tv (nI k) il) (fun r_ w_ => r_ = (((1 : Int32) <<< (nw 0 &&& 31)) - 1) &&& ((((1 : Int32) <<< (nI (mB nw (nw 16) n) &&& 31)) - 1) ^^^ (-1)) ∧ w_ = wMo V ad nw rw ps im kp tx sw sv da co pl me fa ao al (nI s) (nI z) ax ta ts tv (nI k) il) := by
  refine CI_intro (by decide) (Nat.le_of_ble_eq_true rfl) (fun K cx hret => ?_)
  show G V K 4 0 0 (wMo V ad nw rw ps im kp tx sw sv da co pl me fa ao al (nI s) (nI z) ax ta ts tv (nI k) il) 0 [(0, .ref (ad 0)), (1, .int l)] []
  obtain ⟨hs6, hz, hk6, hn, hn6, hn1, ho, ho4, hm, hm7, hat, hc, hcj, hsw⟩ := hM
  refine g_iload_n (v := l) cx dX9_reached_0 rfl ?_
  refine g_iconst (v := 0) cx dX9_reached_1 (by decide) ?_
  refine g_iconst (v := 1) cx dX9_reached_2 (by decide) ?_
  refine k_callsi (r0 := bI (¬ l < 0 ∧ ¬ 1 < l)) (ws' := wMo V ad nw rw ps im kp tx sw sv da co pl me fa ao al (nI s) (nI z) ax ta ts tv (nI k) il) (As := [.int l, .int 0, .int 1]) (rest := []) cx (c_X9_in V l 0 1) ml_X9_76 dX9_reached_3 [] rfl rfl [] rfl rfl rfl rfl rfl (Nat.le_of_ble_eq_true rfl) ⟨Nat.le_of_ble_eq_true rfl, Nat.le_of_ble_eq_true rfl⟩ ⟨Nat.le_refl _, Nat.le_refl _⟩ ?_
  refine g_if_ne_b cx 11 dX9_reached_6 (by decide) (fun hw1 => ?_) (fun hw1 => absurd (⟨rf_ltMN hl (b := 0) (nl 0) (by omega) (by omega) (by omega), rf_ltMN (nl 1) hl (by omega) (by omega) (by omega)⟩) hw1)
  refine g_aload_n (v := ad 0) cx dX9_reached_11 rfl ?_
  refine g_get (v := .ref (ad 1)) cx fk_X9_7 dX9_reached_12 0 rfl rfl ?_
  refine g_iconst (v := 0) cx dX9_reached_15 (by decide) ?_
  refine g_iald cx dX9_reached_16 1 0 rfl (nl 0) (by omega) (by first | decide | omega) ?_
  refine g_top (y := nw 0) (rfl) ?_
  refine g_istore_n (lv' := [(0, .ref (ad 0)), (1, .int l), (2, .int (nw 0))]) cx dX9_reached_17 (by decide) rfl ?_
  refine g_iconst (v := 1) cx dX9_reached_18 (by decide) ?_
  refine g_iload_n (v := nw 0) cx dX9_reached_19 rfl ?_
  refine g_ishl cx dX9_reached_20 ?_
  refine g_iconst (v := 1) cx dX9_reached_21 (by decide) ?_
  refine g_isub cx dX9_reached_22 ?_
  refine g_istore_n (lv' := [(0, .ref (ad 0)), (1, .int l), (2, .int (nw 0)), (3, .int (((1 : Int32) <<< ((nw 0) &&& 31)) - 1))]) cx dX9_reached_23 (by decide) rfl ?_
  refine g_iload_n (v := l) cx dX9_reached_24 rfl ?_
  refine g_if_ne cx 48 dX9_reached_25 (by decide) (fun hw2 => ?_) (fun hw2 => absurd hw2 (rf_eqMN hl (nl 0) (by omega) (by omega) (by omega)))
  refine g_iload_n (v := ((1 : Int32) <<< ((nw 0) &&& 31)) - 1) cx dX9_reached_48 rfl ?_
  refine g_iconst (v := 1) cx dX9_reached_49 (by decide) ?_
  refine g_aload_n (v := ad 0) cx dX9_reached_50 rfl ?_
  refine g_aload_n (v := ad 0) cx dX9_reached_51 rfl ?_
  refine g_get (v := .ref (ad 1)) cx fk_X9_7 dX9_reached_52 0 rfl rfl ?_
  refine g_bipush (v := 16) cx dX9_reached_55 (by decide) ?_
  refine g_iald cx dX9_reached_57 1 16 rfl (nl 16) (by omega) (by first | decide | omega) ?_
  refine g_top (y := nw 16) (rfl) ?_
  refine w_calli (r0 := nI (mB nw (nw 16) n)) (ws' := wMo V ad nw rw ps im kp tx sw sv da co pl me fa ao al (nI s) (nI z) ax ta ts tv (nI k) il) (As := [.int (nw 16)]) (rest := [.int 1, .int (((1 : Int32) <<< ((nw 0) &&& 31)) - 1)]) cx (c_X9_firstOfB V ad nw rw ps im kp tx sw sv da co pl me fa ao al (nI s) (nI z) ax ta ts tv (nI k) il (nw 16) n hn (by omega) hc) ml_X9_138 dX9_reached_58 (q0 := 0) rfl rfl rfl rfl rfl (Nat.le_of_ble_eq_true rfl) ⟨Nat.le_of_ble_eq_true rfl, Nat.le_of_ble_eq_true rfl⟩ ⟨Nat.le_refl _, Nat.le_refl _⟩ ?_
  refine g_ishl cx dX9_reached_61 ?_
  refine g_iconst (v := 1) cx dX9_reached_62 (by decide) ?_
  refine g_isub cx dX9_reached_63 ?_
  refine g_iconst (v := (-1)) cx dX9_reached_64 (by decide) ?_
  refine g_ixor cx dX9_reached_65 ?_
  refine g_iand cx dX9_reached_66 ?_
  exact hret _ _ _ _ dX9_reached_67 (rfl) ⟨rfl, rfl⟩
def rm_X9_keep_bad : Room := { frames := 1, cells := 0, slots := 0, locals := 22 }
set_option maxRecDepth 100000 in
set_option maxHeartbeats 4000000 in
theorem c_X9_keep_bad (V : VT) (ad : Nat → Nat) (nw rw ps im kp tx sw sv da co pl me fa ao al : Nat → Int32) (ax ta ts tv il : Int32) (s z k n o m : Nat) (hM : okM nw sw s z k n o m) (l : Int32) (hb : ¬ (¬ l < 0 ∧ ¬ 1 < l)) : CI V yX9_keep cX9_keep 2 .int rm_X9_keep_bad [.ref (ad 0), .int l] (wMo V ad nw rw ps im kp tx sw sv da co pl me fa ao al (nI s) (nI z) ax ta ts tv (nI k) il) (fun r_ w_ => r_ = (-1) ∧ w_ = wMo V ad nw rw ps im kp tx sw sv da co pl me fa ao al (nI s) (nI z) ax ta ts tv (nI k) il) := by
  refine CI_intro (by decide) (Nat.le_of_ble_eq_true rfl) (fun K cx hret => ?_)
  show G V K 2 0 0 (wMo V ad nw rw ps im kp tx sw sv da co pl me fa ao al (nI s) (nI z) ax ta ts tv (nI k) il) 0 [(0, .ref (ad 0)), (1, .int l)] []
  obtain ⟨hs6, hz, hk6, hn, hn6, hn1, ho, ho4, hm, hm7, hat, hc, hcj, hsw⟩ := hM
  refine g_iload_n (v := l) cx dX9_keep_0 rfl ?_
  refine g_iconst (v := 0) cx dX9_keep_1 (by decide) ?_
  refine g_iconst (v := 1) cx dX9_keep_2 (by decide) ?_
  refine k_callsi (r0 := bI (¬ l < 0 ∧ ¬ 1 < l)) (ws' := wMo V ad nw rw ps im kp tx sw sv da co pl me fa ao al (nI s) (nI z) ax ta ts tv (nI k) il) (As := [.int l, .int 0, .int 1]) (rest := []) cx (c_X9_in V l 0 1) ml_X9_76 dX9_keep_3 [] rfl rfl [] rfl rfl rfl rfl rfl (Nat.le_of_ble_eq_true rfl) ⟨Nat.le_of_ble_eq_true rfl, Nat.le_of_ble_eq_true rfl⟩ ⟨Nat.le_refl _, Nat.le_refl _⟩ ?_
  refine g_if_ne_b cx 11 dX9_keep_6 (by decide) (fun hw1 => absurd hw1 (hb)) (fun hw1 => ?_)
  refine g_iconst (v := (-1)) cx dX9_keep_9 (by decide) ?_
  exact hret _ _ _ _ dX9_keep_10 (rfl) ⟨rfl, rfl⟩
def rm_X9_keep_ok : Room := { frames := 1, cells := 0, slots := 0, locals := 24 }
set_option maxRecDepth 100000 in
set_option maxHeartbeats 4000000 in
theorem c_X9_keep_ok (V : VT) (ad : Nat → Nat) (nw rw ps im kp tx sw sv da co pl me fa ao al : Nat → Int32) (ax ta ts tv il : Int32) (s z k n o m : Nat) (hM : okM nw sw s z k n o m) (l : Int32) (q : Nat) (hl : l = nI q) (hq : q < 2) : CI V yX9_keep cX9_keep 2 .int rm_X9_keep_ok [.ref (ad 0), .int l] (wMo V ad nw rw ps im kp tx sw sv da co pl me fa ao al (nI s) (nI z) ax ta ts tv (nI k) il) (fun r_ w_ => r_ = nw 0 ∧ w_ = wMo V ad nw rw ps (brg nw im 0 (99 * q) 99) (upd kp q 1) tx sw sv da co pl me fa ao al (nI s) (nI z) ax ta ts tv (nI k) il) := by
  refine CI_intro (by decide) (Nat.le_of_ble_eq_true rfl) (fun K cx hret => ?_)
  show G V K 2 0 0 (wMo V ad nw rw ps im kp tx sw sv da co pl me fa ao al (nI s) (nI z) ax ta ts tv (nI k) il) 0 [(0, .ref (ad 0)), (1, .int l)] []
  obtain ⟨hs6, hz, hk6, hn, hn6, hn1, ho, ho4, hm, hm7, hat, hc, hcj, hsw⟩ := hM
  refine g_iload_n (v := l) cx dX9_keep_0 rfl ?_
  refine g_iconst (v := 0) cx dX9_keep_1 (by decide) ?_
  refine g_iconst (v := 1) cx dX9_keep_2 (by decide) ?_
  refine k_callsi (r0 := bI (¬ l < 0 ∧ ¬ 1 < l)) (ws' := wMo V ad nw rw ps im kp tx sw sv da co pl me fa ao al (nI s) (nI z) ax ta ts tv (nI k) il) (As := [.int l, .int 0, .int 1]) (rest := []) cx (c_X9_in V l 0 1) ml_X9_76 dX9_keep_3 [] rfl rfl [] rfl rfl rfl rfl rfl (Nat.le_of_ble_eq_true rfl) ⟨Nat.le_of_ble_eq_true rfl, Nat.le_of_ble_eq_true rfl⟩ ⟨Nat.le_refl _, Nat.le_refl _⟩ ?_
  refine g_if_ne_b cx 11 dX9_keep_6 (by decide) (fun hw1 => ?_) (fun hw1 => absurd (⟨rf_ltMN hl (b := 0) (nl 0) (by omega) (by omega) (by omega), rf_ltMN (nl 1) hl (by omega) (by omega) (by omega)⟩) hw1)
  refine g_aload_n (v := ad 0) cx dX9_keep_11 rfl ?_
  refine g_get (v := .ref (ad 1)) cx fk_X9_7 dX9_keep_12 0 rfl rfl ?_
  refine g_iconst (v := 0) cx dX9_keep_15 (by decide) ?_
  refine g_aload_n (v := ad 0) cx dX9_keep_16 rfl ?_
  refine g_get (v := .ref (ad 4)) cx fk_X9_19 dX9_keep_17 0 rfl rfl ?_
  refine g_bipush (v := 99) cx dX9_keep_20 (by decide) ?_
  refine g_iload_n (v := l) cx dX9_keep_22 rfl ?_
  refine g_imul cx dX9_keep_23 ?_
  refine k_callsv (ws' := wMo V ad nw rw ps (brg nw im 0 (99 * q) 99) kp tx sw sv da co pl me fa ao al (nI s) (nI z) ax ta ts tv (nI k) il) (As := [.ref (ad 1), .int 0, .ref (ad 4), .int (99 * l)]) (rest := []) cx (c_X9_bring V (ad 1) (ad 4) 99 198 nw im 0 (99 * l) 0 (99 * q) (nl 0) (rf_mul (nl 99) hl) (by omega) (by omega) (by decide) (by decide)) ml_X9_59 dX9_keep_24 [1, 4] rfl rfl [ad 1, ad 4] rfl rfl rfl rfl rfl (Nat.le_of_ble_eq_true rfl) ⟨Nat.le_of_ble_eq_true rfl, Nat.le_of_ble_eq_true rfl⟩ ⟨Nat.le_refl _, Nat.le_refl _⟩ ?_
  refine g_aload_n (v := ad 0) cx dX9_keep_27 rfl ?_
  refine g_get (v := .ref (ad 5)) cx fk_X9_22 dX9_keep_28 0 rfl rfl ?_
  refine g_iload_n (v := l) cx dX9_keep_31 rfl ?_
  refine g_iconst (v := 1) cx dX9_keep_32 (by decide) ?_
  refine g_zast (ws' := wMo V ad nw rw ps (brg nw im 0 (99 * q) 99) (upd kp q 1) tx sw sv da co pl me fa ao al (nI s) (nI z) ax ta ts tv (nI k) il) cx dX9_keep_33 5 q rfl (hl) (by omega) (by first | decide | omega) (by decide) rfl ?_
  refine g_aload_n (v := ad 0) cx dX9_keep_34 rfl ?_
  refine g_get (v := .ref (ad 1)) cx fk_X9_7 dX9_keep_35 0 rfl rfl ?_
  refine g_iconst (v := 0) cx dX9_keep_38 (by decide) ?_
  refine g_iald cx dX9_keep_39 1 0 rfl (nl 0) (by omega) (by first | decide | omega) ?_
  refine g_top (y := nw 0) (rfl) ?_
  exact hret _ _ _ _ dX9_keep_40 (rfl) ⟨rfl, rfl⟩
def rm_X9_back_bad : Room := { frames := 1, cells := 0, slots := 0, locals := 22 }
set_option maxRecDepth 100000 in
set_option maxHeartbeats 4000000 in
theorem c_X9_back_bad (V : VT) (ad : Nat → Nat) (nw rw ps im kp tx sw sv da co pl me fa ao al : Nat → Int32) (ax ta ts tv il : Int32) (s z k n o m : Nat) (hM : okM nw sw s z k n o m) (l : Int32) (hb : ¬ (¬ l < 0 ∧ ¬ 1 < l)) : CI V yX9_back cX9_back 2 .int rm_X9_back_bad [.ref (ad 0), .int l] (wMo V ad nw rw ps im kp tx sw sv da co pl me fa ao al (nI s) (nI z) ax ta ts tv (nI k) il) (fun r_ w_ => r_ = (-1) ∧ w_ = wMo V ad nw rw ps im kp tx sw sv da co pl me fa ao al (nI s) (nI z) ax ta ts tv (nI k) il) := by
  refine CI_intro (by decide) (Nat.le_of_ble_eq_true rfl) (fun K cx hret => ?_)
  show G V K 2 0 0 (wMo V ad nw rw ps im kp tx sw sv da co pl me fa ao al (nI s) (nI z) ax ta ts tv (nI k) il) 0 [(0, .ref (ad 0)), (1, .int l)] []
  obtain ⟨hs6, hz, hk6, hn, hn6, hn1, ho, ho4, hm, hm7, hat, hc, hcj, hsw⟩ := hM
  refine g_iload_n (v := l) cx dX9_back_0 rfl ?_
  refine g_iconst (v := 0) cx dX9_back_1 (by decide) ?_
  refine g_iconst (v := 1) cx dX9_back_2 (by decide) ?_
  refine k_callsi (r0 := bI (¬ l < 0 ∧ ¬ 1 < l)) (ws' := wMo V ad nw rw ps im kp tx sw sv da co pl me fa ao al (nI s) (nI z) ax ta ts tv (nI k) il) (As := [.int l, .int 0, .int 1]) (rest := []) cx (c_X9_in V l 0 1) ml_X9_76 dX9_back_3 [] rfl rfl [] rfl rfl rfl rfl rfl (Nat.le_of_ble_eq_true rfl) ⟨Nat.le_of_ble_eq_true rfl, Nat.le_of_ble_eq_true rfl⟩ ⟨Nat.le_refl _, Nat.le_refl _⟩ ?_
  refine g_if_ne_b cx 11 dX9_back_6 (by decide) (fun hw1 => absurd hw1 (hb)) (fun hw1 => ?_)
  refine g_iconst (v := (-1)) cx dX9_back_9 (by decide) ?_
  exact hret _ _ _ _ dX9_back_10 (rfl) ⟨rfl, rfl⟩
def rm_X9_back_state : Room := { frames := 1, cells := 0, slots := 0, locals := 22 }
set_option maxRecDepth 100000 in
set_option maxHeartbeats 4000000 in
theorem c_X9_back_state (V : VT) (ad : Nat → Nat) (nw rw ps im kp tx sw sv da co pl me fa ao al : Nat → Int32) (ax ta ts tv il : Int32) (s z k n o m : Nat) (hM : okM nw sw s z k n o m) (l : Int32) (q : Nat) (hl : l = nI q) (hq : q < 2) (h1 : kp q = 0) : CI V yX9_back cX9_back 2 .int rm_X9_back_state [.ref (ad 0), .int l] (wMo V ad nw rw ps im kp tx sw sv da co pl me fa ao al (nI s) (nI z) ax ta ts tv (nI k) il) (fun r_ w_ => r_ = (-2) ∧ w_ = wMo V ad nw rw ps im kp tx sw sv da co pl me fa ao al (nI s) (nI z) ax ta ts tv (nI k) il) := by
  refine CI_intro (by decide) (Nat.le_of_ble_eq_true rfl) (fun K cx hret => ?_)
  show G V K 2 0 0 (wMo V ad nw rw ps im kp tx sw sv da co pl me fa ao al (nI s) (nI z) ax ta ts tv (nI k) il) 0 [(0, .ref (ad 0)), (1, .int l)] []
  obtain ⟨hs6, hz, hk6, hn, hn6, hn1, ho, ho4, hm, hm7, hat, hc, hcj, hsw⟩ := hM
  refine g_iload_n (v := l) cx dX9_back_0 rfl ?_
  refine g_iconst (v := 0) cx dX9_back_1 (by decide) ?_
  refine g_iconst (v := 1) cx dX9_back_2 (by decide) ?_
  refine k_callsi (r0 := bI (¬ l < 0 ∧ ¬ 1 < l)) (ws' := wMo V ad nw rw ps im kp tx sw sv da co pl me fa ao al (nI s) (nI z) ax ta ts tv (nI k) il) (As := [.int l, .int 0, .int 1]) (rest := []) cx (c_X9_in V l 0 1) ml_X9_76 dX9_back_3 [] rfl rfl [] rfl rfl rfl rfl rfl (Nat.le_of_ble_eq_true rfl) ⟨Nat.le_of_ble_eq_true rfl, Nat.le_of_ble_eq_true rfl⟩ ⟨Nat.le_refl _, Nat.le_refl _⟩ ?_
  refine g_if_ne_b cx 11 dX9_back_6 (by decide) (fun hw1 => ?_) (fun hw1 => absurd (⟨rf_ltMN hl (b := 0) (nl 0) (by omega) (by omega) (by omega), rf_ltMN (nl 1) hl (by omega) (by omega) (by omega)⟩) hw1)
  refine g_aload_n (v := ad 0) cx dX9_back_11 rfl ?_
  refine g_get (v := .ref (ad 5)) cx fk_X9_22 dX9_back_12 0 rfl rfl ?_
  refine g_iload_n (v := l) cx dX9_back_15 rfl ?_
  refine g_zald cx dX9_back_16 5 q rfl (hl) (by omega) (by first | decide | omega) ?_
  refine g_top (y := kp q) (rfl) ?_
  refine g_if_ne cx 23 dX9_back_17 (by decide) (fun hw2 => absurd (h1) hw2) (fun hw2 => ?_)
  refine g_bipush (v := (-2)) cx dX9_back_20 (by decide) ?_
  exact hret _ _ _ _ dX9_back_22 (rfl) ⟨rfl, rfl⟩
def rm_X9_back_ok : Room := { frames := 1, cells := 0, slots := 0, locals := 24 }
set_option maxRecDepth 100000 in
set_option maxHeartbeats 4000000 in
theorem c_X9_back_ok (V : VT) (ad : Nat → Nat) (nw rw ps im kp tx sw sv da co pl me fa ao al : Nat → Int32) (ax ta ts tv il : Int32) (s z k n o m : Nat) (hM : okM nw sw s z k n o m) (l : Int32) (q : Nat) (hl : l = nI q) (hq : q < 2) (h1 : ¬ kp q = 0) : CI V yX9_back cX9_back 2 .int rm_X9_back_ok [.ref (ad 0), .int l] (wMo V ad nw rw ps im kp tx sw sv da co pl me fa ao al (nI s) (nI z) ax ta ts tv (nI k) il) (fun r_ w_ => r_ = (brg im nw (99 * q) 0 99) 0 ∧ w_ = wMo V ad (brg im nw (99 * q) 0 99) rw ps im kp tx sw sv da co pl me fa ao al 0 (nI z) ax ta ts tv (nI k) il) := by
  refine CI_intro (by decide) (Nat.le_of_ble_eq_true rfl) (fun K cx hret => ?_)
  show G V K 2 0 0 (wMo V ad nw rw ps im kp tx sw sv da co pl me fa ao al (nI s) (nI z) ax ta ts tv (nI k) il) 0 [(0, .ref (ad 0)), (1, .int l)] []
  obtain ⟨hs6, hz, hk6, hn, hn6, hn1, ho, ho4, hm, hm7, hat, hc, hcj, hsw⟩ := hM
  refine g_iload_n (v := l) cx dX9_back_0 rfl ?_
  refine g_iconst (v := 0) cx dX9_back_1 (by decide) ?_
  refine g_iconst (v := 1) cx dX9_back_2 (by decide) ?_
  refine k_callsi (r0 := bI (¬ l < 0 ∧ ¬ 1 < l)) (ws' := wMo V ad nw rw ps im kp tx sw sv da co pl me fa ao al (nI s) (nI z) ax ta ts tv (nI k) il) (As := [.int l, .int 0, .int 1]) (rest := []) cx (c_X9_in V l 0 1) ml_X9_76 dX9_back_3 [] rfl rfl [] rfl rfl rfl rfl rfl (Nat.le_of_ble_eq_true rfl) ⟨Nat.le_of_ble_eq_true rfl, Nat.le_of_ble_eq_true rfl⟩ ⟨Nat.le_refl _, Nat.le_refl _⟩ ?_
  refine g_if_ne_b cx 11 dX9_back_6 (by decide) (fun hw1 => ?_) (fun hw1 => absurd (⟨rf_ltMN hl (b := 0) (nl 0) (by omega) (by omega) (by omega), rf_ltMN (nl 1) hl (by omega) (by omega) (by omega)⟩) hw1)
  refine g_aload_n (v := ad 0) cx dX9_back_11 rfl ?_
  refine g_get (v := .ref (ad 5)) cx fk_X9_22 dX9_back_12 0 rfl rfl ?_
  refine g_iload_n (v := l) cx dX9_back_15 rfl ?_
  refine g_zald cx dX9_back_16 5 q rfl (hl) (by omega) (by first | decide | omega) ?_
  refine g_top (y := kp q) (rfl) ?_
  refine g_if_ne cx 23 dX9_back_17 (by decide) (fun hw2 => ?_) (fun hw2 => absurd hw2 (h1))
  refine g_aload_n (v := ad 0) cx dX9_back_23 rfl ?_
  refine g_get (v := .ref (ad 4)) cx fk_X9_19 dX9_back_24 0 rfl rfl ?_
  refine g_bipush (v := 99) cx dX9_back_27 (by decide) ?_
  refine g_iload_n (v := l) cx dX9_back_29 rfl ?_
  refine g_imul cx dX9_back_30 ?_
  refine g_aload_n (v := ad 0) cx dX9_back_31 rfl ?_
  refine g_get (v := .ref (ad 1)) cx fk_X9_7 dX9_back_32 0 rfl rfl ?_
  refine g_iconst (v := 0) cx dX9_back_35 (by decide) ?_
  refine k_callsv (ws' := wMo V ad (brg im nw (99 * q) 0 99) rw ps im kp tx sw sv da co pl me fa ao al (nI s) (nI z) ax ta ts tv (nI k) il) (As := [.ref (ad 4), .int (99 * l), .ref (ad 1), .int 0]) (rest := []) cx (c_X9_bring V (ad 4) (ad 1) 198 99 im nw (99 * l) 0 (99 * q) 0 (rf_mul (nl 99) hl) (nl 0) (by omega) (by omega) (by decide) (by decide)) ml_X9_59 dX9_back_36 [4, 1] rfl rfl [ad 4, ad 1] rfl rfl rfl rfl rfl (Nat.le_of_ble_eq_true rfl) ⟨Nat.le_of_ble_eq_true rfl, Nat.le_of_ble_eq_true rfl⟩ ⟨Nat.le_refl _, Nat.le_refl _⟩ ?_
  refine g_aload_n (v := ad 0) cx dX9_back_39 rfl ?_
  refine g_iconst (v := 0) cx dX9_back_40 (by decide) ?_
  refine g_put (ws' := wMo V ad (brg im nw (99 * q) 0 99) rw ps im kp tx sw sv da co pl me fa ao al 0 (nI z) ax ta ts tv (nI k) il) cx fk_X9_164 dX9_back_41 0 rfl (rfl) (rfl) (Nat.le_of_ble_eq_true rfl) rfl ?_
  refine g_aload_n (v := ad 0) cx dX9_back_44 rfl ?_
  refine g_get (v := .ref (ad 1)) cx fk_X9_7 dX9_back_45 0 rfl rfl ?_
  refine g_iconst (v := 0) cx dX9_back_48 (by decide) ?_
  refine g_iald cx dX9_back_49 1 0 rfl (nl 0) (by omega) (by first | decide | omega) ?_
  refine g_top (y := (brg im nw (99 * q) 0 99) 0) (rfl) ?_
  exact hret _ _ _ _ dX9_back_50 (rfl) ⟨rfl, rfl⟩
def rm_X9_forget_ok : Room := { frames := 0, cells := 0, slots := 0, locals := 0 }
set_option maxRecDepth 100000 in
set_option maxHeartbeats 4000000 in
theorem c_X9_forget_ok (V : VT) (ad : Nat → Nat) (nw rw ps im kp tx sw sv da co pl me fa ao al : Nat → Int32) (ax ta ts tv il : Int32) (s z k n o m : Nat) (hM : okM nw sw s z k n o m)   : CI V yX9_forget cX9_forget 2 .int rm_X9_forget_ok [.ref (ad 0)] (wMo V ad nw rw ps im kp tx sw sv da co pl me fa ao al (nI s) (nI z) ax ta ts tv (nI k) il) (fun r_ w_ => r_ = nI k ∧ w_ = wMo V ad nw rw ps im kp tx sw sv da co pl me fa ao al (nI s) (nI z) ax ta ts tv 0 il) := by
  refine CI_intro (by decide) (Nat.le_of_ble_eq_true rfl) (fun K cx hret => ?_)
  show G V K 2 0 0 (wMo V ad nw rw ps im kp tx sw sv da co pl me fa ao al (nI s) (nI z) ax ta ts tv (nI k) il) 0 [(0, .ref (ad 0))] []
  obtain ⟨hs6, hz, hk6, hn, hn6, hn1, ho, ho4, hm, hm7, hat, hc, hcj, hsw⟩ := hM
  refine g_aload_n (v := ad 0) cx dX9_forget_0 rfl ?_
  refine g_get (v := .int (nI k)) cx fk_X9_195 dX9_forget_1 0 rfl rfl ?_
  refine g_istore_n (lv' := [(0, .ref (ad 0)), (1, .int (nI k))]) cx dX9_forget_4 (by decide) rfl ?_
  refine g_aload_n (v := ad 0) cx dX9_forget_5 rfl ?_
  refine g_iconst (v := 0) cx dX9_forget_6 (by decide) ?_
  refine g_put (ws' := wMo V ad nw rw ps im kp tx sw sv da co pl me fa ao al (nI s) (nI z) ax ta ts tv 0 il) cx fk_X9_195 dX9_forget_7 0 rfl (rfl) (rfl) (Nat.le_of_ble_eq_true rfl) rfl ?_
  refine g_iload_n (v := nI k) cx dX9_forget_10 rfl ?_
  exact hret _ _ _ _ dX9_forget_11 (rfl) ⟨rfl, rfl⟩
def rm_X9_sees_bad : Room := { frames := 1, cells := 0, slots := 0, locals := 22 }
set_option maxRecDepth 100000 in
set_option maxHeartbeats 4000000 in
theorem c_X9_sees_bad (V : VT) (ad : Nat → Nat) (nw rw ps im kp tx sw sv da co pl me fa ao al : Nat → Int32) (ax ta ts tv il : Int32) (s z k n o m : Nat) (hM : okM nw sw s z k n o m) (l v : Int32) (hb : ¬ ((¬ l < 0 ∧ ¬ 5 < l) ∧ ((¬ l ≤ 3 ∧ v = (-9)) ∨ (¬ v < 0 ∧ ¬ 255 < v)))) : CI V yX9_sees cX9_sees 3 .int rm_X9_sees_bad [.ref (ad 0), .int l, .int v] (wMo V ad nw rw ps im kp tx sw sv da co pl me fa ao al (nI s) (nI z) ax ta ts tv (nI k) il) (fun r_ w_ => r_ = (-1) ∧ w_ = wMo V ad nw rw ps im kp tx sw sv da co pl me fa ao al (nI s) (nI z) ax ta ts tv (nI k) il) := by
  refine CI_intro (by decide) (Nat.le_of_ble_eq_true rfl) (fun K cx hret => ?_)
  show G V K 3 0 0 (wMo V ad nw rw ps im kp tx sw sv da co pl me fa ao al (nI s) (nI z) ax ta ts tv (nI k) il) 0 [(0, .ref (ad 0)), (1, .int l), (2, .int v)] []
  obtain ⟨hs6, hz, hk6, hn, hn6, hn1, ho, ho4, hm, hm7, hat, hc, hcj, hsw⟩ := hM
  refine g_iload_n (v := l) cx dX9_sees_0 rfl ?_
  refine g_iconst (v := 0) cx dX9_sees_1 (by decide) ?_
  refine g_iconst (v := 5) cx dX9_sees_2 (by decide) ?_
  refine k_callsi (r0 := bI (¬ l < 0 ∧ ¬ 5 < l)) (ws' := wMo V ad nw rw ps im kp tx sw sv da co pl me fa ao al (nI s) (nI z) ax ta ts tv (nI k) il) (As := [.int l, .int 0, .int 5]) (rest := []) cx (c_X9_in V l 0 5) ml_X9_76 dX9_sees_3 [] rfl rfl [] rfl rfl rfl rfl rfl (Nat.le_of_ble_eq_true rfl) ⟨Nat.le_of_ble_eq_true rfl, Nat.le_of_ble_eq_true rfl⟩ ⟨Nat.le_refl _, Nat.le_refl _⟩ ?_
  refine g_if_eq_b cx 31 dX9_sees_6 (by decide) (fun hw1 => ?_) (fun hw1 => ?_)
  · skip
    refine g_iconst (v := (-1)) cx dX9_sees_31 (by decide) ?_
    exact hret _ _ _ _ dX9_sees_32 (rfl) ⟨rfl, rfl⟩
  · skip
    refine g_iload_n (v := v) cx dX9_sees_9 rfl ?_
    refine g_iconst (v := 0) cx dX9_sees_10 (by decide) ?_
    refine g_sipush (v := 255) cx dX9_sees_11 (by decide) ?_
    refine k_callsi (r0 := bI (¬ v < 0 ∧ ¬ 255 < v)) (ws' := wMo V ad nw rw ps im kp tx sw sv da co pl me fa ao al (nI s) (nI z) ax ta ts tv (nI k) il) (As := [.int v, .int 0, .int 255]) (rest := []) cx (c_X9_in V v 0 255) ml_X9_76 dX9_sees_14 [] rfl rfl [] rfl rfl rfl rfl rfl (Nat.le_of_ble_eq_true rfl) ⟨Nat.le_of_ble_eq_true rfl, Nat.le_of_ble_eq_true rfl⟩ ⟨Nat.le_refl _, Nat.le_refl _⟩ ?_
    refine g_if_ne_b cx 33 dX9_sees_17 (by decide) (fun hw2 => ?_) (fun hw2 => ?_)
    · skip
      exact absurd ⟨hw1, Or.inr hw2⟩ hb
    · skip
      refine g_iload_n (v := l) cx dX9_sees_20 rfl ?_
      refine g_iconst (v := 3) cx dX9_sees_21 (by decide) ?_
      refine g_icmp_le cx 31 dX9_sees_22 (by decide) (fun hw3 => ?_) (fun hw3 => ?_)
      · skip
        refine g_iconst (v := (-1)) cx dX9_sees_31 (by decide) ?_
        exact hret _ _ _ _ dX9_sees_32 (rfl) ⟨rfl, rfl⟩
      · skip
        refine g_iload_n (v := v) cx dX9_sees_25 rfl ?_
        refine g_bipush (v := (-9)) cx dX9_sees_26 (by decide) ?_
        refine g_icmp_eq cx 33 dX9_sees_28 (by decide) (fun hw4 => ?_) (fun hw4 => ?_)
        · skip
          exact absurd ⟨hw1, Or.inl ⟨hw3, hw4⟩⟩ hb
        · skip
          refine g_iconst (v := (-1)) cx dX9_sees_31 (by decide) ?_
          exact hret _ _ _ _ dX9_sees_32 (rfl) ⟨rfl, rfl⟩
def rm_X9_sees_fullN : Room := { frames := 1, cells := 0, slots := 0, locals := 22 }
set_option maxRecDepth 100000 in
set_option maxHeartbeats 4000000 in
theorem c_X9_sees_fullN (V : VT) (ad : Nat → Nat) (nw rw ps im kp tx sw sv da co pl me fa ao al : Nat → Int32) (ax ta ts tv il : Int32) (s z k n o m : Nat) (hM : okM nw sw s z k n o m) (l v : Int32) (q : Nat) (hl : l = nI q) (hq : q < 6) (h4 : 4 ≤ q) (hv : v = (-9)) (h3 : k = 6) : CI V yX9_sees cX9_sees 3 .int rm_X9_sees_fullN [.ref (ad 0), .int l, .int v] (wMo V ad nw rw ps im kp tx sw sv da co pl me fa ao al (nI s) (nI z) ax ta ts tv (nI k) il) (fun r_ w_ => r_ = (-3) ∧ w_ = wMo V ad nw rw ps im kp tx sw sv da co pl me fa ao al (nI s) (nI z) ax ta ts tv (nI k) il) := by
  refine CI_intro (by decide) (Nat.le_of_ble_eq_true rfl) (fun K cx hret => ?_)
  show G V K 3 0 0 (wMo V ad nw rw ps im kp tx sw sv da co pl me fa ao al (nI s) (nI z) ax ta ts tv (nI k) il) 0 [(0, .ref (ad 0)), (1, .int l), (2, .int v)] []
  obtain ⟨hs6, hz, hk6, hn, hn6, hn1, ho, ho4, hm, hm7, hat, hc, hcj, hsw⟩ := hM
  refine g_iload_n (v := l) cx dX9_sees_0 rfl ?_
  refine g_iconst (v := 0) cx dX9_sees_1 (by decide) ?_
  refine g_iconst (v := 5) cx dX9_sees_2 (by decide) ?_
  refine k_callsi (r0 := bI (¬ l < 0 ∧ ¬ 5 < l)) (ws' := wMo V ad nw rw ps im kp tx sw sv da co pl me fa ao al (nI s) (nI z) ax ta ts tv (nI k) il) (As := [.int l, .int 0, .int 5]) (rest := []) cx (c_X9_in V l 0 5) ml_X9_76 dX9_sees_3 [] rfl rfl [] rfl rfl rfl rfl rfl (Nat.le_of_ble_eq_true rfl) ⟨Nat.le_of_ble_eq_true rfl, Nat.le_of_ble_eq_true rfl⟩ ⟨Nat.le_refl _, Nat.le_refl _⟩ ?_
  refine g_if_eq_b cx 31 dX9_sees_6 (by decide) (fun hw1 => absurd (⟨rf_ltMN hl (b := 0) (nl 0) (by omega) (by omega) (by omega), rf_ltMN (nl 5) hl (by omega) (by omega) (by omega)⟩) hw1) (fun hw1 => ?_)
  refine g_iload_n (v := v) cx dX9_sees_9 rfl ?_
  refine g_iconst (v := 0) cx dX9_sees_10 (by decide) ?_
  refine g_sipush (v := 255) cx dX9_sees_11 (by decide) ?_
  refine k_callsi (r0 := bI (¬ v < 0 ∧ ¬ 255 < v)) (ws' := wMo V ad nw rw ps im kp tx sw sv da co pl me fa ao al (nI s) (nI z) ax ta ts tv (nI k) il) (As := [.int v, .int 0, .int 255]) (rest := []) cx (c_X9_in V v 0 255) ml_X9_76 dX9_sees_14 [] rfl rfl [] rfl rfl rfl rfl rfl (Nat.le_of_ble_eq_true rfl) ⟨Nat.le_of_ble_eq_true rfl, Nat.le_of_ble_eq_true rfl⟩ ⟨Nat.le_refl _, Nat.le_refl _⟩ ?_
  refine g_if_ne_b cx 33 dX9_sees_17 (by decide) (fun hw2 => absurd hw2 (fun h => h.1 (by rw [hv]; decide))) (fun hw2 => ?_)
  refine g_iload_n (v := l) cx dX9_sees_20 rfl ?_
  refine g_iconst (v := 3) cx dX9_sees_21 (by decide) ?_
  refine g_icmp_le cx 31 dX9_sees_22 (by decide) (fun hw3 => absurd hw3 (rf_leMN hl (nl 3) (by omega) (by omega) (by omega))) (fun hw3 => ?_)
  refine g_iload_n (v := v) cx dX9_sees_25 rfl ?_
  refine g_bipush (v := (-9)) cx dX9_sees_26 (by decide) ?_
  refine g_icmp_eq cx 33 dX9_sees_28 (by decide) (fun hw4 => ?_) (fun hw4 => absurd (hv) hw4)
  refine g_aload_n (v := ad 0) cx dX9_sees_33 rfl ?_
  refine g_get (v := .int (nI k)) cx fk_X9_195 dX9_sees_34 0 rfl rfl ?_
  refine g_bipush (v := 6) cx dX9_sees_37 (by decide) ?_
  refine g_icmp_ne cx 45 dX9_sees_39 (by decide) (fun hw5 => absurd (by rw [h3]; rfl) hw5) (fun hw5 => ?_)
  refine g_bipush (v := (-3)) cx dX9_sees_42 (by decide) ?_
  exact hret _ _ _ _ dX9_sees_44 (rfl) ⟨rfl, rfl⟩
def rm_X9_sees_okN : Room := { frames := 1, cells := 0, slots := 0, locals := 22 }
set_option maxRecDepth 100000 in
set_option maxHeartbeats 4000000 in
theorem c_X9_sees_okN (V : VT) (ad : Nat → Nat) (nw rw ps im kp tx sw sv da co pl me fa ao al : Nat → Int32) (ax ta ts tv il : Int32) (s z k n o m : Nat) (hM : okM nw sw s z k n o m) (l v : Int32) (q : Nat) (hl : l = nI q) (hq : q < 6) (h4 : 4 ≤ q) (hv : v = (-9)) (h3 : k < 6) : CI V yX9_sees cX9_sees 3 .int rm_X9_sees_okN [.ref (ad 0), .int l, .int v] (wMo V ad nw rw ps im kp tx sw sv da co pl me fa ao al (nI s) (nI z) ax ta ts tv (nI k) il) (fun r_ w_ => r_ = nI (k + 1) ∧ w_ = wMo V ad nw rw ps im kp tx (upd sw k l) (upd sv k v) da co pl me fa ao al (nI s) (nI z) ax ta ts tv (nI (k + 1)) il) := by
  refine CI_intro (by decide) (Nat.le_of_ble_eq_true rfl) (fun K cx hret => ?_)
  show G V K 3 0 0 (wMo V ad nw rw ps im kp tx sw sv da co pl me fa ao al (nI s) (nI z) ax ta ts tv (nI k) il) 0 [(0, .ref (ad 0)), (1, .int l), (2, .int v)] []
  obtain ⟨hs6, hz, hk6, hn, hn6, hn1, ho, ho4, hm, hm7, hat, hc, hcj, hsw⟩ := hM
  refine g_iload_n (v := l) cx dX9_sees_0 rfl ?_
  refine g_iconst (v := 0) cx dX9_sees_1 (by decide) ?_
  refine g_iconst (v := 5) cx dX9_sees_2 (by decide) ?_
  refine k_callsi (r0 := bI (¬ l < 0 ∧ ¬ 5 < l)) (ws' := wMo V ad nw rw ps im kp tx sw sv da co pl me fa ao al (nI s) (nI z) ax ta ts tv (nI k) il) (As := [.int l, .int 0, .int 5]) (rest := []) cx (c_X9_in V l 0 5) ml_X9_76 dX9_sees_3 [] rfl rfl [] rfl rfl rfl rfl rfl (Nat.le_of_ble_eq_true rfl) ⟨Nat.le_of_ble_eq_true rfl, Nat.le_of_ble_eq_true rfl⟩ ⟨Nat.le_refl _, Nat.le_refl _⟩ ?_
  refine g_if_eq_b cx 31 dX9_sees_6 (by decide) (fun hw1 => absurd (⟨rf_ltMN hl (b := 0) (nl 0) (by omega) (by omega) (by omega), rf_ltMN (nl 5) hl (by omega) (by omega) (by omega)⟩) hw1) (fun hw1 => ?_)
  refine g_iload_n (v := v) cx dX9_sees_9 rfl ?_
  refine g_iconst (v := 0) cx dX9_sees_10 (by decide) ?_
  refine g_sipush (v := 255) cx dX9_sees_11 (by decide) ?_
  refine k_callsi (r0 := bI (¬ v < 0 ∧ ¬ 255 < v)) (ws' := wMo V ad nw rw ps im kp tx sw sv da co pl me fa ao al (nI s) (nI z) ax ta ts tv (nI k) il) (As := [.int v, .int 0, .int 255]) (rest := []) cx (c_X9_in V v 0 255) ml_X9_76 dX9_sees_14 [] rfl rfl [] rfl rfl rfl rfl rfl (Nat.le_of_ble_eq_true rfl) ⟨Nat.le_of_ble_eq_true rfl, Nat.le_of_ble_eq_true rfl⟩ ⟨Nat.le_refl _, Nat.le_refl _⟩ ?_
  refine g_if_ne_b cx 33 dX9_sees_17 (by decide) (fun hw2 => absurd hw2 (fun h => h.1 (by rw [hv]; decide))) (fun hw2 => ?_)
  refine g_iload_n (v := l) cx dX9_sees_20 rfl ?_
  refine g_iconst (v := 3) cx dX9_sees_21 (by decide) ?_
  refine g_icmp_le cx 31 dX9_sees_22 (by decide) (fun hw3 => absurd hw3 (rf_leMN hl (nl 3) (by omega) (by omega) (by omega))) (fun hw3 => ?_)
  refine g_iload_n (v := v) cx dX9_sees_25 rfl ?_
  refine g_bipush (v := (-9)) cx dX9_sees_26 (by decide) ?_
  refine g_icmp_eq cx 33 dX9_sees_28 (by decide) (fun hw4 => ?_) (fun hw4 => absurd (hv) hw4)
  refine g_aload_n (v := ad 0) cx dX9_sees_33 rfl ?_
  refine g_get (v := .int (nI k)) cx fk_X9_195 dX9_sees_34 0 rfl rfl ?_
  refine g_bipush (v := 6) cx dX9_sees_37 (by decide) ?_
  refine g_icmp_ne cx 45 dX9_sees_39 (by decide) (fun hw5 => ?_) (fun hw5 => absurd hw5 (rf_eqMN rfl (nl 6) (by omega) (by omega) (by omega)))
  refine g_aload_n (v := ad 0) cx dX9_sees_45 rfl ?_
  refine g_get (v := .ref (ad 7)) cx fk_X9_29 dX9_sees_46 0 rfl rfl ?_
  refine g_aload_n (v := ad 0) cx dX9_sees_49 rfl ?_
  refine g_get (v := .int (nI k)) cx fk_X9_195 dX9_sees_50 0 rfl rfl ?_
  refine g_iload_n (v := l) cx dX9_sees_53 rfl ?_
  refine g_iast (ws' := wMo V ad nw rw ps im kp tx (upd sw k l) sv da co pl me fa ao al (nI s) (nI z) ax ta ts tv (nI k) il) cx dX9_sees_54 7 k rfl (rfl) (by omega) (by first | decide | omega) rfl ?_
  refine g_aload_n (v := ad 0) cx dX9_sees_55 rfl ?_
  refine g_get (v := .ref (ad 8)) cx fk_X9_32 dX9_sees_56 0 rfl rfl ?_
  refine g_aload_n (v := ad 0) cx dX9_sees_59 rfl ?_
  refine g_get (v := .int (nI k)) cx fk_X9_195 dX9_sees_60 0 rfl rfl ?_
  refine g_iload_n (v := v) cx dX9_sees_63 rfl ?_
  refine g_iast (ws' := wMo V ad nw rw ps im kp tx (upd sw k l) (upd sv k v) da co pl me fa ao al (nI s) (nI z) ax ta ts tv (nI k) il) cx dX9_sees_64 8 k rfl (rfl) (by omega) (by first | decide | omega) rfl ?_
  refine g_aload_n (v := ad 0) cx dX9_sees_65 rfl ?_
  refine g_dup cx dX9_sees_66 rfl ?_
  refine g_get (v := .int (nI k)) cx fk_X9_195 dX9_sees_67 0 rfl rfl ?_
  refine g_iconst (v := 1) cx dX9_sees_70 (by decide) ?_
  refine g_iadd cx dX9_sees_71 ?_
  refine g_top (y := nI (k + 1)) (nI_1 k) ?_
  refine g_put (ws' := wMo V ad nw rw ps im kp tx (upd sw k l) (upd sv k v) da co pl me fa ao al (nI s) (nI z) ax ta ts tv (nI (k + 1)) il) cx fk_X9_195 dX9_sees_72 0 rfl (rfl) (rfl) (Nat.le_of_ble_eq_true rfl) rfl ?_
  refine g_aload_n (v := ad 0) cx dX9_sees_75 rfl ?_
  refine g_get (v := .int (nI (k + 1))) cx fk_X9_195 dX9_sees_76 0 rfl rfl ?_
  exact hret _ _ _ _ dX9_sees_79 (rfl) ⟨rfl, rfl⟩
def rm_X9_sees_fullV : Room := { frames := 1, cells := 0, slots := 0, locals := 22 }
set_option maxRecDepth 100000 in
set_option maxHeartbeats 4000000 in
theorem c_X9_sees_fullV (V : VT) (ad : Nat → Nat) (nw rw ps im kp tx sw sv da co pl me fa ao al : Nat → Int32) (ax ta ts tv il : Int32) (s z k n o m : Nat) (hM : okM nw sw s z k n o m) (l v : Int32) (q : Nat) (hl : l = nI q) (hq : q < 6) (hv1 : ¬ v < 0) (hv2 : ¬ 255 < v) (h3 : k = 6) : CI V yX9_sees cX9_sees 3 .int rm_X9_sees_fullV [.ref (ad 0), .int l, .int v] (wMo V ad nw rw ps im kp tx sw sv da co pl me fa ao al (nI s) (nI z) ax ta ts tv (nI k) il) (fun r_ w_ => r_ = (-3) ∧ w_ = wMo V ad nw rw ps im kp tx sw sv da co pl me fa ao al (nI s) (nI z) ax ta ts tv (nI k) il) := by
  refine CI_intro (by decide) (Nat.le_of_ble_eq_true rfl) (fun K cx hret => ?_)
  show G V K 3 0 0 (wMo V ad nw rw ps im kp tx sw sv da co pl me fa ao al (nI s) (nI z) ax ta ts tv (nI k) il) 0 [(0, .ref (ad 0)), (1, .int l), (2, .int v)] []
  obtain ⟨hs6, hz, hk6, hn, hn6, hn1, ho, ho4, hm, hm7, hat, hc, hcj, hsw⟩ := hM
  refine g_iload_n (v := l) cx dX9_sees_0 rfl ?_
  refine g_iconst (v := 0) cx dX9_sees_1 (by decide) ?_
  refine g_iconst (v := 5) cx dX9_sees_2 (by decide) ?_
  refine k_callsi (r0 := bI (¬ l < 0 ∧ ¬ 5 < l)) (ws' := wMo V ad nw rw ps im kp tx sw sv da co pl me fa ao al (nI s) (nI z) ax ta ts tv (nI k) il) (As := [.int l, .int 0, .int 5]) (rest := []) cx (c_X9_in V l 0 5) ml_X9_76 dX9_sees_3 [] rfl rfl [] rfl rfl rfl rfl rfl (Nat.le_of_ble_eq_true rfl) ⟨Nat.le_of_ble_eq_true rfl, Nat.le_of_ble_eq_true rfl⟩ ⟨Nat.le_refl _, Nat.le_refl _⟩ ?_
  refine g_if_eq_b cx 31 dX9_sees_6 (by decide) (fun hw1 => absurd (⟨rf_ltMN hl (b := 0) (nl 0) (by omega) (by omega) (by omega), rf_ltMN (nl 5) hl (by omega) (by omega) (by omega)⟩) hw1) (fun hw1 => ?_)
  refine g_iload_n (v := v) cx dX9_sees_9 rfl ?_
  refine g_iconst (v := 0) cx dX9_sees_10 (by decide) ?_
  refine g_sipush (v := 255) cx dX9_sees_11 (by decide) ?_
  refine k_callsi (r0 := bI (¬ v < 0 ∧ ¬ 255 < v)) (ws' := wMo V ad nw rw ps im kp tx sw sv da co pl me fa ao al (nI s) (nI z) ax ta ts tv (nI k) il) (As := [.int v, .int 0, .int 255]) (rest := []) cx (c_X9_in V v 0 255) ml_X9_76 dX9_sees_14 [] rfl rfl [] rfl rfl rfl rfl rfl (Nat.le_of_ble_eq_true rfl) ⟨Nat.le_of_ble_eq_true rfl, Nat.le_of_ble_eq_true rfl⟩ ⟨Nat.le_refl _, Nat.le_refl _⟩ ?_
  refine g_if_ne_b cx 33 dX9_sees_17 (by decide) (fun hw2 => ?_) (fun hw2 => absurd (⟨hv1, hv2⟩) hw2)
  refine g_aload_n (v := ad 0) cx dX9_sees_33 rfl ?_
  refine g_get (v := .int (nI k)) cx fk_X9_195 dX9_sees_34 0 rfl rfl ?_
  refine g_bipush (v := 6) cx dX9_sees_37 (by decide) ?_
  refine g_icmp_ne cx 45 dX9_sees_39 (by decide) (fun hw3 => absurd (by rw [h3]; rfl) hw3) (fun hw3 => ?_)
  refine g_bipush (v := (-3)) cx dX9_sees_42 (by decide) ?_
  exact hret _ _ _ _ dX9_sees_44 (rfl) ⟨rfl, rfl⟩
def rm_X9_sees_okV : Room := { frames := 1, cells := 0, slots := 0, locals := 22 }
set_option maxRecDepth 100000 in
set_option maxHeartbeats 4000000 in
theorem c_X9_sees_okV (V : VT) (ad : Nat → Nat) (nw rw ps im kp tx sw sv da co pl me fa ao al : Nat → Int32) (ax ta ts tv il : Int32) (s z k n o m : Nat) (hM : okM nw sw s z k n o m) (l v : Int32) (q : Nat) (hl : l = nI q) (hq : q < 6) (hv1 : ¬ v < 0) (hv2 : ¬ 255 < v) (h3 : k < 6) : CI V yX9_sees cX9_sees 3 .int rm_X9_sees_okV [.ref (ad 0), .int l, .int v] (wMo V ad nw rw ps im kp tx sw sv da co pl me fa ao al (nI s) (nI z) ax ta ts tv (nI k) il) (fun r_ w_ => r_ = nI (k + 1) ∧ w_ = wMo V ad nw rw ps im kp tx (upd sw k l) (upd sv k v) da co pl me fa ao al (nI s) (nI z) ax ta ts tv (nI (k + 1)) il) := by
  refine CI_intro (by decide) (Nat.le_of_ble_eq_true rfl) (fun K cx hret => ?_)
  show G V K 3 0 0 (wMo V ad nw rw ps im kp tx sw sv da co pl me fa ao al (nI s) (nI z) ax ta ts tv (nI k) il) 0 [(0, .ref (ad 0)), (1, .int l), (2, .int v)] []
  obtain ⟨hs6, hz, hk6, hn, hn6, hn1, ho, ho4, hm, hm7, hat, hc, hcj, hsw⟩ := hM
  refine g_iload_n (v := l) cx dX9_sees_0 rfl ?_
  refine g_iconst (v := 0) cx dX9_sees_1 (by decide) ?_
  refine g_iconst (v := 5) cx dX9_sees_2 (by decide) ?_
  refine k_callsi (r0 := bI (¬ l < 0 ∧ ¬ 5 < l)) (ws' := wMo V ad nw rw ps im kp tx sw sv da co pl me fa ao al (nI s) (nI z) ax ta ts tv (nI k) il) (As := [.int l, .int 0, .int 5]) (rest := []) cx (c_X9_in V l 0 5) ml_X9_76 dX9_sees_3 [] rfl rfl [] rfl rfl rfl rfl rfl (Nat.le_of_ble_eq_true rfl) ⟨Nat.le_of_ble_eq_true rfl, Nat.le_of_ble_eq_true rfl⟩ ⟨Nat.le_refl _, Nat.le_refl _⟩ ?_
  refine g_if_eq_b cx 31 dX9_sees_6 (by decide) (fun hw1 => absurd (⟨rf_ltMN hl (b := 0) (nl 0) (by omega) (by omega) (by omega), rf_ltMN (nl 5) hl (by omega) (by omega) (by omega)⟩) hw1) (fun hw1 => ?_)
  refine g_iload_n (v := v) cx dX9_sees_9 rfl ?_
  refine g_iconst (v := 0) cx dX9_sees_10 (by decide) ?_
  refine g_sipush (v := 255) cx dX9_sees_11 (by decide) ?_
  refine k_callsi (r0 := bI (¬ v < 0 ∧ ¬ 255 < v)) (ws' := wMo V ad nw rw ps im kp tx sw sv da co pl me fa ao al (nI s) (nI z) ax ta ts tv (nI k) il) (As := [.int v, .int 0, .int 255]) (rest := []) cx (c_X9_in V v 0 255) ml_X9_76 dX9_sees_14 [] rfl rfl [] rfl rfl rfl rfl rfl (Nat.le_of_ble_eq_true rfl) ⟨Nat.le_of_ble_eq_true rfl, Nat.le_of_ble_eq_true rfl⟩ ⟨Nat.le_refl _, Nat.le_refl _⟩ ?_
  refine g_if_ne_b cx 33 dX9_sees_17 (by decide) (fun hw2 => ?_) (fun hw2 => absurd (⟨hv1, hv2⟩) hw2)
  refine g_aload_n (v := ad 0) cx dX9_sees_33 rfl ?_
  refine g_get (v := .int (nI k)) cx fk_X9_195 dX9_sees_34 0 rfl rfl ?_
  refine g_bipush (v := 6) cx dX9_sees_37 (by decide) ?_
  refine g_icmp_ne cx 45 dX9_sees_39 (by decide) (fun hw3 => ?_) (fun hw3 => absurd hw3 (rf_eqMN rfl (nl 6) (by omega) (by omega) (by omega)))
  refine g_aload_n (v := ad 0) cx dX9_sees_45 rfl ?_
  refine g_get (v := .ref (ad 7)) cx fk_X9_29 dX9_sees_46 0 rfl rfl ?_
  refine g_aload_n (v := ad 0) cx dX9_sees_49 rfl ?_
  refine g_get (v := .int (nI k)) cx fk_X9_195 dX9_sees_50 0 rfl rfl ?_
  refine g_iload_n (v := l) cx dX9_sees_53 rfl ?_
  refine g_iast (ws' := wMo V ad nw rw ps im kp tx (upd sw k l) sv da co pl me fa ao al (nI s) (nI z) ax ta ts tv (nI k) il) cx dX9_sees_54 7 k rfl (rfl) (by omega) (by first | decide | omega) rfl ?_
  refine g_aload_n (v := ad 0) cx dX9_sees_55 rfl ?_
  refine g_get (v := .ref (ad 8)) cx fk_X9_32 dX9_sees_56 0 rfl rfl ?_
  refine g_aload_n (v := ad 0) cx dX9_sees_59 rfl ?_
  refine g_get (v := .int (nI k)) cx fk_X9_195 dX9_sees_60 0 rfl rfl ?_
  refine g_iload_n (v := v) cx dX9_sees_63 rfl ?_
  refine g_iast (ws' := wMo V ad nw rw ps im kp tx (upd sw k l) (upd sv k v) da co pl me fa ao al (nI s) (nI z) ax ta ts tv (nI k) il) cx dX9_sees_64 8 k rfl (rfl) (by omega) (by first | decide | omega) rfl ?_
  refine g_aload_n (v := ad 0) cx dX9_sees_65 rfl ?_
  refine g_dup cx dX9_sees_66 rfl ?_
  refine g_get (v := .int (nI k)) cx fk_X9_195 dX9_sees_67 0 rfl rfl ?_
  refine g_iconst (v := 1) cx dX9_sees_70 (by decide) ?_
  refine g_iadd cx dX9_sees_71 ?_
  refine g_top (y := nI (k + 1)) (nI_1 k) ?_
  refine g_put (ws' := wMo V ad nw rw ps im kp tx (upd sw k l) (upd sv k v) da co pl me fa ao al (nI s) (nI z) ax ta ts tv (nI (k + 1)) il) cx fk_X9_195 dX9_sees_72 0 rfl (rfl) (rfl) (Nat.le_of_ble_eq_true rfl) rfl ?_
  refine g_aload_n (v := ad 0) cx dX9_sees_75 rfl ?_
  refine g_get (v := .int (nI (k + 1))) cx fk_X9_195 dX9_sees_76 0 rfl rfl ?_
  exact hret _ _ _ _ dX9_sees_79 (rfl) ⟨rfl, rfl⟩
def rm_X9_count_bad : Room := { frames := 0, cells := 0, slots := 0, locals := 0 }
set_option maxRecDepth 100000 in
set_option maxHeartbeats 4000000 in
theorem c_X9_count_bad (V : VT) (ad : Nat → Nat) (nw rw ps im kp tx sw sv da co pl me fa ao al : Nat → Int32) (ax ta ts tv il : Int32) (s z k n o m : Nat) (hM : okM nw sw s z k n o m) (l : Int32) (hb : l.toInt < 0 ∨ 12 < l.toInt) : CI V yX9_count cX9_count 2 .int rm_X9_count_bad [.ref (ad 0), .int l] (wMo V ad nw rw ps im kp tx sw sv da co pl me fa ao al (nI s) (nI z) ax ta ts tv (nI k) il) (fun r_ w_ => r_ = (-1) ∧ w_ = wMo V ad nw rw ps im kp tx sw sv da co pl me fa ao al (nI s) (nI z) ax ta ts tv (nI k) il) := by
  refine CI_intro (by decide) (Nat.le_of_ble_eq_true rfl) (fun K cx hret => ?_)
  show G V K 2 0 0 (wMo V ad nw rw ps im kp tx sw sv da co pl me fa ao al (nI s) (nI z) ax ta ts tv (nI k) il) 0 [(0, .ref (ad 0)), (1, .int l)] []
  obtain ⟨hs6, hz, hk6, hn, hn6, hn1, ho, ho4, hm, hm7, hat, hc, hcj, hsw⟩ := hM
  refine g_iload_n (v := l) cx dX9_count_0 rfl ?_
  refine g_tableOut cx 153 dX9_count_1 (hb) (by decide) ?_
  refine g_iconst (v := (-1)) cx dX9_count_153 (by decide) ?_
  exact hret _ _ _ _ dX9_count_154 (rfl) ⟨rfl, rfl⟩
def rm_X9_count_c0 : Room := { frames := 0, cells := 0, slots := 0, locals := 0 }
set_option maxRecDepth 100000 in
set_option maxHeartbeats 4000000 in
theorem c_X9_count_c0 (V : VT) (ad : Nat → Nat) (nw rw ps im kp tx sw sv da co pl me fa ao al : Nat → Int32) (ax ta ts tv il : Int32) (s z k n o m : Nat) (hM : okM nw sw s z k n o m) (l : Int32) (hl : l = 0) : CI V yX9_count cX9_count 2 .int rm_X9_count_c0 [.ref (ad 0), .int l] (wMo V ad nw rw ps im kp tx sw sv da co pl me fa ao al (nI s) (nI z) ax ta ts tv (nI k) il) (fun r_ w_ => r_ = nw 0 ∧ w_ = wMo V ad nw rw ps im kp tx sw sv da co pl me fa ao al (nI s) (nI z) ax ta ts tv (nI k) il) := by
  refine CI_intro (by decide) (Nat.le_of_ble_eq_true rfl) (fun K cx hret => ?_)
  show G V K 2 0 0 (wMo V ad nw rw ps im kp tx sw sv da co pl me fa ao al (nI s) (nI z) ax ta ts tv (nI k) il) 0 [(0, .ref (ad 0)), (1, .int l)] []
  obtain ⟨hs6, hz, hk6, hn, hn6, hn1, ho, ho4, hm, hm7, hat, hc, hcj, hsw⟩ := hM
  refine g_iload_n (v := l) cx dX9_count_0 rfl ?_
  refine g_tableIn cx 68 dX9_count_1 (by rw [hl]; decide) (by rw [hl]; decide) (by rw [hl]; rfl) (by decide) ?_
  refine g_aload_n (v := ad 0) cx dX9_count_68 rfl ?_
  refine g_get (v := .ref (ad 1)) cx fk_X9_7 dX9_count_69 0 rfl rfl ?_
  refine g_iconst (v := 0) cx dX9_count_72 (by decide) ?_
  refine g_iald cx dX9_count_73 1 0 rfl (nl 0) (by omega) (by first | decide | omega) ?_
  refine g_top (y := nw 0) (rfl) ?_
  exact hret _ _ _ _ dX9_count_74 (rfl) ⟨rfl, rfl⟩
def rm_X9_count_c1 : Room := { frames := 1, cells := 0, slots := 0, locals := 20 }
set_option maxRecDepth 100000 in
set_option maxHeartbeats 4000000 in
theorem c_X9_count_c1 (V : VT) (ad : Nat → Nat) (nw rw ps im kp tx sw sv da co pl me fa ao al : Nat → Int32) (ax ta ts tv il : Int32) (s z k n o m : Nat) (hM : okM nw sw s z k n o m) (l : Int32) (hl : l = 1) : CI V yX9_count cX9_count 2 .int rm_X9_count_c1 [.ref (ad 0), .int l] (wMo V ad nw rw ps im kp tx sw sv da co pl me fa ao al (nI s) (nI z) ax ta ts tv (nI k) il) (fun r_ w_ => r_ = nw 0 + nw 1 ∧ w_ = wMo V ad nw rw ps im kp tx sw sv da co pl me fa ao al (nI s) (nI z) ax ta ts tv (nI k) il) := by
  refine CI_intro (by decide) (Nat.le_of_ble_eq_true rfl) (fun K cx hret => ?_)
  show G V K 2 0 0 (wMo V ad nw rw ps im kp tx sw sv da co pl me fa ao al (nI s) (nI z) ax ta ts tv (nI k) il) 0 [(0, .ref (ad 0)), (1, .int l)] []
  obtain ⟨hs6, hz, hk6, hn, hn6, hn1, ho, ho4, hm, hm7, hat, hc, hcj, hsw⟩ := hM
  refine g_iload_n (v := l) cx dX9_count_0 rfl ?_
  refine g_tableIn cx 75 dX9_count_1 (by rw [hl]; decide) (by rw [hl]; decide) (by rw [hl]; rfl) (by decide) ?_
  refine g_aload_n (v := ad 0) cx dX9_count_75 rfl ?_
  refine w_calli (r0 := nw 0 + nw 1) (ws' := wMo V ad nw rw ps im kp tx sw sv da co pl me fa ao al (nI s) (nI z) ax ta ts tv (nI k) il) (As := []) (rest := []) cx (c_X9_links V ad nw rw ps im kp tx sw sv da co pl me fa ao al (nI s) (nI z) ax ta ts tv (nI k) il) ml_X9_167 dX9_count_76 (q0 := 0) rfl rfl rfl rfl rfl (Nat.le_of_ble_eq_true rfl) ⟨Nat.le_of_ble_eq_true rfl, Nat.le_of_ble_eq_true rfl⟩ ⟨Nat.le_refl _, Nat.le_refl _⟩ ?_
  exact hret _ _ _ _ dX9_count_79 (rfl) ⟨rfl, rfl⟩
def rm_X9_count_c2 : Room := { frames := 0, cells := 0, slots := 0, locals := 0 }
set_option maxRecDepth 100000 in
set_option maxHeartbeats 4000000 in
theorem c_X9_count_c2 (V : VT) (ad : Nat → Nat) (nw rw ps im kp tx sw sv da co pl me fa ao al : Nat → Int32) (ax ta ts tv il : Int32) (s z k n o m : Nat) (hM : okM nw sw s z k n o m) (l : Int32) (hl : l = 2) : CI V yX9_count cX9_count 2 .int rm_X9_count_c2 [.ref (ad 0), .int l] (wMo V ad nw rw ps im kp tx sw sv da co pl me fa ao al (nI s) (nI z) ax ta ts tv (nI k) il) (fun r_ w_ => r_ = nw 1 ∧ w_ = wMo V ad nw rw ps im kp tx sw sv da co pl me fa ao al (nI s) (nI z) ax ta ts tv (nI k) il) := by
  refine CI_intro (by decide) (Nat.le_of_ble_eq_true rfl) (fun K cx hret => ?_)
  show G V K 2 0 0 (wMo V ad nw rw ps im kp tx sw sv da co pl me fa ao al (nI s) (nI z) ax ta ts tv (nI k) il) 0 [(0, .ref (ad 0)), (1, .int l)] []
  obtain ⟨hs6, hz, hk6, hn, hn6, hn1, ho, ho4, hm, hm7, hat, hc, hcj, hsw⟩ := hM
  refine g_iload_n (v := l) cx dX9_count_0 rfl ?_
  refine g_tableIn cx 80 dX9_count_1 (by rw [hl]; decide) (by rw [hl]; decide) (by rw [hl]; rfl) (by decide) ?_
  refine g_aload_n (v := ad 0) cx dX9_count_80 rfl ?_
  refine g_get (v := .ref (ad 1)) cx fk_X9_7 dX9_count_81 0 rfl rfl ?_
  refine g_iconst (v := 1) cx dX9_count_84 (by decide) ?_
  refine g_iald cx dX9_count_85 1 1 rfl (nl 1) (by omega) (by first | decide | omega) ?_
  refine g_top (y := nw 1) (rfl) ?_
  exact hret _ _ _ _ dX9_count_86 (rfl) ⟨rfl, rfl⟩
def rm_X9_count_c3 : Room := { frames := 0, cells := 0, slots := 0, locals := 0 }
set_option maxRecDepth 100000 in
set_option maxHeartbeats 4000000 in
theorem c_X9_count_c3 (V : VT) (ad : Nat → Nat) (nw rw ps im kp tx sw sv da co pl me fa ao al : Nat → Int32) (ax ta ts tv il : Int32) (s z k n o m : Nat) (hM : okM nw sw s z k n o m) (l : Int32) (hl : l = 3) : CI V yX9_count cX9_count 2 .int rm_X9_count_c3 [.ref (ad 0), .int l] (wMo V ad nw rw ps im kp tx sw sv da co pl me fa ao al (nI s) (nI z) ax ta ts tv (nI k) il) (fun r_ w_ => r_ = nw 2 ∧ w_ = wMo V ad nw rw ps im kp tx sw sv da co pl me fa ao al (nI s) (nI z) ax ta ts tv (nI k) il) := by
  refine CI_intro (by decide) (Nat.le_of_ble_eq_true rfl) (fun K cx hret => ?_)
  show G V K 2 0 0 (wMo V ad nw rw ps im kp tx sw sv da co pl me fa ao al (nI s) (nI z) ax ta ts tv (nI k) il) 0 [(0, .ref (ad 0)), (1, .int l)] []
  obtain ⟨hs6, hz, hk6, hn, hn6, hn1, ho, ho4, hm, hm7, hat, hc, hcj, hsw⟩ := hM
  refine g_iload_n (v := l) cx dX9_count_0 rfl ?_
  refine g_tableIn cx 87 dX9_count_1 (by rw [hl]; decide) (by rw [hl]; decide) (by rw [hl]; rfl) (by decide) ?_
  refine g_aload_n (v := ad 0) cx dX9_count_87 rfl ?_
  refine g_get (v := .ref (ad 1)) cx fk_X9_7 dX9_count_88 0 rfl rfl ?_
  refine g_iconst (v := 2) cx dX9_count_91 (by decide) ?_
  refine g_iald cx dX9_count_92 1 2 rfl (nl 2) (by omega) (by first | decide | omega) ?_
  refine g_top (y := nw 2) (rfl) ?_
  exact hret _ _ _ _ dX9_count_93 (rfl) ⟨rfl, rfl⟩
def rm_X9_count_c4 : Room := { frames := 0, cells := 0, slots := 0, locals := 0 }
set_option maxRecDepth 100000 in
set_option maxHeartbeats 4000000 in
theorem c_X9_count_c4 (V : VT) (ad : Nat → Nat) (nw rw ps im kp tx sw sv da co pl me fa ao al : Nat → Int32) (ax ta ts tv il : Int32) (s z k n o m : Nat) (hM : okM nw sw s z k n o m) (l : Int32) (hl : l = 4) : CI V yX9_count cX9_count 2 .int rm_X9_count_c4 [.ref (ad 0), .int l] (wMo V ad nw rw ps im kp tx sw sv da co pl me fa ao al (nI s) (nI z) ax ta ts tv (nI k) il) (fun r_ w_ => r_ = nw 3 ∧ w_ = wMo V ad nw rw ps im kp tx sw sv da co pl me fa ao al (nI s) (nI z) ax ta ts tv (nI k) il) := by
  refine CI_intro (by decide) (Nat.le_of_ble_eq_true rfl) (fun K cx hret => ?_)
  show G V K 2 0 0 (wMo V ad nw rw ps im kp tx sw sv da co pl me fa ao al (nI s) (nI z) ax ta ts tv (nI k) il) 0 [(0, .ref (ad 0)), (1, .int l)] []
  obtain ⟨hs6, hz, hk6, hn, hn6, hn1, ho, ho4, hm, hm7, hat, hc, hcj, hsw⟩ := hM
  refine g_iload_n (v := l) cx dX9_count_0 rfl ?_
  refine g_tableIn cx 94 dX9_count_1 (by rw [hl]; decide) (by rw [hl]; decide) (by rw [hl]; rfl) (by decide) ?_
  refine g_aload_n (v := ad 0) cx dX9_count_94 rfl ?_
  refine g_get (v := .ref (ad 1)) cx fk_X9_7 dX9_count_95 0 rfl rfl ?_
  refine g_iconst (v := 3) cx dX9_count_98 (by decide) ?_
  refine g_iald cx dX9_count_99 1 3 rfl (nl 3) (by omega) (by first | decide | omega) ?_
  refine g_top (y := nw 3) (rfl) ?_
  exact hret _ _ _ _ dX9_count_100 (rfl) ⟨rfl, rfl⟩
def rm_X9_count_c5 : Room := { frames := 1, cells := 0, slots := 0, locals := 22 }
set_option maxRecDepth 100000 in
set_option maxHeartbeats 4000000 in
theorem c_X9_count_c5 (V : VT) (ad : Nat → Nat) (nw rw ps im kp tx sw sv da co pl me fa ao al : Nat → Int32) (ax ta ts tv il : Int32) (s z k n o m : Nat) (hM : okM nw sw s z k n o m) (l : Int32) (hl : l = 5) : CI V yX9_count cX9_count 2 .int rm_X9_count_c5 [.ref (ad 0), .int l] (wMo V ad nw rw ps im kp tx sw sv da co pl me fa ao al (nI s) (nI z) ax ta ts tv (nI k) il) (fun r_ w_ => r_ = mOnes (nw 16) 8 ∧ w_ = wMo V ad nw rw ps im kp tx sw sv da co pl me fa ao al (nI s) (nI z) ax ta ts tv (nI k) il) := by
  refine CI_intro (by decide) (Nat.le_of_ble_eq_true rfl) (fun K cx hret => ?_)
  show G V K 2 0 0 (wMo V ad nw rw ps im kp tx sw sv da co pl me fa ao al (nI s) (nI z) ax ta ts tv (nI k) il) 0 [(0, .ref (ad 0)), (1, .int l)] []
  obtain ⟨hs6, hz, hk6, hn, hn6, hn1, ho, ho4, hm, hm7, hat, hc, hcj, hsw⟩ := hM
  refine g_iload_n (v := l) cx dX9_count_0 rfl ?_
  refine g_tableIn cx 101 dX9_count_1 (by rw [hl]; decide) (by rw [hl]; decide) (by rw [hl]; rfl) (by decide) ?_
  refine g_aload_n (v := ad 0) cx dX9_count_101 rfl ?_
  refine g_get (v := .ref (ad 1)) cx fk_X9_7 dX9_count_102 0 rfl rfl ?_
  refine g_bipush (v := 16) cx dX9_count_105 (by decide) ?_
  refine g_iald cx dX9_count_107 1 16 rfl (nl 16) (by omega) (by first | decide | omega) ?_
  refine g_top (y := nw 16) (rfl) ?_
  refine k_callsi (r0 := mOnes (nw 16) 8) (ws' := wMo V ad nw rw ps im kp tx sw sv da co pl me fa ao al (nI s) (nI z) ax ta ts tv (nI k) il) (As := [.int (nw 16)]) (rest := []) cx (c_X9_ones V (nw 16)) ml_X9_173 dX9_count_108 [] rfl rfl [] rfl rfl rfl rfl rfl (Nat.le_of_ble_eq_true rfl) ⟨Nat.le_of_ble_eq_true rfl, Nat.le_of_ble_eq_true rfl⟩ ⟨Nat.le_refl _, Nat.le_refl _⟩ ?_
  exact hret _ _ _ _ dX9_count_111 (rfl) ⟨rfl, rfl⟩
def rm_X9_count_c6 : Room := { frames := 1, cells := 0, slots := 0, locals := 22 }
set_option maxRecDepth 100000 in
set_option maxHeartbeats 4000000 in
theorem c_X9_count_c6 (V : VT) (ad : Nat → Nat) (nw rw ps im kp tx sw sv da co pl me fa ao al : Nat → Int32) (ax ta ts tv il : Int32) (s z k n o m : Nat) (hM : okM nw sw s z k n o m) (l : Int32) (hl : l = 6) : CI V yX9_count cX9_count 2 .int rm_X9_count_c6 [.ref (ad 0), .int l] (wMo V ad nw rw ps im kp tx sw sv da co pl me fa ao al (nI s) (nI z) ax ta ts tv (nI k) il) (fun r_ w_ => r_ = mSafe nw n ∧ w_ = wMo V ad nw rw ps im kp tx sw sv da co pl me fa ao al (nI s) (nI z) ax ta ts tv (nI k) il) := by
  refine CI_intro (by decide) (Nat.le_of_ble_eq_true rfl) (fun K cx hret => ?_)
  show G V K 2 0 0 (wMo V ad nw rw ps im kp tx sw sv da co pl me fa ao al (nI s) (nI z) ax ta ts tv (nI k) il) 0 [(0, .ref (ad 0)), (1, .int l)] []
  obtain ⟨hs6, hz, hk6, hn, hn6, hn1, ho, ho4, hm, hm7, hat, hc, hcj, hsw⟩ := hM
  refine g_iload_n (v := l) cx dX9_count_0 rfl ?_
  refine g_tableIn cx 112 dX9_count_1 (by rw [hl]; decide) (by rw [hl]; decide) (by rw [hl]; rfl) (by decide) ?_
  refine g_aload_n (v := ad 0) cx dX9_count_112 rfl ?_
  refine w_calli (r0 := mSafe nw n) (ws' := wMo V ad nw rw ps im kp tx sw sv da co pl me fa ao al (nI s) (nI z) ax ta ts tv (nI k) il) (As := []) (rest := []) cx (c_X9_safeMany V ad nw rw ps im kp tx sw sv da co pl me fa ao al (nI s) (nI z) ax ta ts tv (nI k) il n hn (by omega)) ml_X9_179 dX9_count_113 (q0 := 0) rfl rfl rfl rfl rfl (Nat.le_of_ble_eq_true rfl) ⟨Nat.le_of_ble_eq_true rfl, Nat.le_of_ble_eq_true rfl⟩ ⟨Nat.le_refl _, Nat.le_refl _⟩ ?_
  exact hret _ _ _ _ dX9_count_116 (rfl) ⟨rfl, rfl⟩
def rm_X9_count_c7 : Room := { frames := 0, cells := 0, slots := 0, locals := 0 }
set_option maxRecDepth 100000 in
set_option maxHeartbeats 4000000 in
theorem c_X9_count_c7 (V : VT) (ad : Nat → Nat) (nw rw ps im kp tx sw sv da co pl me fa ao al : Nat → Int32) (ax ta ts tv il : Int32) (s z k n o m : Nat) (hM : okM nw sw s z k n o m) (l : Int32) (hl : l = 7) : CI V yX9_count cX9_count 2 .int rm_X9_count_c7 [.ref (ad 0), .int l] (wMo V ad nw rw ps im kp tx sw sv da co pl me fa ao al (nI s) (nI z) ax ta ts tv (nI k) il) (fun r_ w_ => r_ = nw 7 ∧ w_ = wMo V ad nw rw ps im kp tx sw sv da co pl me fa ao al (nI s) (nI z) ax ta ts tv (nI k) il) := by
  refine CI_intro (by decide) (Nat.le_of_ble_eq_true rfl) (fun K cx hret => ?_)
  show G V K 2 0 0 (wMo V ad nw rw ps im kp tx sw sv da co pl me fa ao al (nI s) (nI z) ax ta ts tv (nI k) il) 0 [(0, .ref (ad 0)), (1, .int l)] []
  obtain ⟨hs6, hz, hk6, hn, hn6, hn1, ho, ho4, hm, hm7, hat, hc, hcj, hsw⟩ := hM
  refine g_iload_n (v := l) cx dX9_count_0 rfl ?_
  refine g_tableIn cx 117 dX9_count_1 (by rw [hl]; decide) (by rw [hl]; decide) (by rw [hl]; rfl) (by decide) ?_
  refine g_aload_n (v := ad 0) cx dX9_count_117 rfl ?_
  refine g_get (v := .ref (ad 1)) cx fk_X9_7 dX9_count_118 0 rfl rfl ?_
  refine g_bipush (v := 7) cx dX9_count_121 (by decide) ?_
  refine g_iald cx dX9_count_123 1 7 rfl (nl 7) (by omega) (by first | decide | omega) ?_
  refine g_top (y := nw 7) (rfl) ?_
  exact hret _ _ _ _ dX9_count_124 (rfl) ⟨rfl, rfl⟩
def rm_X9_count_c8 : Room := { frames := 0, cells := 0, slots := 0, locals := 0 }
set_option maxRecDepth 100000 in
set_option maxHeartbeats 4000000 in
theorem c_X9_count_c8 (V : VT) (ad : Nat → Nat) (nw rw ps im kp tx sw sv da co pl me fa ao al : Nat → Int32) (ax ta ts tv il : Int32) (s z k n o m : Nat) (hM : okM nw sw s z k n o m) (l : Int32) (hl : l = 8) : CI V yX9_count cX9_count 2 .int rm_X9_count_c8 [.ref (ad 0), .int l] (wMo V ad nw rw ps im kp tx sw sv da co pl me fa ao al (nI s) (nI z) ax ta ts tv (nI k) il) (fun r_ w_ => r_ = nw 8 ∧ w_ = wMo V ad nw rw ps im kp tx sw sv da co pl me fa ao al (nI s) (nI z) ax ta ts tv (nI k) il) := by
  refine CI_intro (by decide) (Nat.le_of_ble_eq_true rfl) (fun K cx hret => ?_)
  show G V K 2 0 0 (wMo V ad nw rw ps im kp tx sw sv da co pl me fa ao al (nI s) (nI z) ax ta ts tv (nI k) il) 0 [(0, .ref (ad 0)), (1, .int l)] []
  obtain ⟨hs6, hz, hk6, hn, hn6, hn1, ho, ho4, hm, hm7, hat, hc, hcj, hsw⟩ := hM
  refine g_iload_n (v := l) cx dX9_count_0 rfl ?_
  refine g_tableIn cx 125 dX9_count_1 (by rw [hl]; decide) (by rw [hl]; decide) (by rw [hl]; rfl) (by decide) ?_
  refine g_aload_n (v := ad 0) cx dX9_count_125 rfl ?_
  refine g_get (v := .ref (ad 1)) cx fk_X9_7 dX9_count_126 0 rfl rfl ?_
  refine g_bipush (v := 8) cx dX9_count_129 (by decide) ?_
  refine g_iald cx dX9_count_131 1 8 rfl (nl 8) (by omega) (by first | decide | omega) ?_
  refine g_top (y := nw 8) (rfl) ?_
  exact hret _ _ _ _ dX9_count_132 (rfl) ⟨rfl, rfl⟩
def rm_X9_count_c9 : Room := { frames := 2, cells := 0, slots := 0, locals := 44 }
set_option maxRecDepth 100000 in
set_option maxHeartbeats 4000000 in
theorem c_X9_count_c9 (V : VT) (ad : Nat → Nat) (nw rw ps im kp tx sw sv da co pl me fa ao al : Nat → Int32) (ax ta ts tv il : Int32) (s z k n o m : Nat) (hM : okM nw sw s z k n o m) (l : Int32) (hl : l = 9) : CI V yX9_count cX9_count 2 .int rm_X9_count_c9 [.ref (ad 0), .int l] (wMo V ad nw rw ps im kp tx sw sv da co pl me fa ao al (nI s) (nI z) ax ta ts tv (nI k) il) (fun r_ w_ => r_ = mMax nw (n - 1) - mMin nw (n - 1) ∧ w_ = wMo V ad nw rw ps im kp tx sw sv da co pl me fa ao al (nI s) (nI z) ax ta ts tv (nI k) il) := by
  refine CI_intro (by decide) (Nat.le_of_ble_eq_true rfl) (fun K cx hret => ?_)
  show G V K 2 0 0 (wMo V ad nw rw ps im kp tx sw sv da co pl me fa ao al (nI s) (nI z) ax ta ts tv (nI k) il) 0 [(0, .ref (ad 0)), (1, .int l)] []
  obtain ⟨hs6, hz, hk6, hn, hn6, hn1, ho, ho4, hm, hm7, hat, hc, hcj, hsw⟩ := hM
  refine g_iload_n (v := l) cx dX9_count_0 rfl ?_
  refine g_tableIn cx 133 dX9_count_1 (by rw [hl]; decide) (by rw [hl]; decide) (by rw [hl]; rfl) (by decide) ?_
  refine g_aload_n (v := ad 0) cx dX9_count_133 rfl ?_
  refine w_calli (r0 := mMax nw (n - 1) - mMin nw (n - 1)) (ws' := wMo V ad nw rw ps im kp tx sw sv da co pl me fa ao al (nI s) (nI z) ax ta ts tv (nI k) il) (As := []) (rest := []) cx (c_X9_spread V ad nw rw ps im kp tx sw sv da co pl me fa ao al (nI s) (nI z) ax ta ts tv (nI k) il n hn (by omega) (by omega)) ml_X9_204 dX9_count_134 (q0 := 0) rfl rfl rfl rfl rfl (Nat.le_of_ble_eq_true rfl) ⟨Nat.le_of_ble_eq_true rfl, Nat.le_of_ble_eq_true rfl⟩ ⟨Nat.le_refl _, Nat.le_refl _⟩ ?_
  exact hret _ _ _ _ dX9_count_137 (rfl) ⟨rfl, rfl⟩
def rm_X9_count_c10 : Room := { frames := 0, cells := 0, slots := 0, locals := 0 }
set_option maxRecDepth 100000 in
set_option maxHeartbeats 4000000 in
theorem c_X9_count_c10 (V : VT) (ad : Nat → Nat) (nw rw ps im kp tx sw sv da co pl me fa ao al : Nat → Int32) (ax ta ts tv il : Int32) (s z k n o m : Nat) (hM : okM nw sw s z k n o m) (l : Int32) (hl : l = 10) : CI V yX9_count cX9_count 2 .int rm_X9_count_c10 [.ref (ad 0), .int l] (wMo V ad nw rw ps im kp tx sw sv da co pl me fa ao al (nI s) (nI z) ax ta ts tv (nI k) il) (fun r_ w_ => r_ = nI k ∧ w_ = wMo V ad nw rw ps im kp tx sw sv da co pl me fa ao al (nI s) (nI z) ax ta ts tv (nI k) il) := by
  refine CI_intro (by decide) (Nat.le_of_ble_eq_true rfl) (fun K cx hret => ?_)
  show G V K 2 0 0 (wMo V ad nw rw ps im kp tx sw sv da co pl me fa ao al (nI s) (nI z) ax ta ts tv (nI k) il) 0 [(0, .ref (ad 0)), (1, .int l)] []
  obtain ⟨hs6, hz, hk6, hn, hn6, hn1, ho, ho4, hm, hm7, hat, hc, hcj, hsw⟩ := hM
  refine g_iload_n (v := l) cx dX9_count_0 rfl ?_
  refine g_tableIn cx 138 dX9_count_1 (by rw [hl]; decide) (by rw [hl]; decide) (by rw [hl]; rfl) (by decide) ?_
  refine g_aload_n (v := ad 0) cx dX9_count_138 rfl ?_
  refine g_get (v := .int (nI k)) cx fk_X9_195 dX9_count_139 0 rfl rfl ?_
  exact hret _ _ _ _ dX9_count_142 (rfl) ⟨rfl, rfl⟩
def rm_X9_count_c11 : Room := { frames := 0, cells := 0, slots := 0, locals := 0 }
set_option maxRecDepth 100000 in
set_option maxHeartbeats 4000000 in
theorem c_X9_count_c11 (V : VT) (ad : Nat → Nat) (nw rw ps im kp tx sw sv da co pl me fa ao al : Nat → Int32) (ax ta ts tv il : Int32) (s z k n o m : Nat) (hM : okM nw sw s z k n o m) (l : Int32) (hl : l = 11) : CI V yX9_count cX9_count 2 .int rm_X9_count_c11 [.ref (ad 0), .int l] (wMo V ad nw rw ps im kp tx sw sv da co pl me fa ao al (nI s) (nI z) ax ta ts tv (nI k) il) (fun r_ w_ => r_ = nI z ∧ w_ = wMo V ad nw rw ps im kp tx sw sv da co pl me fa ao al (nI s) (nI z) ax ta ts tv (nI k) il) := by
  refine CI_intro (by decide) (Nat.le_of_ble_eq_true rfl) (fun K cx hret => ?_)
  show G V K 2 0 0 (wMo V ad nw rw ps im kp tx sw sv da co pl me fa ao al (nI s) (nI z) ax ta ts tv (nI k) il) 0 [(0, .ref (ad 0)), (1, .int l)] []
  obtain ⟨hs6, hz, hk6, hn, hn6, hn1, ho, ho4, hm, hm7, hat, hc, hcj, hsw⟩ := hM
  refine g_iload_n (v := l) cx dX9_count_0 rfl ?_
  refine g_tableIn cx 143 dX9_count_1 (by rw [hl]; decide) (by rw [hl]; decide) (by rw [hl]; rfl) (by decide) ?_
  refine g_aload_n (v := ad 0) cx dX9_count_143 rfl ?_
  refine g_get (v := .int (nI z)) cx fk_X9_67 dX9_count_144 0 rfl rfl ?_
  exact hret _ _ _ _ dX9_count_147 (rfl) ⟨rfl, rfl⟩
def rm_X9_count_c12 : Room := { frames := 0, cells := 0, slots := 0, locals := 0 }
set_option maxRecDepth 100000 in
set_option maxHeartbeats 4000000 in
theorem c_X9_count_c12 (V : VT) (ad : Nat → Nat) (nw rw ps im kp tx sw sv da co pl me fa ao al : Nat → Int32) (ax ta ts tv il : Int32) (s z k n o m : Nat) (hM : okM nw sw s z k n o m) (l : Int32) (hl : l = 12) : CI V yX9_count cX9_count 2 .int rm_X9_count_c12 [.ref (ad 0), .int l] (wMo V ad nw rw ps im kp tx sw sv da co pl me fa ao al (nI s) (nI z) ax ta ts tv (nI k) il) (fun r_ w_ => r_ = nI s ∧ w_ = wMo V ad nw rw ps im kp tx sw sv da co pl me fa ao al (nI s) (nI z) ax ta ts tv (nI k) il) := by
  refine CI_intro (by decide) (Nat.le_of_ble_eq_true rfl) (fun K cx hret => ?_)
  show G V K 2 0 0 (wMo V ad nw rw ps im kp tx sw sv da co pl me fa ao al (nI s) (nI z) ax ta ts tv (nI k) il) 0 [(0, .ref (ad 0)), (1, .int l)] []
  obtain ⟨hs6, hz, hk6, hn, hn6, hn1, ho, ho4, hm, hm7, hat, hc, hcj, hsw⟩ := hM
  refine g_iload_n (v := l) cx dX9_count_0 rfl ?_
  refine g_tableIn cx 148 dX9_count_1 (by rw [hl]; decide) (by rw [hl]; decide) (by rw [hl]; rfl) (by decide) ?_
  refine g_aload_n (v := ad 0) cx dX9_count_148 rfl ?_
  refine g_get (v := .int (nI s)) cx fk_X9_164 dX9_count_149 0 rfl rfl ?_
  exact hret _ _ _ _ dX9_count_152 (rfl) ⟨rfl, rfl⟩
def rm_X9_would_bad : Room := { frames := 1, cells := 0, slots := 0, locals := 22 }
set_option maxRecDepth 100000 in
set_option maxHeartbeats 4000000 in
theorem c_X9_would_bad (V : VT) (ad : Nat → Nat) (nw rw ps im kp tx sw sv da co pl me fa ao al : Nat → Int32) (ax ta ts tv il : Int32) (s z k n o m : Nat) (hM : okM nw sw s z k n o m) (l : Int32) (hb : ¬ (¬ l < 0 ∧ ¬ 5 < l)) : CI V yX9_would cX9_would 2 .int rm_X9_would_bad [.ref (ad 0), .int l] (wMo V ad nw rw ps im kp tx sw sv da co pl me fa ao al (nI s) (nI z) ax ta ts tv (nI k) il) (fun r_ w_ => r_ = (-1) ∧ w_ = wMo V ad nw rw ps im kp tx sw sv da co pl me fa ao al (nI s) (nI z) ax ta ts tv (nI k) il) := by
  refine CI_intro (by decide) (Nat.le_of_ble_eq_true rfl) (fun K cx hret => ?_)
  show G V K 2 0 0 (wMo V ad nw rw ps im kp tx sw sv da co pl me fa ao al (nI s) (nI z) ax ta ts tv (nI k) il) 0 [(0, .ref (ad 0)), (1, .int l)] []
  obtain ⟨hs6, hz, hk6, hn, hn6, hn1, ho, ho4, hm, hm7, hat, hc, hcj, hsw⟩ := hM
  refine g_iload_n (v := l) cx dX9_would_0 rfl ?_
  refine g_iconst (v := 0) cx dX9_would_1 (by decide) ?_
  refine g_iconst (v := 5) cx dX9_would_2 (by decide) ?_
  refine k_callsi (r0 := bI (¬ l < 0 ∧ ¬ 5 < l)) (ws' := wMo V ad nw rw ps im kp tx sw sv da co pl me fa ao al (nI s) (nI z) ax ta ts tv (nI k) il) (As := [.int l, .int 0, .int 5]) (rest := []) cx (c_X9_in V l 0 5) ml_X9_76 dX9_would_3 [] rfl rfl [] rfl rfl rfl rfl rfl (Nat.le_of_ble_eq_true rfl) ⟨Nat.le_of_ble_eq_true rfl, Nat.le_of_ble_eq_true rfl⟩ ⟨Nat.le_refl _, Nat.le_refl _⟩ ?_
  refine g_if_ne_b cx 11 dX9_would_6 (by decide) (fun hw1 => absurd hw1 (hb)) (fun hw1 => ?_)
  refine g_iconst (v := (-1)) cx dX9_would_9 (by decide) ?_
  exact hret _ _ _ _ dX9_would_10 (rfl) ⟨rfl, rfl⟩
def rm_X9_would_ok : Room := { frames := 4, cells := 0, slots := 0, locals := 99 }
set_option maxRecDepth 100000 in
set_option maxHeartbeats 4000000 in
theorem c_X9_would_ok (V : VT) (ad : Nat → Nat) (nw rw ps im kp tx sw sv da co pl me fa ao al : Nat → Int32) (ax ta ts tv il : Int32) (s z k n o m : Nat) (hM : okM nw sw s z k n o m) (l : Int32) (q : Nat) (W : M7) (hW : mFF n o (nw 16) ((nw, da, co, pl, me), fa, ao) = W) (hl : l = nI q) (hq : q < 6) : CI V yX9_would cX9_would 2 .int rm_X9_would_ok [.ref (ad 0), .int l] (wMo V ad nw rw ps im kp tx sw sv da co pl me fa ao al (nI s) (nI z) ax ta ts tv (nI k) il) (fun r_ w_ => r_ = W.2.1 q ∧ w_ = wMo V ad W.1.1 rw ps im kp tx sw sv W.1.2.1 W.1.2.2.1 W.1.2.2.2.1 W.1.2.2.2.2 W.2.1 W.2.2 al (nI s) (nI z) ax ta ts tv (nI k) il) := by
  refine CI_intro (by decide) (Nat.le_of_ble_eq_true rfl) (fun K cx hret => ?_)
  show G V K 2 0 0 (wMo V ad nw rw ps im kp tx sw sv da co pl me fa ao al (nI s) (nI z) ax ta ts tv (nI k) il) 0 [(0, .ref (ad 0)), (1, .int l)] []
  obtain ⟨hs6, hz, hk6, hn, hn6, hn1, ho, ho4, hm, hm7, hat, hc, hcj, hsw⟩ := hM
  refine g_iload_n (v := l) cx dX9_would_0 rfl ?_
  refine g_iconst (v := 0) cx dX9_would_1 (by decide) ?_
  refine g_iconst (v := 5) cx dX9_would_2 (by decide) ?_
  refine k_callsi (r0 := bI (¬ l < 0 ∧ ¬ 5 < l)) (ws' := wMo V ad nw rw ps im kp tx sw sv da co pl me fa ao al (nI s) (nI z) ax ta ts tv (nI k) il) (As := [.int l, .int 0, .int 5]) (rest := []) cx (c_X9_in V l 0 5) ml_X9_76 dX9_would_3 [] rfl rfl [] rfl rfl rfl rfl rfl (Nat.le_of_ble_eq_true rfl) ⟨Nat.le_of_ble_eq_true rfl, Nat.le_of_ble_eq_true rfl⟩ ⟨Nat.le_refl _, Nat.le_refl _⟩ ?_
  refine g_if_ne_b cx 11 dX9_would_6 (by decide) (fun hw1 => ?_) (fun hw1 => absurd (⟨rf_ltMN hl (b := 0) (nl 0) (by omega) (by omega) (by omega), rf_ltMN (nl 5) hl (by omega) (by omega) (by omega)⟩) hw1)
  refine g_aload_n (v := ad 0) cx dX9_would_11 rfl ?_
  refine g_aload_n (v := ad 0) cx dX9_would_12 rfl ?_
  refine g_get (v := .ref (ad 1)) cx fk_X9_7 dX9_would_13 0 rfl rfl ?_
  refine g_bipush (v := 16) cx dX9_would_16 (by decide) ?_
  refine g_iald cx dX9_would_18 1 16 rfl (nl 16) (by omega) (by first | decide | omega) ?_
  refine g_top (y := nw 16) (rfl) ?_
  refine w_callv (ws' := wMo V ad ((mFF n o (nw 16) ((nw, da, co, pl, me), fa, ao)).1.1) rw ps im kp tx sw sv ((mFF n o (nw 16) ((nw, da, co, pl, me), fa, ao)).1.2.1) ((mFF n o (nw 16) ((nw, da, co, pl, me), fa, ao)).1.2.2.1) ((mFF n o (nw 16) ((nw, da, co, pl, me), fa, ao)).1.2.2.2.1) ((mFF n o (nw 16) ((nw, da, co, pl, me), fa, ao)).1.2.2.2.2) ((mFF n o (nw 16) ((nw, da, co, pl, me), fa, ao)).2.1) ((mFF n o (nw 16) ((nw, da, co, pl, me), fa, ao)).2.2) al (nI s) (nI z) ax ta ts tv (nI k) il) (As := [.int (nw 16)]) (rest := []) cx (c_X9_findFacts V ad nw rw ps im kp tx sw sv da co pl me fa ao al (nI s) (nI z) ax ta ts tv (nI k) il (nw 16) n hn (by omega) o ho (by omega) hc hat) ml_X9_192 dX9_would_19 (q0 := 0) rfl rfl rfl rfl rfl (Nat.le_of_ble_eq_true rfl) ⟨Nat.le_of_ble_eq_true rfl, Nat.le_of_ble_eq_true rfl⟩ ⟨Nat.le_refl _, Nat.le_refl _⟩ ?_
  rw [hW]
  refine g_aload_n (v := ad 0) cx dX9_would_22 rfl ?_
  refine g_get (v := .ref (ad 13)) cx fk_X9_47 dX9_would_23 0 rfl rfl ?_
  refine g_iload_n (v := l) cx dX9_would_26 rfl ?_
  refine g_iald cx dX9_would_27 13 q rfl (hl) (by omega) (by first | decide | omega) ?_
  refine g_top (y := W.2.1 q) (rfl) ?_
  exact hret _ _ _ _ dX9_would_28 (rfl) ⟨rfl, rfl⟩
def rm_X9_isSo : Room := { frames := 4, cells := 0, slots := 0, locals := 99 }
set_option maxRecDepth 100000 in
set_option maxHeartbeats 4000000 in
theorem c_X9_isSo (V : VT) (ad : Nat → Nat) (nw rw ps im kp tx sw sv da co pl me fa ao al : Nat → Int32) (de le ax ta ts tv il : Int32) (c : Int32) (n : Nat) (hn : nw 0 = nI n) (hn6 : n ≤ 6) (o : Nat) (ho : nw 3 = nI o) (ho4 : o ≤ 4) (hc : okc nw c n) (hat : okAM nw o) (k : Nat) (hk6 : k ≤ 6) (hsw : okSw sw k) : CI V yX9_isSo cX9_isSo 4 .boolean rm_X9_isSo [.ref (ad 0), .int c] (wMo V ad nw rw ps im kp tx sw sv da co pl me fa ao al de le ax ta ts tv (nI k) il) (fun r_ w_ => r_ = bI (mAg (mFF n o c ((nw, da, co, pl, me), fa, ao)).2.1 sw sv k) ∧ w_ = wMo V ad ((mFF n o c ((nw, da, co, pl, me), fa, ao)).1.1) rw ps im kp tx sw sv ((mFF n o c ((nw, da, co, pl, me), fa, ao)).1.2.1) ((mFF n o c ((nw, da, co, pl, me), fa, ao)).1.2.2.1) ((mFF n o c ((nw, da, co, pl, me), fa, ao)).1.2.2.2.1) ((mFF n o c ((nw, da, co, pl, me), fa, ao)).1.2.2.2.2) ((mFF n o c ((nw, da, co, pl, me), fa, ao)).2.1) ((mFF n o c ((nw, da, co, pl, me), fa, ao)).2.2) al de le ax ta ts tv (nI k) il) := by
  refine CI_intro (by decide) (Nat.le_of_ble_eq_true rfl) (fun K cx hret => ?_)
  show G V K 4 0 0 (wMo V ad nw rw ps im kp tx sw sv da co pl me fa ao al de le ax ta ts tv (nI k) il) 0 [(0, .ref (ad 0)), (1, .int c)] []
  refine g_aload_n (v := ad 0) cx dX9_isSo_0 rfl ?_
  refine g_iload_n (v := c) cx dX9_isSo_1 rfl ?_
  refine w_callv (ws' := wMo V ad ((mFF n o c ((nw, da, co, pl, me), fa, ao)).1.1) rw ps im kp tx sw sv ((mFF n o c ((nw, da, co, pl, me), fa, ao)).1.2.1) ((mFF n o c ((nw, da, co, pl, me), fa, ao)).1.2.2.1) ((mFF n o c ((nw, da, co, pl, me), fa, ao)).1.2.2.2.1) ((mFF n o c ((nw, da, co, pl, me), fa, ao)).1.2.2.2.2) ((mFF n o c ((nw, da, co, pl, me), fa, ao)).2.1) ((mFF n o c ((nw, da, co, pl, me), fa, ao)).2.2) al de le ax ta ts tv (nI k) il) (As := [.int c]) (rest := []) cx (c_X9_findFacts V ad nw rw ps im kp tx sw sv da co pl me fa ao al de le ax ta ts tv (nI k) il c n hn (by omega) o ho (by omega) hc hat) ml_X9_192 dX9_isSo_2 (q0 := 0) rfl rfl rfl rfl rfl (Nat.le_of_ble_eq_true rfl) ⟨Nat.le_of_ble_eq_true rfl, Nat.le_of_ble_eq_true rfl⟩ ⟨Nat.le_refl _, Nat.le_refl _⟩ ?_
  generalize mFF n o c ((nw, da, co, pl, me), fa, ao) = T at hret ⊢
  obtain ⟨⟨N, D, C, P, E⟩, F, O⟩ := T
  dsimp only at hret
  refine g_iconst (v := 1) cx dX9_isSo_5 (by decide) ?_
  refine g_top (y := bI (mAg F sw sv 0)) (bI_t (fun j hj => absurd hj (Nat.not_lt_zero j))) ?_
  refine g_istore_n (lv' := [(0, .ref (ad 0)), (1, .int c), (2, .int (bI (mAg F sw sv 0)))]) cx dX9_isSo_6 (by decide) rfl ?_
  refine g_iconst (v := 0) cx dX9_isSo_7 (by decide) ?_
  refine g_istore_n (lv' := [(0, .ref (ad 0)), (1, .int c), (2, .int (bI (mAg F sw sv 0))), (3, .int 0)]) cx dX9_isSo_8 (by decide) rfl ?_
  refine rf_dn (P := fun i => G V K 4 0 0 (wMo V ad N rw ps im kp tx sw sv D C P E F O al de le ax ta ts tv (nI k) il) 9 [(0, .ref (ad 0)), (1, .int c), (2, .int (bI (mAg F sw sv i))), (3, .int (nI i))] []) (k) (fun i hi ihi => ?_) ?_
  · skip
    have hik : i < k := hi
    obtain ⟨hsi, hsi6⟩ := hsw i hik
    refine g_iload_n (v := nI i) cx dX9_isSo_9 rfl ?_
    refine g_aload_n (v := ad 0) cx dX9_isSo_10 rfl ?_
    refine g_get (v := .int (nI k)) cx fk_X9_195 dX9_isSo_11 0 rfl rfl ?_
    refine g_icmp_ge cx 53 dX9_isSo_14 (by decide) (fun hw1 => absurd hw1 (rf_geMN rfl rfl (by omega) (by omega) (by omega))) (fun hw1 => ?_)
    refine g_iload_n (v := bI (mAg F sw sv i)) cx dX9_isSo_17 rfl ?_
    refine g_if_eq_b cx 45 dX9_isSo_18 (by decide) (fun hw2 => ?_) (fun hw2 => ?_)
    · skip
      refine g_iconst (v := 0) cx dX9_isSo_45 (by decide) ?_
      refine g_top (y := bI (mAg F sw sv (i + 1))) (bI_f (fun h => hw2 (fun j hj => h j (by omega)))) ?_
      refine g_istore_n (lv' := [(0, .ref (ad 0)), (1, .int c), (2, .int (bI (mAg F sw sv (i + 1)))), (3, .int (nI i))]) cx dX9_isSo_46 (by decide) rfl ?_
      refine g_iinc (x := nI i) (v := nI (i + 1)) (lv' := [(0, .ref (ad 0)), (1, .int c), (2, .int (bI (mAg F sw sv (i + 1)))), (3, .int (nI (i + 1)))]) cx dX9_isSo_47 rfl (by decide) (nI_add _ _) rfl ?_
      refine g_goto cx 9 dX9_isSo_50 (by decide) ?_
      exact ihi
    · skip
      refine g_aload_n (v := ad 0) cx dX9_isSo_21 rfl ?_
      refine g_get (v := .ref (ad 13)) cx fk_X9_47 dX9_isSo_22 0 rfl rfl ?_
      refine g_aload_n (v := ad 0) cx dX9_isSo_25 rfl ?_
      refine g_get (v := .ref (ad 7)) cx fk_X9_29 dX9_isSo_26 0 rfl rfl ?_
      refine g_iload_n (v := nI i) cx dX9_isSo_29 rfl ?_
      refine g_iald cx dX9_isSo_30 7 i rfl (rfl) (by omega) (by first | decide | omega) ?_
      refine g_top (y := sw i) (rfl) ?_
      refine g_iald cx dX9_isSo_31 13 (sn sw i) rfl (hsi) (by omega) (by first | decide | omega) ?_
      refine g_top (y := F (sn sw i)) (rfl) ?_
      refine g_aload_n (v := ad 0) cx dX9_isSo_32 rfl ?_
      refine g_get (v := .ref (ad 8)) cx fk_X9_32 dX9_isSo_33 0 rfl rfl ?_
      refine g_iload_n (v := nI i) cx dX9_isSo_36 rfl ?_
      refine g_iald cx dX9_isSo_37 8 i rfl (rfl) (by omega) (by first | decide | omega) ?_
      refine g_top (y := sv i) (rfl) ?_
      refine g_icmp_ne cx 45 dX9_isSo_38 (by decide) (fun hw3 => ?_) (fun hw3 => ?_)
      · skip
        refine g_iconst (v := 0) cx dX9_isSo_45 (by decide) ?_
        refine g_top (y := bI (mAg F sw sv (i + 1))) (bI_f (fun h => hw3 (h i (by omega)))) ?_
        refine g_istore_n (lv' := [(0, .ref (ad 0)), (1, .int c), (2, .int (bI (mAg F sw sv (i + 1)))), (3, .int (nI i))]) cx dX9_isSo_46 (by decide) rfl ?_
        refine g_iinc (x := nI i) (v := nI (i + 1)) (lv' := [(0, .ref (ad 0)), (1, .int c), (2, .int (bI (mAg F sw sv (i + 1)))), (3, .int (nI (i + 1)))]) cx dX9_isSo_47 rfl (by decide) (nI_add _ _) rfl ?_
        refine g_goto cx 9 dX9_isSo_50 (by decide) ?_
        exact ihi
      · skip
        refine g_iconst (v := 1) cx dX9_isSo_41 (by decide) ?_
        refine g_goto cx 46 dX9_isSo_42 (by decide) ?_
        refine g_top (y := bI (mAg F sw sv (i + 1))) (bI_t (mAg_s hw2 hw3)) ?_
        refine g_istore_n (lv' := [(0, .ref (ad 0)), (1, .int c), (2, .int (bI (mAg F sw sv (i + 1)))), (3, .int (nI i))]) cx dX9_isSo_46 (by decide) rfl ?_
        refine g_iinc (x := nI i) (v := nI (i + 1)) (lv' := [(0, .ref (ad 0)), (1, .int c), (2, .int (bI (mAg F sw sv (i + 1)))), (3, .int (nI (i + 1)))]) cx dX9_isSo_47 rfl (by decide) (nI_add _ _) rfl ?_
        refine g_goto cx 9 dX9_isSo_50 (by decide) ?_
        exact ihi
  · skip
    refine g_iload_n (v := nI k) cx dX9_isSo_9 rfl ?_
    refine g_aload_n (v := ad 0) cx dX9_isSo_10 rfl ?_
    refine g_get (v := .int (nI k)) cx fk_X9_195 dX9_isSo_11 0 rfl rfl ?_
    refine g_icmp_ge cx 53 dX9_isSo_14 (by decide) (fun hw4 => ?_) (fun hw4 => absurd (rf_geMP rfl rfl (by omega) (by omega) (by omega)) hw4)
    refine g_iload_n (v := bI (mAg F sw sv k)) cx dX9_isSo_53 rfl ?_
    exact hret _ _ _ _ dX9_isSo_54 (by first | rfl | exact rf_bnar) ⟨rfl, rfl⟩
def rm_X9_findLinks : Room := { frames := 5, cells := 0, slots := 0, locals := 122 }
set_option maxRecDepth 100000 in
set_option maxHeartbeats 4000000 in
theorem c_X9_findLinks (V : VT) (ad : Nat → Nat) (nw rw ps im kp tx sw sv da co pl me fa ao al : Nat → Int32) (de le ax ta ts tv il : Int32) (n : Nat) (hn : nw 0 = nI n) (hn6 : n ≤ 6) (o : Nat) (ho : nw 3 = nI o) (ho4 : o ≤ 4) (hat : okAM nw o) (k : Nat) (hk6 : k ≤ 6) (hsw : okSw sw k) (m : Nat) (hm : nw 0 + nw 1 = nI m) (hm7 : m ≤ 7) (hcj : ∀ j, j < m → okc nw (nw 16 ||| ((1 : Int32) <<< (nI j &&& 31))) n) : CI V yX9_findLinks cX9_findLinks 4 .int rm_X9_findLinks [.ref (ad 0)] (wMo V ad nw rw ps im kp tx sw sv da co pl me fa ao al de le ax ta ts tv (nI k) il) (fun r_ w_ => r_ = (fkN n o k sw sv m (0, ((nw, da, co, pl, me), fa, ao), al)).1 ∧ w_ = wMo V ad ((fkN n o k sw sv m (0, ((nw, da, co, pl, me), fa, ao), al)).2.1.1.1) rw ps im kp tx sw sv ((fkN n o k sw sv m (0, ((nw, da, co, pl, me), fa, ao), al)).2.1.1.2.1) ((fkN n o k sw sv m (0, ((nw, da, co, pl, me), fa, ao), al)).2.1.1.2.2.1) ((fkN n o k sw sv m (0, ((nw, da, co, pl, me), fa, ao), al)).2.1.1.2.2.2.1) ((fkN n o k sw sv m (0, ((nw, da, co, pl, me), fa, ao), al)).2.1.1.2.2.2.2) ((fkN n o k sw sv m (0, ((nw, da, co, pl, me), fa, ao), al)).2.1.2.1) ((fkN n o k sw sv m (0, ((nw, da, co, pl, me), fa, ao), al)).2.1.2.2) ((fkN n o k sw sv m (0, ((nw, da, co, pl, me), fa, ao), al)).2.2) de le ax ta ts tv (nI k) il) := by
  refine CI_intro (by decide) (Nat.le_of_ble_eq_true rfl) (fun K cx hret => ?_)
  show G V K 4 0 0 (wMo V ad nw rw ps im kp tx sw sv da co pl me fa ao al de le ax ta ts tv (nI k) il) 0 [(0, .ref (ad 0))] []
  refine g_iconst (v := 0) cx dX9_findLinks_0 (by decide) ?_
  refine g_istore_n (lv' := [(0, .ref (ad 0)), (1, .int 0)]) cx dX9_findLinks_1 (by decide) rfl ?_
  refine g_iconst (v := 0) cx dX9_findLinks_2 (by decide) ?_
  refine g_istore_n (lv' := [(0, .ref (ad 0)), (1, .int 0), (2, .int 0)]) cx dX9_findLinks_3 (by decide) rfl ?_
  refine rf_dn (P := fun j => G V K 4 0 0 (wMo V ad ((fkN n o k sw sv j (0, ((nw, da, co, pl, me), fa, ao), al)).2.1.1.1) rw ps im kp tx sw sv ((fkN n o k sw sv j (0, ((nw, da, co, pl, me), fa, ao), al)).2.1.1.2.1) ((fkN n o k sw sv j (0, ((nw, da, co, pl, me), fa, ao), al)).2.1.1.2.2.1) ((fkN n o k sw sv j (0, ((nw, da, co, pl, me), fa, ao), al)).2.1.1.2.2.2.1) ((fkN n o k sw sv j (0, ((nw, da, co, pl, me), fa, ao), al)).2.1.1.2.2.2.2) ((fkN n o k sw sv j (0, ((nw, da, co, pl, me), fa, ao), al)).2.1.2.1) ((fkN n o k sw sv j (0, ((nw, da, co, pl, me), fa, ao), al)).2.1.2.2) ((fkN n o k sw sv j (0, ((nw, da, co, pl, me), fa, ao), al)).2.2) de le ax ta ts tv (nI k) il) 4 [(0, .ref (ad 0)), (1, .int ((fkN n o k sw sv j (0, ((nw, da, co, pl, me), fa, ao), al)).1)), (2, .int (nI j))] []) (m) (fun j hj ihj => ?_) ?_
  · skip
    have hjm : j < m := hj
    have e1 : fkN n o k sw sv (j + 1) (0, ((nw, da, co, pl, me), fa, ao), al) = fkStep n o k sw sv j (fkN n o k sw sv j (0, ((nw, da, co, pl, me), fa, ao), al)) := rfl
    rw [e1] at ihj
    clear e1
    have hk : mS9 nw (fkN n o k sw sv j (0, ((nw, da, co, pl, me), fa, ao), al)).2.1.1.1 := fkN_k (t := (0, ((nw, da, co, pl, me), fa, ao), al)) j
    generalize fkN n o k sw sv j (0, ((nw, da, co, pl, me), fa, ao), al) = T at ihj hk ⊢
    obtain ⟨Z, ⟨⟨N, D, C, P, E⟩, F, O⟩, Al⟩ := T
    have hk : mS9 nw N := hk
    have hnN : N 0 = nI n := (hk 0 (by omega)).trans hn
    have hoN : N 3 = nI o := (hk 3 (by omega)).trans ho
    have hmN : N 0 + N 1 = nI m := by rw [hk 0 (by omega), hk 1 (by omega)]; exact hm
    have hatN : okAM N o := hat.s9 ho4 hk
    have hcX : okc N (N 16 ||| ((1 : Int32) <<< (nI j &&& 31))) n := by have h16 : N 16 = nw 16 := hk 16 (by omega); rw [h16]; exact (hcj j hjm).s9 hk
    unfold fkStep at ihj
    dsimp only at ihj
    refine g_iload_n (v := nI j) cx dX9_findLinks_4 rfl ?_
    refine g_aload_n (v := ad 0) cx dX9_findLinks_5 rfl ?_
    refine w_calli (r0 := N 0 + N 1) (ws' := wMo V ad N rw ps im kp tx sw sv D C P E F O Al de le ax ta ts tv (nI k) il) (As := []) (rest := [.int (nI j)]) cx (c_X9_links V ad N rw ps im kp tx sw sv D C P E F O Al de le ax ta ts tv (nI k) il) ml_X9_167 dX9_findLinks_6 (q0 := 0) rfl rfl rfl rfl rfl (Nat.le_of_ble_eq_true rfl) ⟨Nat.le_of_ble_eq_true rfl, Nat.le_of_ble_eq_true rfl⟩ ⟨Nat.le_refl _, Nat.le_refl _⟩ ?_
    refine g_icmp_ge cx 87 dX9_findLinks_9 (by decide) (fun hw1 => absurd hw1 (rf_geMN rfl hmN (by omega) (by omega) (by omega))) (fun hw1 => ?_)
    refine g_aload_n (v := ad 0) cx dX9_findLinks_12 rfl ?_
    refine g_get (v := .ref (ad 1)) cx fk_X9_7 dX9_findLinks_13 0 rfl rfl ?_
    refine g_bipush (v := 16) cx dX9_findLinks_16 (by decide) ?_
    refine g_iald cx dX9_findLinks_18 1 16 rfl (nl 16) (by omega) (by first | decide | omega) ?_
    refine g_top (y := N 16) (rfl) ?_
    refine g_iload_n (v := nI j) cx dX9_findLinks_19 rfl ?_
    refine k_callsi (r0 := bI (hasB (N 16) j)) (ws' := wMo V ad N rw ps im kp tx sw sv D C P E F O Al de le ax ta ts tv (nI k) il) (As := [.int (N 16), .int (nI j)]) (rest := []) cx (c_X9_has V (N 16) (nI j) j rfl) ml_X9_124 dX9_findLinks_20 [] rfl rfl [] rfl rfl rfl rfl rfl (Nat.le_of_ble_eq_true rfl) ⟨Nat.le_of_ble_eq_true rfl, Nat.le_of_ble_eq_true rfl⟩ ⟨Nat.le_refl _, Nat.le_refl _⟩ ?_
    refine g_if_ne_b cx 81 dX9_findLinks_23 (by decide) (fun hw2 => ?_) (fun hw2 => ?_)
    · skip
      refine g_iinc (x := nI j) (v := nI (j + 1)) (lv' := [(0, .ref (ad 0)), (1, .int Z), (2, .int (nI (j + 1)))]) cx dX9_findLinks_81 rfl (by decide) (nI_add _ _) rfl ?_
      refine g_goto cx 4 dX9_findLinks_84 (by decide) ?_
      rw [if_pos hw2] at ihj
      exact ihj
    · skip
      refine g_aload_n (v := ad 0) cx dX9_findLinks_26 rfl ?_
      refine g_aload_n (v := ad 0) cx dX9_findLinks_27 rfl ?_
      refine g_get (v := .ref (ad 1)) cx fk_X9_7 dX9_findLinks_28 0 rfl rfl ?_
      refine g_bipush (v := 16) cx dX9_findLinks_31 (by decide) ?_
      refine g_iald cx dX9_findLinks_33 1 16 rfl (nl 16) (by omega) (by first | decide | omega) ?_
      refine g_top (y := N 16) (rfl) ?_
      refine g_iconst (v := 1) cx dX9_findLinks_34 (by decide) ?_
      refine g_iload_n (v := nI j) cx dX9_findLinks_35 rfl ?_
      refine g_ishl cx dX9_findLinks_36 ?_
      refine g_ior cx dX9_findLinks_37 ?_
      refine w_calli (r0 := bI (mAg (mFF n o ((N 16) ||| ((1 : Int32) <<< ((nI j) &&& 31))) ((N, D, C, P, E), F, O)).2.1 sw sv k)) (ws' := wMo V ad ((mFF n o ((N 16) ||| ((1 : Int32) <<< ((nI j) &&& 31))) ((N, D, C, P, E), F, O)).1.1) rw ps im kp tx sw sv ((mFF n o ((N 16) ||| ((1 : Int32) <<< ((nI j) &&& 31))) ((N, D, C, P, E), F, O)).1.2.1) ((mFF n o ((N 16) ||| ((1 : Int32) <<< ((nI j) &&& 31))) ((N, D, C, P, E), F, O)).1.2.2.1) ((mFF n o ((N 16) ||| ((1 : Int32) <<< ((nI j) &&& 31))) ((N, D, C, P, E), F, O)).1.2.2.2.1) ((mFF n o ((N 16) ||| ((1 : Int32) <<< ((nI j) &&& 31))) ((N, D, C, P, E), F, O)).1.2.2.2.2) ((mFF n o ((N 16) ||| ((1 : Int32) <<< ((nI j) &&& 31))) ((N, D, C, P, E), F, O)).2.1) ((mFF n o ((N 16) ||| ((1 : Int32) <<< ((nI j) &&& 31))) ((N, D, C, P, E), F, O)).2.2) Al de le ax ta ts tv (nI k) il) (As := [.int ((N 16) ||| ((1 : Int32) <<< ((nI j) &&& 31)))]) (rest := []) cx (c_X9_isSo V ad N rw ps im kp tx sw sv D C P E F O Al de le ax ta ts tv il ((N 16) ||| ((1 : Int32) <<< ((nI j) &&& 31))) n hnN (by omega) o hoN (by omega) hcX hatN k (by omega) hsw) ml_X9_198 dX9_findLinks_38 (q0 := 0) rfl rfl rfl rfl rfl (Nat.le_of_ble_eq_true rfl) ⟨Nat.le_of_ble_eq_true rfl, Nat.le_of_ble_eq_true rfl⟩ ⟨Nat.le_refl _, Nat.le_refl _⟩ ?_
      generalize hWg : mFF n o (N 16 ||| ((1 : Int32) <<< (nI j &&& 31))) ((N, D, C, P, E), F, O) = W
      refine g_if_eq_b cx 81 dX9_findLinks_41 (by decide) (fun hw3 => ?_) (fun hw3 => ?_)
      · skip
        refine g_iinc (x := nI j) (v := nI (j + 1)) (lv' := [(0, .ref (ad 0)), (1, .int Z), (2, .int (nI (j + 1)))]) cx dX9_findLinks_81 rfl (by decide) (nI_add _ _) rfl ?_
        refine g_goto cx 4 dX9_findLinks_84 (by decide) ?_
        rw [if_neg hw2, hWg, if_neg hw3] at ihj
        exact ihj
      · skip
        refine g_iload_n (v := Z) cx dX9_findLinks_44 rfl ?_
        refine g_iconst (v := 1) cx dX9_findLinks_45 (by decide) ?_
        refine g_iload_n (v := nI j) cx dX9_findLinks_46 rfl ?_
        refine g_ishl cx dX9_findLinks_47 ?_
        refine g_ior cx dX9_findLinks_48 ?_
        refine g_istore_n (lv' := [(0, .ref (ad 0)), (1, .int (Z ||| ((1 : Int32) <<< ((nI j) &&& 31)))), (2, .int (nI j))]) cx dX9_findLinks_49 (by decide) rfl ?_
        refine g_iconst (v := 0) cx dX9_findLinks_50 (by decide) ?_
        refine g_istore_n (lv' := [(0, .ref (ad 0)), (1, .int (Z ||| ((1 : Int32) <<< ((nI j) &&& 31)))), (2, .int (nI j)), (3, .int 0)]) cx dX9_findLinks_51 (by decide) rfl ?_
        refine rf_dn (P := fun i => G V K 4 0 0 (wMo V ad W.1.1 rw ps im kp tx sw sv W.1.2.1 W.1.2.2.1 W.1.2.2.2.1 W.1.2.2.2.2 W.2.1 W.2.2 (mAl W.2.1 Al j i) de le ax ta ts tv (nI k) il) 52 [(0, .ref (ad 0)), (1, .int (Z ||| ((1 : Int32) <<< ((nI j) &&& 31)))), (2, .int (nI j)), (3, .int (nI i))] []) (6) (fun i hi ihi => ?_) ?_
        · skip
          have hi6 : i < 6 := hi
          refine g_iload_n (v := nI i) cx dX9_findLinks_52 rfl ?_
          refine g_bipush (v := 6) cx dX9_findLinks_53 (by decide) ?_
          refine g_icmp_ge cx 81 dX9_findLinks_55 (by decide) (fun hw4 => absurd hw4 (rf_geMN rfl (nl 6) (by omega) (by omega) (by omega))) (fun hw4 => ?_)
          refine g_aload_n (v := ad 0) cx dX9_findLinks_58 rfl ?_
          refine g_get (v := .ref (ad 15)) cx fk_X9_53 dX9_findLinks_59 0 rfl rfl ?_
          refine g_bipush (v := 6) cx dX9_findLinks_62 (by decide) ?_
          refine g_iload_n (v := nI j) cx dX9_findLinks_64 rfl ?_
          refine g_imul cx dX9_findLinks_65 ?_
          refine g_iload_n (v := nI i) cx dX9_findLinks_66 rfl ?_
          refine g_iadd cx dX9_findLinks_67 ?_
          refine g_aload_n (v := ad 0) cx dX9_findLinks_68 rfl ?_
          refine g_get (v := .ref (ad 13)) cx fk_X9_47 dX9_findLinks_69 0 rfl rfl ?_
          refine g_iload_n (v := nI i) cx dX9_findLinks_72 rfl ?_
          refine g_iald cx dX9_findLinks_73 13 i rfl (rfl) (by omega) (by first | decide | omega) ?_
          refine g_top (y := W.2.1 i) (rfl) ?_
          refine g_iast (ws' := wMo V ad W.1.1 rw ps im kp tx sw sv W.1.2.1 W.1.2.2.1 W.1.2.2.2.1 W.1.2.2.2.2 W.2.1 W.2.2 (upd (mAl W.2.1 Al j i) ((6 * j) + i) (W.2.1 i)) de le ax ta ts tv (nI k) il) cx dX9_findLinks_74 15 ((6 * j) + i) rfl (rf_add (rf_mul (nl 6) rfl) rfl) (by omega) (by first | decide | omega) rfl ?_
          refine g_iinc (x := nI i) (v := nI (i + 1)) (lv' := [(0, .ref (ad 0)), (1, .int (Z ||| ((1 : Int32) <<< ((nI j) &&& 31)))), (2, .int (nI j)), (3, .int (nI (i + 1)))]) cx dX9_findLinks_75 rfl (by decide) (nI_add _ _) rfl ?_
          refine g_goto cx 52 dX9_findLinks_78 (by decide) ?_
          exact ihi
        · skip
          refine g_iload_n (v := nI 6) cx dX9_findLinks_52 rfl ?_
          refine g_bipush (v := 6) cx dX9_findLinks_53 (by decide) ?_
          refine g_icmp_ge cx 81 dX9_findLinks_55 (by decide) (fun hw5 => ?_) (fun hw5 => absurd (rf_geMP rfl (nl 6) (by omega) (by omega) (by omega)) hw5)
          refine g_iinc (x := nI j) (v := nI (j + 1)) (lv' := [(0, .ref (ad 0)), (1, .int (Z ||| ((1 : Int32) <<< ((nI j) &&& 31)))), (2, .int (nI (j + 1))), (3, .int (nI 6))]) cx dX9_findLinks_81 rfl (by decide) (nI_add _ _) rfl ?_
          refine g_goto cx 4 dX9_findLinks_84 (by decide) ?_
          refine g_lvk (lv' := [(0, .ref (ad 0)), (1, .int (Z ||| ((1 : Int32) <<< ((nI j) &&& 31)))), (2, .int (nI (j + 1)))]) [0, 1, 2] rfl ?_
          rw [if_neg hw2, hWg, if_pos hw3] at ihj
          exact ihj
  · skip
    have hmX : (fkN n o k sw sv m (0, ((nw, da, co, pl, me), fa, ao), al)).2.1.1.1 0 + (fkN n o k sw sv m (0, ((nw, da, co, pl, me), fa, ao), al)).2.1.1.1 1 = nI m := by rw [fkN_k (t := (0, ((nw, da, co, pl, me), fa, ao), al)) m 0 (by omega), fkN_k (t := (0, ((nw, da, co, pl, me), fa, ao), al)) m 1 (by omega)]; exact hm
    refine g_iload_n (v := nI m) cx dX9_findLinks_4 rfl ?_
    refine g_aload_n (v := ad 0) cx dX9_findLinks_5 rfl ?_
    refine w_calli (r0 := ((fkN n o k sw sv m (0, ((nw, da, co, pl, me), fa, ao), al)).2.1.1.1) 0 + ((fkN n o k sw sv m (0, ((nw, da, co, pl, me), fa, ao), al)).2.1.1.1) 1) (ws' := wMo V ad ((fkN n o k sw sv m (0, ((nw, da, co, pl, me), fa, ao), al)).2.1.1.1) rw ps im kp tx sw sv ((fkN n o k sw sv m (0, ((nw, da, co, pl, me), fa, ao), al)).2.1.1.2.1) ((fkN n o k sw sv m (0, ((nw, da, co, pl, me), fa, ao), al)).2.1.1.2.2.1) ((fkN n o k sw sv m (0, ((nw, da, co, pl, me), fa, ao), al)).2.1.1.2.2.2.1) ((fkN n o k sw sv m (0, ((nw, da, co, pl, me), fa, ao), al)).2.1.1.2.2.2.2) ((fkN n o k sw sv m (0, ((nw, da, co, pl, me), fa, ao), al)).2.1.2.1) ((fkN n o k sw sv m (0, ((nw, da, co, pl, me), fa, ao), al)).2.1.2.2) ((fkN n o k sw sv m (0, ((nw, da, co, pl, me), fa, ao), al)).2.2) de le ax ta ts tv (nI k) il) (As := []) (rest := [.int (nI m)]) cx (c_X9_links V ad ((fkN n o k sw sv m (0, ((nw, da, co, pl, me), fa, ao), al)).2.1.1.1) rw ps im kp tx sw sv ((fkN n o k sw sv m (0, ((nw, da, co, pl, me), fa, ao), al)).2.1.1.2.1) ((fkN n o k sw sv m (0, ((nw, da, co, pl, me), fa, ao), al)).2.1.1.2.2.1) ((fkN n o k sw sv m (0, ((nw, da, co, pl, me), fa, ao), al)).2.1.1.2.2.2.1) ((fkN n o k sw sv m (0, ((nw, da, co, pl, me), fa, ao), al)).2.1.1.2.2.2.2) ((fkN n o k sw sv m (0, ((nw, da, co, pl, me), fa, ao), al)).2.1.2.1) ((fkN n o k sw sv m (0, ((nw, da, co, pl, me), fa, ao), al)).2.1.2.2) ((fkN n o k sw sv m (0, ((nw, da, co, pl, me), fa, ao), al)).2.2) de le ax ta ts tv (nI k) il) ml_X9_167 dX9_findLinks_6 (q0 := 0) rfl rfl rfl rfl rfl (Nat.le_of_ble_eq_true rfl) ⟨Nat.le_of_ble_eq_true rfl, Nat.le_of_ble_eq_true rfl⟩ ⟨Nat.le_refl _, Nat.le_refl _⟩ ?_
    refine g_icmp_ge cx 87 dX9_findLinks_9 (by decide) (fun hw6 => ?_) (fun hw6 => absurd (rf_geMP rfl hmX (by omega) (by omega) (by omega)) hw6)
    refine g_iload_n (v := (fkN n o k sw sv m (0, ((nw, da, co, pl, me), fa, ao), al)).1) cx dX9_findLinks_87 rfl ?_
    exact hret _ _ _ _ dX9_findLinks_88 (rfl) ⟨rfl, rfl⟩
