def sn (sw : Nat → Int32) (i : Nat) : Nat := (sw i).toNatClampNeg
def okSw (sw : Nat → Int32) (k : Nat) : Prop := ∀ i, i < k → sw i = nI (sn sw i) ∧ sn sw i < 6
def okM (nw sw : Nat → Int32) (s z k n o m : Nat) : Prop := s ≤ 6 ∧ z ≤ 120 ∧ k ≤ 6 ∧ nw 0 = nI n ∧ n ≤ 6 ∧ 1 ≤ n ∧ nw 3 = nI o ∧ o ≤ 4 ∧ nw 0 + nw 1 = nI m ∧ m ≤ 7 ∧ okAM nw o ∧ okc nw (nw 16) n ∧ (∀ j, j < m → okc nw (nw 16 ||| ((1 : Int32) <<< (nI j &&& 31))) n) ∧ okSw sw k
def mSafe (nw : Nat → Int32) (n : Nat) : Int32 := fl (fun i a => a + nw (17 + 9 * i + 6)) n 0
def mOff (nw : Nat → Int32) (d : Nat) : Int32 := nw (17 + 9 * d + 7) - nw (17 + 9 * d + 8)
def mMin (nw : Nat → Int32) (n : Nat) : Int32 := fl (fun i a => if mOff nw (1 + i) < a then mOff nw (1 + i) else a) n (mOff nw 0)
def mMax (nw : Nat → Int32) (n : Nat) : Int32 := fl (fun i a => if a < mOff nw (1 + i) then mOff nw (1 + i) else a) n (mOff nw 0)
def mFr (Q nw : Nat → Int32) (n : Nat) : Nat → Int32 := fl (fun k g => upd g (71 + k) (Q (71 + k))) n nw
def mFrm (Q nw : Nat → Int32) : Nat → Int32 := upd (upd (upd (upd (mFr Q nw 28) 3 (Q 3)) 4 0) 5 (-9)) 6 (-9)
def mL (nw : Nat → Int32) (c : Int32) (n : Nat) : Nat := if nw 1 = 1 ∧ c = 0 then 0 else mA c n
def mMe (e f : Nat) (N : Nat → Int32) (n : Nat) : (Nat → Int32) × Int32 := fl (fun d t => if d < e ∨ f ≤ d then (upd t.1 (17 + 9 * d + 8) (t.1 (17 + 9 * d + 7)), t.2 + 1) else t) n (N, 0)
theorem mMe_0 {e f : Nat} {N : Nat → Int32} (n : Nat) : (mMe e f N n).1 0 = N 0 := fl_inv (σ := (Nat → Int32) × Int32) (fun t => t.1 0 = N 0) rfl (fun d t h => by
  by_cases c : d < e ∨ f ≤ d
  · simp only [if_pos c]; rw [pk_un (by omega)]; exact h
  · simp only [if_neg c]; exact h) n
def mCyN (n o : Nat) (i : Nat) (s : M5) : M5 := fl (fun _ s => mCyc n o s.1 s.2.1 s.2.2.1 s.2.2.2.1 s.2.2.2.2) i s
theorem mCk.rf {nw : Nat → Int32} : mCk nw nw := fun _ _ => rfl
theorem mCk.tr {a b c : Nat → Int32} (h : mCk a b) (g : mCk b c) : mCk a c := fun k hk => (g k hk).trans (h k hk)
theorem okAM.ck {nw N : Nat → Int32} {o : Nat} (h : okAM nw o) (ho : o ≤ 4) (k : mCk nw N) : okAM N o := fun i hi => by
  have e : N (71 + 5 * i + 3) = nw (71 + 5 * i + 3) := k _ (by omega)
  have e2 : mt N i = mt nw i := by unfold mt; rw [e]
  rw [e2, e]; exact h i hi
theorem okc.ck {nw N : Nat → Int32} {c : Int32} {n : Nat} (h : okc nw c n) (k : mCk nw N) : okc N c n := by unfold okc; rw [k 1 (by omega)]; exact h
theorem mCyN_k {n o : Nat} {s : M5} (hn : n ≤ 6) (ho : o ≤ 4) (h : okAM s.1 o) : ∀ i, mCk s.1 (mCyN n o i s).1
  | 0 => mCk.rf
  | i + 1 => (mCyN_k hn ho h i).tr (mCyc_k hn (h.ck ho (mCyN_k hn ho h i)))
def rm_X9_isLink : Room := { frames := 1, cells := 0, slots := 0, locals := 22 }
set_option maxRecDepth 100000 in
set_option maxHeartbeats 4000000 in
theorem c_X9_isLink (V : VT) (ad : Nat → Nat) (nw rw ps im kp tx sw sv da co pl me fa ao al : Nat → Int32) (de le ax ta ts tv se il : Int32) (x : Int32) : CI V yX9_isLink cX9_isLink 2 .boolean rm_X9_isLink [.ref (ad 0), .int x] (wMo V ad nw rw ps im kp tx sw sv da co pl me fa ao al de le ax ta ts tv se il) (fun r_ w_ => r_ = bI (¬ x < 0 ∧ ¬ nw 0 + nw 1 - 1 < x) ∧ w_ = wMo V ad nw rw ps im kp tx sw sv da co pl me fa ao al de le ax ta ts tv se il) := by
  refine CI_intro (by decide) (Nat.le_of_ble_eq_true rfl) (fun K cx hret => ?_)
  show G V K 2 0 0 (wMo V ad nw rw ps im kp tx sw sv da co pl me fa ao al de le ax ta ts tv se il) 0 [(0, .ref (ad 0)), (1, .int x)] []
  refine g_iload_n (v := x) cx dX9_isLink_0 rfl ?_
  refine g_iconst (v := 0) cx dX9_isLink_1 (by decide) ?_
  refine g_aload_n (v := ad 0) cx dX9_isLink_2 rfl ?_
  refine w_calli (r0 := nw 0 + nw 1) (ws' := wMo V ad nw rw ps im kp tx sw sv da co pl me fa ao al de le ax ta ts tv se il) (As := []) (rest := [.int 0, .int x]) cx (c_X9_links V ad nw rw ps im kp tx sw sv da co pl me fa ao al de le ax ta ts tv se il) ml_X9_167 dX9_isLink_3 (q0 := 0) rfl rfl rfl rfl rfl (Nat.le_of_ble_eq_true rfl) ⟨Nat.le_of_ble_eq_true rfl, Nat.le_of_ble_eq_true rfl⟩ ⟨Nat.le_refl _, Nat.le_refl _⟩ ?_
  refine g_iconst (v := 1) cx dX9_isLink_6 (by decide) ?_
  refine g_isub cx dX9_isLink_7 ?_
  refine k_callsi (r0 := bI (¬ x < 0 ∧ ¬ ((nw 0 + nw 1) - 1) < x)) (ws' := wMo V ad nw rw ps im kp tx sw sv da co pl me fa ao al de le ax ta ts tv se il) (As := [.int x, .int 0, .int ((nw 0 + nw 1) - 1)]) (rest := []) cx (c_X9_in V x 0 ((nw 0 + nw 1) - 1)) ml_X9_76 dX9_isLink_8 [] rfl rfl [] rfl rfl rfl rfl rfl (Nat.le_of_ble_eq_true rfl) ⟨Nat.le_of_ble_eq_true rfl, Nat.le_of_ble_eq_true rfl⟩ ⟨Nat.le_refl _, Nat.le_refl _⟩ ?_
  exact hret _ _ _ _ dX9_isLink_11 (by first | rfl | exact rf_bnar) ⟨rfl, rfl⟩
def rm_X9_isDrive : Room := { frames := 1, cells := 0, slots := 0, locals := 22 }
set_option maxRecDepth 100000 in
set_option maxHeartbeats 4000000 in
theorem c_X9_isDrive (V : VT) (ad : Nat → Nat) (nw rw ps im kp tx sw sv da co pl me fa ao al : Nat → Int32) (de le ax ta ts tv se il : Int32) (x : Int32) : CI V yX9_isDrive cX9_isDrive 2 .boolean rm_X9_isDrive [.ref (ad 0), .int x] (wMo V ad nw rw ps im kp tx sw sv da co pl me fa ao al de le ax ta ts tv se il) (fun r_ w_ => r_ = bI (¬ x < 0 ∧ ¬ nw 0 - 1 < x) ∧ w_ = wMo V ad nw rw ps im kp tx sw sv da co pl me fa ao al de le ax ta ts tv se il) := by
  refine CI_intro (by decide) (Nat.le_of_ble_eq_true rfl) (fun K cx hret => ?_)
  show G V K 2 0 0 (wMo V ad nw rw ps im kp tx sw sv da co pl me fa ao al de le ax ta ts tv se il) 0 [(0, .ref (ad 0)), (1, .int x)] []
  refine g_iload_n (v := x) cx dX9_isDrive_0 rfl ?_
  refine g_iconst (v := 0) cx dX9_isDrive_1 (by decide) ?_
  refine g_aload_n (v := ad 0) cx dX9_isDrive_2 rfl ?_
  refine g_get (v := .ref (ad 1)) cx fk_X9_7 dX9_isDrive_3 0 rfl rfl ?_
  refine g_iconst (v := 0) cx dX9_isDrive_6 (by decide) ?_
  refine g_iald cx dX9_isDrive_7 1 0 rfl (nl 0) (by omega) (by first | decide | omega) ?_
  refine g_top (y := nw 0) (rfl) ?_
  refine g_iconst (v := 1) cx dX9_isDrive_8 (by decide) ?_
  refine g_isub cx dX9_isDrive_9 ?_
  refine k_callsi (r0 := bI (¬ x < 0 ∧ ¬ ((nw 0) - 1) < x)) (ws' := wMo V ad nw rw ps im kp tx sw sv da co pl me fa ao al de le ax ta ts tv se il) (As := [.int x, .int 0, .int ((nw 0) - 1)]) (rest := []) cx (c_X9_in V x 0 ((nw 0) - 1)) ml_X9_76 dX9_isDrive_10 [] rfl rfl [] rfl rfl rfl rfl rfl (Nat.le_of_ble_eq_true rfl) ⟨Nat.le_of_ble_eq_true rfl, Nat.le_of_ble_eq_true rfl⟩ ⟨Nat.le_refl _, Nat.le_refl _⟩ ?_
  exact hret _ _ _ _ dX9_isDrive_13 (by first | rfl | exact rf_bnar) ⟨rfl, rfl⟩
def rm_X9_isOrder : Room := { frames := 1, cells := 0, slots := 0, locals := 22 }
set_option maxRecDepth 100000 in
set_option maxHeartbeats 4000000 in
theorem c_X9_isOrder (V : VT) (ad : Nat → Nat) (nw rw ps im kp tx sw sv da co pl me fa ao al : Nat → Int32) (de le ax ta ts tv se il : Int32) (x : Int32) : CI V yX9_isOrder cX9_isOrder 2 .boolean rm_X9_isOrder [.ref (ad 0), .int x] (wMo V ad nw rw ps im kp tx sw sv da co pl me fa ao al de le ax ta ts tv se il) (fun r_ w_ => r_ = bI (¬ x < 0 ∧ ¬ nw 3 - 1 < x) ∧ w_ = wMo V ad nw rw ps im kp tx sw sv da co pl me fa ao al de le ax ta ts tv se il) := by
  refine CI_intro (by decide) (Nat.le_of_ble_eq_true rfl) (fun K cx hret => ?_)
  show G V K 2 0 0 (wMo V ad nw rw ps im kp tx sw sv da co pl me fa ao al de le ax ta ts tv se il) 0 [(0, .ref (ad 0)), (1, .int x)] []
  refine g_iload_n (v := x) cx dX9_isOrder_0 rfl ?_
  refine g_iconst (v := 0) cx dX9_isOrder_1 (by decide) ?_
  refine g_aload_n (v := ad 0) cx dX9_isOrder_2 rfl ?_
  refine g_get (v := .ref (ad 1)) cx fk_X9_7 dX9_isOrder_3 0 rfl rfl ?_
  refine g_iconst (v := 3) cx dX9_isOrder_6 (by decide) ?_
  refine g_iald cx dX9_isOrder_7 1 3 rfl (nl 3) (by omega) (by first | decide | omega) ?_
  refine g_top (y := nw 3) (rfl) ?_
  refine g_iconst (v := 1) cx dX9_isOrder_8 (by decide) ?_
  refine g_isub cx dX9_isOrder_9 ?_
  refine k_callsi (r0 := bI (¬ x < 0 ∧ ¬ ((nw 3) - 1) < x)) (ws' := wMo V ad nw rw ps im kp tx sw sv da co pl me fa ao al de le ax ta ts tv se il) (As := [.int x, .int 0, .int ((nw 3) - 1)]) (rest := []) cx (c_X9_in V x 0 ((nw 3) - 1)) ml_X9_76 dX9_isOrder_10 [] rfl rfl [] rfl rfl rfl rfl rfl (Nat.le_of_ble_eq_true rfl) ⟨Nat.le_of_ble_eq_true rfl, Nat.le_of_ble_eq_true rfl⟩ ⟨Nat.le_refl _, Nat.le_refl _⟩ ?_
  exact hret _ _ _ _ dX9_isOrder_13 (by first | rfl | exact rf_bnar) ⟨rfl, rfl⟩
def rm_X9_offOf : Room := { frames := 0, cells := 0, slots := 0, locals := 0 }
set_option maxRecDepth 100000 in
set_option maxHeartbeats 4000000 in
theorem c_X9_offOf (V : VT) (ad : Nat → Nat) (nw rw ps im kp tx sw sv da co pl me fa ao al : Nat → Int32) (de le ax ta ts tv se il : Int32) (x : Int32) (d : Nat) (hd : x = nI d) (hd5 : d ≤ 5) : CI V yX9_offOf cX9_offOf 2 .int rm_X9_offOf [.ref (ad 0), .int x] (wMo V ad nw rw ps im kp tx sw sv da co pl me fa ao al de le ax ta ts tv se il) (fun r_ w_ => r_ = mOff nw d ∧ w_ = wMo V ad nw rw ps im kp tx sw sv da co pl me fa ao al de le ax ta ts tv se il) := by
  refine CI_intro (by decide) (Nat.le_of_ble_eq_true rfl) (fun K cx hret => ?_)
  show G V K 2 0 0 (wMo V ad nw rw ps im kp tx sw sv da co pl me fa ao al de le ax ta ts tv se il) 0 [(0, .ref (ad 0)), (1, .int x)] []
  refine g_aload_n (v := ad 0) cx dX9_offOf_0 rfl ?_
  refine g_get (v := .ref (ad 1)) cx fk_X9_7 dX9_offOf_1 0 rfl rfl ?_
  refine g_bipush (v := 17) cx dX9_offOf_4 (by decide) ?_
  refine g_bipush (v := 9) cx dX9_offOf_6 (by decide) ?_
  refine g_iload_n (v := x) cx dX9_offOf_8 rfl ?_
  refine g_imul cx dX9_offOf_9 ?_
  refine g_iadd cx dX9_offOf_10 ?_
  refine g_bipush (v := 7) cx dX9_offOf_11 (by decide) ?_
  refine g_iadd cx dX9_offOf_13 ?_
  refine g_iald cx dX9_offOf_14 1 ((17 + (9 * d)) + 7) rfl (rf_add (rf_add (nl 17) (rf_mul (nl 9) hd)) (nl 7)) (by omega) (by first | decide | omega) ?_
  refine g_top (y := nw ((17 + (9 * d)) + 7)) (rfl) ?_
  refine g_aload_n (v := ad 0) cx dX9_offOf_15 rfl ?_
  refine g_get (v := .ref (ad 1)) cx fk_X9_7 dX9_offOf_16 0 rfl rfl ?_
  refine g_bipush (v := 17) cx dX9_offOf_19 (by decide) ?_
  refine g_bipush (v := 9) cx dX9_offOf_21 (by decide) ?_
  refine g_iload_n (v := x) cx dX9_offOf_23 rfl ?_
  refine g_imul cx dX9_offOf_24 ?_
  refine g_iadd cx dX9_offOf_25 ?_
  refine g_bipush (v := 8) cx dX9_offOf_26 (by decide) ?_
  refine g_iadd cx dX9_offOf_28 ?_
  refine g_iald cx dX9_offOf_29 1 ((17 + (9 * d)) + 8) rfl (rf_add (rf_add (nl 17) (rf_mul (nl 9) hd)) (nl 8)) (by omega) (by first | decide | omega) ?_
  refine g_top (y := nw ((17 + (9 * d)) + 8)) (rfl) ?_
  refine g_isub cx dX9_offOf_30 ?_
  exact hret _ _ _ _ dX9_offOf_31 (rfl) ⟨rfl, rfl⟩
def rm_X9_safeMany : Room := { frames := 0, cells := 0, slots := 0, locals := 0 }
set_option maxRecDepth 100000 in
set_option maxHeartbeats 4000000 in
theorem c_X9_safeMany (V : VT) (ad : Nat → Nat) (nw rw ps im kp tx sw sv da co pl me fa ao al : Nat → Int32) (de le ax ta ts tv se il : Int32) (n : Nat) (hn : nw 0 = nI n) (hn6 : n ≤ 6) : CI V yX9_safeMany cX9_safeMany 3 .int rm_X9_safeMany [.ref (ad 0)] (wMo V ad nw rw ps im kp tx sw sv da co pl me fa ao al de le ax ta ts tv se il) (fun r_ w_ => r_ = mSafe nw n ∧ w_ = wMo V ad nw rw ps im kp tx sw sv da co pl me fa ao al de le ax ta ts tv se il) := by
  refine CI_intro (by decide) (Nat.le_of_ble_eq_true rfl) (fun K cx hret => ?_)
  show G V K 3 0 0 (wMo V ad nw rw ps im kp tx sw sv da co pl me fa ao al de le ax ta ts tv se il) 0 [(0, .ref (ad 0))] []
  refine g_iconst (v := 0) cx dX9_safeMany_0 (by decide) ?_
  refine g_istore_n (lv' := [(0, .ref (ad 0)), (1, .int 0)]) cx dX9_safeMany_1 (by decide) rfl ?_
  refine g_iconst (v := 0) cx dX9_safeMany_2 (by decide) ?_
  refine g_istore_n (lv' := [(0, .ref (ad 0)), (1, .int 0), (2, .int 0)]) cx dX9_safeMany_3 (by decide) rfl ?_
  refine rf_dn (P := fun i => G V K 3 0 0 (wMo V ad nw rw ps im kp tx sw sv da co pl me fa ao al de le ax ta ts tv se il) 4 [(0, .ref (ad 0)), (1, .int (mSafe nw i)), (2, .int (nI i))] []) (n) (fun i hi ihi => ?_) ?_
  · skip
    have hin : i < n := hi
    refine g_iload_n (v := nI i) cx dX9_safeMany_4 rfl ?_
    refine g_aload_n (v := ad 0) cx dX9_safeMany_5 rfl ?_
    refine g_get (v := .ref (ad 1)) cx fk_X9_7 dX9_safeMany_6 0 rfl rfl ?_
    refine g_iconst (v := 0) cx dX9_safeMany_9 (by decide) ?_
    refine g_iald cx dX9_safeMany_10 1 0 rfl (nl 0) (by omega) (by first | decide | omega) ?_
    refine g_top (y := nw 0) (rfl) ?_
    refine g_icmp_ge cx 38 dX9_safeMany_11 (by decide) (fun hw1 => absurd hw1 (rf_geMN rfl hn (by omega) (by omega) (by omega))) (fun hw1 => ?_)
    refine g_iload_n (v := mSafe nw i) cx dX9_safeMany_14 rfl ?_
    refine g_aload_n (v := ad 0) cx dX9_safeMany_15 rfl ?_
    refine g_get (v := .ref (ad 1)) cx fk_X9_7 dX9_safeMany_16 0 rfl rfl ?_
    refine g_bipush (v := 17) cx dX9_safeMany_19 (by decide) ?_
    refine g_bipush (v := 9) cx dX9_safeMany_21 (by decide) ?_
    refine g_iload_n (v := nI i) cx dX9_safeMany_23 rfl ?_
    refine g_imul cx dX9_safeMany_24 ?_
    refine g_iadd cx dX9_safeMany_25 ?_
    refine g_bipush (v := 6) cx dX9_safeMany_26 (by decide) ?_
    refine g_iadd cx dX9_safeMany_28 ?_
    refine g_iald cx dX9_safeMany_29 1 ((17 + (9 * i)) + 6) rfl (rf_add (rf_add (nl 17) (rf_mul (nl 9) rfl)) (nl 6)) (by omega) (by first | decide | omega) ?_
    refine g_top (y := nw ((17 + (9 * i)) + 6)) (rfl) ?_
    refine g_iadd cx dX9_safeMany_30 ?_
    refine g_istore_n (lv' := [(0, .ref (ad 0)), (1, .int ((mSafe nw i) + (nw ((17 + (9 * i)) + 6)))), (2, .int (nI i))]) cx dX9_safeMany_31 (by decide) rfl ?_
    refine g_iinc (x := nI i) (v := nI (i + 1)) (lv' := [(0, .ref (ad 0)), (1, .int ((mSafe nw i) + (nw ((17 + (9 * i)) + 6)))), (2, .int (nI (i + 1)))]) cx dX9_safeMany_32 rfl (by decide) (nI_add _ _) rfl ?_
    refine g_goto cx 4 dX9_safeMany_35 (by decide) ?_
    exact ihi
  · skip
    refine g_iload_n (v := nI n) cx dX9_safeMany_4 rfl ?_
    refine g_aload_n (v := ad 0) cx dX9_safeMany_5 rfl ?_
    refine g_get (v := .ref (ad 1)) cx fk_X9_7 dX9_safeMany_6 0 rfl rfl ?_
    refine g_iconst (v := 0) cx dX9_safeMany_9 (by decide) ?_
    refine g_iald cx dX9_safeMany_10 1 0 rfl (nl 0) (by omega) (by first | decide | omega) ?_
    refine g_top (y := nw 0) (rfl) ?_
    refine g_icmp_ge cx 38 dX9_safeMany_11 (by decide) (fun hw2 => ?_) (fun hw2 => absurd (rf_geMP rfl hn (by omega) (by omega) (by omega)) hw2)
    refine g_iload_n (v := mSafe nw n) cx dX9_safeMany_38 rfl ?_
    exact hret _ _ _ _ dX9_safeMany_39 (rfl) ⟨rfl, rfl⟩
def rm_X9_spread : Room := { frames := 1, cells := 0, slots := 0, locals := 21 }
set_option maxRecDepth 100000 in
set_option maxHeartbeats 4000000 in
theorem c_X9_spread (V : VT) (ad : Nat → Nat) (nw rw ps im kp tx sw sv da co pl me fa ao al : Nat → Int32) (de le ax ta ts tv se il : Int32) (n : Nat) (hn : nw 0 = nI n) (hn6 : n ≤ 6) (hn1 : 1 ≤ n) : CI V yX9_spread cX9_spread 4 .int rm_X9_spread [.ref (ad 0)] (wMo V ad nw rw ps im kp tx sw sv da co pl me fa ao al de le ax ta ts tv se il) (fun r_ w_ => r_ = mMax nw (n - 1) - mMin nw (n - 1) ∧ w_ = wMo V ad nw rw ps im kp tx sw sv da co pl me fa ao al de le ax ta ts tv se il) := by
  refine CI_intro (by decide) (Nat.le_of_ble_eq_true rfl) (fun K cx hret => ?_)
  show G V K 4 0 0 (wMo V ad nw rw ps im kp tx sw sv da co pl me fa ao al de le ax ta ts tv se il) 0 [(0, .ref (ad 0))] []
  refine g_aload_n (v := ad 0) cx dX9_spread_0 rfl ?_
  refine g_iconst (v := 0) cx dX9_spread_1 (by decide) ?_
  refine w_calli (r0 := mOff nw 0) (ws' := wMo V ad nw rw ps im kp tx sw sv da co pl me fa ao al de le ax ta ts tv se il) (As := [.int 0]) (rest := []) cx (c_X9_offOf V ad nw rw ps im kp tx sw sv da co pl me fa ao al de le ax ta ts tv se il 0 0 (nl 0) (by omega)) ml_X9_186 dX9_spread_2 (q0 := 0) rfl rfl rfl rfl rfl (Nat.le_of_ble_eq_true rfl) ⟨Nat.le_of_ble_eq_true rfl, Nat.le_of_ble_eq_true rfl⟩ ⟨Nat.le_refl _, Nat.le_refl _⟩ ?_
  refine g_istore_n (lv' := [(0, .ref (ad 0)), (1, .int (mOff nw 0))]) cx dX9_spread_5 (by decide) rfl ?_
  refine g_aload_n (v := ad 0) cx dX9_spread_6 rfl ?_
  refine g_iconst (v := 0) cx dX9_spread_7 (by decide) ?_
  refine w_calli (r0 := mOff nw 0) (ws' := wMo V ad nw rw ps im kp tx sw sv da co pl me fa ao al de le ax ta ts tv se il) (As := [.int 0]) (rest := []) cx (c_X9_offOf V ad nw rw ps im kp tx sw sv da co pl me fa ao al de le ax ta ts tv se il 0 0 (nl 0) (by omega)) ml_X9_186 dX9_spread_8 (q0 := 0) rfl rfl rfl rfl rfl (Nat.le_of_ble_eq_true rfl) ⟨Nat.le_of_ble_eq_true rfl, Nat.le_of_ble_eq_true rfl⟩ ⟨Nat.le_refl _, Nat.le_refl _⟩ ?_
  refine g_istore_n (lv' := [(0, .ref (ad 0)), (1, .int (mOff nw 0)), (2, .int (mOff nw 0))]) cx dX9_spread_11 (by decide) rfl ?_
  refine g_iconst (v := 1) cx dX9_spread_12 (by decide) ?_
  refine g_istore_n (lv' := [(0, .ref (ad 0)), (1, .int (mOff nw 0)), (2, .int (mOff nw 0)), (3, .int 1)]) cx dX9_spread_13 (by decide) rfl ?_
  refine rf_dn (P := fun i => G V K 4 0 0 (wMo V ad nw rw ps im kp tx sw sv da co pl me fa ao al de le ax ta ts tv se il) 14 [(0, .ref (ad 0)), (1, .int (mMin nw i)), (2, .int (mMax nw i)), (3, .int (nI (1 + i)))] []) (n - 1) (fun i hi ihi => ?_) ?_
  · skip
    have hin : i < n - 1 := hi
    refine g_iload_n (v := nI (1 + i)) cx dX9_spread_14 rfl ?_
    refine g_aload_n (v := ad 0) cx dX9_spread_15 rfl ?_
    refine g_get (v := .ref (ad 1)) cx fk_X9_7 dX9_spread_16 0 rfl rfl ?_
    refine g_iconst (v := 0) cx dX9_spread_19 (by decide) ?_
    refine g_iald cx dX9_spread_20 1 0 rfl (nl 0) (by omega) (by first | decide | omega) ?_
    refine g_top (y := nw 0) (rfl) ?_
    refine g_icmp_ge cx 68 dX9_spread_21 (by decide) (fun hw1 => absurd hw1 (rf_geMN rfl hn (by omega) (by omega) (by omega))) (fun hw1 => ?_)
    refine g_aload_n (v := ad 0) cx dX9_spread_24 rfl ?_
    refine g_iload_n (v := nI (1 + i)) cx dX9_spread_25 rfl ?_
    refine w_calli (r0 := mOff nw (1 + i)) (ws' := wMo V ad nw rw ps im kp tx sw sv da co pl me fa ao al de le ax ta ts tv se il) (As := [.int (nI (1 + i))]) (rest := []) cx (c_X9_offOf V ad nw rw ps im kp tx sw sv da co pl me fa ao al de le ax ta ts tv se il (nI (1 + i)) (1 + i) rfl (by omega)) ml_X9_186 dX9_spread_26 (q0 := 0) rfl rfl rfl rfl rfl (Nat.le_of_ble_eq_true rfl) ⟨Nat.le_of_ble_eq_true rfl, Nat.le_of_ble_eq_true rfl⟩ ⟨Nat.le_refl _, Nat.le_refl _⟩ ?_
    refine g_iload_n (v := mMin nw i) cx dX9_spread_29 rfl ?_
    refine g_icmp_ge cx 41 dX9_spread_30 (by decide) (fun hw2 => ?_) (fun hw2 => ?_)
    · skip
      refine g_iload_n (v := mMin nw i) cx dX9_spread_41 rfl ?_
      refine g_istore_n (lv' := [(0, .ref (ad 0)), (1, .int (mMin nw i)), (2, .int (mMax nw i)), (3, .int (nI (1 + i)))]) cx dX9_spread_42 (by decide) rfl ?_
      refine g_aload_n (v := ad 0) cx dX9_spread_43 rfl ?_
      refine g_iload_n (v := nI (1 + i)) cx dX9_spread_44 rfl ?_
      refine w_calli (r0 := mOff nw (1 + i)) (ws' := wMo V ad nw rw ps im kp tx sw sv da co pl me fa ao al de le ax ta ts tv se il) (As := [.int (nI (1 + i))]) (rest := []) cx (c_X9_offOf V ad nw rw ps im kp tx sw sv da co pl me fa ao al de le ax ta ts tv se il (nI (1 + i)) (1 + i) rfl (by omega)) ml_X9_186 dX9_spread_45 (q0 := 0) rfl rfl rfl rfl rfl (Nat.le_of_ble_eq_true rfl) ⟨Nat.le_of_ble_eq_true rfl, Nat.le_of_ble_eq_true rfl⟩ ⟨Nat.le_refl _, Nat.le_refl _⟩ ?_
      refine g_iload_n (v := mMax nw i) cx dX9_spread_48 rfl ?_
      refine g_icmp_le cx 60 dX9_spread_49 (by decide) (fun hw3 => ?_) (fun hw3 => ?_)
      · skip
        refine g_iload_n (v := mMax nw i) cx dX9_spread_60 rfl ?_
        refine g_istore_n (lv' := [(0, .ref (ad 0)), (1, .int (mMin nw i)), (2, .int (mMax nw i)), (3, .int (nI (1 + i)))]) cx dX9_spread_61 (by decide) rfl ?_
        refine g_iinc (x := nI (1 + i)) (v := nI ((1 + i) + 1)) (lv' := [(0, .ref (ad 0)), (1, .int (mMin nw i)), (2, .int (mMax nw i)), (3, .int (nI ((1 + i) + 1)))]) cx dX9_spread_62 rfl (by decide) (nI_add _ _) rfl ?_
        refine g_goto cx 14 dX9_spread_65 (by decide) ?_
        rw [show mMin nw (i + 1) = if mOff nw (1 + i) < mMin nw i then mOff nw (1 + i) else mMin nw i from rfl, show mMax nw (i + 1) = if mMax nw i < mOff nw (1 + i) then mOff nw (1 + i) else mMax nw i from rfl, if_neg (Int32.not_lt.mpr hw2), if_neg (Int32.not_lt.mpr hw3)] at ihi
        exact ihi
      · skip
        refine g_aload_n (v := ad 0) cx dX9_spread_52 rfl ?_
        refine g_iload_n (v := nI (1 + i)) cx dX9_spread_53 rfl ?_
        refine w_calli (r0 := mOff nw (1 + i)) (ws' := wMo V ad nw rw ps im kp tx sw sv da co pl me fa ao al de le ax ta ts tv se il) (As := [.int (nI (1 + i))]) (rest := []) cx (c_X9_offOf V ad nw rw ps im kp tx sw sv da co pl me fa ao al de le ax ta ts tv se il (nI (1 + i)) (1 + i) rfl (by omega)) ml_X9_186 dX9_spread_54 (q0 := 0) rfl rfl rfl rfl rfl (Nat.le_of_ble_eq_true rfl) ⟨Nat.le_of_ble_eq_true rfl, Nat.le_of_ble_eq_true rfl⟩ ⟨Nat.le_refl _, Nat.le_refl _⟩ ?_
        refine g_goto cx 61 dX9_spread_57 (by decide) ?_
        refine g_istore_n (lv' := [(0, .ref (ad 0)), (1, .int (mMin nw i)), (2, .int (mOff nw (1 + i))), (3, .int (nI (1 + i)))]) cx dX9_spread_61 (by decide) rfl ?_
        refine g_iinc (x := nI (1 + i)) (v := nI ((1 + i) + 1)) (lv' := [(0, .ref (ad 0)), (1, .int (mMin nw i)), (2, .int (mOff nw (1 + i))), (3, .int (nI ((1 + i) + 1)))]) cx dX9_spread_62 rfl (by decide) (nI_add _ _) rfl ?_
        refine g_goto cx 14 dX9_spread_65 (by decide) ?_
        rw [show mMin nw (i + 1) = if mOff nw (1 + i) < mMin nw i then mOff nw (1 + i) else mMin nw i from rfl, show mMax nw (i + 1) = if mMax nw i < mOff nw (1 + i) then mOff nw (1 + i) else mMax nw i from rfl, if_neg (Int32.not_lt.mpr hw2), if_pos (Int32.not_le.mp hw3)] at ihi
        exact ihi
    · skip
      refine g_aload_n (v := ad 0) cx dX9_spread_33 rfl ?_
      refine g_iload_n (v := nI (1 + i)) cx dX9_spread_34 rfl ?_
      refine w_calli (r0 := mOff nw (1 + i)) (ws' := wMo V ad nw rw ps im kp tx sw sv da co pl me fa ao al de le ax ta ts tv se il) (As := [.int (nI (1 + i))]) (rest := []) cx (c_X9_offOf V ad nw rw ps im kp tx sw sv da co pl me fa ao al de le ax ta ts tv se il (nI (1 + i)) (1 + i) rfl (by omega)) ml_X9_186 dX9_spread_35 (q0 := 0) rfl rfl rfl rfl rfl (Nat.le_of_ble_eq_true rfl) ⟨Nat.le_of_ble_eq_true rfl, Nat.le_of_ble_eq_true rfl⟩ ⟨Nat.le_refl _, Nat.le_refl _⟩ ?_
      refine g_goto cx 42 dX9_spread_38 (by decide) ?_
      refine g_istore_n (lv' := [(0, .ref (ad 0)), (1, .int (mOff nw (1 + i))), (2, .int (mMax nw i)), (3, .int (nI (1 + i)))]) cx dX9_spread_42 (by decide) rfl ?_
      refine g_aload_n (v := ad 0) cx dX9_spread_43 rfl ?_
      refine g_iload_n (v := nI (1 + i)) cx dX9_spread_44 rfl ?_
      refine w_calli (r0 := mOff nw (1 + i)) (ws' := wMo V ad nw rw ps im kp tx sw sv da co pl me fa ao al de le ax ta ts tv se il) (As := [.int (nI (1 + i))]) (rest := []) cx (c_X9_offOf V ad nw rw ps im kp tx sw sv da co pl me fa ao al de le ax ta ts tv se il (nI (1 + i)) (1 + i) rfl (by omega)) ml_X9_186 dX9_spread_45 (q0 := 0) rfl rfl rfl rfl rfl (Nat.le_of_ble_eq_true rfl) ⟨Nat.le_of_ble_eq_true rfl, Nat.le_of_ble_eq_true rfl⟩ ⟨Nat.le_refl _, Nat.le_refl _⟩ ?_
      refine g_iload_n (v := mMax nw i) cx dX9_spread_48 rfl ?_
      refine g_icmp_le cx 60 dX9_spread_49 (by decide) (fun hw4 => ?_) (fun hw4 => ?_)
      · skip
        refine g_iload_n (v := mMax nw i) cx dX9_spread_60 rfl ?_
        refine g_istore_n (lv' := [(0, .ref (ad 0)), (1, .int (mOff nw (1 + i))), (2, .int (mMax nw i)), (3, .int (nI (1 + i)))]) cx dX9_spread_61 (by decide) rfl ?_
        refine g_iinc (x := nI (1 + i)) (v := nI ((1 + i) + 1)) (lv' := [(0, .ref (ad 0)), (1, .int (mOff nw (1 + i))), (2, .int (mMax nw i)), (3, .int (nI ((1 + i) + 1)))]) cx dX9_spread_62 rfl (by decide) (nI_add _ _) rfl ?_
        refine g_goto cx 14 dX9_spread_65 (by decide) ?_
        rw [show mMin nw (i + 1) = if mOff nw (1 + i) < mMin nw i then mOff nw (1 + i) else mMin nw i from rfl, show mMax nw (i + 1) = if mMax nw i < mOff nw (1 + i) then mOff nw (1 + i) else mMax nw i from rfl, if_pos (Int32.not_le.mp hw2), if_neg (Int32.not_lt.mpr hw4)] at ihi
        exact ihi
      · skip
        refine g_aload_n (v := ad 0) cx dX9_spread_52 rfl ?_
        refine g_iload_n (v := nI (1 + i)) cx dX9_spread_53 rfl ?_
        refine w_calli (r0 := mOff nw (1 + i)) (ws' := wMo V ad nw rw ps im kp tx sw sv da co pl me fa ao al de le ax ta ts tv se il) (As := [.int (nI (1 + i))]) (rest := []) cx (c_X9_offOf V ad nw rw ps im kp tx sw sv da co pl me fa ao al de le ax ta ts tv se il (nI (1 + i)) (1 + i) rfl (by omega)) ml_X9_186 dX9_spread_54 (q0 := 0) rfl rfl rfl rfl rfl (Nat.le_of_ble_eq_true rfl) ⟨Nat.le_of_ble_eq_true rfl, Nat.le_of_ble_eq_true rfl⟩ ⟨Nat.le_refl _, Nat.le_refl _⟩ ?_
        refine g_goto cx 61 dX9_spread_57 (by decide) ?_
        refine g_istore_n (lv' := [(0, .ref (ad 0)), (1, .int (mOff nw (1 + i))), (2, .int (mOff nw (1 + i))), (3, .int (nI (1 + i)))]) cx dX9_spread_61 (by decide) rfl ?_
        refine g_iinc (x := nI (1 + i)) (v := nI ((1 + i) + 1)) (lv' := [(0, .ref (ad 0)), (1, .int (mOff nw (1 + i))), (2, .int (mOff nw (1 + i))), (3, .int (nI ((1 + i) + 1)))]) cx dX9_spread_62 rfl (by decide) (nI_add _ _) rfl ?_
        refine g_goto cx 14 dX9_spread_65 (by decide) ?_
        rw [show mMin nw (i + 1) = if mOff nw (1 + i) < mMin nw i then mOff nw (1 + i) else mMin nw i from rfl, show mMax nw (i + 1) = if mMax nw i < mOff nw (1 + i) then mOff nw (1 + i) else mMax nw i from rfl, if_pos (Int32.not_le.mp hw2), if_pos (Int32.not_le.mp hw4)] at ihi
        exact ihi
  · skip
    refine g_iload_n (v := nI (1 + (n - 1))) cx dX9_spread_14 rfl ?_
    refine g_aload_n (v := ad 0) cx dX9_spread_15 rfl ?_
    refine g_get (v := .ref (ad 1)) cx fk_X9_7 dX9_spread_16 0 rfl rfl ?_
    refine g_iconst (v := 0) cx dX9_spread_19 (by decide) ?_
    refine g_iald cx dX9_spread_20 1 0 rfl (nl 0) (by omega) (by first | decide | omega) ?_
    refine g_top (y := nw 0) (rfl) ?_
    refine g_icmp_ge cx 68 dX9_spread_21 (by decide) (fun hw5 => ?_) (fun hw5 => absurd (rf_geMP rfl hn (by omega) (by omega) (by omega)) hw5)
    refine g_iload_n (v := mMax nw (n - 1)) cx dX9_spread_68 rfl ?_
    refine g_iload_n (v := mMin nw (n - 1)) cx dX9_spread_69 rfl ?_
    refine g_isub cx dX9_spread_70 ?_
    exact hret _ _ _ _ dX9_spread_71 (rfl) ⟨rfl, rfl⟩
def rm_X9_type_bad : Room := { frames := 1, cells := 0, slots := 0, locals := 22 }
set_option maxRecDepth 100000 in
set_option maxHeartbeats 4000000 in
theorem c_X9_type_bad (V : VT) (ad : Nat → Nat) (nw rw ps im kp tx sw sv da co pl me fa ao al : Nat → Int32) (ax ta ts tv il : Int32) (s z k n o m : Nat) (hM : okM nw sw s z k n o m) (l : Int32) (hb : ¬ (¬ l < 0 ∧ ¬ 255 < l)) : CI V yX9_type cX9_type 2 .int rm_X9_type_bad [.ref (ad 0), .int l] (wMo V ad nw rw ps im kp tx sw sv da co pl me fa ao al (nI s) (nI z) ax ta ts tv (nI k) il) (fun r_ w_ => r_ = (-1) ∧ w_ = wMo V ad nw rw ps im kp tx sw sv da co pl me fa ao al (nI s) (nI z) ax ta ts tv (nI k) il) := by
  refine CI_intro (by decide) (Nat.le_of_ble_eq_true rfl) (fun K cx hret => ?_)
  show G V K 2 0 0 (wMo V ad nw rw ps im kp tx sw sv da co pl me fa ao al (nI s) (nI z) ax ta ts tv (nI k) il) 0 [(0, .ref (ad 0)), (1, .int l)] []
  obtain ⟨hs6, hz, hk6, hn, hn6, hn1, ho, ho4, hm, hm7, hat, hc, hcj, hsw⟩ := hM
  refine g_iload_n (v := l) cx dX9_type_0 rfl ?_
  refine g_iconst (v := 0) cx dX9_type_1 (by decide) ?_
  refine g_sipush (v := 255) cx dX9_type_2 (by decide) ?_
  refine k_callsi (r0 := bI (¬ l < 0 ∧ ¬ 255 < l)) (ws' := wMo V ad nw rw ps im kp tx sw sv da co pl me fa ao al (nI s) (nI z) ax ta ts tv (nI k) il) (As := [.int l, .int 0, .int 255]) (rest := []) cx (c_X9_in V l 0 255) ml_X9_76 dX9_type_5 [] rfl rfl [] rfl rfl rfl rfl rfl (Nat.le_of_ble_eq_true rfl) ⟨Nat.le_of_ble_eq_true rfl, Nat.le_of_ble_eq_true rfl⟩ ⟨Nat.le_refl _, Nat.le_refl _⟩ ?_
  refine g_if_ne_b cx 13 dX9_type_8 (by decide) (fun hw1 => absurd hw1 (hb)) (fun hw1 => ?_)
  refine g_iconst (v := (-1)) cx dX9_type_11 (by decide) ?_
  exact hret _ _ _ _ dX9_type_12 (rfl) ⟨rfl, rfl⟩
def rm_X9_type_full : Room := { frames := 1, cells := 0, slots := 0, locals := 22 }
set_option maxRecDepth 100000 in
set_option maxHeartbeats 4000000 in
theorem c_X9_type_full (V : VT) (ad : Nat → Nat) (nw rw ps im kp tx sw sv da co pl me fa ao al : Nat → Int32) (ax ta ts tv il : Int32) (s z k n o m : Nat) (hM : okM nw sw s z k n o m) (l : Int32) (h1 : ¬ l < 0) (h2 : ¬ 255 < l) (h3 : z = 120) : CI V yX9_type cX9_type 2 .int rm_X9_type_full [.ref (ad 0), .int l] (wMo V ad nw rw ps im kp tx sw sv da co pl me fa ao al (nI s) (nI z) ax ta ts tv (nI k) il) (fun r_ w_ => r_ = (-3) ∧ w_ = wMo V ad nw rw ps im kp tx sw sv da co pl me fa ao al (nI s) (nI z) ax ta ts tv (nI k) il) := by
  refine CI_intro (by decide) (Nat.le_of_ble_eq_true rfl) (fun K cx hret => ?_)
  show G V K 2 0 0 (wMo V ad nw rw ps im kp tx sw sv da co pl me fa ao al (nI s) (nI z) ax ta ts tv (nI k) il) 0 [(0, .ref (ad 0)), (1, .int l)] []
  obtain ⟨hs6, hz, hk6, hn, hn6, hn1, ho, ho4, hm, hm7, hat, hc, hcj, hsw⟩ := hM
  refine g_iload_n (v := l) cx dX9_type_0 rfl ?_
  refine g_iconst (v := 0) cx dX9_type_1 (by decide) ?_
  refine g_sipush (v := 255) cx dX9_type_2 (by decide) ?_
  refine k_callsi (r0 := bI (¬ l < 0 ∧ ¬ 255 < l)) (ws' := wMo V ad nw rw ps im kp tx sw sv da co pl me fa ao al (nI s) (nI z) ax ta ts tv (nI k) il) (As := [.int l, .int 0, .int 255]) (rest := []) cx (c_X9_in V l 0 255) ml_X9_76 dX9_type_5 [] rfl rfl [] rfl rfl rfl rfl rfl (Nat.le_of_ble_eq_true rfl) ⟨Nat.le_of_ble_eq_true rfl, Nat.le_of_ble_eq_true rfl⟩ ⟨Nat.le_refl _, Nat.le_refl _⟩ ?_
  refine g_if_ne_b cx 13 dX9_type_8 (by decide) (fun hw1 => ?_) (fun hw1 => absurd (⟨h1, h2⟩) hw1)
  refine g_aload_n (v := ad 0) cx dX9_type_13 rfl ?_
  refine g_get (v := .int (nI z)) cx fk_X9_67 dX9_type_14 0 rfl rfl ?_
  refine g_bipush (v := 120) cx dX9_type_17 (by decide) ?_
  refine g_icmp_ne cx 25 dX9_type_19 (by decide) (fun hw2 => absurd (by rw [h3]; rfl) hw2) (fun hw2 => ?_)
  refine g_bipush (v := (-3)) cx dX9_type_22 (by decide) ?_
  exact hret _ _ _ _ dX9_type_24 (rfl) ⟨rfl, rfl⟩
def rm_X9_type_ok : Room := { frames := 1, cells := 0, slots := 0, locals := 22 }
set_option maxRecDepth 100000 in
set_option maxHeartbeats 4000000 in
theorem c_X9_type_ok (V : VT) (ad : Nat → Nat) (nw rw ps im kp tx sw sv da co pl me fa ao al : Nat → Int32) (ax ta ts tv il : Int32) (s z k n o m : Nat) (hM : okM nw sw s z k n o m) (l : Int32) (h1 : ¬ l < 0) (h2 : ¬ 255 < l) (h3 : z < 120) : CI V yX9_type cX9_type 2 .int rm_X9_type_ok [.ref (ad 0), .int l] (wMo V ad nw rw ps im kp tx sw sv da co pl me fa ao al (nI s) (nI z) ax ta ts tv (nI k) il) (fun r_ w_ => r_ = nI (z + 1) ∧ w_ = wMo V ad nw rw ps im kp (upd tx z l) sw sv da co pl me fa ao al (nI s) (nI (z + 1)) ax ta ts tv (nI k) il) := by
  refine CI_intro (by decide) (Nat.le_of_ble_eq_true rfl) (fun K cx hret => ?_)
  show G V K 2 0 0 (wMo V ad nw rw ps im kp tx sw sv da co pl me fa ao al (nI s) (nI z) ax ta ts tv (nI k) il) 0 [(0, .ref (ad 0)), (1, .int l)] []
  obtain ⟨hs6, hz, hk6, hn, hn6, hn1, ho, ho4, hm, hm7, hat, hc, hcj, hsw⟩ := hM
  refine g_iload_n (v := l) cx dX9_type_0 rfl ?_
  refine g_iconst (v := 0) cx dX9_type_1 (by decide) ?_
  refine g_sipush (v := 255) cx dX9_type_2 (by decide) ?_
  refine k_callsi (r0 := bI (¬ l < 0 ∧ ¬ 255 < l)) (ws' := wMo V ad nw rw ps im kp tx sw sv da co pl me fa ao al (nI s) (nI z) ax ta ts tv (nI k) il) (As := [.int l, .int 0, .int 255]) (rest := []) cx (c_X9_in V l 0 255) ml_X9_76 dX9_type_5 [] rfl rfl [] rfl rfl rfl rfl rfl (Nat.le_of_ble_eq_true rfl) ⟨Nat.le_of_ble_eq_true rfl, Nat.le_of_ble_eq_true rfl⟩ ⟨Nat.le_refl _, Nat.le_refl _⟩ ?_
  refine g_if_ne_b cx 13 dX9_type_8 (by decide) (fun hw1 => ?_) (fun hw1 => absurd (⟨h1, h2⟩) hw1)
  refine g_aload_n (v := ad 0) cx dX9_type_13 rfl ?_
  refine g_get (v := .int (nI z)) cx fk_X9_67 dX9_type_14 0 rfl rfl ?_
  refine g_bipush (v := 120) cx dX9_type_17 (by decide) ?_
  refine g_icmp_ne cx 25 dX9_type_19 (by decide) (fun hw2 => ?_) (fun hw2 => absurd hw2 (rf_eqMN rfl (nl 120) (by omega) (by omega) (by omega)))
  refine g_aload_n (v := ad 0) cx dX9_type_25 rfl ?_
  refine g_get (v := .ref (ad 6)) cx fk_X9_26 dX9_type_26 0 rfl rfl ?_
  refine g_aload_n (v := ad 0) cx dX9_type_29 rfl ?_
  refine g_get (v := .int (nI z)) cx fk_X9_67 dX9_type_30 0 rfl rfl ?_
  refine g_iload_n (v := l) cx dX9_type_33 rfl ?_
  refine g_iast (ws' := wMo V ad nw rw ps im kp (upd tx z l) sw sv da co pl me fa ao al (nI s) (nI z) ax ta ts tv (nI k) il) cx dX9_type_34 6 z rfl (rfl) (by omega) (by first | decide | omega) rfl ?_
  refine g_aload_n (v := ad 0) cx dX9_type_35 rfl ?_
  refine g_dup cx dX9_type_36 rfl ?_
  refine g_get (v := .int (nI z)) cx fk_X9_67 dX9_type_37 0 rfl rfl ?_
  refine g_iconst (v := 1) cx dX9_type_40 (by decide) ?_
  refine g_iadd cx dX9_type_41 ?_
  refine g_top (y := nI (z + 1)) (nI_1 z) ?_
  refine g_put (ws' := wMo V ad nw rw ps im kp (upd tx z l) sw sv da co pl me fa ao al (nI s) (nI (z + 1)) ax ta ts tv (nI k) il) cx fk_X9_67 dX9_type_42 0 rfl (rfl) (rfl) (Nat.le_of_ble_eq_true rfl) rfl ?_
  refine g_aload_n (v := ad 0) cx dX9_type_45 rfl ?_
  refine g_get (v := .int (nI (z + 1))) cx fk_X9_67 dX9_type_46 0 rfl rfl ?_
  exact hret _ _ _ _ dX9_type_49 (rfl) ⟨rfl, rfl⟩
def rm_X9_clear_ok : Room := { frames := 0, cells := 0, slots := 0, locals := 0 }
set_option maxRecDepth 100000 in
set_option maxHeartbeats 4000000 in
theorem c_X9_clear_ok (V : VT) (ad : Nat → Nat) (nw rw ps im kp tx sw sv da co pl me fa ao al : Nat → Int32) (ax ta ts tv il : Int32) (s z k n o m : Nat) (hM : okM nw sw s z k n o m)   : CI V yX9_clear cX9_clear 2 .int rm_X9_clear_ok [.ref (ad 0)] (wMo V ad nw rw ps im kp tx sw sv da co pl me fa ao al (nI s) (nI z) ax ta ts tv (nI k) il) (fun r_ w_ => r_ = nI z ∧ w_ = wMo V ad nw rw ps im kp tx sw sv da co pl me fa ao al (nI s) 0 ax ta ts tv (nI k) il) := by
  refine CI_intro (by decide) (Nat.le_of_ble_eq_true rfl) (fun K cx hret => ?_)
  show G V K 2 0 0 (wMo V ad nw rw ps im kp tx sw sv da co pl me fa ao al (nI s) (nI z) ax ta ts tv (nI k) il) 0 [(0, .ref (ad 0))] []
  obtain ⟨hs6, hz, hk6, hn, hn6, hn1, ho, ho4, hm, hm7, hat, hc, hcj, hsw⟩ := hM
  refine g_aload_n (v := ad 0) cx dX9_clear_0 rfl ?_
  refine g_get (v := .int (nI z)) cx fk_X9_67 dX9_clear_1 0 rfl rfl ?_
  refine g_istore_n (lv' := [(0, .ref (ad 0)), (1, .int (nI z))]) cx dX9_clear_4 (by decide) rfl ?_
  refine g_aload_n (v := ad 0) cx dX9_clear_5 rfl ?_
  refine g_iconst (v := 0) cx dX9_clear_6 (by decide) ?_
  refine g_put (ws' := wMo V ad nw rw ps im kp tx sw sv da co pl me fa ao al (nI s) 0 ax ta ts tv (nI k) il) cx fk_X9_67 dX9_clear_7 0 rfl (rfl) (rfl) (Nat.le_of_ble_eq_true rfl) rfl ?_
  refine g_iload_n (v := nI z) cx dX9_clear_10 rfl ?_
  exact hret _ _ _ _ dX9_clear_11 (rfl) ⟨rfl, rfl⟩
def rm_X9_wires_fail : Room := { frames := 5, cells := 0, slots := 0, locals := 107 }
set_option maxRecDepth 100000 in
set_option maxHeartbeats 4000000 in
theorem c_X9_wires_fail (V : VT) (ad : Nat → Nat) (nw rw ps im kp tx sw sv da co pl me fa ao al : Nat → Int32) (ax ta ts tv il : Int32) (s z k n o m : Nat) (hM : okM nw sw s z k n o m) (W : Int32 × (Nat → Int32) × Int32 × (Nat × Int32)) (hW : mqWire tx z 121 (mBeg rw) 0 (0, tv) = W) (hf : ¬ W.1 = -9) : CI V yX9_wires cX9_wires 2 .int rm_X9_wires_fail [.ref (ad 0)] (wMo V ad nw rw ps im kp tx sw sv da co pl me fa ao al (nI s) (nI z) ax ta ts tv (nI k) il) (fun r_ w_ => r_ = (-10) - W.1 ∧ w_ = wMo V ad nw W.2.1 ps im kp tx sw sv da co pl me fa ao al (nI s) (nI z) (nI (tX tx z W.2.2.2.1)) (nI (tP tx z W.2.2.2.1)) (mK tx z W.2.2.2.1) (mV tx z W.2.2.2.1 W.2.2.2.2) (nI k) W.2.2.1) := by
  refine CI_intro (by decide) (Nat.le_of_ble_eq_true rfl) (fun K cx hret => ?_)
  show G V K 2 0 0 (wMo V ad nw rw ps im kp tx sw sv da co pl me fa ao al (nI s) (nI z) ax ta ts tv (nI k) il) 0 [(0, .ref (ad 0))] []
  obtain ⟨hs6, hz, hk6, hn, hn6, hn1, ho, ho4, hm, hm7, hat, hc, hcj, hsw⟩ := hM
  refine g_aload_n (v := ad 0) cx dX9_wires_0 rfl ?_
  refine w_calli (r0 := (mqWire tx z 121 (mBeg rw) 0 (0, tv)).1) (ws' := wMo V ad nw ((mqWire tx z 121 (mBeg rw) 0 (0, tv)).2.1) ps im kp tx sw sv da co pl me fa ao al (nI s) (nI z) (nI (tX tx z ((mqWire tx z 121 (mBeg rw) 0 (0, tv)).2.2.2).1)) (nI (tP tx z ((mqWire tx z 121 (mBeg rw) 0 (0, tv)).2.2.2).1)) (mK tx z ((mqWire tx z 121 (mBeg rw) 0 (0, tv)).2.2.2).1) (mV tx z ((mqWire tx z 121 (mBeg rw) 0 (0, tv)).2.2.2).1 ((mqWire tx z 121 (mBeg rw) 0 (0, tv)).2.2.2).2) (nI k) ((mqWire tx z 121 (mBeg rw) 0 (0, tv)).2.2.1)) (As := []) (rest := []) cx (c_X9_readWire V ad nw rw ps im kp tx sw sv da co pl me fa ao al (nI s) ax ta ts tv (nI k) il z hz) ml_X9_114 dX9_wires_1 (q0 := 0) rfl rfl rfl rfl rfl (Nat.le_of_ble_eq_true rfl) ⟨Nat.le_of_ble_eq_true rfl, Nat.le_of_ble_eq_true rfl⟩ ⟨Nat.le_refl _, Nat.le_refl _⟩ ?_
  rw [hW]
  refine g_istore_n (lv' := [(0, .ref (ad 0)), (1, .int W.1)]) cx dX9_wires_4 (by decide) rfl ?_
  refine g_iload_n (v := W.1) cx dX9_wires_5 rfl ?_
  refine g_bipush (v := (-9)) cx dX9_wires_6 (by decide) ?_
  refine g_icmp_eq cx 16 dX9_wires_8 (by decide) (fun hw1 => absurd hw1 (hf)) (fun hw1 => ?_)
  refine g_bipush (v := (-10)) cx dX9_wires_11 (by decide) ?_
  refine g_iload_n (v := W.1) cx dX9_wires_13 rfl ?_
  refine g_isub cx dX9_wires_14 ?_
  exact hret _ _ _ _ dX9_wires_15 (rfl) ⟨rfl, rfl⟩
def rm_X9_wires_ok : Room := { frames := 5, cells := 0, slots := 0, locals := 107 }
set_option maxRecDepth 100000 in
set_option maxHeartbeats 4000000 in
theorem c_X9_wires_ok (V : VT) (ad : Nat → Nat) (nw rw ps im kp tx sw sv da co pl me fa ao al : Nat → Int32) (ax ta ts tv il : Int32) (s z k n o m : Nat) (hM : okM nw sw s z k n o m) (W : Int32 × (Nat → Int32) × Int32 × (Nat × Int32)) (hW : mqWire tx z 121 (mBeg rw) 0 (0, tv) = W) (hf : W.1 = -9) : CI V yX9_wires cX9_wires 2 .int rm_X9_wires_ok [.ref (ad 0)] (wMo V ad nw rw ps im kp tx sw sv da co pl me fa ao al (nI s) (nI z) ax ta ts tv (nI k) il) (fun r_ w_ => r_ = (brg W.2.1 nw 0 0 99) 0 ∧ w_ = wMo V ad (brg W.2.1 nw 0 0 99) W.2.1 (mNo nw ps s) im kp tx sw sv da co pl me fa ao al (nI (hsz s)) 0 (nI (tX tx z W.2.2.2.1)) (nI (tP tx z W.2.2.2.1)) (mK tx z W.2.2.2.1) (mV tx z W.2.2.2.1 W.2.2.2.2) (nI k) W.2.2.1) := by
  refine CI_intro (by decide) (Nat.le_of_ble_eq_true rfl) (fun K cx hret => ?_)
  show G V K 2 0 0 (wMo V ad nw rw ps im kp tx sw sv da co pl me fa ao al (nI s) (nI z) ax ta ts tv (nI k) il) 0 [(0, .ref (ad 0))] []
  obtain ⟨hs6, hz, hk6, hn, hn6, hn1, ho, ho4, hm, hm7, hat, hc, hcj, hsw⟩ := hM
  refine g_aload_n (v := ad 0) cx dX9_wires_0 rfl ?_
  refine w_calli (r0 := (mqWire tx z 121 (mBeg rw) 0 (0, tv)).1) (ws' := wMo V ad nw ((mqWire tx z 121 (mBeg rw) 0 (0, tv)).2.1) ps im kp tx sw sv da co pl me fa ao al (nI s) (nI z) (nI (tX tx z ((mqWire tx z 121 (mBeg rw) 0 (0, tv)).2.2.2).1)) (nI (tP tx z ((mqWire tx z 121 (mBeg rw) 0 (0, tv)).2.2.2).1)) (mK tx z ((mqWire tx z 121 (mBeg rw) 0 (0, tv)).2.2.2).1) (mV tx z ((mqWire tx z 121 (mBeg rw) 0 (0, tv)).2.2.2).1 ((mqWire tx z 121 (mBeg rw) 0 (0, tv)).2.2.2).2) (nI k) ((mqWire tx z 121 (mBeg rw) 0 (0, tv)).2.2.1)) (As := []) (rest := []) cx (c_X9_readWire V ad nw rw ps im kp tx sw sv da co pl me fa ao al (nI s) ax ta ts tv (nI k) il z hz) ml_X9_114 dX9_wires_1 (q0 := 0) rfl rfl rfl rfl rfl (Nat.le_of_ble_eq_true rfl) ⟨Nat.le_of_ble_eq_true rfl, Nat.le_of_ble_eq_true rfl⟩ ⟨Nat.le_refl _, Nat.le_refl _⟩ ?_
  rw [hW]
  refine g_istore_n (lv' := [(0, .ref (ad 0)), (1, .int W.1)]) cx dX9_wires_4 (by decide) rfl ?_
  refine g_iload_n (v := W.1) cx dX9_wires_5 rfl ?_
  refine g_bipush (v := (-9)) cx dX9_wires_6 (by decide) ?_
  refine g_icmp_eq cx 16 dX9_wires_8 (by decide) (fun hw1 => ?_) (fun hw1 => absurd (hf) hw1)
  refine g_aload_n (v := ad 0) cx dX9_wires_16 rfl ?_
  refine w_callv (ws' := wMo V ad nw W.2.1 (mNo nw ps s) im kp tx sw sv da co pl me fa ao al (nI (hsz s)) (nI z) (nI (tX tx z W.2.2.2.1)) (nI (tP tx z W.2.2.2.1)) (mK tx z W.2.2.2.1) (mV tx z W.2.2.2.1 W.2.2.2.2) (nI k) W.2.2.1) (As := []) (rest := []) cx (c_X9_note V ad nw W.2.1 ps im kp tx sw sv da co pl me fa ao al (nI z) (nI (tX tx z W.2.2.2.1)) (nI (tP tx z W.2.2.2.1)) (mK tx z W.2.2.2.1) (mV tx z W.2.2.2.1 W.2.2.2.2) (nI k) W.2.2.1 s (by omega)) ml_X9_118 dX9_wires_17 (q0 := 0) rfl rfl rfl rfl rfl (Nat.le_of_ble_eq_true rfl) ⟨Nat.le_of_ble_eq_true rfl, Nat.le_of_ble_eq_true rfl⟩ ⟨Nat.le_refl _, Nat.le_refl _⟩ ?_
  refine g_aload_n (v := ad 0) cx dX9_wires_20 rfl ?_
  refine g_get (v := .ref (ad 2)) cx fk_X9_13 dX9_wires_21 0 rfl rfl ?_
  refine g_iconst (v := 0) cx dX9_wires_24 (by decide) ?_
  refine g_aload_n (v := ad 0) cx dX9_wires_25 rfl ?_
  refine g_get (v := .ref (ad 1)) cx fk_X9_7 dX9_wires_26 0 rfl rfl ?_
  refine g_iconst (v := 0) cx dX9_wires_29 (by decide) ?_
  refine k_callsv (ws' := wMo V ad (brg W.2.1 nw 0 0 99) W.2.1 (mNo nw ps s) im kp tx sw sv da co pl me fa ao al (nI (hsz s)) (nI z) (nI (tX tx z W.2.2.2.1)) (nI (tP tx z W.2.2.2.1)) (mK tx z W.2.2.2.1) (mV tx z W.2.2.2.1 W.2.2.2.2) (nI k) W.2.2.1) (As := [.ref (ad 2), .int 0, .ref (ad 1), .int 0]) (rest := []) cx (c_X9_bring V (ad 2) (ad 1) 99 99 W.2.1 nw 0 0 0 0 (nl 0) (nl 0) (by omega) (by omega) (by decide) (by decide)) ml_X9_59 dX9_wires_30 [2, 1] rfl rfl [ad 2, ad 1] rfl rfl rfl rfl rfl (Nat.le_of_ble_eq_true rfl) ⟨Nat.le_of_ble_eq_true rfl, Nat.le_of_ble_eq_true rfl⟩ ⟨Nat.le_refl _, Nat.le_refl _⟩ ?_
  refine g_aload_n (v := ad 0) cx dX9_wires_33 rfl ?_
  refine g_iconst (v := 0) cx dX9_wires_34 (by decide) ?_
  refine g_put (ws' := wMo V ad (brg W.2.1 nw 0 0 99) W.2.1 (mNo nw ps s) im kp tx sw sv da co pl me fa ao al (nI (hsz s)) 0 (nI (tX tx z W.2.2.2.1)) (nI (tP tx z W.2.2.2.1)) (mK tx z W.2.2.2.1) (mV tx z W.2.2.2.1 W.2.2.2.2) (nI k) W.2.2.1) cx fk_X9_67 dX9_wires_35 0 rfl (rfl) (rfl) (Nat.le_of_ble_eq_true rfl) rfl ?_
  refine g_aload_n (v := ad 0) cx dX9_wires_38 rfl ?_
  refine g_get (v := .ref (ad 1)) cx fk_X9_7 dX9_wires_39 0 rfl rfl ?_
  refine g_iconst (v := 0) cx dX9_wires_42 (by decide) ?_
  refine g_iald cx dX9_wires_43 1 0 rfl (nl 0) (by omega) (by first | decide | omega) ?_
  refine g_top (y := (brg W.2.1 nw 0 0 99) 0) (rfl) ?_
  exact hret _ _ _ _ dX9_wires_44 (rfl) ⟨rfl, rfl⟩
def rm_X9_frames_fail : Room := { frames := 5, cells := 0, slots := 0, locals := 106 }
set_option maxRecDepth 100000 in
set_option maxHeartbeats 4000000 in
theorem c_X9_frames_fail (V : VT) (ad : Nat → Nat) (nw rw ps im kp tx sw sv da co pl me fa ao al : Nat → Int32) (ax ta ts tv il : Int32) (s z k n o m : Nat) (hM : okM nw sw s z k n o m) (W : Int32 × (Nat → Int32) × (Nat × Int32)) (hW : mqFrame tx z 121 (mBeg rw) (0, tv) = W) (hf : ¬ W.1 = -9) : CI V yX9_frames cX9_frames 3 .int rm_X9_frames_fail [.ref (ad 0)] (wMo V ad nw rw ps im kp tx sw sv da co pl me fa ao al (nI s) (nI z) ax ta ts tv (nI k) il) (fun r_ w_ => r_ = (-10) - W.1 ∧ w_ = wMo V ad nw W.2.1 ps im kp tx sw sv da co pl me fa ao al (nI s) (nI z) (nI (tX tx z W.2.2.1)) (nI (tP tx z W.2.2.1)) (mK tx z W.2.2.1) (mV tx z W.2.2.1 W.2.2.2) (nI k) il) := by
  refine CI_intro (by decide) (Nat.le_of_ble_eq_true rfl) (fun K cx hret => ?_)
  show G V K 3 0 0 (wMo V ad nw rw ps im kp tx sw sv da co pl me fa ao al (nI s) (nI z) ax ta ts tv (nI k) il) 0 [(0, .ref (ad 0))] []
  obtain ⟨hs6, hz, hk6, hn, hn6, hn1, ho, ho4, hm, hm7, hat, hc, hcj, hsw⟩ := hM
  refine g_aload_n (v := ad 0) cx dX9_frames_0 rfl ?_
  refine w_calli (r0 := (mqFrame tx z 121 (mBeg rw) (0, tv)).1) (ws' := wMo V ad nw ((mqFrame tx z 121 (mBeg rw) (0, tv)).2.1) ps im kp tx sw sv da co pl me fa ao al (nI s) (nI z) (nI (tX tx z ((mqFrame tx z 121 (mBeg rw) (0, tv)).2.2).1)) (nI (tP tx z ((mqFrame tx z 121 (mBeg rw) (0, tv)).2.2).1)) (mK tx z ((mqFrame tx z 121 (mBeg rw) (0, tv)).2.2).1) (mV tx z ((mqFrame tx z 121 (mBeg rw) (0, tv)).2.2).1 ((mqFrame tx z 121 (mBeg rw) (0, tv)).2.2).2) (nI k) il) (As := []) (rest := []) cx (c_X9_readFrame V ad nw rw ps im kp tx sw sv da co pl me fa ao al (nI s) ax ta ts tv (nI k) il z hz) ml_X9_121 dX9_frames_1 (q0 := 0) rfl rfl rfl rfl rfl (Nat.le_of_ble_eq_true rfl) ⟨Nat.le_of_ble_eq_true rfl, Nat.le_of_ble_eq_true rfl⟩ ⟨Nat.le_refl _, Nat.le_refl _⟩ ?_
  rw [hW]
  refine g_istore_n (lv' := [(0, .ref (ad 0)), (1, .int W.1)]) cx dX9_frames_4 (by decide) rfl ?_
  refine g_iload_n (v := W.1) cx dX9_frames_5 rfl ?_
  refine g_bipush (v := (-9)) cx dX9_frames_6 (by decide) ?_
  refine g_icmp_eq cx 16 dX9_frames_8 (by decide) (fun hw1 => absurd hw1 (hf)) (fun hw1 => ?_)
  refine g_bipush (v := (-10)) cx dX9_frames_11 (by decide) ?_
  refine g_iload_n (v := W.1) cx dX9_frames_13 rfl ?_
  refine g_isub cx dX9_frames_14 ?_
  exact hret _ _ _ _ dX9_frames_15 (rfl) ⟨rfl, rfl⟩
def rm_X9_frames_ok : Room := { frames := 5, cells := 0, slots := 0, locals := 106 }
set_option maxRecDepth 100000 in
set_option maxHeartbeats 4000000 in
theorem c_X9_frames_ok (V : VT) (ad : Nat → Nat) (nw rw ps im kp tx sw sv da co pl me fa ao al : Nat → Int32) (ax ta ts tv il : Int32) (s z k n o m : Nat) (hM : okM nw sw s z k n o m) (W : Int32 × (Nat → Int32) × (Nat × Int32)) (hW : mqFrame tx z 121 (mBeg rw) (0, tv) = W) (hf : W.1 = -9) : CI V yX9_frames cX9_frames 3 .int rm_X9_frames_ok [.ref (ad 0)] (wMo V ad nw rw ps im kp tx sw sv da co pl me fa ao al (nI s) (nI z) ax ta ts tv (nI k) il) (fun r_ w_ => r_ = (mFrm W.2.1 nw) 3 ∧ w_ = wMo V ad (mFrm W.2.1 nw) W.2.1 (mNo nw ps s) im kp tx sw sv da co pl me fa ao al (nI (hsz s)) 0 (nI (tX tx z W.2.2.1)) (nI (tP tx z W.2.2.1)) (mK tx z W.2.2.1) (mV tx z W.2.2.1 W.2.2.2) (nI k) il) := by
  refine CI_intro (by decide) (Nat.le_of_ble_eq_true rfl) (fun K cx hret => ?_)
  show G V K 3 0 0 (wMo V ad nw rw ps im kp tx sw sv da co pl me fa ao al (nI s) (nI z) ax ta ts tv (nI k) il) 0 [(0, .ref (ad 0))] []
  obtain ⟨hs6, hz, hk6, hn, hn6, hn1, ho, ho4, hm, hm7, hat, hc, hcj, hsw⟩ := hM
  refine g_aload_n (v := ad 0) cx dX9_frames_0 rfl ?_
  refine w_calli (r0 := (mqFrame tx z 121 (mBeg rw) (0, tv)).1) (ws' := wMo V ad nw ((mqFrame tx z 121 (mBeg rw) (0, tv)).2.1) ps im kp tx sw sv da co pl me fa ao al (nI s) (nI z) (nI (tX tx z ((mqFrame tx z 121 (mBeg rw) (0, tv)).2.2).1)) (nI (tP tx z ((mqFrame tx z 121 (mBeg rw) (0, tv)).2.2).1)) (mK tx z ((mqFrame tx z 121 (mBeg rw) (0, tv)).2.2).1) (mV tx z ((mqFrame tx z 121 (mBeg rw) (0, tv)).2.2).1 ((mqFrame tx z 121 (mBeg rw) (0, tv)).2.2).2) (nI k) il) (As := []) (rest := []) cx (c_X9_readFrame V ad nw rw ps im kp tx sw sv da co pl me fa ao al (nI s) ax ta ts tv (nI k) il z hz) ml_X9_121 dX9_frames_1 (q0 := 0) rfl rfl rfl rfl rfl (Nat.le_of_ble_eq_true rfl) ⟨Nat.le_of_ble_eq_true rfl, Nat.le_of_ble_eq_true rfl⟩ ⟨Nat.le_refl _, Nat.le_refl _⟩ ?_
  rw [hW]
  refine g_istore_n (lv' := [(0, .ref (ad 0)), (1, .int W.1)]) cx dX9_frames_4 (by decide) rfl ?_
  refine g_iload_n (v := W.1) cx dX9_frames_5 rfl ?_
  refine g_bipush (v := (-9)) cx dX9_frames_6 (by decide) ?_
  refine g_icmp_eq cx 16 dX9_frames_8 (by decide) (fun hw1 => ?_) (fun hw1 => absurd (hf) hw1)
  refine g_aload_n (v := ad 0) cx dX9_frames_16 rfl ?_
  refine w_callv (ws' := wMo V ad nw W.2.1 (mNo nw ps s) im kp tx sw sv da co pl me fa ao al (nI (hsz s)) (nI z) (nI (tX tx z W.2.2.1)) (nI (tP tx z W.2.2.1)) (mK tx z W.2.2.1) (mV tx z W.2.2.1 W.2.2.2) (nI k) il) (As := []) (rest := []) cx (c_X9_note V ad nw W.2.1 ps im kp tx sw sv da co pl me fa ao al (nI z) (nI (tX tx z W.2.2.1)) (nI (tP tx z W.2.2.1)) (mK tx z W.2.2.1) (mV tx z W.2.2.1 W.2.2.2) (nI k) il s (by omega)) ml_X9_118 dX9_frames_17 (q0 := 0) rfl rfl rfl rfl rfl (Nat.le_of_ble_eq_true rfl) ⟨Nat.le_of_ble_eq_true rfl, Nat.le_of_ble_eq_true rfl⟩ ⟨Nat.le_refl _, Nat.le_refl _⟩ ?_
  refine g_bipush (v := 71) cx dX9_frames_20 (by decide) ?_
  refine g_istore_n (lv' := [(0, .ref (ad 0)), (1, .int W.1), (2, .int 71)]) cx dX9_frames_22 (by decide) rfl ?_
  refine rf_dn (P := fun i => G V K 3 0 0 (wMo V ad (mFr W.2.1 nw i) W.2.1 (mNo nw ps s) im kp tx sw sv da co pl me fa ao al (nI (hsz s)) (nI z) (nI (tX tx z W.2.2.1)) (nI (tP tx z W.2.2.1)) (mK tx z W.2.2.1) (mV tx z W.2.2.1 W.2.2.2) (nI k) il) 23 [(0, .ref (ad 0)), (1, .int W.1), (2, .int (nI (71 + i)))] []) (28) (fun i hi ihi => ?_) ?_
  · skip
    have h28 : i < 28 := hi
    refine g_iload_n (v := nI (71 + i)) cx dX9_frames_23 rfl ?_
    refine g_bipush (v := 99) cx dX9_frames_24 (by decide) ?_
    refine g_icmp_ge cx 47 dX9_frames_26 (by decide) (fun hw2 => absurd hw2 (rf_geMN rfl (nl 99) (by omega) (by omega) (by omega))) (fun hw2 => ?_)
    refine g_aload_n (v := ad 0) cx dX9_frames_29 rfl ?_
    refine g_get (v := .ref (ad 1)) cx fk_X9_7 dX9_frames_30 0 rfl rfl ?_
    refine g_iload_n (v := nI (71 + i)) cx dX9_frames_33 rfl ?_
    refine g_aload_n (v := ad 0) cx dX9_frames_34 rfl ?_
    refine g_get (v := .ref (ad 2)) cx fk_X9_13 dX9_frames_35 0 rfl rfl ?_
    refine g_iload_n (v := nI (71 + i)) cx dX9_frames_38 rfl ?_
    refine g_iald cx dX9_frames_39 2 (71 + i) rfl (rfl) (by omega) (by first | decide | omega) ?_
    refine g_top (y := W.2.1 (71 + i)) (rfl) ?_
    refine g_iast (ws' := wMo V ad (upd (mFr W.2.1 nw i) (71 + i) (W.2.1 (71 + i))) W.2.1 (mNo nw ps s) im kp tx sw sv da co pl me fa ao al (nI (hsz s)) (nI z) (nI (tX tx z W.2.2.1)) (nI (tP tx z W.2.2.1)) (mK tx z W.2.2.1) (mV tx z W.2.2.1 W.2.2.2) (nI k) il) cx dX9_frames_40 1 (71 + i) rfl (rfl) (by omega) (by first | decide | omega) rfl ?_
    refine g_iinc (x := nI (71 + i)) (v := nI ((71 + i) + 1)) (lv' := [(0, .ref (ad 0)), (1, .int W.1), (2, .int (nI ((71 + i) + 1)))]) cx dX9_frames_41 rfl (by decide) (nI_add _ _) rfl ?_
    refine g_goto cx 23 dX9_frames_44 (by decide) ?_
    exact ihi
  · skip
    refine g_iload_n (v := nI (71 + 28)) cx dX9_frames_23 rfl ?_
    refine g_bipush (v := 99) cx dX9_frames_24 (by decide) ?_
    refine g_icmp_ge cx 47 dX9_frames_26 (by decide) (fun hw3 => ?_) (fun hw3 => absurd (rf_geMP rfl (nl 99) (by omega) (by omega) (by omega)) hw3)
    refine g_aload_n (v := ad 0) cx dX9_frames_47 rfl ?_
    refine g_get (v := .ref (ad 1)) cx fk_X9_7 dX9_frames_48 0 rfl rfl ?_
    refine g_iconst (v := 3) cx dX9_frames_51 (by decide) ?_
    refine g_aload_n (v := ad 0) cx dX9_frames_52 rfl ?_
    refine g_get (v := .ref (ad 2)) cx fk_X9_13 dX9_frames_53 0 rfl rfl ?_
    refine g_iconst (v := 3) cx dX9_frames_56 (by decide) ?_
    refine g_iald cx dX9_frames_57 2 3 rfl (nl 3) (by omega) (by first | decide | omega) ?_
    refine g_top (y := W.2.1 3) (rfl) ?_
    refine g_iast (ws' := wMo V ad (upd (mFr W.2.1 nw 28) 3 (W.2.1 3)) W.2.1 (mNo nw ps s) im kp tx sw sv da co pl me fa ao al (nI (hsz s)) (nI z) (nI (tX tx z W.2.2.1)) (nI (tP tx z W.2.2.1)) (mK tx z W.2.2.1) (mV tx z W.2.2.1 W.2.2.2) (nI k) il) cx dX9_frames_58 1 3 rfl (nl 3) (by omega) (by first | decide | omega) rfl ?_
    refine g_aload_n (v := ad 0) cx dX9_frames_59 rfl ?_
    refine g_get (v := .ref (ad 1)) cx fk_X9_7 dX9_frames_60 0 rfl rfl ?_
    refine g_iconst (v := 4) cx dX9_frames_63 (by decide) ?_
    refine g_iconst (v := 0) cx dX9_frames_64 (by decide) ?_
    refine g_iast (ws' := wMo V ad (upd (upd (mFr W.2.1 nw 28) 3 (W.2.1 3)) 4 0) W.2.1 (mNo nw ps s) im kp tx sw sv da co pl me fa ao al (nI (hsz s)) (nI z) (nI (tX tx z W.2.2.1)) (nI (tP tx z W.2.2.1)) (mK tx z W.2.2.1) (mV tx z W.2.2.1 W.2.2.2) (nI k) il) cx dX9_frames_65 1 4 rfl (nl 4) (by omega) (by first | decide | omega) rfl ?_
    refine g_aload_n (v := ad 0) cx dX9_frames_66 rfl ?_
    refine g_get (v := .ref (ad 1)) cx fk_X9_7 dX9_frames_67 0 rfl rfl ?_
    refine g_iconst (v := 5) cx dX9_frames_70 (by decide) ?_
    refine g_bipush (v := (-9)) cx dX9_frames_71 (by decide) ?_
    refine g_iast (ws' := wMo V ad (upd (upd (upd (mFr W.2.1 nw 28) 3 (W.2.1 3)) 4 0) 5 (-9)) W.2.1 (mNo nw ps s) im kp tx sw sv da co pl me fa ao al (nI (hsz s)) (nI z) (nI (tX tx z W.2.2.1)) (nI (tP tx z W.2.2.1)) (mK tx z W.2.2.1) (mV tx z W.2.2.1 W.2.2.2) (nI k) il) cx dX9_frames_73 1 5 rfl (nl 5) (by omega) (by first | decide | omega) rfl ?_
    refine g_aload_n (v := ad 0) cx dX9_frames_74 rfl ?_
    refine g_get (v := .ref (ad 1)) cx fk_X9_7 dX9_frames_75 0 rfl rfl ?_
    refine g_bipush (v := 6) cx dX9_frames_78 (by decide) ?_
    refine g_bipush (v := (-9)) cx dX9_frames_80 (by decide) ?_
    refine g_iast (ws' := wMo V ad (upd (upd (upd (upd (mFr W.2.1 nw 28) 3 (W.2.1 3)) 4 0) 5 (-9)) 6 (-9)) W.2.1 (mNo nw ps s) im kp tx sw sv da co pl me fa ao al (nI (hsz s)) (nI z) (nI (tX tx z W.2.2.1)) (nI (tP tx z W.2.2.1)) (mK tx z W.2.2.1) (mV tx z W.2.2.1 W.2.2.2) (nI k) il) cx dX9_frames_82 1 6 rfl (nl 6) (by omega) (by first | decide | omega) rfl ?_
    refine g_aload_n (v := ad 0) cx dX9_frames_83 rfl ?_
    refine g_iconst (v := 0) cx dX9_frames_84 (by decide) ?_
    refine g_put (ws' := wMo V ad (upd (upd (upd (upd (mFr W.2.1 nw 28) 3 (W.2.1 3)) 4 0) 5 (-9)) 6 (-9)) W.2.1 (mNo nw ps s) im kp tx sw sv da co pl me fa ao al (nI (hsz s)) 0 (nI (tX tx z W.2.2.1)) (nI (tP tx z W.2.2.1)) (mK tx z W.2.2.1) (mV tx z W.2.2.1 W.2.2.2) (nI k) il) cx fk_X9_67 dX9_frames_85 0 rfl (rfl) (rfl) (Nat.le_of_ble_eq_true rfl) rfl ?_
    refine g_aload_n (v := ad 0) cx dX9_frames_88 rfl ?_
    refine g_get (v := .ref (ad 1)) cx fk_X9_7 dX9_frames_89 0 rfl rfl ?_
    refine g_iconst (v := 3) cx dX9_frames_92 (by decide) ?_
    refine g_iald cx dX9_frames_93 1 3 rfl (nl 3) (by omega) (by first | decide | omega) ?_
    refine g_top (y := (upd (upd (upd (upd (mFr W.2.1 nw 28) 3 (W.2.1 3)) 4 0) 5 (-9)) 6 (-9)) 3) (rfl) ?_
    exact hret _ _ _ _ dX9_frames_94 (rfl) ⟨rfl, rfl⟩
def rm_X9_undo_state : Room := { frames := 0, cells := 0, slots := 0, locals := 0 }
set_option maxRecDepth 100000 in
set_option maxHeartbeats 4000000 in
theorem c_X9_undo_state (V : VT) (ad : Nat → Nat) (nw rw ps im kp tx sw sv da co pl me fa ao al : Nat → Int32) (ax ta ts tv il : Int32) (s z k n o m : Nat) (hM : okM nw sw s z k n o m)  (h1 : s = 0) : CI V yX9_undo cX9_undo 1 .int rm_X9_undo_state [.ref (ad 0)] (wMo V ad nw rw ps im kp tx sw sv da co pl me fa ao al (nI s) (nI z) ax ta ts tv (nI k) il) (fun r_ w_ => r_ = (-2) ∧ w_ = wMo V ad nw rw ps im kp tx sw sv da co pl me fa ao al (nI s) (nI z) ax ta ts tv (nI k) il) := by
  refine CI_intro (by decide) (Nat.le_of_ble_eq_true rfl) (fun K cx hret => ?_)
  show G V K 1 0 0 (wMo V ad nw rw ps im kp tx sw sv da co pl me fa ao al (nI s) (nI z) ax ta ts tv (nI k) il) 0 [(0, .ref (ad 0))] []
  obtain ⟨hs6, hz, hk6, hn, hn6, hn1, ho, ho4, hm, hm7, hat, hc, hcj, hsw⟩ := hM
  refine g_aload_n (v := ad 0) cx dX9_undo_0 rfl ?_
  refine g_get (v := .int (nI s)) cx fk_X9_164 dX9_undo_1 0 rfl rfl ?_
  refine g_if_ne cx 10 dX9_undo_4 (by decide) (fun hw1 => absurd (by rw [h1]; rfl) hw1) (fun hw1 => ?_)
  refine g_bipush (v := (-2)) cx dX9_undo_7 (by decide) ?_
  exact hret _ _ _ _ dX9_undo_9 (rfl) ⟨rfl, rfl⟩
def rm_X9_undo_ok : Room := { frames := 1, cells := 0, slots := 0, locals := 24 }
set_option maxRecDepth 100000 in
set_option maxHeartbeats 4000000 in
theorem c_X9_undo_ok (V : VT) (ad : Nat → Nat) (nw rw ps im kp tx sw sv da co pl me fa ao al : Nat → Int32) (ax ta ts tv il : Int32) (s z k n o m : Nat) (hM : okM nw sw s z k n o m)  (h1 : 1 ≤ s) : CI V yX9_undo cX9_undo 1 .int rm_X9_undo_ok [.ref (ad 0)] (wMo V ad nw rw ps im kp tx sw sv da co pl me fa ao al (nI s) (nI z) ax ta ts tv (nI k) il) (fun r_ w_ => r_ = nI (s - 1) ∧ w_ = wMo V ad (brg ps nw (99 * (s - 1)) 0 99) rw ps im kp tx sw sv da co pl me fa ao al (nI (s - 1)) (nI z) ax ta ts tv (nI k) il) := by
  refine CI_intro (by decide) (Nat.le_of_ble_eq_true rfl) (fun K cx hret => ?_)
  show G V K 1 0 0 (wMo V ad nw rw ps im kp tx sw sv da co pl me fa ao al (nI s) (nI z) ax ta ts tv (nI k) il) 0 [(0, .ref (ad 0))] []
  obtain ⟨hs6, hz, hk6, hn, hn6, hn1, ho, ho4, hm, hm7, hat, hc, hcj, hsw⟩ := hM
  refine g_aload_n (v := ad 0) cx dX9_undo_0 rfl ?_
  refine g_get (v := .int (nI s)) cx fk_X9_164 dX9_undo_1 0 rfl rfl ?_
  refine g_if_ne cx 10 dX9_undo_4 (by decide) (fun hw1 => ?_) (fun hw1 => absurd hw1 (rf_eqMN rfl (nl 0) (by omega) (by omega) (by omega)))
  refine g_aload_n (v := ad 0) cx dX9_undo_10 rfl ?_
  refine g_dup cx dX9_undo_11 rfl ?_
  refine g_get (v := .int (nI s)) cx fk_X9_164 dX9_undo_12 0 rfl rfl ?_
  refine g_iconst (v := 1) cx dX9_undo_15 (by decide) ?_
  refine g_isub cx dX9_undo_16 ?_
  refine g_top (y := nI (s - 1)) (rf_sub rfl (nl 1) h1) ?_
  refine g_put (ws' := wMo V ad nw rw ps im kp tx sw sv da co pl me fa ao al (nI (s - 1)) (nI z) ax ta ts tv (nI k) il) cx fk_X9_164 dX9_undo_17 0 rfl (rfl) (rfl) (Nat.le_of_ble_eq_true rfl) rfl ?_
  refine g_aload_n (v := ad 0) cx dX9_undo_20 rfl ?_
  refine g_get (v := .ref (ad 3)) cx fk_X9_16 dX9_undo_21 0 rfl rfl ?_
  refine g_bipush (v := 99) cx dX9_undo_24 (by decide) ?_
  refine g_aload_n (v := ad 0) cx dX9_undo_26 rfl ?_
  refine g_get (v := .int (nI (s - 1))) cx fk_X9_164 dX9_undo_27 0 rfl rfl ?_
  refine g_imul cx dX9_undo_30 ?_
  refine g_aload_n (v := ad 0) cx dX9_undo_31 rfl ?_
  refine g_get (v := .ref (ad 1)) cx fk_X9_7 dX9_undo_32 0 rfl rfl ?_
  refine g_iconst (v := 0) cx dX9_undo_35 (by decide) ?_
  refine k_callsv (ws' := wMo V ad (brg ps nw (99 * (s - 1)) 0 99) rw ps im kp tx sw sv da co pl me fa ao al (nI (s - 1)) (nI z) ax ta ts tv (nI k) il) (As := [.ref (ad 3), .int (99 * (nI (s - 1))), .ref (ad 1), .int 0]) (rest := []) cx (c_X9_bring V (ad 3) (ad 1) 594 99 ps nw (99 * (nI (s - 1))) 0 (99 * (s - 1)) 0 (rf_mul (nl 99) rfl) (nl 0) (by omega) (by omega) (by decide) (by decide)) ml_X9_59 dX9_undo_36 [3, 1] rfl rfl [ad 3, ad 1] rfl rfl rfl rfl rfl (Nat.le_of_ble_eq_true rfl) ⟨Nat.le_of_ble_eq_true rfl, Nat.le_of_ble_eq_true rfl⟩ ⟨Nat.le_refl _, Nat.le_refl _⟩ ?_
  refine g_aload_n (v := ad 0) cx dX9_undo_39 rfl ?_
  refine g_get (v := .int (nI (s - 1))) cx fk_X9_164 dX9_undo_40 0 rfl rfl ?_
  exact hret _ _ _ _ dX9_undo_43 (rfl) ⟨rfl, rfl⟩
def rm_X9_cuts_bad : Room := { frames := 2, cells := 0, slots := 0, locals := 43 }
set_option maxRecDepth 100000 in
set_option maxHeartbeats 4000000 in
theorem c_X9_cuts_bad (V : VT) (ad : Nat → Nat) (nw rw ps im kp tx sw sv da co pl me fa ao al : Nat → Int32) (ax ta ts tv il : Int32) (s z k n o m : Nat) (hM : okM nw sw s z k n o m) (l : Int32) (hb : ¬ (¬ l < 0 ∧ ¬ nw 0 + nw 1 - 1 < l)) : CI V yX9_cuts cX9_cuts 2 .int rm_X9_cuts_bad [.ref (ad 0), .int l] (wMo V ad nw rw ps im kp tx sw sv da co pl me fa ao al (nI s) (nI z) ax ta ts tv (nI k) il) (fun r_ w_ => r_ = (-1) ∧ w_ = wMo V ad nw rw ps im kp tx sw sv da co pl me fa ao al (nI s) (nI z) ax ta ts tv (nI k) il) := by
  refine CI_intro (by decide) (Nat.le_of_ble_eq_true rfl) (fun K cx hret => ?_)
  show G V K 2 0 0 (wMo V ad nw rw ps im kp tx sw sv da co pl me fa ao al (nI s) (nI z) ax ta ts tv (nI k) il) 0 [(0, .ref (ad 0)), (1, .int l)] []
  obtain ⟨hs6, hz, hk6, hn, hn6, hn1, ho, ho4, hm, hm7, hat, hc, hcj, hsw⟩ := hM
  refine g_aload_n (v := ad 0) cx dX9_cuts_0 rfl ?_
  refine g_iload_n (v := l) cx dX9_cuts_1 rfl ?_
  refine w_calli (r0 := bI (¬ l < 0 ∧ ¬ nw 0 + nw 1 - 1 < l)) (ws' := wMo V ad nw rw ps im kp tx sw sv da co pl me fa ao al (nI s) (nI z) ax ta ts tv (nI k) il) (As := [.int l]) (rest := []) cx (c_X9_isLink V ad nw rw ps im kp tx sw sv da co pl me fa ao al (nI s) (nI z) ax ta ts tv (nI k) il l) ml_X9_170 dX9_cuts_2 (q0 := 0) rfl rfl rfl rfl rfl (Nat.le_of_ble_eq_true rfl) ⟨Nat.le_of_ble_eq_true rfl, Nat.le_of_ble_eq_true rfl⟩ ⟨Nat.le_refl _, Nat.le_refl _⟩ ?_
  refine g_if_ne_b cx 10 dX9_cuts_5 (by decide) (fun hw1 => absurd hw1 (hb)) (fun hw1 => ?_)
  refine g_iconst (v := (-1)) cx dX9_cuts_8 (by decide) ?_
  exact hret _ _ _ _ dX9_cuts_9 (rfl) ⟨rfl, rfl⟩
def rm_X9_cuts_state : Room := { frames := 2, cells := 0, slots := 0, locals := 43 }
set_option maxRecDepth 100000 in
set_option maxHeartbeats 4000000 in
theorem c_X9_cuts_state (V : VT) (ad : Nat → Nat) (nw rw ps im kp tx sw sv da co pl me fa ao al : Nat → Int32) (ax ta ts tv il : Int32) (s z k n o m : Nat) (hM : okM nw sw s z k n o m) (l : Int32) (q : Nat) (hl : l = nI q) (hq : q < m) (hc2 : hasB (nw 16) q) : CI V yX9_cuts cX9_cuts 2 .int rm_X9_cuts_state [.ref (ad 0), .int l] (wMo V ad nw rw ps im kp tx sw sv da co pl me fa ao al (nI s) (nI z) ax ta ts tv (nI k) il) (fun r_ w_ => r_ = (-2) ∧ w_ = wMo V ad nw rw ps im kp tx sw sv da co pl me fa ao al (nI s) (nI z) ax ta ts tv (nI k) il) := by
  refine CI_intro (by decide) (Nat.le_of_ble_eq_true rfl) (fun K cx hret => ?_)
  show G V K 2 0 0 (wMo V ad nw rw ps im kp tx sw sv da co pl me fa ao al (nI s) (nI z) ax ta ts tv (nI k) il) 0 [(0, .ref (ad 0)), (1, .int l)] []
  obtain ⟨hs6, hz, hk6, hn, hn6, hn1, ho, ho4, hm, hm7, hat, hc, hcj, hsw⟩ := hM
  refine g_aload_n (v := ad 0) cx dX9_cuts_0 rfl ?_
  refine g_iload_n (v := l) cx dX9_cuts_1 rfl ?_
  refine w_calli (r0 := bI (¬ l < 0 ∧ ¬ nw 0 + nw 1 - 1 < l)) (ws' := wMo V ad nw rw ps im kp tx sw sv da co pl me fa ao al (nI s) (nI z) ax ta ts tv (nI k) il) (As := [.int l]) (rest := []) cx (c_X9_isLink V ad nw rw ps im kp tx sw sv da co pl me fa ao al (nI s) (nI z) ax ta ts tv (nI k) il l) ml_X9_170 dX9_cuts_2 (q0 := 0) rfl rfl rfl rfl rfl (Nat.le_of_ble_eq_true rfl) ⟨Nat.le_of_ble_eq_true rfl, Nat.le_of_ble_eq_true rfl⟩ ⟨Nat.le_refl _, Nat.le_refl _⟩ ?_
  refine g_if_ne_b cx 10 dX9_cuts_5 (by decide) (fun hw1 => ?_) (fun hw1 => absurd (⟨rf_ltMN hl (b := 0) (nl 0) (by omega) (by omega) (by omega), by rw [hm, hl]; exact rf_predN (by omega) (by omega) (by omega)⟩) hw1)
  refine g_aload_n (v := ad 0) cx dX9_cuts_10 rfl ?_
  refine g_get (v := .ref (ad 1)) cx fk_X9_7 dX9_cuts_11 0 rfl rfl ?_
  refine g_bipush (v := 16) cx dX9_cuts_14 (by decide) ?_
  refine g_iald cx dX9_cuts_16 1 16 rfl (nl 16) (by omega) (by first | decide | omega) ?_
  refine g_top (y := nw 16) (rfl) ?_
  refine g_iload_n (v := l) cx dX9_cuts_17 rfl ?_
  refine k_callsi (r0 := bI (hasB (nw 16) q)) (ws' := wMo V ad nw rw ps im kp tx sw sv da co pl me fa ao al (nI s) (nI z) ax ta ts tv (nI k) il) (As := [.int (nw 16), .int l]) (rest := []) cx (c_X9_has V (nw 16) l q hl) ml_X9_124 dX9_cuts_18 [] rfl rfl [] rfl rfl rfl rfl rfl (Nat.le_of_ble_eq_true rfl) ⟨Nat.le_of_ble_eq_true rfl, Nat.le_of_ble_eq_true rfl⟩ ⟨Nat.le_refl _, Nat.le_refl _⟩ ?_
  refine g_if_eq_b cx 27 dX9_cuts_21 (by decide) (fun hw2 => absurd (hc2) hw2) (fun hw2 => ?_)
  refine g_bipush (v := (-2)) cx dX9_cuts_24 (by decide) ?_
  exact hret _ _ _ _ dX9_cuts_26 (rfl) ⟨rfl, rfl⟩
def rm_X9_cuts_ok : Room := { frames := 2, cells := 0, slots := 0, locals := 45 }
set_option maxRecDepth 100000 in
set_option maxHeartbeats 4000000 in
theorem c_X9_cuts_ok (V : VT) (ad : Nat → Nat) (nw rw ps im kp tx sw sv da co pl me fa ao al : Nat → Int32) (ax ta ts tv il : Int32) (s z k n o m : Nat) (hM : okM nw sw s z k n o m) (l : Int32) (q : Nat) (hl : l = nI q) (hq : q < m) (hc2 : ¬ hasB (nw 16) q) : CI V yX9_cuts cX9_cuts 2 .int rm_X9_cuts_ok [.ref (ad 0), .int l] (wMo V ad nw rw ps im kp tx sw sv da co pl me fa ao al (nI s) (nI z) ax ta ts tv (nI k) il) (fun r_ w_ => r_ = mOnes ((upd (upd nw 16 (nw 16 ||| ((1 : Int32) <<< (l &&& 31)))) 8 1) 16) 8 ∧ w_ = wMo V ad (upd (upd nw 16 (nw 16 ||| ((1 : Int32) <<< (l &&& 31)))) 8 1) rw (mNo nw ps s) im kp tx sw sv da co pl me fa ao al (nI (hsz s)) (nI z) ax ta ts tv (nI k) il) := by
  refine CI_intro (by decide) (Nat.le_of_ble_eq_true rfl) (fun K cx hret => ?_)
  show G V K 2 0 0 (wMo V ad nw rw ps im kp tx sw sv da co pl me fa ao al (nI s) (nI z) ax ta ts tv (nI k) il) 0 [(0, .ref (ad 0)), (1, .int l)] []
  obtain ⟨hs6, hz, hk6, hn, hn6, hn1, ho, ho4, hm, hm7, hat, hc, hcj, hsw⟩ := hM
  refine g_aload_n (v := ad 0) cx dX9_cuts_0 rfl ?_
  refine g_iload_n (v := l) cx dX9_cuts_1 rfl ?_
  refine w_calli (r0 := bI (¬ l < 0 ∧ ¬ nw 0 + nw 1 - 1 < l)) (ws' := wMo V ad nw rw ps im kp tx sw sv da co pl me fa ao al (nI s) (nI z) ax ta ts tv (nI k) il) (As := [.int l]) (rest := []) cx (c_X9_isLink V ad nw rw ps im kp tx sw sv da co pl me fa ao al (nI s) (nI z) ax ta ts tv (nI k) il l) ml_X9_170 dX9_cuts_2 (q0 := 0) rfl rfl rfl rfl rfl (Nat.le_of_ble_eq_true rfl) ⟨Nat.le_of_ble_eq_true rfl, Nat.le_of_ble_eq_true rfl⟩ ⟨Nat.le_refl _, Nat.le_refl _⟩ ?_
  refine g_if_ne_b cx 10 dX9_cuts_5 (by decide) (fun hw1 => ?_) (fun hw1 => absurd (⟨rf_ltMN hl (b := 0) (nl 0) (by omega) (by omega) (by omega), by rw [hm, hl]; exact rf_predN (by omega) (by omega) (by omega)⟩) hw1)
  refine g_aload_n (v := ad 0) cx dX9_cuts_10 rfl ?_
  refine g_get (v := .ref (ad 1)) cx fk_X9_7 dX9_cuts_11 0 rfl rfl ?_
  refine g_bipush (v := 16) cx dX9_cuts_14 (by decide) ?_
  refine g_iald cx dX9_cuts_16 1 16 rfl (nl 16) (by omega) (by first | decide | omega) ?_
  refine g_top (y := nw 16) (rfl) ?_
  refine g_iload_n (v := l) cx dX9_cuts_17 rfl ?_
  refine k_callsi (r0 := bI (hasB (nw 16) q)) (ws' := wMo V ad nw rw ps im kp tx sw sv da co pl me fa ao al (nI s) (nI z) ax ta ts tv (nI k) il) (As := [.int (nw 16), .int l]) (rest := []) cx (c_X9_has V (nw 16) l q hl) ml_X9_124 dX9_cuts_18 [] rfl rfl [] rfl rfl rfl rfl rfl (Nat.le_of_ble_eq_true rfl) ⟨Nat.le_of_ble_eq_true rfl, Nat.le_of_ble_eq_true rfl⟩ ⟨Nat.le_refl _, Nat.le_refl _⟩ ?_
  refine g_if_eq_b cx 27 dX9_cuts_21 (by decide) (fun hw2 => ?_) (fun hw2 => absurd hw2 (hc2))
  refine g_aload_n (v := ad 0) cx dX9_cuts_27 rfl ?_
  refine w_callv (ws' := wMo V ad nw rw (mNo nw ps s) im kp tx sw sv da co pl me fa ao al (nI (hsz s)) (nI z) ax ta ts tv (nI k) il) (As := []) (rest := []) cx (c_X9_note V ad nw rw ps im kp tx sw sv da co pl me fa ao al (nI z) ax ta ts tv (nI k) il s (by omega)) ml_X9_118 dX9_cuts_28 (q0 := 0) rfl rfl rfl rfl rfl (Nat.le_of_ble_eq_true rfl) ⟨Nat.le_of_ble_eq_true rfl, Nat.le_of_ble_eq_true rfl⟩ ⟨Nat.le_refl _, Nat.le_refl _⟩ ?_
  refine g_aload_n (v := ad 0) cx dX9_cuts_31 rfl ?_
  refine g_get (v := .ref (ad 1)) cx fk_X9_7 dX9_cuts_32 0 rfl rfl ?_
  refine g_bipush (v := 16) cx dX9_cuts_35 (by decide) ?_
  refine g_dup2 cx dX9_cuts_37 rfl rfl ?_
  refine g_iald cx dX9_cuts_38 1 16 rfl (nl 16) (by omega) (by first | decide | omega) ?_
  refine g_top (y := nw 16) (rfl) ?_
  refine g_iconst (v := 1) cx dX9_cuts_39 (by decide) ?_
  refine g_iload_n (v := l) cx dX9_cuts_40 rfl ?_
  refine g_ishl cx dX9_cuts_41 ?_
  refine g_ior cx dX9_cuts_42 ?_
  refine g_iast (ws' := wMo V ad (upd nw 16 ((nw 16) ||| ((1 : Int32) <<< (l &&& 31)))) rw (mNo nw ps s) im kp tx sw sv da co pl me fa ao al (nI (hsz s)) (nI z) ax ta ts tv (nI k) il) cx dX9_cuts_43 1 16 rfl (nl 16) (by omega) (by first | decide | omega) rfl ?_
  refine g_aload_n (v := ad 0) cx dX9_cuts_44 rfl ?_
  refine g_get (v := .ref (ad 1)) cx fk_X9_7 dX9_cuts_45 0 rfl rfl ?_
  refine g_bipush (v := 8) cx dX9_cuts_48 (by decide) ?_
  refine g_iconst (v := 1) cx dX9_cuts_50 (by decide) ?_
  refine g_iast (ws' := wMo V ad (upd (upd nw 16 ((nw 16) ||| ((1 : Int32) <<< (l &&& 31)))) 8 1) rw (mNo nw ps s) im kp tx sw sv da co pl me fa ao al (nI (hsz s)) (nI z) ax ta ts tv (nI k) il) cx dX9_cuts_51 1 8 rfl (nl 8) (by omega) (by first | decide | omega) rfl ?_
  refine g_aload_n (v := ad 0) cx dX9_cuts_52 rfl ?_
  refine g_get (v := .ref (ad 1)) cx fk_X9_7 dX9_cuts_53 0 rfl rfl ?_
  refine g_bipush (v := 16) cx dX9_cuts_56 (by decide) ?_
  refine g_iald cx dX9_cuts_58 1 16 rfl (nl 16) (by omega) (by first | decide | omega) ?_
  refine g_top (y := (upd (upd nw 16 ((nw 16) ||| ((1 : Int32) <<< (l &&& 31)))) 8 1) 16) (rfl) ?_
  refine k_callsi (r0 := mOnes ((upd (upd nw 16 ((nw 16) ||| ((1 : Int32) <<< (l &&& 31)))) 8 1) 16) 8) (ws' := wMo V ad (upd (upd nw 16 ((nw 16) ||| ((1 : Int32) <<< (l &&& 31)))) 8 1) rw (mNo nw ps s) im kp tx sw sv da co pl me fa ao al (nI (hsz s)) (nI z) ax ta ts tv (nI k) il) (As := [.int ((upd (upd nw 16 ((nw 16) ||| ((1 : Int32) <<< (l &&& 31)))) 8 1) 16)]) (rest := []) cx (c_X9_ones V ((upd (upd nw 16 ((nw 16) ||| ((1 : Int32) <<< (l &&& 31)))) 8 1) 16)) ml_X9_173 dX9_cuts_59 [] rfl rfl [] rfl rfl rfl rfl rfl (Nat.le_of_ble_eq_true rfl) ⟨Nat.le_of_ble_eq_true rfl, Nat.le_of_ble_eq_true rfl⟩ ⟨Nat.le_refl _, Nat.le_refl _⟩ ?_
  exact hret _ _ _ _ dX9_cuts_62 (rfl) ⟨rfl, rfl⟩
def rm_X9_heals_bad : Room := { frames := 2, cells := 0, slots := 0, locals := 43 }
set_option maxRecDepth 100000 in
set_option maxHeartbeats 4000000 in
theorem c_X9_heals_bad (V : VT) (ad : Nat → Nat) (nw rw ps im kp tx sw sv da co pl me fa ao al : Nat → Int32) (ax ta ts tv il : Int32) (s z k n o m : Nat) (hM : okM nw sw s z k n o m) (l : Int32) (hb : ¬ (¬ l < 0 ∧ ¬ nw 0 + nw 1 - 1 < l)) : CI V yX9_heals cX9_heals 2 .int rm_X9_heals_bad [.ref (ad 0), .int l] (wMo V ad nw rw ps im kp tx sw sv da co pl me fa ao al (nI s) (nI z) ax ta ts tv (nI k) il) (fun r_ w_ => r_ = (-1) ∧ w_ = wMo V ad nw rw ps im kp tx sw sv da co pl me fa ao al (nI s) (nI z) ax ta ts tv (nI k) il) := by
  refine CI_intro (by decide) (Nat.le_of_ble_eq_true rfl) (fun K cx hret => ?_)
  show G V K 2 0 0 (wMo V ad nw rw ps im kp tx sw sv da co pl me fa ao al (nI s) (nI z) ax ta ts tv (nI k) il) 0 [(0, .ref (ad 0)), (1, .int l)] []
  obtain ⟨hs6, hz, hk6, hn, hn6, hn1, ho, ho4, hm, hm7, hat, hc, hcj, hsw⟩ := hM
  refine g_aload_n (v := ad 0) cx dX9_heals_0 rfl ?_
  refine g_iload_n (v := l) cx dX9_heals_1 rfl ?_
  refine w_calli (r0 := bI (¬ l < 0 ∧ ¬ nw 0 + nw 1 - 1 < l)) (ws' := wMo V ad nw rw ps im kp tx sw sv da co pl me fa ao al (nI s) (nI z) ax ta ts tv (nI k) il) (As := [.int l]) (rest := []) cx (c_X9_isLink V ad nw rw ps im kp tx sw sv da co pl me fa ao al (nI s) (nI z) ax ta ts tv (nI k) il l) ml_X9_170 dX9_heals_2 (q0 := 0) rfl rfl rfl rfl rfl (Nat.le_of_ble_eq_true rfl) ⟨Nat.le_of_ble_eq_true rfl, Nat.le_of_ble_eq_true rfl⟩ ⟨Nat.le_refl _, Nat.le_refl _⟩ ?_
  refine g_if_ne_b cx 10 dX9_heals_5 (by decide) (fun hw1 => absurd hw1 (hb)) (fun hw1 => ?_)
  refine g_iconst (v := (-1)) cx dX9_heals_8 (by decide) ?_
  exact hret _ _ _ _ dX9_heals_9 (rfl) ⟨rfl, rfl⟩
def rm_X9_heals_state : Room := { frames := 2, cells := 0, slots := 0, locals := 43 }
set_option maxRecDepth 100000 in
set_option maxHeartbeats 4000000 in
theorem c_X9_heals_state (V : VT) (ad : Nat → Nat) (nw rw ps im kp tx sw sv da co pl me fa ao al : Nat → Int32) (ax ta ts tv il : Int32) (s z k n o m : Nat) (hM : okM nw sw s z k n o m) (l : Int32) (q : Nat) (hl : l = nI q) (hq : q < m) (hc2 : ¬ hasB (nw 16) q) : CI V yX9_heals cX9_heals 2 .int rm_X9_heals_state [.ref (ad 0), .int l] (wMo V ad nw rw ps im kp tx sw sv da co pl me fa ao al (nI s) (nI z) ax ta ts tv (nI k) il) (fun r_ w_ => r_ = (-2) ∧ w_ = wMo V ad nw rw ps im kp tx sw sv da co pl me fa ao al (nI s) (nI z) ax ta ts tv (nI k) il) := by
  refine CI_intro (by decide) (Nat.le_of_ble_eq_true rfl) (fun K cx hret => ?_)
  show G V K 2 0 0 (wMo V ad nw rw ps im kp tx sw sv da co pl me fa ao al (nI s) (nI z) ax ta ts tv (nI k) il) 0 [(0, .ref (ad 0)), (1, .int l)] []
  obtain ⟨hs6, hz, hk6, hn, hn6, hn1, ho, ho4, hm, hm7, hat, hc, hcj, hsw⟩ := hM
  refine g_aload_n (v := ad 0) cx dX9_heals_0 rfl ?_
  refine g_iload_n (v := l) cx dX9_heals_1 rfl ?_
  refine w_calli (r0 := bI (¬ l < 0 ∧ ¬ nw 0 + nw 1 - 1 < l)) (ws' := wMo V ad nw rw ps im kp tx sw sv da co pl me fa ao al (nI s) (nI z) ax ta ts tv (nI k) il) (As := [.int l]) (rest := []) cx (c_X9_isLink V ad nw rw ps im kp tx sw sv da co pl me fa ao al (nI s) (nI z) ax ta ts tv (nI k) il l) ml_X9_170 dX9_heals_2 (q0 := 0) rfl rfl rfl rfl rfl (Nat.le_of_ble_eq_true rfl) ⟨Nat.le_of_ble_eq_true rfl, Nat.le_of_ble_eq_true rfl⟩ ⟨Nat.le_refl _, Nat.le_refl _⟩ ?_
  refine g_if_ne_b cx 10 dX9_heals_5 (by decide) (fun hw1 => ?_) (fun hw1 => absurd (⟨rf_ltMN hl (b := 0) (nl 0) (by omega) (by omega) (by omega), by rw [hm, hl]; exact rf_predN (by omega) (by omega) (by omega)⟩) hw1)
  refine g_aload_n (v := ad 0) cx dX9_heals_10 rfl ?_
  refine g_get (v := .ref (ad 1)) cx fk_X9_7 dX9_heals_11 0 rfl rfl ?_
  refine g_bipush (v := 16) cx dX9_heals_14 (by decide) ?_
  refine g_iald cx dX9_heals_16 1 16 rfl (nl 16) (by omega) (by first | decide | omega) ?_
  refine g_top (y := nw 16) (rfl) ?_
  refine g_iload_n (v := l) cx dX9_heals_17 rfl ?_
  refine k_callsi (r0 := bI (hasB (nw 16) q)) (ws' := wMo V ad nw rw ps im kp tx sw sv da co pl me fa ao al (nI s) (nI z) ax ta ts tv (nI k) il) (As := [.int (nw 16), .int l]) (rest := []) cx (c_X9_has V (nw 16) l q hl) ml_X9_124 dX9_heals_18 [] rfl rfl [] rfl rfl rfl rfl rfl (Nat.le_of_ble_eq_true rfl) ⟨Nat.le_of_ble_eq_true rfl, Nat.le_of_ble_eq_true rfl⟩ ⟨Nat.le_refl _, Nat.le_refl _⟩ ?_
  refine g_if_ne_b cx 27 dX9_heals_21 (by decide) (fun hw2 => absurd hw2 (hc2)) (fun hw2 => ?_)
  refine g_bipush (v := (-2)) cx dX9_heals_24 (by decide) ?_
  exact hret _ _ _ _ dX9_heals_26 (rfl) ⟨rfl, rfl⟩
def rm_X9_heals_ok : Room := { frames := 2, cells := 0, slots := 0, locals := 45 }
set_option maxRecDepth 100000 in
set_option maxHeartbeats 4000000 in
theorem c_X9_heals_ok (V : VT) (ad : Nat → Nat) (nw rw ps im kp tx sw sv da co pl me fa ao al : Nat → Int32) (ax ta ts tv il : Int32) (s z k n o m : Nat) (hM : okM nw sw s z k n o m) (l : Int32) (q : Nat) (hl : l = nI q) (hq : q < m) (hc2 : hasB (nw 16) q) : CI V yX9_heals cX9_heals 2 .int rm_X9_heals_ok [.ref (ad 0), .int l] (wMo V ad nw rw ps im kp tx sw sv da co pl me fa ao al (nI s) (nI z) ax ta ts tv (nI k) il) (fun r_ w_ => r_ = mOnes ((upd nw 16 (nw 16 - ((1 : Int32) <<< (l &&& 31)))) 16) 8 ∧ w_ = wMo V ad (upd nw 16 (nw 16 - ((1 : Int32) <<< (l &&& 31)))) rw (mNo nw ps s) im kp tx sw sv da co pl me fa ao al (nI (hsz s)) (nI z) ax ta ts tv (nI k) il) := by
  refine CI_intro (by decide) (Nat.le_of_ble_eq_true rfl) (fun K cx hret => ?_)
  show G V K 2 0 0 (wMo V ad nw rw ps im kp tx sw sv da co pl me fa ao al (nI s) (nI z) ax ta ts tv (nI k) il) 0 [(0, .ref (ad 0)), (1, .int l)] []
  obtain ⟨hs6, hz, hk6, hn, hn6, hn1, ho, ho4, hm, hm7, hat, hc, hcj, hsw⟩ := hM
  refine g_aload_n (v := ad 0) cx dX9_heals_0 rfl ?_
  refine g_iload_n (v := l) cx dX9_heals_1 rfl ?_
  refine w_calli (r0 := bI (¬ l < 0 ∧ ¬ nw 0 + nw 1 - 1 < l)) (ws' := wMo V ad nw rw ps im kp tx sw sv da co pl me fa ao al (nI s) (nI z) ax ta ts tv (nI k) il) (As := [.int l]) (rest := []) cx (c_X9_isLink V ad nw rw ps im kp tx sw sv da co pl me fa ao al (nI s) (nI z) ax ta ts tv (nI k) il l) ml_X9_170 dX9_heals_2 (q0 := 0) rfl rfl rfl rfl rfl (Nat.le_of_ble_eq_true rfl) ⟨Nat.le_of_ble_eq_true rfl, Nat.le_of_ble_eq_true rfl⟩ ⟨Nat.le_refl _, Nat.le_refl _⟩ ?_
  refine g_if_ne_b cx 10 dX9_heals_5 (by decide) (fun hw1 => ?_) (fun hw1 => absurd (⟨rf_ltMN hl (b := 0) (nl 0) (by omega) (by omega) (by omega), by rw [hm, hl]; exact rf_predN (by omega) (by omega) (by omega)⟩) hw1)
  refine g_aload_n (v := ad 0) cx dX9_heals_10 rfl ?_
  refine g_get (v := .ref (ad 1)) cx fk_X9_7 dX9_heals_11 0 rfl rfl ?_
  refine g_bipush (v := 16) cx dX9_heals_14 (by decide) ?_
  refine g_iald cx dX9_heals_16 1 16 rfl (nl 16) (by omega) (by first | decide | omega) ?_
  refine g_top (y := nw 16) (rfl) ?_
  refine g_iload_n (v := l) cx dX9_heals_17 rfl ?_
  refine k_callsi (r0 := bI (hasB (nw 16) q)) (ws' := wMo V ad nw rw ps im kp tx sw sv da co pl me fa ao al (nI s) (nI z) ax ta ts tv (nI k) il) (As := [.int (nw 16), .int l]) (rest := []) cx (c_X9_has V (nw 16) l q hl) ml_X9_124 dX9_heals_18 [] rfl rfl [] rfl rfl rfl rfl rfl (Nat.le_of_ble_eq_true rfl) ⟨Nat.le_of_ble_eq_true rfl, Nat.le_of_ble_eq_true rfl⟩ ⟨Nat.le_refl _, Nat.le_refl _⟩ ?_
  refine g_if_ne_b cx 27 dX9_heals_21 (by decide) (fun hw2 => ?_) (fun hw2 => absurd (hc2) hw2)
  refine g_aload_n (v := ad 0) cx dX9_heals_27 rfl ?_
  refine w_callv (ws' := wMo V ad nw rw (mNo nw ps s) im kp tx sw sv da co pl me fa ao al (nI (hsz s)) (nI z) ax ta ts tv (nI k) il) (As := []) (rest := []) cx (c_X9_note V ad nw rw ps im kp tx sw sv da co pl me fa ao al (nI z) ax ta ts tv (nI k) il s (by omega)) ml_X9_118 dX9_heals_28 (q0 := 0) rfl rfl rfl rfl rfl (Nat.le_of_ble_eq_true rfl) ⟨Nat.le_of_ble_eq_true rfl, Nat.le_of_ble_eq_true rfl⟩ ⟨Nat.le_refl _, Nat.le_refl _⟩ ?_
  refine g_aload_n (v := ad 0) cx dX9_heals_31 rfl ?_
  refine g_get (v := .ref (ad 1)) cx fk_X9_7 dX9_heals_32 0 rfl rfl ?_
  refine g_bipush (v := 16) cx dX9_heals_35 (by decide) ?_
  refine g_dup2 cx dX9_heals_37 rfl rfl ?_
  refine g_iald cx dX9_heals_38 1 16 rfl (nl 16) (by omega) (by first | decide | omega) ?_
  refine g_top (y := nw 16) (rfl) ?_
  refine g_iconst (v := 1) cx dX9_heals_39 (by decide) ?_
  refine g_iload_n (v := l) cx dX9_heals_40 rfl ?_
  refine g_ishl cx dX9_heals_41 ?_
  refine g_isub cx dX9_heals_42 ?_
  refine g_iast (ws' := wMo V ad (upd nw 16 ((nw 16) - ((1 : Int32) <<< (l &&& 31)))) rw (mNo nw ps s) im kp tx sw sv da co pl me fa ao al (nI (hsz s)) (nI z) ax ta ts tv (nI k) il) cx dX9_heals_43 1 16 rfl (nl 16) (by omega) (by first | decide | omega) rfl ?_
  refine g_aload_n (v := ad 0) cx dX9_heals_44 rfl ?_
  refine g_get (v := .ref (ad 1)) cx fk_X9_7 dX9_heals_45 0 rfl rfl ?_
  refine g_bipush (v := 16) cx dX9_heals_48 (by decide) ?_
  refine g_iald cx dX9_heals_50 1 16 rfl (nl 16) (by omega) (by first | decide | omega) ?_
  refine g_top (y := (upd nw 16 ((nw 16) - ((1 : Int32) <<< (l &&& 31)))) 16) (rfl) ?_
  refine k_callsi (r0 := mOnes ((upd nw 16 ((nw 16) - ((1 : Int32) <<< (l &&& 31)))) 16) 8) (ws' := wMo V ad (upd nw 16 ((nw 16) - ((1 : Int32) <<< (l &&& 31)))) rw (mNo nw ps s) im kp tx sw sv da co pl me fa ao al (nI (hsz s)) (nI z) ax ta ts tv (nI k) il) (As := [.int ((upd nw 16 ((nw 16) - ((1 : Int32) <<< (l &&& 31)))) 16)]) (rest := []) cx (c_X9_ones V ((upd nw 16 ((nw 16) - ((1 : Int32) <<< (l &&& 31)))) 16)) ml_X9_173 dX9_heals_51 [] rfl rfl [] rfl rfl rfl rfl rfl (Nat.le_of_ble_eq_true rfl) ⟨Nat.le_of_ble_eq_true rfl, Nat.le_of_ble_eq_true rfl⟩ ⟨Nat.le_refl _, Nat.le_refl _⟩ ?_
  exact hret _ _ _ _ dX9_heals_54 (rfl) ⟨rfl, rfl⟩
def rm_X9_cycles_bad : Room := { frames := 1, cells := 0, slots := 0, locals := 22 }
set_option maxRecDepth 100000 in
set_option maxHeartbeats 4000000 in
theorem c_X9_cycles_bad (V : VT) (ad : Nat → Nat) (nw rw ps im kp tx sw sv da co pl me fa ao al : Nat → Int32) (ax ta ts tv il : Int32) (s z k n o m : Nat) (hM : okM nw sw s z k n o m) (l : Int32) (hb : ¬ (¬ l < 1 ∧ ¬ 20 < l)) : CI V yX9_cycles cX9_cycles 3 .int rm_X9_cycles_bad [.ref (ad 0), .int l] (wMo V ad nw rw ps im kp tx sw sv da co pl me fa ao al (nI s) (nI z) ax ta ts tv (nI k) il) (fun r_ w_ => r_ = (-1) ∧ w_ = wMo V ad nw rw ps im kp tx sw sv da co pl me fa ao al (nI s) (nI z) ax ta ts tv (nI k) il) := by
  refine CI_intro (by decide) (Nat.le_of_ble_eq_true rfl) (fun K cx hret => ?_)
  show G V K 3 0 0 (wMo V ad nw rw ps im kp tx sw sv da co pl me fa ao al (nI s) (nI z) ax ta ts tv (nI k) il) 0 [(0, .ref (ad 0)), (1, .int l)] []
  obtain ⟨hs6, hz, hk6, hn, hn6, hn1, ho, ho4, hm, hm7, hat, hc, hcj, hsw⟩ := hM
  refine g_iload_n (v := l) cx dX9_cycles_0 rfl ?_
  refine g_iconst (v := 1) cx dX9_cycles_1 (by decide) ?_
  refine g_bipush (v := 20) cx dX9_cycles_2 (by decide) ?_
  refine k_callsi (r0 := bI (¬ l < 1 ∧ ¬ 20 < l)) (ws' := wMo V ad nw rw ps im kp tx sw sv da co pl me fa ao al (nI s) (nI z) ax ta ts tv (nI k) il) (As := [.int l, .int 1, .int 20]) (rest := []) cx (c_X9_in V l 1 20) ml_X9_76 dX9_cycles_4 [] rfl rfl [] rfl rfl rfl rfl rfl (Nat.le_of_ble_eq_true rfl) ⟨Nat.le_of_ble_eq_true rfl, Nat.le_of_ble_eq_true rfl⟩ ⟨Nat.le_refl _, Nat.le_refl _⟩ ?_
  refine g_if_ne_b cx 12 dX9_cycles_7 (by decide) (fun hw1 => absurd hw1 (hb)) (fun hw1 => ?_)
  refine g_iconst (v := (-1)) cx dX9_cycles_10 (by decide) ?_
  exact hret _ _ _ _ dX9_cycles_11 (rfl) ⟨rfl, rfl⟩
def rm_X9_cycles_state : Room := { frames := 1, cells := 0, slots := 0, locals := 22 }
set_option maxRecDepth 100000 in
set_option maxHeartbeats 4000000 in
theorem c_X9_cycles_state (V : VT) (ad : Nat → Nat) (nw rw ps im kp tx sw sv da co pl me fa ao al : Nat → Int32) (ax ta ts tv il : Int32) (s z k n o m : Nat) (hM : okM nw sw s z k n o m) (l : Int32) (q : Nat) (hl : l = nI q) (hq1 : 1 ≤ q) (hq2 : q ≤ 20) (h1 : o = 0) : CI V yX9_cycles cX9_cycles 3 .int rm_X9_cycles_state [.ref (ad 0), .int l] (wMo V ad nw rw ps im kp tx sw sv da co pl me fa ao al (nI s) (nI z) ax ta ts tv (nI k) il) (fun r_ w_ => r_ = (-2) ∧ w_ = wMo V ad nw rw ps im kp tx sw sv da co pl me fa ao al (nI s) (nI z) ax ta ts tv (nI k) il) := by
  refine CI_intro (by decide) (Nat.le_of_ble_eq_true rfl) (fun K cx hret => ?_)
  show G V K 3 0 0 (wMo V ad nw rw ps im kp tx sw sv da co pl me fa ao al (nI s) (nI z) ax ta ts tv (nI k) il) 0 [(0, .ref (ad 0)), (1, .int l)] []
  obtain ⟨hs6, hz, hk6, hn, hn6, hn1, ho, ho4, hm, hm7, hat, hc, hcj, hsw⟩ := hM
  refine g_iload_n (v := l) cx dX9_cycles_0 rfl ?_
  refine g_iconst (v := 1) cx dX9_cycles_1 (by decide) ?_
  refine g_bipush (v := 20) cx dX9_cycles_2 (by decide) ?_
  refine k_callsi (r0 := bI (¬ l < 1 ∧ ¬ 20 < l)) (ws' := wMo V ad nw rw ps im kp tx sw sv da co pl me fa ao al (nI s) (nI z) ax ta ts tv (nI k) il) (As := [.int l, .int 1, .int 20]) (rest := []) cx (c_X9_in V l 1 20) ml_X9_76 dX9_cycles_4 [] rfl rfl [] rfl rfl rfl rfl rfl (Nat.le_of_ble_eq_true rfl) ⟨Nat.le_of_ble_eq_true rfl, Nat.le_of_ble_eq_true rfl⟩ ⟨Nat.le_refl _, Nat.le_refl _⟩ ?_
  refine g_if_ne_b cx 12 dX9_cycles_7 (by decide) (fun hw1 => ?_) (fun hw1 => absurd (⟨rf_ltMN hl (nl 1) (by omega) (by omega) (by omega), rf_ltMN (nl 20) hl (by omega) (by omega) (by omega)⟩) hw1)
  refine g_aload_n (v := ad 0) cx dX9_cycles_12 rfl ?_
  refine g_get (v := .ref (ad 1)) cx fk_X9_7 dX9_cycles_13 0 rfl rfl ?_
  refine g_iconst (v := 3) cx dX9_cycles_16 (by decide) ?_
  refine g_iald cx dX9_cycles_17 1 3 rfl (nl 3) (by omega) (by first | decide | omega) ?_
  refine g_top (y := nw 3) (rfl) ?_
  refine g_if_ne cx 24 dX9_cycles_18 (by decide) (fun hw2 => absurd (by rw [ho, h1]; rfl) hw2) (fun hw2 => ?_)
  refine g_bipush (v := (-2)) cx dX9_cycles_21 (by decide) ?_
  exact hret _ _ _ _ dX9_cycles_23 (rfl) ⟨rfl, rfl⟩
def rm_X9_cycles_ok : Room := { frames := 4, cells := 0, slots := 0, locals := 100 }
set_option maxRecDepth 100000 in
set_option maxHeartbeats 4000000 in
theorem c_X9_cycles_ok (V : VT) (ad : Nat → Nat) (nw rw ps im kp tx sw sv da co pl me fa ao al : Nat → Int32) (ax ta ts tv il : Int32) (s z k n o m : Nat) (hM : okM nw sw s z k n o m) (l : Int32) (q : Nat) (hl : l = nI q) (hq1 : 1 ≤ q) (hq2 : q ≤ 20) (h1 : 1 ≤ o) : CI V yX9_cycles cX9_cycles 3 .int rm_X9_cycles_ok [.ref (ad 0), .int l] (wMo V ad nw rw ps im kp tx sw sv da co pl me fa ao al (nI s) (nI z) ax ta ts tv (nI k) il) (fun r_ w_ => r_ = mSafe (mCyN n o q (nw, da, co, pl, me)).1 n ∧ w_ = wMo V ad ((mCyN n o q (nw, da, co, pl, me)).1) rw (mNo nw ps s) im kp tx sw sv ((mCyN n o q (nw, da, co, pl, me)).2.1) ((mCyN n o q (nw, da, co, pl, me)).2.2.1) ((mCyN n o q (nw, da, co, pl, me)).2.2.2.1) ((mCyN n o q (nw, da, co, pl, me)).2.2.2.2) fa ao al (nI (hsz s)) (nI z) ax ta ts tv (nI k) il) := by
  refine CI_intro (by decide) (Nat.le_of_ble_eq_true rfl) (fun K cx hret => ?_)
  show G V K 3 0 0 (wMo V ad nw rw ps im kp tx sw sv da co pl me fa ao al (nI s) (nI z) ax ta ts tv (nI k) il) 0 [(0, .ref (ad 0)), (1, .int l)] []
  obtain ⟨hs6, hz, hk6, hn, hn6, hn1, ho, ho4, hm, hm7, hat, hc, hcj, hsw⟩ := hM
  refine g_iload_n (v := l) cx dX9_cycles_0 rfl ?_
  refine g_iconst (v := 1) cx dX9_cycles_1 (by decide) ?_
  refine g_bipush (v := 20) cx dX9_cycles_2 (by decide) ?_
  refine k_callsi (r0 := bI (¬ l < 1 ∧ ¬ 20 < l)) (ws' := wMo V ad nw rw ps im kp tx sw sv da co pl me fa ao al (nI s) (nI z) ax ta ts tv (nI k) il) (As := [.int l, .int 1, .int 20]) (rest := []) cx (c_X9_in V l 1 20) ml_X9_76 dX9_cycles_4 [] rfl rfl [] rfl rfl rfl rfl rfl (Nat.le_of_ble_eq_true rfl) ⟨Nat.le_of_ble_eq_true rfl, Nat.le_of_ble_eq_true rfl⟩ ⟨Nat.le_refl _, Nat.le_refl _⟩ ?_
  refine g_if_ne_b cx 12 dX9_cycles_7 (by decide) (fun hw1 => ?_) (fun hw1 => absurd (⟨rf_ltMN hl (nl 1) (by omega) (by omega) (by omega), rf_ltMN (nl 20) hl (by omega) (by omega) (by omega)⟩) hw1)
  refine g_aload_n (v := ad 0) cx dX9_cycles_12 rfl ?_
  refine g_get (v := .ref (ad 1)) cx fk_X9_7 dX9_cycles_13 0 rfl rfl ?_
  refine g_iconst (v := 3) cx dX9_cycles_16 (by decide) ?_
  refine g_iald cx dX9_cycles_17 1 3 rfl (nl 3) (by omega) (by first | decide | omega) ?_
  refine g_top (y := nw 3) (rfl) ?_
  refine g_if_ne cx 24 dX9_cycles_18 (by decide) (fun hw2 => ?_) (fun hw2 => absurd hw2 (rf_eqMN ho (nl 0) (by omega) (by omega) (by omega)))
  refine g_aload_n (v := ad 0) cx dX9_cycles_24 rfl ?_
  refine w_callv (ws' := wMo V ad nw rw (mNo nw ps s) im kp tx sw sv da co pl me fa ao al (nI (hsz s)) (nI z) ax ta ts tv (nI k) il) (As := []) (rest := []) cx (c_X9_note V ad nw rw ps im kp tx sw sv da co pl me fa ao al (nI z) ax ta ts tv (nI k) il s (by omega)) ml_X9_118 dX9_cycles_25 (q0 := 0) rfl rfl rfl rfl rfl (Nat.le_of_ble_eq_true rfl) ⟨Nat.le_of_ble_eq_true rfl, Nat.le_of_ble_eq_true rfl⟩ ⟨Nat.le_refl _, Nat.le_refl _⟩ ?_
  refine g_iconst (v := 0) cx dX9_cycles_28 (by decide) ?_
  refine g_istore_n (lv' := [(0, .ref (ad 0)), (1, .int l), (2, .int 0)]) cx dX9_cycles_29 (by decide) rfl ?_
  refine rf_dn (P := fun i => G V K 3 0 0 (wMo V ad ((mCyN n o i (nw, da, co, pl, me)).1) rw (mNo nw ps s) im kp tx sw sv ((mCyN n o i (nw, da, co, pl, me)).2.1) ((mCyN n o i (nw, da, co, pl, me)).2.2.1) ((mCyN n o i (nw, da, co, pl, me)).2.2.2.1) ((mCyN n o i (nw, da, co, pl, me)).2.2.2.2) fa ao al (nI (hsz s)) (nI z) ax ta ts tv (nI k) il) 30 [(0, .ref (ad 0)), (1, .int l), (2, .int (nI i))] []) (q) (fun i hi ihi => ?_) ?_
  · skip
    have hiq : i < q := hi
    have e1 : mCyN n o (i + 1) (nw, da, co, pl, me) = mCyc n o (mCyN n o i (nw, da, co, pl, me)).1 (mCyN n o i (nw, da, co, pl, me)).2.1 (mCyN n o i (nw, da, co, pl, me)).2.2.1 (mCyN n o i (nw, da, co, pl, me)).2.2.2.1 (mCyN n o i (nw, da, co, pl, me)).2.2.2.2 := rfl
    rw [e1] at ihi
    clear e1
    have hk : mCk nw (mCyN n o i (nw, da, co, pl, me)).1 := mCyN_k hn6 ho4 (s := (nw, da, co, pl, me)) hat i
    generalize mCyN n o i (nw, da, co, pl, me) = T at ihi hk ⊢
    obtain ⟨N, D, C, P, E⟩ := T
    have hk : mCk nw N := hk
    have hnN : N 0 = nI n := (hk 0 (by omega)).trans hn
    have hoN : N 3 = nI o := (hk 3 (by omega)).trans ho
    have hatN : okAM N o := hat.ck ho4 hk
    have hcN : okc N (N 16) n := by have h16 : N 16 = nw 16 := hk 16 (by omega); rw [h16]; exact hc.ck hk
    refine g_iload_n (v := nI i) cx dX9_cycles_30 rfl ?_
    refine g_iload_n (v := l) cx dX9_cycles_31 rfl ?_
    refine g_icmp_ge cx 45 dX9_cycles_32 (by decide) (fun hw3 => absurd hw3 (rf_geMN rfl hl (by omega) (by omega) (by omega))) (fun hw3 => ?_)
    refine g_aload_n (v := ad 0) cx dX9_cycles_35 rfl ?_
    refine w_callv (ws' := wMo V ad ((mCyc n o N D C P E).1) rw (mNo nw ps s) im kp tx sw sv ((mCyc n o N D C P E).2.1) ((mCyc n o N D C P E).2.2.1) ((mCyc n o N D C P E).2.2.2.1) ((mCyc n o N D C P E).2.2.2.2) fa ao al (nI (hsz s)) (nI z) ax ta ts tv (nI k) il) (As := []) (rest := []) cx (c_X9_cycleOnce V ad N rw (mNo nw ps s) im kp tx sw sv D C P E fa ao al (nI (hsz s)) (nI z) ax ta ts tv (nI k) il n hnN (by omega) o hoN (by omega) hcN hatN) ml_X9_176 dX9_cycles_36 (q0 := 0) rfl rfl rfl rfl rfl (Nat.le_of_ble_eq_true rfl) ⟨Nat.le_of_ble_eq_true rfl, Nat.le_of_ble_eq_true rfl⟩ ⟨Nat.le_refl _, Nat.le_refl _⟩ ?_
    refine g_iinc (x := nI i) (v := nI (i + 1)) (lv' := [(0, .ref (ad 0)), (1, .int l), (2, .int (nI (i + 1)))]) cx dX9_cycles_39 rfl (by decide) (nI_add _ _) rfl ?_
    refine g_goto cx 30 dX9_cycles_42 (by decide) ?_
    exact ihi
  · skip
    have hnX : (mCyN n o q (nw, da, co, pl, me)).1 0 = nI n := (mCyN_k hn6 ho4 (s := (nw, da, co, pl, me)) hat q 0 (by omega)).trans hn
    refine g_iload_n (v := nI q) cx dX9_cycles_30 rfl ?_
    refine g_iload_n (v := l) cx dX9_cycles_31 rfl ?_
    refine g_icmp_ge cx 45 dX9_cycles_32 (by decide) (fun hw4 => ?_) (fun hw4 => absurd (rf_geMP rfl hl (by omega) (by omega) (by omega)) hw4)
    refine g_aload_n (v := ad 0) cx dX9_cycles_45 rfl ?_
    refine w_calli (r0 := mSafe ((mCyN n o q (nw, da, co, pl, me)).1) n) (ws' := wMo V ad ((mCyN n o q (nw, da, co, pl, me)).1) rw (mNo nw ps s) im kp tx sw sv ((mCyN n o q (nw, da, co, pl, me)).2.1) ((mCyN n o q (nw, da, co, pl, me)).2.2.1) ((mCyN n o q (nw, da, co, pl, me)).2.2.2.1) ((mCyN n o q (nw, da, co, pl, me)).2.2.2.2) fa ao al (nI (hsz s)) (nI z) ax ta ts tv (nI k) il) (As := []) (rest := []) cx (c_X9_safeMany V ad ((mCyN n o q (nw, da, co, pl, me)).1) rw (mNo nw ps s) im kp tx sw sv ((mCyN n o q (nw, da, co, pl, me)).2.1) ((mCyN n o q (nw, da, co, pl, me)).2.2.1) ((mCyN n o q (nw, da, co, pl, me)).2.2.2.1) ((mCyN n o q (nw, da, co, pl, me)).2.2.2.2) fa ao al (nI (hsz s)) (nI z) ax ta ts tv (nI k) il n hnX (by omega)) ml_X9_179 dX9_cycles_46 (q0 := 0) rfl rfl rfl rfl rfl (Nat.le_of_ble_eq_true rfl) ⟨Nat.le_of_ble_eq_true rfl, Nat.le_of_ble_eq_true rfl⟩ ⟨Nat.le_refl _, Nat.le_refl _⟩ ?_
    exact hret _ _ _ _ dX9_cycles_49 (rfl) ⟨rfl, rfl⟩
def rm_X9_resets_bad : Room := { frames := 2, cells := 0, slots := 0, locals := 43 }
set_option maxRecDepth 100000 in
set_option maxHeartbeats 4000000 in
theorem c_X9_resets_bad (V : VT) (ad : Nat → Nat) (nw rw ps im kp tx sw sv da co pl me fa ao al : Nat → Int32) (ax ta ts tv il : Int32) (s z k n o m : Nat) (hM : okM nw sw s z k n o m) (l : Int32) (hb : ¬ (¬ l < 0 ∧ ¬ nw 0 - 1 < l)) : CI V yX9_resets cX9_resets 4 .int rm_X9_resets_bad [.ref (ad 0), .int l] (wMo V ad nw rw ps im kp tx sw sv da co pl me fa ao al (nI s) (nI z) ax ta ts tv (nI k) il) (fun r_ w_ => r_ = (-1) ∧ w_ = wMo V ad nw rw ps im kp tx sw sv da co pl me fa ao al (nI s) (nI z) ax ta ts tv (nI k) il) := by
  refine CI_intro (by decide) (Nat.le_of_ble_eq_true rfl) (fun K cx hret => ?_)
  show G V K 4 0 0 (wMo V ad nw rw ps im kp tx sw sv da co pl me fa ao al (nI s) (nI z) ax ta ts tv (nI k) il) 0 [(0, .ref (ad 0)), (1, .int l)] []
  obtain ⟨hs6, hz, hk6, hn, hn6, hn1, ho, ho4, hm, hm7, hat, hc, hcj, hsw⟩ := hM
  refine g_aload_n (v := ad 0) cx dX9_resets_0 rfl ?_
  refine g_iload_n (v := l) cx dX9_resets_1 rfl ?_
  refine w_calli (r0 := bI (¬ l < 0 ∧ ¬ nw 0 - 1 < l)) (ws' := wMo V ad nw rw ps im kp tx sw sv da co pl me fa ao al (nI s) (nI z) ax ta ts tv (nI k) il) (As := [.int l]) (rest := []) cx (c_X9_isDrive V ad nw rw ps im kp tx sw sv da co pl me fa ao al (nI s) (nI z) ax ta ts tv (nI k) il l) ml_X9_182 dX9_resets_2 (q0 := 0) rfl rfl rfl rfl rfl (Nat.le_of_ble_eq_true rfl) ⟨Nat.le_of_ble_eq_true rfl, Nat.le_of_ble_eq_true rfl⟩ ⟨Nat.le_refl _, Nat.le_refl _⟩ ?_
  refine g_if_ne_b cx 10 dX9_resets_5 (by decide) (fun hw1 => absurd hw1 (hb)) (fun hw1 => ?_)
  refine g_iconst (v := (-1)) cx dX9_resets_8 (by decide) ?_
  exact hret _ _ _ _ dX9_resets_9 (rfl) ⟨rfl, rfl⟩
def rm_X9_resets_state : Room := { frames := 2, cells := 0, slots := 0, locals := 43 }
set_option maxRecDepth 100000 in
set_option maxHeartbeats 4000000 in
theorem c_X9_resets_state (V : VT) (ad : Nat → Nat) (nw rw ps im kp tx sw sv da co pl me fa ao al : Nat → Int32) (ax ta ts tv il : Int32) (s z k n o m : Nat) (hM : okM nw sw s z k n o m) (l : Int32) (q : Nat) (hl : l = nI q) (hq : q < n) (h1 : nw (17 + 9 * q + 6) = 0) (h2 : nw (17 + 9 * q + 5) = 0) : CI V yX9_resets cX9_resets 4 .int rm_X9_resets_state [.ref (ad 0), .int l] (wMo V ad nw rw ps im kp tx sw sv da co pl me fa ao al (nI s) (nI z) ax ta ts tv (nI k) il) (fun r_ w_ => r_ = (-2) ∧ w_ = wMo V ad nw rw ps im kp tx sw sv da co pl me fa ao al (nI s) (nI z) ax ta ts tv (nI k) il) := by
  refine CI_intro (by decide) (Nat.le_of_ble_eq_true rfl) (fun K cx hret => ?_)
  show G V K 4 0 0 (wMo V ad nw rw ps im kp tx sw sv da co pl me fa ao al (nI s) (nI z) ax ta ts tv (nI k) il) 0 [(0, .ref (ad 0)), (1, .int l)] []
  obtain ⟨hs6, hz, hk6, hn, hn6, hn1, ho, ho4, hm, hm7, hat, hc, hcj, hsw⟩ := hM
  refine g_aload_n (v := ad 0) cx dX9_resets_0 rfl ?_
  refine g_iload_n (v := l) cx dX9_resets_1 rfl ?_
  refine w_calli (r0 := bI (¬ l < 0 ∧ ¬ nw 0 - 1 < l)) (ws' := wMo V ad nw rw ps im kp tx sw sv da co pl me fa ao al (nI s) (nI z) ax ta ts tv (nI k) il) (As := [.int l]) (rest := []) cx (c_X9_isDrive V ad nw rw ps im kp tx sw sv da co pl me fa ao al (nI s) (nI z) ax ta ts tv (nI k) il l) ml_X9_182 dX9_resets_2 (q0 := 0) rfl rfl rfl rfl rfl (Nat.le_of_ble_eq_true rfl) ⟨Nat.le_of_ble_eq_true rfl, Nat.le_of_ble_eq_true rfl⟩ ⟨Nat.le_refl _, Nat.le_refl _⟩ ?_
  refine g_if_ne_b cx 10 dX9_resets_5 (by decide) (fun hw1 => ?_) (fun hw1 => absurd (⟨rf_ltMN hl (b := 0) (nl 0) (by omega) (by omega) (by omega), by rw [hn, hl]; exact rf_predN (by omega) (by omega) (by omega)⟩) hw1)
  refine g_bipush (v := 17) cx dX9_resets_10 (by decide) ?_
  refine g_bipush (v := 9) cx dX9_resets_12 (by decide) ?_
  refine g_iload_n (v := l) cx dX9_resets_14 rfl ?_
  refine g_imul cx dX9_resets_15 ?_
  refine g_iadd cx dX9_resets_16 ?_
  refine g_istore_n (lv' := [(0, .ref (ad 0)), (1, .int l), (2, .int (17 + (9 * l)))]) cx dX9_resets_17 (by decide) rfl ?_
  refine g_aload_n (v := ad 0) cx dX9_resets_18 rfl ?_
  refine g_get (v := .ref (ad 1)) cx fk_X9_7 dX9_resets_19 0 rfl rfl ?_
  refine g_iload_n (v := 17 + (9 * l)) cx dX9_resets_22 rfl ?_
  refine g_iconst (v := 5) cx dX9_resets_23 (by decide) ?_
  refine g_iadd cx dX9_resets_24 ?_
  refine g_iald cx dX9_resets_25 1 ((17 + (9 * q)) + 5) rfl (rf_add (rf_add (nl 17) (rf_mul (nl 9) hl)) (nl 5)) (by omega) (by first | decide | omega) ?_
  refine g_top (y := nw ((17 + (9 * q)) + 5)) (rfl) ?_
  refine g_istore_n (lv' := [(0, .ref (ad 0)), (1, .int l), (2, .int (17 + (9 * l))), (3, .int (nw ((17 + (9 * q)) + 5)))]) cx dX9_resets_26 (by decide) rfl ?_
  refine g_aload_n (v := ad 0) cx dX9_resets_27 rfl ?_
  refine g_get (v := .ref (ad 1)) cx fk_X9_7 dX9_resets_28 0 rfl rfl ?_
  refine g_iload_n (v := 17 + (9 * l)) cx dX9_resets_31 rfl ?_
  refine g_bipush (v := 6) cx dX9_resets_32 (by decide) ?_
  refine g_iadd cx dX9_resets_34 ?_
  refine g_iald cx dX9_resets_35 1 ((17 + (9 * q)) + 6) rfl (rf_add (rf_add (nl 17) (rf_mul (nl 9) hl)) (nl 6)) (by omega) (by first | decide | omega) ?_
  refine g_top (y := nw ((17 + (9 * q)) + 6)) (rfl) ?_
  refine g_if_ne cx 46 dX9_resets_36 (by decide) (fun hw2 => absurd (h1) hw2) (fun hw2 => ?_)
  refine g_iload_n (v := nw ((17 + (9 * q)) + 5)) cx dX9_resets_39 rfl ?_
  refine g_if_ne cx 46 dX9_resets_40 (by decide) (fun hw3 => absurd (h2) hw3) (fun hw3 => ?_)
  refine g_bipush (v := (-2)) cx dX9_resets_43 (by decide) ?_
  exact hret _ _ _ _ dX9_resets_45 (rfl) ⟨rfl, rfl⟩
def rm_X9_resets_ok : Room := { frames := 2, cells := 0, slots := 0, locals := 45 }
set_option maxRecDepth 100000 in
set_option maxHeartbeats 4000000 in
theorem c_X9_resets_ok (V : VT) (ad : Nat → Nat) (nw rw ps im kp tx sw sv da co pl me fa ao al : Nat → Int32) (ax ta ts tv il : Int32) (s z k n o m : Nat) (hM : okM nw sw s z k n o m) (l : Int32) (q : Nat) (hl : l = nI q) (hq : q < n) (h1 : ¬ nw (17 + 9 * q + 6) = 0 ∨ ¬ nw (17 + 9 * q + 5) = 0) : CI V yX9_resets cX9_resets 4 .int rm_X9_resets_ok [.ref (ad 0), .int l] (wMo V ad nw rw ps im kp tx sw sv da co pl me fa ao al (nI s) (nI z) ax ta ts tv (nI k) il) (fun r_ w_ => r_ = nw (17 + 9 * q + 5) ∧ w_ = wMo V ad (upd (upd nw (17 + 9 * q + 6) 0) (17 + 9 * q + 5) 0) rw (mNo nw ps s) im kp tx sw sv da co pl me fa ao al (nI (hsz s)) (nI z) ax ta ts tv (nI k) il) := by
  refine CI_intro (by decide) (Nat.le_of_ble_eq_true rfl) (fun K cx hret => ?_)
  show G V K 4 0 0 (wMo V ad nw rw ps im kp tx sw sv da co pl me fa ao al (nI s) (nI z) ax ta ts tv (nI k) il) 0 [(0, .ref (ad 0)), (1, .int l)] []
  obtain ⟨hs6, hz, hk6, hn, hn6, hn1, ho, ho4, hm, hm7, hat, hc, hcj, hsw⟩ := hM
  refine g_aload_n (v := ad 0) cx dX9_resets_0 rfl ?_
  refine g_iload_n (v := l) cx dX9_resets_1 rfl ?_
  refine w_calli (r0 := bI (¬ l < 0 ∧ ¬ nw 0 - 1 < l)) (ws' := wMo V ad nw rw ps im kp tx sw sv da co pl me fa ao al (nI s) (nI z) ax ta ts tv (nI k) il) (As := [.int l]) (rest := []) cx (c_X9_isDrive V ad nw rw ps im kp tx sw sv da co pl me fa ao al (nI s) (nI z) ax ta ts tv (nI k) il l) ml_X9_182 dX9_resets_2 (q0 := 0) rfl rfl rfl rfl rfl (Nat.le_of_ble_eq_true rfl) ⟨Nat.le_of_ble_eq_true rfl, Nat.le_of_ble_eq_true rfl⟩ ⟨Nat.le_refl _, Nat.le_refl _⟩ ?_
  refine g_if_ne_b cx 10 dX9_resets_5 (by decide) (fun hw1 => ?_) (fun hw1 => absurd (⟨rf_ltMN hl (b := 0) (nl 0) (by omega) (by omega) (by omega), by rw [hn, hl]; exact rf_predN (by omega) (by omega) (by omega)⟩) hw1)
  refine g_bipush (v := 17) cx dX9_resets_10 (by decide) ?_
  refine g_bipush (v := 9) cx dX9_resets_12 (by decide) ?_
  refine g_iload_n (v := l) cx dX9_resets_14 rfl ?_
  refine g_imul cx dX9_resets_15 ?_
  refine g_iadd cx dX9_resets_16 ?_
  refine g_istore_n (lv' := [(0, .ref (ad 0)), (1, .int l), (2, .int (17 + (9 * l)))]) cx dX9_resets_17 (by decide) rfl ?_
  refine g_aload_n (v := ad 0) cx dX9_resets_18 rfl ?_
  refine g_get (v := .ref (ad 1)) cx fk_X9_7 dX9_resets_19 0 rfl rfl ?_
  refine g_iload_n (v := 17 + (9 * l)) cx dX9_resets_22 rfl ?_
  refine g_iconst (v := 5) cx dX9_resets_23 (by decide) ?_
  refine g_iadd cx dX9_resets_24 ?_
  refine g_iald cx dX9_resets_25 1 ((17 + (9 * q)) + 5) rfl (rf_add (rf_add (nl 17) (rf_mul (nl 9) hl)) (nl 5)) (by omega) (by first | decide | omega) ?_
  refine g_top (y := nw ((17 + (9 * q)) + 5)) (rfl) ?_
  refine g_istore_n (lv' := [(0, .ref (ad 0)), (1, .int l), (2, .int (17 + (9 * l))), (3, .int (nw ((17 + (9 * q)) + 5)))]) cx dX9_resets_26 (by decide) rfl ?_
  refine g_aload_n (v := ad 0) cx dX9_resets_27 rfl ?_
  refine g_get (v := .ref (ad 1)) cx fk_X9_7 dX9_resets_28 0 rfl rfl ?_
  refine g_iload_n (v := 17 + (9 * l)) cx dX9_resets_31 rfl ?_
  refine g_bipush (v := 6) cx dX9_resets_32 (by decide) ?_
  refine g_iadd cx dX9_resets_34 ?_
  refine g_iald cx dX9_resets_35 1 ((17 + (9 * q)) + 6) rfl (rf_add (rf_add (nl 17) (rf_mul (nl 9) hl)) (nl 6)) (by omega) (by first | decide | omega) ?_
  refine g_top (y := nw ((17 + (9 * q)) + 6)) (rfl) ?_
  refine g_if_ne cx 46 dX9_resets_36 (by decide) (fun hw2 => ?_) (fun hw2 => ?_)
  · skip
    refine g_aload_n (v := ad 0) cx dX9_resets_46 rfl ?_
    refine w_callv (ws' := wMo V ad nw rw (mNo nw ps s) im kp tx sw sv da co pl me fa ao al (nI (hsz s)) (nI z) ax ta ts tv (nI k) il) (As := []) (rest := []) cx (c_X9_note V ad nw rw ps im kp tx sw sv da co pl me fa ao al (nI z) ax ta ts tv (nI k) il s (by omega)) ml_X9_118 dX9_resets_47 (q0 := 0) rfl rfl rfl rfl rfl (Nat.le_of_ble_eq_true rfl) ⟨Nat.le_of_ble_eq_true rfl, Nat.le_of_ble_eq_true rfl⟩ ⟨Nat.le_refl _, Nat.le_refl _⟩ ?_
    refine g_aload_n (v := ad 0) cx dX9_resets_50 rfl ?_
    refine g_get (v := .ref (ad 1)) cx fk_X9_7 dX9_resets_51 0 rfl rfl ?_
    refine g_iload_n (v := 17 + (9 * l)) cx dX9_resets_54 rfl ?_
    refine g_bipush (v := 6) cx dX9_resets_55 (by decide) ?_
    refine g_iadd cx dX9_resets_57 ?_
    refine g_iconst (v := 0) cx dX9_resets_58 (by decide) ?_
    refine g_iast (ws' := wMo V ad (upd nw ((17 + (9 * q)) + 6) 0) rw (mNo nw ps s) im kp tx sw sv da co pl me fa ao al (nI (hsz s)) (nI z) ax ta ts tv (nI k) il) cx dX9_resets_59 1 ((17 + (9 * q)) + 6) rfl (rf_add (rf_add (nl 17) (rf_mul (nl 9) hl)) (nl 6)) (by omega) (by first | decide | omega) rfl ?_
    refine g_aload_n (v := ad 0) cx dX9_resets_60 rfl ?_
    refine g_get (v := .ref (ad 1)) cx fk_X9_7 dX9_resets_61 0 rfl rfl ?_
    refine g_iload_n (v := 17 + (9 * l)) cx dX9_resets_64 rfl ?_
    refine g_iconst (v := 5) cx dX9_resets_65 (by decide) ?_
    refine g_iadd cx dX9_resets_66 ?_
    refine g_iconst (v := 0) cx dX9_resets_67 (by decide) ?_
    refine g_iast (ws' := wMo V ad (upd (upd nw ((17 + (9 * q)) + 6) 0) ((17 + (9 * q)) + 5) 0) rw (mNo nw ps s) im kp tx sw sv da co pl me fa ao al (nI (hsz s)) (nI z) ax ta ts tv (nI k) il) cx dX9_resets_68 1 ((17 + (9 * q)) + 5) rfl (rf_add (rf_add (nl 17) (rf_mul (nl 9) hl)) (nl 5)) (by omega) (by first | decide | omega) rfl ?_
    refine g_iload_n (v := nw ((17 + (9 * q)) + 5)) cx dX9_resets_69 rfl ?_
    exact hret _ _ _ _ dX9_resets_70 (rfl) ⟨rfl, rfl⟩
  · skip
    refine g_iload_n (v := nw ((17 + (9 * q)) + 5)) cx dX9_resets_39 rfl ?_
    refine g_if_ne cx 46 dX9_resets_40 (by decide) (fun hw3 => ?_) (fun hw3 => absurd hw3 (h1.resolve_left (not_not_intro hw2)))
    refine g_aload_n (v := ad 0) cx dX9_resets_46 rfl ?_
    refine w_callv (ws' := wMo V ad nw rw (mNo nw ps s) im kp tx sw sv da co pl me fa ao al (nI (hsz s)) (nI z) ax ta ts tv (nI k) il) (As := []) (rest := []) cx (c_X9_note V ad nw rw ps im kp tx sw sv da co pl me fa ao al (nI z) ax ta ts tv (nI k) il s (by omega)) ml_X9_118 dX9_resets_47 (q0 := 0) rfl rfl rfl rfl rfl (Nat.le_of_ble_eq_true rfl) ⟨Nat.le_of_ble_eq_true rfl, Nat.le_of_ble_eq_true rfl⟩ ⟨Nat.le_refl _, Nat.le_refl _⟩ ?_
    refine g_aload_n (v := ad 0) cx dX9_resets_50 rfl ?_
    refine g_get (v := .ref (ad 1)) cx fk_X9_7 dX9_resets_51 0 rfl rfl ?_
    refine g_iload_n (v := 17 + (9 * l)) cx dX9_resets_54 rfl ?_
    refine g_bipush (v := 6) cx dX9_resets_55 (by decide) ?_
    refine g_iadd cx dX9_resets_57 ?_
    refine g_iconst (v := 0) cx dX9_resets_58 (by decide) ?_
    refine g_iast (ws' := wMo V ad (upd nw ((17 + (9 * q)) + 6) 0) rw (mNo nw ps s) im kp tx sw sv da co pl me fa ao al (nI (hsz s)) (nI z) ax ta ts tv (nI k) il) cx dX9_resets_59 1 ((17 + (9 * q)) + 6) rfl (rf_add (rf_add (nl 17) (rf_mul (nl 9) hl)) (nl 6)) (by omega) (by first | decide | omega) rfl ?_
    refine g_aload_n (v := ad 0) cx dX9_resets_60 rfl ?_
    refine g_get (v := .ref (ad 1)) cx fk_X9_7 dX9_resets_61 0 rfl rfl ?_
    refine g_iload_n (v := 17 + (9 * l)) cx dX9_resets_64 rfl ?_
    refine g_iconst (v := 5) cx dX9_resets_65 (by decide) ?_
    refine g_iadd cx dX9_resets_66 ?_
    refine g_iconst (v := 0) cx dX9_resets_67 (by decide) ?_
    refine g_iast (ws' := wMo V ad (upd (upd nw ((17 + (9 * q)) + 6) 0) ((17 + (9 * q)) + 5) 0) rw (mNo nw ps s) im kp tx sw sv da co pl me fa ao al (nI (hsz s)) (nI z) ax ta ts tv (nI k) il) cx dX9_resets_68 1 ((17 + (9 * q)) + 5) rfl (rf_add (rf_add (nl 17) (rf_mul (nl 9) hl)) (nl 5)) (by omega) (by first | decide | omega) rfl ?_
    refine g_iload_n (v := nw ((17 + (9 * q)) + 5)) cx dX9_resets_69 rfl ?_
    exact hret _ _ _ _ dX9_resets_70 (rfl) ⟨rfl, rfl⟩
def rm_X9_sets_bad : Room := { frames := 2, cells := 0, slots := 0, locals := 43 }
set_option maxRecDepth 100000 in
set_option maxHeartbeats 4000000 in
theorem c_X9_sets_bad (V : VT) (ad : Nat → Nat) (nw rw ps im kp tx sw sv da co pl me fa ao al : Nat → Int32) (ax ta ts tv il : Int32) (s z k n o m : Nat) (hM : okM nw sw s z k n o m) (l a v : Int32) (hb : ¬ ((¬ l < 0 ∧ ¬ nw 0 - 1 < l) ∧ (¬ a < 0 ∧ ¬ 3 < a) ∧ (¬ v < 0 ∧ ¬ 255 < v))) : CI V yX9_sets cX9_sets 6 .int rm_X9_sets_bad [.ref (ad 0), .int l, .int a, .int v] (wMo V ad nw rw ps im kp tx sw sv da co pl me fa ao al (nI s) (nI z) ax ta ts tv (nI k) il) (fun r_ w_ => r_ = (-1) ∧ w_ = wMo V ad nw rw ps im kp tx sw sv da co pl me fa ao al (nI s) (nI z) ax ta ts tv (nI k) il) := by
  refine CI_intro (by decide) (Nat.le_of_ble_eq_true rfl) (fun K cx hret => ?_)
  show G V K 6 0 0 (wMo V ad nw rw ps im kp tx sw sv da co pl me fa ao al (nI s) (nI z) ax ta ts tv (nI k) il) 0 [(0, .ref (ad 0)), (1, .int l), (2, .int a), (3, .int v)] []
  obtain ⟨hs6, hz, hk6, hn, hn6, hn1, ho, ho4, hm, hm7, hat, hc, hcj, hsw⟩ := hM
  refine g_aload_n (v := ad 0) cx dX9_sets_0 rfl ?_
  refine g_iload_n (v := l) cx dX9_sets_1 rfl ?_
  refine w_calli (r0 := bI (¬ l < 0 ∧ ¬ nw 0 - 1 < l)) (ws' := wMo V ad nw rw ps im kp tx sw sv da co pl me fa ao al (nI s) (nI z) ax ta ts tv (nI k) il) (As := [.int l]) (rest := []) cx (c_X9_isDrive V ad nw rw ps im kp tx sw sv da co pl me fa ao al (nI s) (nI z) ax ta ts tv (nI k) il l) ml_X9_182 dX9_sets_2 (q0 := 0) rfl rfl rfl rfl rfl (Nat.le_of_ble_eq_true rfl) ⟨Nat.le_of_ble_eq_true rfl, Nat.le_of_ble_eq_true rfl⟩ ⟨Nat.le_refl _, Nat.le_refl _⟩ ?_
  refine g_if_eq_b cx 28 dX9_sets_5 (by decide) (fun hw1 => ?_) (fun hw1 => ?_)
  · skip
    refine g_iconst (v := (-1)) cx dX9_sets_28 (by decide) ?_
    exact hret _ _ _ _ dX9_sets_29 (rfl) ⟨rfl, rfl⟩
  · skip
    refine g_iload_n (v := a) cx dX9_sets_8 rfl ?_
    refine g_iconst (v := 0) cx dX9_sets_9 (by decide) ?_
    refine g_iconst (v := 3) cx dX9_sets_10 (by decide) ?_
    refine k_callsi (r0 := bI (¬ a < 0 ∧ ¬ 3 < a)) (ws' := wMo V ad nw rw ps im kp tx sw sv da co pl me fa ao al (nI s) (nI z) ax ta ts tv (nI k) il) (As := [.int a, .int 0, .int 3]) (rest := []) cx (c_X9_in V a 0 3) ml_X9_76 dX9_sets_11 [] rfl rfl [] rfl rfl rfl rfl rfl (Nat.le_of_ble_eq_true rfl) ⟨Nat.le_of_ble_eq_true rfl, Nat.le_of_ble_eq_true rfl⟩ ⟨Nat.le_refl _, Nat.le_refl _⟩ ?_
    refine g_if_eq_b cx 28 dX9_sets_14 (by decide) (fun hw2 => ?_) (fun hw2 => ?_)
    · skip
      refine g_iconst (v := (-1)) cx dX9_sets_28 (by decide) ?_
      exact hret _ _ _ _ dX9_sets_29 (rfl) ⟨rfl, rfl⟩
    · skip
      refine g_iload_n (v := v) cx dX9_sets_17 rfl ?_
      refine g_iconst (v := 0) cx dX9_sets_18 (by decide) ?_
      refine g_sipush (v := 255) cx dX9_sets_19 (by decide) ?_
      refine k_callsi (r0 := bI (¬ v < 0 ∧ ¬ 255 < v)) (ws' := wMo V ad nw rw ps im kp tx sw sv da co pl me fa ao al (nI s) (nI z) ax ta ts tv (nI k) il) (As := [.int v, .int 0, .int 255]) (rest := []) cx (c_X9_in V v 0 255) ml_X9_76 dX9_sets_22 [] rfl rfl [] rfl rfl rfl rfl rfl (Nat.le_of_ble_eq_true rfl) ⟨Nat.le_of_ble_eq_true rfl, Nat.le_of_ble_eq_true rfl⟩ ⟨Nat.le_refl _, Nat.le_refl _⟩ ?_
      refine g_if_ne_b cx 30 dX9_sets_25 (by decide) (fun hw3 => ?_) (fun hw3 => ?_)
      · skip
        exact absurd ⟨hw1, hw2, hw3⟩ hb
      · skip
        refine g_iconst (v := (-1)) cx dX9_sets_28 (by decide) ?_
        exact hret _ _ _ _ dX9_sets_29 (rfl) ⟨rfl, rfl⟩
def rm_X9_sets_state : Room := { frames := 2, cells := 0, slots := 0, locals := 43 }
set_option maxRecDepth 100000 in
set_option maxHeartbeats 4000000 in
theorem c_X9_sets_state (V : VT) (ad : Nat → Nat) (nw rw ps im kp tx sw sv da co pl me fa ao al : Nat → Int32) (ax ta ts tv il : Int32) (s z k n o m : Nat) (hM : okM nw sw s z k n o m) (l a v : Int32) (q t : Nat) (hl : l = nI q) (hq : q < n) (ha : a = nI t) (ht : t < 4) (hv1 : ¬ v < 0) (hv2 : ¬ 255 < v) (h1 : nw (17 + 9 * q + 1 + t) = v ∨ nw (17 + 9 * q + 6) = 1) : CI V yX9_sets cX9_sets 6 .int rm_X9_sets_state [.ref (ad 0), .int l, .int a, .int v] (wMo V ad nw rw ps im kp tx sw sv da co pl me fa ao al (nI s) (nI z) ax ta ts tv (nI k) il) (fun r_ w_ => r_ = (-2) ∧ w_ = wMo V ad nw rw ps im kp tx sw sv da co pl me fa ao al (nI s) (nI z) ax ta ts tv (nI k) il) := by
  refine CI_intro (by decide) (Nat.le_of_ble_eq_true rfl) (fun K cx hret => ?_)
  show G V K 6 0 0 (wMo V ad nw rw ps im kp tx sw sv da co pl me fa ao al (nI s) (nI z) ax ta ts tv (nI k) il) 0 [(0, .ref (ad 0)), (1, .int l), (2, .int a), (3, .int v)] []
  obtain ⟨hs6, hz, hk6, hn, hn6, hn1, ho, ho4, hm, hm7, hat, hc, hcj, hsw⟩ := hM
  refine g_aload_n (v := ad 0) cx dX9_sets_0 rfl ?_
  refine g_iload_n (v := l) cx dX9_sets_1 rfl ?_
  refine w_calli (r0 := bI (¬ l < 0 ∧ ¬ nw 0 - 1 < l)) (ws' := wMo V ad nw rw ps im kp tx sw sv da co pl me fa ao al (nI s) (nI z) ax ta ts tv (nI k) il) (As := [.int l]) (rest := []) cx (c_X9_isDrive V ad nw rw ps im kp tx sw sv da co pl me fa ao al (nI s) (nI z) ax ta ts tv (nI k) il l) ml_X9_182 dX9_sets_2 (q0 := 0) rfl rfl rfl rfl rfl (Nat.le_of_ble_eq_true rfl) ⟨Nat.le_of_ble_eq_true rfl, Nat.le_of_ble_eq_true rfl⟩ ⟨Nat.le_refl _, Nat.le_refl _⟩ ?_
  refine g_if_eq_b cx 28 dX9_sets_5 (by decide) (fun hw1 => absurd (⟨rf_ltMN hl (b := 0) (nl 0) (by omega) (by omega) (by omega), by rw [hn, hl]; exact rf_predN (by omega) (by omega) (by omega)⟩) hw1) (fun hw1 => ?_)
  refine g_iload_n (v := a) cx dX9_sets_8 rfl ?_
  refine g_iconst (v := 0) cx dX9_sets_9 (by decide) ?_
  refine g_iconst (v := 3) cx dX9_sets_10 (by decide) ?_
  refine k_callsi (r0 := bI (¬ a < 0 ∧ ¬ 3 < a)) (ws' := wMo V ad nw rw ps im kp tx sw sv da co pl me fa ao al (nI s) (nI z) ax ta ts tv (nI k) il) (As := [.int a, .int 0, .int 3]) (rest := []) cx (c_X9_in V a 0 3) ml_X9_76 dX9_sets_11 [] rfl rfl [] rfl rfl rfl rfl rfl (Nat.le_of_ble_eq_true rfl) ⟨Nat.le_of_ble_eq_true rfl, Nat.le_of_ble_eq_true rfl⟩ ⟨Nat.le_refl _, Nat.le_refl _⟩ ?_
  refine g_if_eq_b cx 28 dX9_sets_14 (by decide) (fun hw2 => absurd (⟨rf_ltMN ha (b := 0) (nl 0) (by omega) (by omega) (by omega), rf_ltMN (nl 3) ha (by omega) (by omega) (by omega)⟩) hw2) (fun hw2 => ?_)
  refine g_iload_n (v := v) cx dX9_sets_17 rfl ?_
  refine g_iconst (v := 0) cx dX9_sets_18 (by decide) ?_
  refine g_sipush (v := 255) cx dX9_sets_19 (by decide) ?_
  refine k_callsi (r0 := bI (¬ v < 0 ∧ ¬ 255 < v)) (ws' := wMo V ad nw rw ps im kp tx sw sv da co pl me fa ao al (nI s) (nI z) ax ta ts tv (nI k) il) (As := [.int v, .int 0, .int 255]) (rest := []) cx (c_X9_in V v 0 255) ml_X9_76 dX9_sets_22 [] rfl rfl [] rfl rfl rfl rfl rfl (Nat.le_of_ble_eq_true rfl) ⟨Nat.le_of_ble_eq_true rfl, Nat.le_of_ble_eq_true rfl⟩ ⟨Nat.le_refl _, Nat.le_refl _⟩ ?_
  refine g_if_ne_b cx 30 dX9_sets_25 (by decide) (fun hw3 => ?_) (fun hw3 => absurd (⟨hv1, hv2⟩) hw3)
  refine g_bipush (v := 17) cx dX9_sets_30 (by decide) ?_
  refine g_bipush (v := 9) cx dX9_sets_32 (by decide) ?_
  refine g_iload_n (v := l) cx dX9_sets_34 rfl ?_
  refine g_imul cx dX9_sets_35 ?_
  refine g_iadd cx dX9_sets_36 ?_
  refine g_istore (lv' := [(0, .ref (ad 0)), (1, .int l), (2, .int a), (3, .int v), (4, .int (17 + (9 * l)))]) cx dX9_sets_37 (by decide) rfl ?_
  refine g_aload_n (v := ad 0) cx dX9_sets_39 rfl ?_
  refine g_get (v := .ref (ad 1)) cx fk_X9_7 dX9_sets_40 0 rfl rfl ?_
  refine g_iload (v := 17 + (9 * l)) cx dX9_sets_43 rfl ?_
  refine g_iconst (v := 1) cx dX9_sets_45 (by decide) ?_
  refine g_iadd cx dX9_sets_46 ?_
  refine g_iload_n (v := a) cx dX9_sets_47 rfl ?_
  refine g_iadd cx dX9_sets_48 ?_
  refine g_iald cx dX9_sets_49 1 (((17 + (9 * q)) + 1) + t) rfl (rf_add (rf_add (rf_add (nl 17) (rf_mul (nl 9) hl)) (nl 1)) ha) (by omega) (by first | decide | omega) ?_
  refine g_top (y := nw (((17 + (9 * q)) + 1) + t)) (rfl) ?_
  refine g_istore (lv' := [(0, .ref (ad 0)), (1, .int l), (2, .int a), (3, .int v), (4, .int (17 + (9 * l))), (5, .int (nw (((17 + (9 * q)) + 1) + t)))]) cx dX9_sets_50 (by decide) rfl ?_
  refine g_iload (v := nw (((17 + (9 * q)) + 1) + t)) cx dX9_sets_52 rfl ?_
  refine g_iload_n (v := v) cx dX9_sets_54 rfl ?_
  refine g_icmp_eq cx 72 dX9_sets_55 (by decide) (fun hw4 => ?_) (fun hw4 => ?_)
  · skip
    refine g_bipush (v := (-2)) cx dX9_sets_72 (by decide) ?_
    exact hret _ _ _ _ dX9_sets_74 (rfl) ⟨rfl, rfl⟩
  · skip
    refine g_aload_n (v := ad 0) cx dX9_sets_58 rfl ?_
    refine g_get (v := .ref (ad 1)) cx fk_X9_7 dX9_sets_59 0 rfl rfl ?_
    refine g_iload (v := 17 + (9 * l)) cx dX9_sets_62 rfl ?_
    refine g_bipush (v := 6) cx dX9_sets_64 (by decide) ?_
    refine g_iadd cx dX9_sets_66 ?_
    refine g_iald cx dX9_sets_67 1 ((17 + (9 * q)) + 6) rfl (rf_add (rf_add (nl 17) (rf_mul (nl 9) hl)) (nl 6)) (by omega) (by first | decide | omega) ?_
    refine g_top (y := nw ((17 + (9 * q)) + 6)) (rfl) ?_
    refine g_iconst (v := 1) cx dX9_sets_68 (by decide) ?_
    refine g_icmp_ne cx 75 dX9_sets_69 (by decide) (fun hw5 => absurd (h1.resolve_left hw4) hw5) (fun hw5 => ?_)
    refine g_bipush (v := (-2)) cx dX9_sets_72 (by decide) ?_
    exact hret _ _ _ _ dX9_sets_74 (rfl) ⟨rfl, rfl⟩
def rm_X9_sets_ok : Room := { frames := 2, cells := 0, slots := 0, locals := 45 }
set_option maxRecDepth 100000 in
set_option maxHeartbeats 4000000 in
theorem c_X9_sets_ok (V : VT) (ad : Nat → Nat) (nw rw ps im kp tx sw sv da co pl me fa ao al : Nat → Int32) (ax ta ts tv il : Int32) (s z k n o m : Nat) (hM : okM nw sw s z k n o m) (l a v : Int32) (q t : Nat) (hl : l = nI q) (hq : q < n) (ha : a = nI t) (ht : t < 4) (hv1 : ¬ v < 0) (hv2 : ¬ 255 < v) (h1 : ¬ nw (17 + 9 * q + 1 + t) = v) (h2 : ¬ nw (17 + 9 * q + 6) = 1) : CI V yX9_sets cX9_sets 6 .int rm_X9_sets_ok [.ref (ad 0), .int l, .int a, .int v] (wMo V ad nw rw ps im kp tx sw sv da co pl me fa ao al (nI s) (nI z) ax ta ts tv (nI k) il) (fun r_ w_ => r_ = nw (17 + 9 * q + 1 + t) ∧ w_ = wMo V ad (upd nw (17 + 9 * q + 1 + t) v) rw (mNo nw ps s) im kp tx sw sv da co pl me fa ao al (nI (hsz s)) (nI z) ax ta ts tv (nI k) il) := by
  refine CI_intro (by decide) (Nat.le_of_ble_eq_true rfl) (fun K cx hret => ?_)
  show G V K 6 0 0 (wMo V ad nw rw ps im kp tx sw sv da co pl me fa ao al (nI s) (nI z) ax ta ts tv (nI k) il) 0 [(0, .ref (ad 0)), (1, .int l), (2, .int a), (3, .int v)] []
  obtain ⟨hs6, hz, hk6, hn, hn6, hn1, ho, ho4, hm, hm7, hat, hc, hcj, hsw⟩ := hM
  refine g_aload_n (v := ad 0) cx dX9_sets_0 rfl ?_
  refine g_iload_n (v := l) cx dX9_sets_1 rfl ?_
  refine w_calli (r0 := bI (¬ l < 0 ∧ ¬ nw 0 - 1 < l)) (ws' := wMo V ad nw rw ps im kp tx sw sv da co pl me fa ao al (nI s) (nI z) ax ta ts tv (nI k) il) (As := [.int l]) (rest := []) cx (c_X9_isDrive V ad nw rw ps im kp tx sw sv da co pl me fa ao al (nI s) (nI z) ax ta ts tv (nI k) il l) ml_X9_182 dX9_sets_2 (q0 := 0) rfl rfl rfl rfl rfl (Nat.le_of_ble_eq_true rfl) ⟨Nat.le_of_ble_eq_true rfl, Nat.le_of_ble_eq_true rfl⟩ ⟨Nat.le_refl _, Nat.le_refl _⟩ ?_
  refine g_if_eq_b cx 28 dX9_sets_5 (by decide) (fun hw1 => absurd (⟨rf_ltMN hl (b := 0) (nl 0) (by omega) (by omega) (by omega), by rw [hn, hl]; exact rf_predN (by omega) (by omega) (by omega)⟩) hw1) (fun hw1 => ?_)
  refine g_iload_n (v := a) cx dX9_sets_8 rfl ?_
  refine g_iconst (v := 0) cx dX9_sets_9 (by decide) ?_
  refine g_iconst (v := 3) cx dX9_sets_10 (by decide) ?_
  refine k_callsi (r0 := bI (¬ a < 0 ∧ ¬ 3 < a)) (ws' := wMo V ad nw rw ps im kp tx sw sv da co pl me fa ao al (nI s) (nI z) ax ta ts tv (nI k) il) (As := [.int a, .int 0, .int 3]) (rest := []) cx (c_X9_in V a 0 3) ml_X9_76 dX9_sets_11 [] rfl rfl [] rfl rfl rfl rfl rfl (Nat.le_of_ble_eq_true rfl) ⟨Nat.le_of_ble_eq_true rfl, Nat.le_of_ble_eq_true rfl⟩ ⟨Nat.le_refl _, Nat.le_refl _⟩ ?_
  refine g_if_eq_b cx 28 dX9_sets_14 (by decide) (fun hw2 => absurd (⟨rf_ltMN ha (b := 0) (nl 0) (by omega) (by omega) (by omega), rf_ltMN (nl 3) ha (by omega) (by omega) (by omega)⟩) hw2) (fun hw2 => ?_)
  refine g_iload_n (v := v) cx dX9_sets_17 rfl ?_
  refine g_iconst (v := 0) cx dX9_sets_18 (by decide) ?_
  refine g_sipush (v := 255) cx dX9_sets_19 (by decide) ?_
  refine k_callsi (r0 := bI (¬ v < 0 ∧ ¬ 255 < v)) (ws' := wMo V ad nw rw ps im kp tx sw sv da co pl me fa ao al (nI s) (nI z) ax ta ts tv (nI k) il) (As := [.int v, .int 0, .int 255]) (rest := []) cx (c_X9_in V v 0 255) ml_X9_76 dX9_sets_22 [] rfl rfl [] rfl rfl rfl rfl rfl (Nat.le_of_ble_eq_true rfl) ⟨Nat.le_of_ble_eq_true rfl, Nat.le_of_ble_eq_true rfl⟩ ⟨Nat.le_refl _, Nat.le_refl _⟩ ?_
  refine g_if_ne_b cx 30 dX9_sets_25 (by decide) (fun hw3 => ?_) (fun hw3 => absurd (⟨hv1, hv2⟩) hw3)
  refine g_bipush (v := 17) cx dX9_sets_30 (by decide) ?_
  refine g_bipush (v := 9) cx dX9_sets_32 (by decide) ?_
  refine g_iload_n (v := l) cx dX9_sets_34 rfl ?_
  refine g_imul cx dX9_sets_35 ?_
  refine g_iadd cx dX9_sets_36 ?_
  refine g_istore (lv' := [(0, .ref (ad 0)), (1, .int l), (2, .int a), (3, .int v), (4, .int (17 + (9 * l)))]) cx dX9_sets_37 (by decide) rfl ?_
  refine g_aload_n (v := ad 0) cx dX9_sets_39 rfl ?_
  refine g_get (v := .ref (ad 1)) cx fk_X9_7 dX9_sets_40 0 rfl rfl ?_
  refine g_iload (v := 17 + (9 * l)) cx dX9_sets_43 rfl ?_
  refine g_iconst (v := 1) cx dX9_sets_45 (by decide) ?_
  refine g_iadd cx dX9_sets_46 ?_
  refine g_iload_n (v := a) cx dX9_sets_47 rfl ?_
  refine g_iadd cx dX9_sets_48 ?_
  refine g_iald cx dX9_sets_49 1 (((17 + (9 * q)) + 1) + t) rfl (rf_add (rf_add (rf_add (nl 17) (rf_mul (nl 9) hl)) (nl 1)) ha) (by omega) (by first | decide | omega) ?_
  refine g_top (y := nw (((17 + (9 * q)) + 1) + t)) (rfl) ?_
  refine g_istore (lv' := [(0, .ref (ad 0)), (1, .int l), (2, .int a), (3, .int v), (4, .int (17 + (9 * l))), (5, .int (nw (((17 + (9 * q)) + 1) + t)))]) cx dX9_sets_50 (by decide) rfl ?_
  refine g_iload (v := nw (((17 + (9 * q)) + 1) + t)) cx dX9_sets_52 rfl ?_
  refine g_iload_n (v := v) cx dX9_sets_54 rfl ?_
  refine g_icmp_eq cx 72 dX9_sets_55 (by decide) (fun hw4 => absurd hw4 (h1)) (fun hw4 => ?_)
  refine g_aload_n (v := ad 0) cx dX9_sets_58 rfl ?_
  refine g_get (v := .ref (ad 1)) cx fk_X9_7 dX9_sets_59 0 rfl rfl ?_
  refine g_iload (v := 17 + (9 * l)) cx dX9_sets_62 rfl ?_
  refine g_bipush (v := 6) cx dX9_sets_64 (by decide) ?_
  refine g_iadd cx dX9_sets_66 ?_
  refine g_iald cx dX9_sets_67 1 ((17 + (9 * q)) + 6) rfl (rf_add (rf_add (nl 17) (rf_mul (nl 9) hl)) (nl 6)) (by omega) (by first | decide | omega) ?_
  refine g_top (y := nw ((17 + (9 * q)) + 6)) (rfl) ?_
  refine g_iconst (v := 1) cx dX9_sets_68 (by decide) ?_
  refine g_icmp_ne cx 75 dX9_sets_69 (by decide) (fun hw5 => ?_) (fun hw5 => absurd hw5 (h2))
  refine g_aload_n (v := ad 0) cx dX9_sets_75 rfl ?_
  refine w_callv (ws' := wMo V ad nw rw (mNo nw ps s) im kp tx sw sv da co pl me fa ao al (nI (hsz s)) (nI z) ax ta ts tv (nI k) il) (As := []) (rest := []) cx (c_X9_note V ad nw rw ps im kp tx sw sv da co pl me fa ao al (nI z) ax ta ts tv (nI k) il s (by omega)) ml_X9_118 dX9_sets_76 (q0 := 0) rfl rfl rfl rfl rfl (Nat.le_of_ble_eq_true rfl) ⟨Nat.le_of_ble_eq_true rfl, Nat.le_of_ble_eq_true rfl⟩ ⟨Nat.le_refl _, Nat.le_refl _⟩ ?_
  refine g_aload_n (v := ad 0) cx dX9_sets_79 rfl ?_
  refine g_get (v := .ref (ad 1)) cx fk_X9_7 dX9_sets_80 0 rfl rfl ?_
  refine g_iload (v := 17 + (9 * l)) cx dX9_sets_83 rfl ?_
  refine g_iconst (v := 1) cx dX9_sets_85 (by decide) ?_
  refine g_iadd cx dX9_sets_86 ?_
  refine g_iload_n (v := a) cx dX9_sets_87 rfl ?_
  refine g_iadd cx dX9_sets_88 ?_
  refine g_iload_n (v := v) cx dX9_sets_89 rfl ?_
  refine g_iast (ws' := wMo V ad (upd nw (((17 + (9 * q)) + 1) + t) v) rw (mNo nw ps s) im kp tx sw sv da co pl me fa ao al (nI (hsz s)) (nI z) ax ta ts tv (nI k) il) cx dX9_sets_90 1 (((17 + (9 * q)) + 1) + t) rfl (rf_add (rf_add (rf_add (nl 17) (rf_mul (nl 9) hl)) (nl 1)) ha) (by omega) (by first | decide | omega) rfl ?_
  refine g_iload (v := nw (((17 + (9 * q)) + 1) + t)) cx dX9_sets_91 rfl ?_
  exact hret _ _ _ _ dX9_sets_93 (rfl) ⟨rfl, rfl⟩
def rm_X9_drifts_bad : Room := { frames := 2, cells := 0, slots := 0, locals := 43 }
set_option maxRecDepth 100000 in
set_option maxHeartbeats 4000000 in
theorem c_X9_drifts_bad (V : VT) (ad : Nat → Nat) (nw rw ps im kp tx sw sv da co pl me fa ao al : Nat → Int32) (ax ta ts tv il : Int32) (s z k n o m : Nat) (hM : okM nw sw s z k n o m) (l v : Int32) (hb : ¬ ((¬ l < 0 ∧ ¬ nw 0 - 1 < l) ∧ (¬ v < (-50) ∧ ¬ 50 < v))) : CI V yX9_drifts cX9_drifts 4 .int rm_X9_drifts_bad [.ref (ad 0), .int l, .int v] (wMo V ad nw rw ps im kp tx sw sv da co pl me fa ao al (nI s) (nI z) ax ta ts tv (nI k) il) (fun r_ w_ => r_ = (-1) ∧ w_ = wMo V ad nw rw ps im kp tx sw sv da co pl me fa ao al (nI s) (nI z) ax ta ts tv (nI k) il) := by
  refine CI_intro (by decide) (Nat.le_of_ble_eq_true rfl) (fun K cx hret => ?_)
  show G V K 4 0 0 (wMo V ad nw rw ps im kp tx sw sv da co pl me fa ao al (nI s) (nI z) ax ta ts tv (nI k) il) 0 [(0, .ref (ad 0)), (1, .int l), (2, .int v)] []
  obtain ⟨hs6, hz, hk6, hn, hn6, hn1, ho, ho4, hm, hm7, hat, hc, hcj, hsw⟩ := hM
  refine g_aload_n (v := ad 0) cx dX9_drifts_0 rfl ?_
  refine g_iload_n (v := l) cx dX9_drifts_1 rfl ?_
  refine w_calli (r0 := bI (¬ l < 0 ∧ ¬ nw 0 - 1 < l)) (ws' := wMo V ad nw rw ps im kp tx sw sv da co pl me fa ao al (nI s) (nI z) ax ta ts tv (nI k) il) (As := [.int l]) (rest := []) cx (c_X9_isDrive V ad nw rw ps im kp tx sw sv da co pl me fa ao al (nI s) (nI z) ax ta ts tv (nI k) il l) ml_X9_182 dX9_drifts_2 (q0 := 0) rfl rfl rfl rfl rfl (Nat.le_of_ble_eq_true rfl) ⟨Nat.le_of_ble_eq_true rfl, Nat.le_of_ble_eq_true rfl⟩ ⟨Nat.le_refl _, Nat.le_refl _⟩ ?_
  refine g_if_eq_b cx 19 dX9_drifts_5 (by decide) (fun hw1 => ?_) (fun hw1 => ?_)
  · skip
    refine g_iconst (v := (-1)) cx dX9_drifts_19 (by decide) ?_
    exact hret _ _ _ _ dX9_drifts_20 (rfl) ⟨rfl, rfl⟩
  · skip
    refine g_iload_n (v := v) cx dX9_drifts_8 rfl ?_
    refine g_bipush (v := (-50)) cx dX9_drifts_9 (by decide) ?_
    refine g_bipush (v := 50) cx dX9_drifts_11 (by decide) ?_
    refine k_callsi (r0 := bI (¬ v < (-50) ∧ ¬ 50 < v)) (ws' := wMo V ad nw rw ps im kp tx sw sv da co pl me fa ao al (nI s) (nI z) ax ta ts tv (nI k) il) (As := [.int v, .int (-50), .int 50]) (rest := []) cx (c_X9_in V v (-50) 50) ml_X9_76 dX9_drifts_13 [] rfl rfl [] rfl rfl rfl rfl rfl (Nat.le_of_ble_eq_true rfl) ⟨Nat.le_of_ble_eq_true rfl, Nat.le_of_ble_eq_true rfl⟩ ⟨Nat.le_refl _, Nat.le_refl _⟩ ?_
    refine g_if_ne_b cx 21 dX9_drifts_16 (by decide) (fun hw2 => ?_) (fun hw2 => ?_)
    · skip
      exact absurd ⟨hw1, hw2⟩ hb
    · skip
      refine g_iconst (v := (-1)) cx dX9_drifts_19 (by decide) ?_
      exact hret _ _ _ _ dX9_drifts_20 (rfl) ⟨rfl, rfl⟩
def rm_X9_drifts_state : Room := { frames := 2, cells := 0, slots := 0, locals := 43 }
set_option maxRecDepth 100000 in
set_option maxHeartbeats 4000000 in
theorem c_X9_drifts_state (V : VT) (ad : Nat → Nat) (nw rw ps im kp tx sw sv da co pl me fa ao al : Nat → Int32) (ax ta ts tv il : Int32) (s z k n o m : Nat) (hM : okM nw sw s z k n o m) (l v : Int32) (q : Nat) (hl : l = nI q) (hq : q < n) (hv1 : ¬ v < (-50)) (hv2 : ¬ 50 < v) (h1 : nw (17 + 9 * q + 7) = v) : CI V yX9_drifts cX9_drifts 4 .int rm_X9_drifts_state [.ref (ad 0), .int l, .int v] (wMo V ad nw rw ps im kp tx sw sv da co pl me fa ao al (nI s) (nI z) ax ta ts tv (nI k) il) (fun r_ w_ => r_ = (-2) ∧ w_ = wMo V ad nw rw ps im kp tx sw sv da co pl me fa ao al (nI s) (nI z) ax ta ts tv (nI k) il) := by
  refine CI_intro (by decide) (Nat.le_of_ble_eq_true rfl) (fun K cx hret => ?_)
  show G V K 4 0 0 (wMo V ad nw rw ps im kp tx sw sv da co pl me fa ao al (nI s) (nI z) ax ta ts tv (nI k) il) 0 [(0, .ref (ad 0)), (1, .int l), (2, .int v)] []
  obtain ⟨hs6, hz, hk6, hn, hn6, hn1, ho, ho4, hm, hm7, hat, hc, hcj, hsw⟩ := hM
  refine g_aload_n (v := ad 0) cx dX9_drifts_0 rfl ?_
  refine g_iload_n (v := l) cx dX9_drifts_1 rfl ?_
  refine w_calli (r0 := bI (¬ l < 0 ∧ ¬ nw 0 - 1 < l)) (ws' := wMo V ad nw rw ps im kp tx sw sv da co pl me fa ao al (nI s) (nI z) ax ta ts tv (nI k) il) (As := [.int l]) (rest := []) cx (c_X9_isDrive V ad nw rw ps im kp tx sw sv da co pl me fa ao al (nI s) (nI z) ax ta ts tv (nI k) il l) ml_X9_182 dX9_drifts_2 (q0 := 0) rfl rfl rfl rfl rfl (Nat.le_of_ble_eq_true rfl) ⟨Nat.le_of_ble_eq_true rfl, Nat.le_of_ble_eq_true rfl⟩ ⟨Nat.le_refl _, Nat.le_refl _⟩ ?_
  refine g_if_eq_b cx 19 dX9_drifts_5 (by decide) (fun hw1 => absurd (⟨rf_ltMN hl (b := 0) (nl 0) (by omega) (by omega) (by omega), by rw [hn, hl]; exact rf_predN (by omega) (by omega) (by omega)⟩) hw1) (fun hw1 => ?_)
  refine g_iload_n (v := v) cx dX9_drifts_8 rfl ?_
  refine g_bipush (v := (-50)) cx dX9_drifts_9 (by decide) ?_
  refine g_bipush (v := 50) cx dX9_drifts_11 (by decide) ?_
  refine k_callsi (r0 := bI (¬ v < (-50) ∧ ¬ 50 < v)) (ws' := wMo V ad nw rw ps im kp tx sw sv da co pl me fa ao al (nI s) (nI z) ax ta ts tv (nI k) il) (As := [.int v, .int (-50), .int 50]) (rest := []) cx (c_X9_in V v (-50) 50) ml_X9_76 dX9_drifts_13 [] rfl rfl [] rfl rfl rfl rfl rfl (Nat.le_of_ble_eq_true rfl) ⟨Nat.le_of_ble_eq_true rfl, Nat.le_of_ble_eq_true rfl⟩ ⟨Nat.le_refl _, Nat.le_refl _⟩ ?_
  refine g_if_ne_b cx 21 dX9_drifts_16 (by decide) (fun hw2 => ?_) (fun hw2 => absurd (⟨hv1, hv2⟩) hw2)
  refine g_bipush (v := 17) cx dX9_drifts_21 (by decide) ?_
  refine g_bipush (v := 9) cx dX9_drifts_23 (by decide) ?_
  refine g_iload_n (v := l) cx dX9_drifts_25 rfl ?_
  refine g_imul cx dX9_drifts_26 ?_
  refine g_iadd cx dX9_drifts_27 ?_
  refine g_istore_n (lv' := [(0, .ref (ad 0)), (1, .int l), (2, .int v), (3, .int (17 + (9 * l)))]) cx dX9_drifts_28 (by decide) rfl ?_
  refine g_aload_n (v := ad 0) cx dX9_drifts_29 rfl ?_
  refine g_get (v := .ref (ad 1)) cx fk_X9_7 dX9_drifts_30 0 rfl rfl ?_
  refine g_iload_n (v := 17 + (9 * l)) cx dX9_drifts_33 rfl ?_
  refine g_bipush (v := 7) cx dX9_drifts_34 (by decide) ?_
  refine g_iadd cx dX9_drifts_36 ?_
  refine g_iald cx dX9_drifts_37 1 ((17 + (9 * q)) + 7) rfl (rf_add (rf_add (nl 17) (rf_mul (nl 9) hl)) (nl 7)) (by omega) (by first | decide | omega) ?_
  refine g_top (y := nw ((17 + (9 * q)) + 7)) (rfl) ?_
  refine g_iload_n (v := v) cx dX9_drifts_38 rfl ?_
  refine g_icmp_ne cx 45 dX9_drifts_39 (by decide) (fun hw3 => absurd (h1) hw3) (fun hw3 => ?_)
  refine g_bipush (v := (-2)) cx dX9_drifts_42 (by decide) ?_
  exact hret _ _ _ _ dX9_drifts_44 (rfl) ⟨rfl, rfl⟩
def rm_X9_drifts_ok : Room := { frames := 2, cells := 0, slots := 0, locals := 45 }
set_option maxRecDepth 100000 in
set_option maxHeartbeats 4000000 in
theorem c_X9_drifts_ok (V : VT) (ad : Nat → Nat) (nw rw ps im kp tx sw sv da co pl me fa ao al : Nat → Int32) (ax ta ts tv il : Int32) (s z k n o m : Nat) (hM : okM nw sw s z k n o m) (l v : Int32) (q : Nat) (hl : l = nI q) (hq : q < n) (hv1 : ¬ v < (-50)) (hv2 : ¬ 50 < v) (h1 : ¬ nw (17 + 9 * q + 7) = v) : CI V yX9_drifts cX9_drifts 4 .int rm_X9_drifts_ok [.ref (ad 0), .int l, .int v] (wMo V ad nw rw ps im kp tx sw sv da co pl me fa ao al (nI s) (nI z) ax ta ts tv (nI k) il) (fun r_ w_ => r_ = 1 ∧ w_ = wMo V ad (upd nw (17 + 9 * q + 7) v) rw (mNo nw ps s) im kp tx sw sv da co pl me fa ao al (nI (hsz s)) (nI z) ax ta ts tv (nI k) il) := by
  refine CI_intro (by decide) (Nat.le_of_ble_eq_true rfl) (fun K cx hret => ?_)
  show G V K 4 0 0 (wMo V ad nw rw ps im kp tx sw sv da co pl me fa ao al (nI s) (nI z) ax ta ts tv (nI k) il) 0 [(0, .ref (ad 0)), (1, .int l), (2, .int v)] []
  obtain ⟨hs6, hz, hk6, hn, hn6, hn1, ho, ho4, hm, hm7, hat, hc, hcj, hsw⟩ := hM
  refine g_aload_n (v := ad 0) cx dX9_drifts_0 rfl ?_
  refine g_iload_n (v := l) cx dX9_drifts_1 rfl ?_
  refine w_calli (r0 := bI (¬ l < 0 ∧ ¬ nw 0 - 1 < l)) (ws' := wMo V ad nw rw ps im kp tx sw sv da co pl me fa ao al (nI s) (nI z) ax ta ts tv (nI k) il) (As := [.int l]) (rest := []) cx (c_X9_isDrive V ad nw rw ps im kp tx sw sv da co pl me fa ao al (nI s) (nI z) ax ta ts tv (nI k) il l) ml_X9_182 dX9_drifts_2 (q0 := 0) rfl rfl rfl rfl rfl (Nat.le_of_ble_eq_true rfl) ⟨Nat.le_of_ble_eq_true rfl, Nat.le_of_ble_eq_true rfl⟩ ⟨Nat.le_refl _, Nat.le_refl _⟩ ?_
  refine g_if_eq_b cx 19 dX9_drifts_5 (by decide) (fun hw1 => absurd (⟨rf_ltMN hl (b := 0) (nl 0) (by omega) (by omega) (by omega), by rw [hn, hl]; exact rf_predN (by omega) (by omega) (by omega)⟩) hw1) (fun hw1 => ?_)
  refine g_iload_n (v := v) cx dX9_drifts_8 rfl ?_
  refine g_bipush (v := (-50)) cx dX9_drifts_9 (by decide) ?_
  refine g_bipush (v := 50) cx dX9_drifts_11 (by decide) ?_
  refine k_callsi (r0 := bI (¬ v < (-50) ∧ ¬ 50 < v)) (ws' := wMo V ad nw rw ps im kp tx sw sv da co pl me fa ao al (nI s) (nI z) ax ta ts tv (nI k) il) (As := [.int v, .int (-50), .int 50]) (rest := []) cx (c_X9_in V v (-50) 50) ml_X9_76 dX9_drifts_13 [] rfl rfl [] rfl rfl rfl rfl rfl (Nat.le_of_ble_eq_true rfl) ⟨Nat.le_of_ble_eq_true rfl, Nat.le_of_ble_eq_true rfl⟩ ⟨Nat.le_refl _, Nat.le_refl _⟩ ?_
  refine g_if_ne_b cx 21 dX9_drifts_16 (by decide) (fun hw2 => ?_) (fun hw2 => absurd (⟨hv1, hv2⟩) hw2)
  refine g_bipush (v := 17) cx dX9_drifts_21 (by decide) ?_
  refine g_bipush (v := 9) cx dX9_drifts_23 (by decide) ?_
  refine g_iload_n (v := l) cx dX9_drifts_25 rfl ?_
  refine g_imul cx dX9_drifts_26 ?_
  refine g_iadd cx dX9_drifts_27 ?_
  refine g_istore_n (lv' := [(0, .ref (ad 0)), (1, .int l), (2, .int v), (3, .int (17 + (9 * l)))]) cx dX9_drifts_28 (by decide) rfl ?_
  refine g_aload_n (v := ad 0) cx dX9_drifts_29 rfl ?_
  refine g_get (v := .ref (ad 1)) cx fk_X9_7 dX9_drifts_30 0 rfl rfl ?_
  refine g_iload_n (v := 17 + (9 * l)) cx dX9_drifts_33 rfl ?_
  refine g_bipush (v := 7) cx dX9_drifts_34 (by decide) ?_
  refine g_iadd cx dX9_drifts_36 ?_
  refine g_iald cx dX9_drifts_37 1 ((17 + (9 * q)) + 7) rfl (rf_add (rf_add (nl 17) (rf_mul (nl 9) hl)) (nl 7)) (by omega) (by first | decide | omega) ?_
  refine g_top (y := nw ((17 + (9 * q)) + 7)) (rfl) ?_
  refine g_iload_n (v := v) cx dX9_drifts_38 rfl ?_
  refine g_icmp_ne cx 45 dX9_drifts_39 (by decide) (fun hw3 => ?_) (fun hw3 => absurd hw3 (h1))
  refine g_aload_n (v := ad 0) cx dX9_drifts_45 rfl ?_
  refine w_callv (ws' := wMo V ad nw rw (mNo nw ps s) im kp tx sw sv da co pl me fa ao al (nI (hsz s)) (nI z) ax ta ts tv (nI k) il) (As := []) (rest := []) cx (c_X9_note V ad nw rw ps im kp tx sw sv da co pl me fa ao al (nI z) ax ta ts tv (nI k) il s (by omega)) ml_X9_118 dX9_drifts_46 (q0 := 0) rfl rfl rfl rfl rfl (Nat.le_of_ble_eq_true rfl) ⟨Nat.le_of_ble_eq_true rfl, Nat.le_of_ble_eq_true rfl⟩ ⟨Nat.le_refl _, Nat.le_refl _⟩ ?_
  refine g_aload_n (v := ad 0) cx dX9_drifts_49 rfl ?_
  refine g_get (v := .ref (ad 1)) cx fk_X9_7 dX9_drifts_50 0 rfl rfl ?_
  refine g_iload_n (v := 17 + (9 * l)) cx dX9_drifts_53 rfl ?_
  refine g_bipush (v := 7) cx dX9_drifts_54 (by decide) ?_
  refine g_iadd cx dX9_drifts_56 ?_
  refine g_iload_n (v := v) cx dX9_drifts_57 rfl ?_
  refine g_iast (ws' := wMo V ad (upd nw ((17 + (9 * q)) + 7) v) rw (mNo nw ps s) im kp tx sw sv da co pl me fa ao al (nI (hsz s)) (nI z) ax ta ts tv (nI k) il) cx dX9_drifts_58 1 ((17 + (9 * q)) + 7) rfl (rf_add (rf_add (nl 17) (rf_mul (nl 9) hl)) (nl 7)) (by omega) (by first | decide | omega) rfl ?_
  refine g_iconst (v := 1) cx dX9_drifts_59 (by decide) ?_
  exact hret _ _ _ _ dX9_drifts_60 (rfl) ⟨rfl, rfl⟩
def rm_X9_measures_state : Room := { frames := 2, cells := 0, slots := 0, locals := 44 }
set_option maxRecDepth 100000 in
set_option maxHeartbeats 4000000 in
theorem c_X9_measures_state (V : VT) (ad : Nat → Nat) (nw rw ps im kp tx sw sv da co pl me fa ao al : Nat → Int32) (ax ta ts tv il : Int32) (s z k n o m : Nat) (hM : okM nw sw s z k n o m)  (h1 : mL nw (nw 16) n = 0) (h2 : mB nw (nw 16) n = n) : CI V yX9_measures cX9_measures 6 .int rm_X9_measures_state [.ref (ad 0)] (wMo V ad nw rw ps im kp tx sw sv da co pl me fa ao al (nI s) (nI z) ax ta ts tv (nI k) il) (fun r_ w_ => r_ = (-2) ∧ w_ = wMo V ad nw rw ps im kp tx sw sv da co pl me fa ao al (nI s) (nI z) ax ta ts tv (nI k) il) := by
  refine CI_intro (by decide) (Nat.le_of_ble_eq_true rfl) (fun K cx hret => ?_)
  show G V K 6 0 0 (wMo V ad nw rw ps im kp tx sw sv da co pl me fa ao al (nI s) (nI z) ax ta ts tv (nI k) il) 0 [(0, .ref (ad 0))] []
  obtain ⟨hs6, hz, hk6, hn, hn6, hn1, ho, ho4, hm, hm7, hat, hc, hcj, hsw⟩ := hM
  refine g_aload_n (v := ad 0) cx dX9_measures_0 rfl ?_
  refine g_get (v := .ref (ad 1)) cx fk_X9_7 dX9_measures_1 0 rfl rfl ?_
  refine g_bipush (v := 16) cx dX9_measures_4 (by decide) ?_
  refine g_iald cx dX9_measures_6 1 16 rfl (nl 16) (by omega) (by first | decide | omega) ?_
  refine g_top (y := nw 16) (rfl) ?_
  refine g_istore_n (lv' := [(0, .ref (ad 0)), (1, .int (nw 16))]) cx dX9_measures_7 (by decide) rfl ?_
  refine g_aload_n (v := ad 0) cx dX9_measures_8 rfl ?_
  refine g_iload_n (v := nw 16) cx dX9_measures_9 rfl ?_
  refine w_calli (r0 := bI (nw 1 = 1 ∧ (nw 16) = 0)) (ws' := wMo V ad nw rw ps im kp tx sw sv da co pl me fa ao al (nI s) (nI z) ax ta ts tv (nI k) il) (As := [.int (nw 16)]) (rest := []) cx (c_X9_isWhole V ad nw rw ps im kp tx sw sv da co pl me fa ao al (nI s) (nI z) ax ta ts tv (nI k) il (nw 16)) ml_X9_127 dX9_measures_10 (q0 := 0) rfl rfl rfl rfl rfl (Nat.le_of_ble_eq_true rfl) ⟨Nat.le_of_ble_eq_true rfl, Nat.le_of_ble_eq_true rfl⟩ ⟨Nat.le_refl _, Nat.le_refl _⟩ ?_
  refine g_if_eq_b cx 20 dX9_measures_13 (by decide) (fun hw1 => ?_) (fun hw1 => ?_)
  · skip
    refine g_aload_n (v := ad 0) cx dX9_measures_20 rfl ?_
    refine g_iload_n (v := nw 16) cx dX9_measures_21 rfl ?_
    refine w_calli (r0 := nI (mA (nw 16) n) - 1) (ws' := wMo V ad nw rw ps im kp tx sw sv da co pl me fa ao al (nI s) (nI z) ax ta ts tv (nI k) il) (As := [.int (nw 16)]) (rest := []) cx (c_X9_lastOfA V ad nw rw ps im kp tx sw sv da co pl me fa ao al (nI s) (nI z) ax ta ts tv (nI k) il (nw 16) n hn (by omega)) ml_X9_134 dX9_measures_22 (q0 := 0) rfl rfl rfl rfl rfl (Nat.le_of_ble_eq_true rfl) ⟨Nat.le_of_ble_eq_true rfl, Nat.le_of_ble_eq_true rfl⟩ ⟨Nat.le_refl _, Nat.le_refl _⟩ ?_
    refine g_top (y := nI (mL nw (nw 16) n) - 1) (by rw [mL, if_neg hw1]) ?_
    refine g_istore_n (lv' := [(0, .ref (ad 0)), (1, .int (nw 16)), (2, .int (nI (mL nw (nw 16) n) - 1))]) cx dX9_measures_25 (by decide) rfl ?_
    refine g_aload_n (v := ad 0) cx dX9_measures_26 rfl ?_
    refine g_iload_n (v := nw 16) cx dX9_measures_27 rfl ?_
    refine w_calli (r0 := nI (mB nw (nw 16) n)) (ws' := wMo V ad nw rw ps im kp tx sw sv da co pl me fa ao al (nI s) (nI z) ax ta ts tv (nI k) il) (As := [.int (nw 16)]) (rest := []) cx (c_X9_firstOfB V ad nw rw ps im kp tx sw sv da co pl me fa ao al (nI s) (nI z) ax ta ts tv (nI k) il (nw 16) n hn (by omega) hc) ml_X9_138 dX9_measures_28 (q0 := 0) rfl rfl rfl rfl rfl (Nat.le_of_ble_eq_true rfl) ⟨Nat.le_of_ble_eq_true rfl, Nat.le_of_ble_eq_true rfl⟩ ⟨Nat.le_refl _, Nat.le_refl _⟩ ?_
    refine g_istore_n (lv' := [(0, .ref (ad 0)), (1, .int (nw 16)), (2, .int (nI (mL nw (nw 16) n) - 1)), (3, .int (nI (mB nw (nw 16) n)))]) cx dX9_measures_31 (by decide) rfl ?_
    refine g_iload_n (v := nI (mL nw (nw 16) n) - 1) cx dX9_measures_32 rfl ?_
    refine g_if_ge cx 49 dX9_measures_33 (by decide) (fun hw2 => absurd hw2 (rf_pgeN h1)) (fun hw2 => ?_)
    refine g_iload_n (v := nI (mB nw (nw 16) n)) cx dX9_measures_36 rfl ?_
    refine g_aload_n (v := ad 0) cx dX9_measures_37 rfl ?_
    refine g_get (v := .ref (ad 1)) cx fk_X9_7 dX9_measures_38 0 rfl rfl ?_
    refine g_iconst (v := 0) cx dX9_measures_41 (by decide) ?_
    refine g_iald cx dX9_measures_42 1 0 rfl (nl 0) (by omega) (by first | decide | omega) ?_
    refine g_top (y := nw 0) (rfl) ?_
    refine g_icmp_ne cx 49 dX9_measures_43 (by decide) (fun hw3 => absurd (by rw [hn, h2]) hw3) (fun hw3 => ?_)
    refine g_bipush (v := (-2)) cx dX9_measures_46 (by decide) ?_
    exact hret _ _ _ _ dX9_measures_48 (rfl) ⟨rfl, rfl⟩
  · skip
    refine g_iconst (v := (-1)) cx dX9_measures_16 (by decide) ?_
    refine g_goto cx 25 dX9_measures_17 (by decide) ?_
    refine g_top (y := nI (mL nw (nw 16) n) - 1) (by rw [mL, if_pos hw1]; decide) ?_
    refine g_istore_n (lv' := [(0, .ref (ad 0)), (1, .int (nw 16)), (2, .int (nI (mL nw (nw 16) n) - 1))]) cx dX9_measures_25 (by decide) rfl ?_
    refine g_aload_n (v := ad 0) cx dX9_measures_26 rfl ?_
    refine g_iload_n (v := nw 16) cx dX9_measures_27 rfl ?_
    refine w_calli (r0 := nI (mB nw (nw 16) n)) (ws' := wMo V ad nw rw ps im kp tx sw sv da co pl me fa ao al (nI s) (nI z) ax ta ts tv (nI k) il) (As := [.int (nw 16)]) (rest := []) cx (c_X9_firstOfB V ad nw rw ps im kp tx sw sv da co pl me fa ao al (nI s) (nI z) ax ta ts tv (nI k) il (nw 16) n hn (by omega) hc) ml_X9_138 dX9_measures_28 (q0 := 0) rfl rfl rfl rfl rfl (Nat.le_of_ble_eq_true rfl) ⟨Nat.le_of_ble_eq_true rfl, Nat.le_of_ble_eq_true rfl⟩ ⟨Nat.le_refl _, Nat.le_refl _⟩ ?_
    refine g_istore_n (lv' := [(0, .ref (ad 0)), (1, .int (nw 16)), (2, .int (nI (mL nw (nw 16) n) - 1)), (3, .int (nI (mB nw (nw 16) n)))]) cx dX9_measures_31 (by decide) rfl ?_
    refine g_iload_n (v := nI (mL nw (nw 16) n) - 1) cx dX9_measures_32 rfl ?_
    refine g_if_ge cx 49 dX9_measures_33 (by decide) (fun hw4 => absurd hw4 (rf_pgeN h1)) (fun hw4 => ?_)
    refine g_iload_n (v := nI (mB nw (nw 16) n)) cx dX9_measures_36 rfl ?_
    refine g_aload_n (v := ad 0) cx dX9_measures_37 rfl ?_
    refine g_get (v := .ref (ad 1)) cx fk_X9_7 dX9_measures_38 0 rfl rfl ?_
    refine g_iconst (v := 0) cx dX9_measures_41 (by decide) ?_
    refine g_iald cx dX9_measures_42 1 0 rfl (nl 0) (by omega) (by first | decide | omega) ?_
    refine g_top (y := nw 0) (rfl) ?_
    refine g_icmp_ne cx 49 dX9_measures_43 (by decide) (fun hw5 => absurd (by rw [hn, h2]) hw5) (fun hw5 => ?_)
    refine g_bipush (v := (-2)) cx dX9_measures_46 (by decide) ?_
    exact hret _ _ _ _ dX9_measures_48 (rfl) ⟨rfl, rfl⟩
def rm_X9_measures_ok : Room := { frames := 2, cells := 0, slots := 0, locals := 45 }
set_option maxRecDepth 100000 in
set_option maxHeartbeats 4000000 in
theorem c_X9_measures_ok (V : VT) (ad : Nat → Nat) (nw rw ps im kp tx sw sv da co pl me fa ao al : Nat → Int32) (ax ta ts tv il : Int32) (s z k n o m : Nat) (hM : okM nw sw s z k n o m)  (h1 : ¬ (mL nw (nw 16) n = 0 ∧ mB nw (nw 16) n = n)) : CI V yX9_measures cX9_measures 6 .int rm_X9_measures_ok [.ref (ad 0)] (wMo V ad nw rw ps im kp tx sw sv da co pl me fa ao al (nI s) (nI z) ax ta ts tv (nI k) il) (fun r_ w_ => r_ = (mMe (mL nw (nw 16) n) (mB nw (nw 16) n) nw n).2 ∧ w_ = wMo V ad ((mMe (mL nw (nw 16) n) (mB nw (nw 16) n) nw n).1) rw (mNo nw ps s) im kp tx sw sv da co pl me fa ao al (nI (hsz s)) (nI z) ax ta ts tv (nI k) il) := by
  refine CI_intro (by decide) (Nat.le_of_ble_eq_true rfl) (fun K cx hret => ?_)
  show G V K 6 0 0 (wMo V ad nw rw ps im kp tx sw sv da co pl me fa ao al (nI s) (nI z) ax ta ts tv (nI k) il) 0 [(0, .ref (ad 0))] []
  obtain ⟨hs6, hz, hk6, hn, hn6, hn1, ho, ho4, hm, hm7, hat, hc, hcj, hsw⟩ := hM
  refine g_aload_n (v := ad 0) cx dX9_measures_0 rfl ?_
  refine g_get (v := .ref (ad 1)) cx fk_X9_7 dX9_measures_1 0 rfl rfl ?_
  refine g_bipush (v := 16) cx dX9_measures_4 (by decide) ?_
  refine g_iald cx dX9_measures_6 1 16 rfl (nl 16) (by omega) (by first | decide | omega) ?_
  refine g_top (y := nw 16) (rfl) ?_
  refine g_istore_n (lv' := [(0, .ref (ad 0)), (1, .int (nw 16))]) cx dX9_measures_7 (by decide) rfl ?_
  refine g_aload_n (v := ad 0) cx dX9_measures_8 rfl ?_
  refine g_iload_n (v := nw 16) cx dX9_measures_9 rfl ?_
  refine w_calli (r0 := bI (nw 1 = 1 ∧ (nw 16) = 0)) (ws' := wMo V ad nw rw ps im kp tx sw sv da co pl me fa ao al (nI s) (nI z) ax ta ts tv (nI k) il) (As := [.int (nw 16)]) (rest := []) cx (c_X9_isWhole V ad nw rw ps im kp tx sw sv da co pl me fa ao al (nI s) (nI z) ax ta ts tv (nI k) il (nw 16)) ml_X9_127 dX9_measures_10 (q0 := 0) rfl rfl rfl rfl rfl (Nat.le_of_ble_eq_true rfl) ⟨Nat.le_of_ble_eq_true rfl, Nat.le_of_ble_eq_true rfl⟩ ⟨Nat.le_refl _, Nat.le_refl _⟩ ?_
  refine g_if_eq_b cx 20 dX9_measures_13 (by decide) (fun hw1 => ?_) (fun hw1 => ?_)
  · skip
    refine g_aload_n (v := ad 0) cx dX9_measures_20 rfl ?_
    refine g_iload_n (v := nw 16) cx dX9_measures_21 rfl ?_
    refine w_calli (r0 := nI (mA (nw 16) n) - 1) (ws' := wMo V ad nw rw ps im kp tx sw sv da co pl me fa ao al (nI s) (nI z) ax ta ts tv (nI k) il) (As := [.int (nw 16)]) (rest := []) cx (c_X9_lastOfA V ad nw rw ps im kp tx sw sv da co pl me fa ao al (nI s) (nI z) ax ta ts tv (nI k) il (nw 16) n hn (by omega)) ml_X9_134 dX9_measures_22 (q0 := 0) rfl rfl rfl rfl rfl (Nat.le_of_ble_eq_true rfl) ⟨Nat.le_of_ble_eq_true rfl, Nat.le_of_ble_eq_true rfl⟩ ⟨Nat.le_refl _, Nat.le_refl _⟩ ?_
    refine g_top (y := nI (mL nw (nw 16) n) - 1) (by rw [mL, if_neg hw1]) ?_
    refine g_istore_n (lv' := [(0, .ref (ad 0)), (1, .int (nw 16)), (2, .int (nI (mL nw (nw 16) n) - 1))]) cx dX9_measures_25 (by decide) rfl ?_
    refine g_aload_n (v := ad 0) cx dX9_measures_26 rfl ?_
    refine g_iload_n (v := nw 16) cx dX9_measures_27 rfl ?_
    refine w_calli (r0 := nI (mB nw (nw 16) n)) (ws' := wMo V ad nw rw ps im kp tx sw sv da co pl me fa ao al (nI s) (nI z) ax ta ts tv (nI k) il) (As := [.int (nw 16)]) (rest := []) cx (c_X9_firstOfB V ad nw rw ps im kp tx sw sv da co pl me fa ao al (nI s) (nI z) ax ta ts tv (nI k) il (nw 16) n hn (by omega) hc) ml_X9_138 dX9_measures_28 (q0 := 0) rfl rfl rfl rfl rfl (Nat.le_of_ble_eq_true rfl) ⟨Nat.le_of_ble_eq_true rfl, Nat.le_of_ble_eq_true rfl⟩ ⟨Nat.le_refl _, Nat.le_refl _⟩ ?_
    refine g_istore_n (lv' := [(0, .ref (ad 0)), (1, .int (nw 16)), (2, .int (nI (mL nw (nw 16) n) - 1)), (3, .int (nI (mB nw (nw 16) n)))]) cx dX9_measures_31 (by decide) rfl ?_
    refine g_iload_n (v := nI (mL nw (nw 16) n) - 1) cx dX9_measures_32 rfl ?_
    have hLn : mL nw (nw 16) n ≤ n := by unfold mL; split <;> first | exact Nat.zero_le _ | exact mA_le _ _
    have hBn := mB_le nw (nw 16) n
    by_cases he0 : mL nw (nw 16) n = 0
    · skip
      refine g_if_ge cx 49 dX9_measures_33 (by decide) (fun hw2 => absurd hw2 (rf_pgeN he0)) (fun hw2 => ?_)
      refine g_iload_n (v := nI (mB nw (nw 16) n)) cx dX9_measures_36 rfl ?_
      refine g_aload_n (v := ad 0) cx dX9_measures_37 rfl ?_
      refine g_get (v := .ref (ad 1)) cx fk_X9_7 dX9_measures_38 0 rfl rfl ?_
      refine g_iconst (v := 0) cx dX9_measures_41 (by decide) ?_
      refine g_iald cx dX9_measures_42 1 0 rfl (nl 0) (by omega) (by first | decide | omega) ?_
      refine g_top (y := nw 0) (rfl) ?_
      refine g_icmp_ne cx 49 dX9_measures_43 (by decide) (fun hw3 => ?_) (fun hw3 => absurd hw3 (fun h => h1 ⟨he0, (nI_eq (by omega) (by omega)).mp (h.trans hn)⟩))
      clear h1
      refine g_aload_n (v := ad 0) cx dX9_measures_49 rfl ?_
      refine w_callv (ws' := wMo V ad nw rw (mNo nw ps s) im kp tx sw sv da co pl me fa ao al (nI (hsz s)) (nI z) ax ta ts tv (nI k) il) (As := []) (rest := []) cx (c_X9_note V ad nw rw ps im kp tx sw sv da co pl me fa ao al (nI z) ax ta ts tv (nI k) il s (by omega)) ml_X9_118 dX9_measures_50 (q0 := 0) rfl rfl rfl rfl rfl (Nat.le_of_ble_eq_true rfl) ⟨Nat.le_of_ble_eq_true rfl, Nat.le_of_ble_eq_true rfl⟩ ⟨Nat.le_refl _, Nat.le_refl _⟩ ?_
      generalize mL nw (nw 16) n = e at hret hLn ⊢
      generalize mB nw (nw 16) n = f at hret hBn ⊢
      refine g_iconst (v := 0) cx dX9_measures_53 (by decide) ?_
      refine g_istore (lv' := [(0, .ref (ad 0)), (1, .int (nw 16)), (2, .int (nI e - 1)), (3, .int (nI f)), (4, .int 0)]) cx dX9_measures_54 (by decide) rfl ?_
      refine g_iconst (v := 0) cx dX9_measures_56 (by decide) ?_
      refine g_istore (lv' := [(0, .ref (ad 0)), (1, .int (nw 16)), (2, .int (nI e - 1)), (3, .int (nI f)), (4, .int 0), (5, .int 0)]) cx dX9_measures_57 (by decide) rfl ?_
      refine rf_dn (P := fun i => G V K 6 0 0 (wMo V ad ((mMe e f nw i).1) rw (mNo nw ps s) im kp tx sw sv da co pl me fa ao al (nI (hsz s)) (nI z) ax ta ts tv (nI k) il) 59 [(0, .ref (ad 0)), (1, .int (nw 16)), (2, .int (nI e - 1)), (3, .int (nI f)), (4, .int ((mMe e f nw i).2)), (5, .int (nI i))] []) (n) (fun i hi ihi => ?_) ?_
      · skip
        have hin : i < n := hi
        have hnM : (mMe e f nw i).1 0 = nI n := (mMe_0 i).trans hn
        refine g_iload (v := nI i) cx dX9_measures_59 rfl ?_
        refine g_aload_n (v := ad 0) cx dX9_measures_61 rfl ?_
        refine g_get (v := .ref (ad 1)) cx fk_X9_7 dX9_measures_62 0 rfl rfl ?_
        refine g_iconst (v := 0) cx dX9_measures_65 (by decide) ?_
        refine g_iald cx dX9_measures_66 1 0 rfl (nl 0) (by omega) (by first | decide | omega) ?_
        refine g_top (y := ((mMe e f nw i).1) 0) (rfl) ?_
        refine g_icmp_ge cx 123 dX9_measures_67 (by decide) (fun hw4 => absurd hw4 (rf_geMN rfl hnM (by omega) (by omega) (by omega))) (fun hw4 => ?_)
        refine g_iload (v := nI i) cx dX9_measures_70 rfl ?_
        refine g_iload_n (v := nI e - 1) cx dX9_measures_72 rfl ?_
        by_cases hde : i < e
        · skip
          refine g_icmp_le cx 82 dX9_measures_73 (by decide) (fun hw5 => ?_) (fun hw5 => absurd (Int32.not_lt.mp (rf_predN (by omega) (by omega) hde)) hw5)
          refine g_aload_n (v := ad 0) cx dX9_measures_82 rfl ?_
          refine g_get (v := .ref (ad 1)) cx fk_X9_7 dX9_measures_83 0 rfl rfl ?_
          refine g_bipush (v := 17) cx dX9_measures_86 (by decide) ?_
          refine g_bipush (v := 9) cx dX9_measures_88 (by decide) ?_
          refine g_iload (v := nI i) cx dX9_measures_90 rfl ?_
          refine g_imul cx dX9_measures_92 ?_
          refine g_iadd cx dX9_measures_93 ?_
          refine g_bipush (v := 8) cx dX9_measures_94 (by decide) ?_
          refine g_iadd cx dX9_measures_96 ?_
          refine g_aload_n (v := ad 0) cx dX9_measures_97 rfl ?_
          refine g_get (v := .ref (ad 1)) cx fk_X9_7 dX9_measures_98 0 rfl rfl ?_
          refine g_bipush (v := 17) cx dX9_measures_101 (by decide) ?_
          refine g_bipush (v := 9) cx dX9_measures_103 (by decide) ?_
          refine g_iload (v := nI i) cx dX9_measures_105 rfl ?_
          refine g_imul cx dX9_measures_107 ?_
          refine g_iadd cx dX9_measures_108 ?_
          refine g_bipush (v := 7) cx dX9_measures_109 (by decide) ?_
          refine g_iadd cx dX9_measures_111 ?_
          refine g_iald cx dX9_measures_112 1 ((17 + (9 * i)) + 7) rfl (rf_add (rf_add (nl 17) (rf_mul (nl 9) rfl)) (nl 7)) (by omega) (by first | decide | omega) ?_
          refine g_top (y := ((mMe e f nw i).1) ((17 + (9 * i)) + 7)) (rfl) ?_
          refine g_iast (ws' := wMo V ad (upd ((mMe e f nw i).1) ((17 + (9 * i)) + 8) (((mMe e f nw i).1) ((17 + (9 * i)) + 7))) rw (mNo nw ps s) im kp tx sw sv da co pl me fa ao al (nI (hsz s)) (nI z) ax ta ts tv (nI k) il) cx dX9_measures_113 1 ((17 + (9 * i)) + 8) rfl (rf_add (rf_add (nl 17) (rf_mul (nl 9) rfl)) (nl 8)) (by omega) (by first | decide | omega) rfl ?_
          refine g_iinc (x := (mMe e f nw i).2) (v := ((mMe e f nw i).2) + 1) (lv' := [(0, .ref (ad 0)), (1, .int (nw 16)), (2, .int (nI e - 1)), (3, .int (nI f)), (4, .int (((mMe e f nw i).2) + 1)), (5, .int (nI i))]) cx dX9_measures_114 rfl (by decide) rfl rfl ?_
          refine g_iinc (x := nI i) (v := nI (i + 1)) (lv' := [(0, .ref (ad 0)), (1, .int (nw 16)), (2, .int (nI e - 1)), (3, .int (nI f)), (4, .int (((mMe e f nw i).2) + 1)), (5, .int (nI (i + 1)))]) cx dX9_measures_117 rfl (by decide) (nI_add _ _) rfl ?_
          refine g_goto cx 59 dX9_measures_120 (by decide) ?_
          rw [show mMe e f nw (i + 1) = if i < e ∨ f ≤ i then (upd (mMe e f nw i).1 (17 + 9 * i + 8) ((mMe e f nw i).1 (17 + 9 * i + 7)), (mMe e f nw i).2 + 1) else mMe e f nw i from rfl, if_pos (Or.inl hde)] at ihi
          exact ihi
        · skip
          refine g_icmp_le cx 82 dX9_measures_73 (by decide) (fun hw6 => absurd hw6 (Int32.not_le.mpr (rf_predP (by omega) (by omega) (by omega)))) (fun hw6 => ?_)
          refine g_iload (v := nI i) cx dX9_measures_76 rfl ?_
          refine g_iload_n (v := nI f) cx dX9_measures_78 rfl ?_
          refine g_icmp_lt cx 117 dX9_measures_79 (by decide) (fun hw7 => ?_) (fun hw7 => ?_)
          · have hw7 := rf_ltP rfl rfl (by omega) (by omega) hw7
            refine g_iinc (x := nI i) (v := nI (i + 1)) (lv' := [(0, .ref (ad 0)), (1, .int (nw 16)), (2, .int (nI e - 1)), (3, .int (nI f)), (4, .int ((mMe e f nw i).2)), (5, .int (nI (i + 1)))]) cx dX9_measures_117 rfl (by decide) (nI_add _ _) rfl ?_
            refine g_goto cx 59 dX9_measures_120 (by decide) ?_
            rw [show mMe e f nw (i + 1) = if i < e ∨ f ≤ i then (upd (mMe e f nw i).1 (17 + 9 * i + 8) ((mMe e f nw i).1 (17 + 9 * i + 7)), (mMe e f nw i).2 + 1) else mMe e f nw i from rfl, if_neg (by omega)] at ihi
            exact ihi
          · have hw7 := rf_ltN rfl rfl (by omega) (by omega) hw7
            refine g_aload_n (v := ad 0) cx dX9_measures_82 rfl ?_
            refine g_get (v := .ref (ad 1)) cx fk_X9_7 dX9_measures_83 0 rfl rfl ?_
            refine g_bipush (v := 17) cx dX9_measures_86 (by decide) ?_
            refine g_bipush (v := 9) cx dX9_measures_88 (by decide) ?_
            refine g_iload (v := nI i) cx dX9_measures_90 rfl ?_
            refine g_imul cx dX9_measures_92 ?_
            refine g_iadd cx dX9_measures_93 ?_
            refine g_bipush (v := 8) cx dX9_measures_94 (by decide) ?_
            refine g_iadd cx dX9_measures_96 ?_
            refine g_aload_n (v := ad 0) cx dX9_measures_97 rfl ?_
            refine g_get (v := .ref (ad 1)) cx fk_X9_7 dX9_measures_98 0 rfl rfl ?_
            refine g_bipush (v := 17) cx dX9_measures_101 (by decide) ?_
            refine g_bipush (v := 9) cx dX9_measures_103 (by decide) ?_
            refine g_iload (v := nI i) cx dX9_measures_105 rfl ?_
            refine g_imul cx dX9_measures_107 ?_
            refine g_iadd cx dX9_measures_108 ?_
            refine g_bipush (v := 7) cx dX9_measures_109 (by decide) ?_
            refine g_iadd cx dX9_measures_111 ?_
            refine g_iald cx dX9_measures_112 1 ((17 + (9 * i)) + 7) rfl (rf_add (rf_add (nl 17) (rf_mul (nl 9) rfl)) (nl 7)) (by omega) (by first | decide | omega) ?_
            refine g_top (y := ((mMe e f nw i).1) ((17 + (9 * i)) + 7)) (rfl) ?_
            refine g_iast (ws' := wMo V ad (upd ((mMe e f nw i).1) ((17 + (9 * i)) + 8) (((mMe e f nw i).1) ((17 + (9 * i)) + 7))) rw (mNo nw ps s) im kp tx sw sv da co pl me fa ao al (nI (hsz s)) (nI z) ax ta ts tv (nI k) il) cx dX9_measures_113 1 ((17 + (9 * i)) + 8) rfl (rf_add (rf_add (nl 17) (rf_mul (nl 9) rfl)) (nl 8)) (by omega) (by first | decide | omega) rfl ?_
            refine g_iinc (x := (mMe e f nw i).2) (v := ((mMe e f nw i).2) + 1) (lv' := [(0, .ref (ad 0)), (1, .int (nw 16)), (2, .int (nI e - 1)), (3, .int (nI f)), (4, .int (((mMe e f nw i).2) + 1)), (5, .int (nI i))]) cx dX9_measures_114 rfl (by decide) rfl rfl ?_
            refine g_iinc (x := nI i) (v := nI (i + 1)) (lv' := [(0, .ref (ad 0)), (1, .int (nw 16)), (2, .int (nI e - 1)), (3, .int (nI f)), (4, .int (((mMe e f nw i).2) + 1)), (5, .int (nI (i + 1)))]) cx dX9_measures_117 rfl (by decide) (nI_add _ _) rfl ?_
            refine g_goto cx 59 dX9_measures_120 (by decide) ?_
            rw [show mMe e f nw (i + 1) = if i < e ∨ f ≤ i then (upd (mMe e f nw i).1 (17 + 9 * i + 8) ((mMe e f nw i).1 (17 + 9 * i + 7)), (mMe e f nw i).2 + 1) else mMe e f nw i from rfl, if_pos (Or.inr (by omega))] at ihi
            exact ihi
      · skip
        have hnX : (mMe e f nw n).1 0 = nI n := (mMe_0 n).trans hn
        refine g_iload (v := nI n) cx dX9_measures_59 rfl ?_
        refine g_aload_n (v := ad 0) cx dX9_measures_61 rfl ?_
        refine g_get (v := .ref (ad 1)) cx fk_X9_7 dX9_measures_62 0 rfl rfl ?_
        refine g_iconst (v := 0) cx dX9_measures_65 (by decide) ?_
        refine g_iald cx dX9_measures_66 1 0 rfl (nl 0) (by omega) (by first | decide | omega) ?_
        refine g_top (y := ((mMe e f nw n).1) 0) (rfl) ?_
        refine g_icmp_ge cx 123 dX9_measures_67 (by decide) (fun hw8 => ?_) (fun hw8 => absurd (rf_geMP rfl hnX (by omega) (by omega) (by omega)) hw8)
        refine g_iload (v := (mMe e f nw n).2) cx dX9_measures_123 rfl ?_
        exact hret _ _ _ _ dX9_measures_125 (rfl) ⟨rfl, rfl⟩
    · skip
      refine g_if_ge cx 49 dX9_measures_33 (by decide) (fun hw9 => ?_) (fun hw9 => absurd (rf_pgeP he0 (by omega)) hw9)
      clear h1
      refine g_aload_n (v := ad 0) cx dX9_measures_49 rfl ?_
      refine w_callv (ws' := wMo V ad nw rw (mNo nw ps s) im kp tx sw sv da co pl me fa ao al (nI (hsz s)) (nI z) ax ta ts tv (nI k) il) (As := []) (rest := []) cx (c_X9_note V ad nw rw ps im kp tx sw sv da co pl me fa ao al (nI z) ax ta ts tv (nI k) il s (by omega)) ml_X9_118 dX9_measures_50 (q0 := 0) rfl rfl rfl rfl rfl (Nat.le_of_ble_eq_true rfl) ⟨Nat.le_of_ble_eq_true rfl, Nat.le_of_ble_eq_true rfl⟩ ⟨Nat.le_refl _, Nat.le_refl _⟩ ?_
      generalize mL nw (nw 16) n = e at hret hLn ⊢
      generalize mB nw (nw 16) n = f at hret hBn ⊢
      refine g_iconst (v := 0) cx dX9_measures_53 (by decide) ?_
      refine g_istore (lv' := [(0, .ref (ad 0)), (1, .int (nw 16)), (2, .int (nI e - 1)), (3, .int (nI f)), (4, .int 0)]) cx dX9_measures_54 (by decide) rfl ?_
      refine g_iconst (v := 0) cx dX9_measures_56 (by decide) ?_
      refine g_istore (lv' := [(0, .ref (ad 0)), (1, .int (nw 16)), (2, .int (nI e - 1)), (3, .int (nI f)), (4, .int 0), (5, .int 0)]) cx dX9_measures_57 (by decide) rfl ?_
      refine rf_dn (P := fun i => G V K 6 0 0 (wMo V ad ((mMe e f nw i).1) rw (mNo nw ps s) im kp tx sw sv da co pl me fa ao al (nI (hsz s)) (nI z) ax ta ts tv (nI k) il) 59 [(0, .ref (ad 0)), (1, .int (nw 16)), (2, .int (nI e - 1)), (3, .int (nI f)), (4, .int ((mMe e f nw i).2)), (5, .int (nI i))] []) (n) (fun i hi ihi => ?_) ?_
      · skip
        have hin : i < n := hi
        have hnM : (mMe e f nw i).1 0 = nI n := (mMe_0 i).trans hn
        refine g_iload (v := nI i) cx dX9_measures_59 rfl ?_
        refine g_aload_n (v := ad 0) cx dX9_measures_61 rfl ?_
        refine g_get (v := .ref (ad 1)) cx fk_X9_7 dX9_measures_62 0 rfl rfl ?_
        refine g_iconst (v := 0) cx dX9_measures_65 (by decide) ?_
        refine g_iald cx dX9_measures_66 1 0 rfl (nl 0) (by omega) (by first | decide | omega) ?_
        refine g_top (y := ((mMe e f nw i).1) 0) (rfl) ?_
        refine g_icmp_ge cx 123 dX9_measures_67 (by decide) (fun hw10 => absurd hw10 (rf_geMN rfl hnM (by omega) (by omega) (by omega))) (fun hw10 => ?_)
        refine g_iload (v := nI i) cx dX9_measures_70 rfl ?_
        refine g_iload_n (v := nI e - 1) cx dX9_measures_72 rfl ?_
        by_cases hde : i < e
        · skip
          refine g_icmp_le cx 82 dX9_measures_73 (by decide) (fun hw11 => ?_) (fun hw11 => absurd (Int32.not_lt.mp (rf_predN (by omega) (by omega) hde)) hw11)
          refine g_aload_n (v := ad 0) cx dX9_measures_82 rfl ?_
          refine g_get (v := .ref (ad 1)) cx fk_X9_7 dX9_measures_83 0 rfl rfl ?_
          refine g_bipush (v := 17) cx dX9_measures_86 (by decide) ?_
          refine g_bipush (v := 9) cx dX9_measures_88 (by decide) ?_
          refine g_iload (v := nI i) cx dX9_measures_90 rfl ?_
          refine g_imul cx dX9_measures_92 ?_
          refine g_iadd cx dX9_measures_93 ?_
          refine g_bipush (v := 8) cx dX9_measures_94 (by decide) ?_
          refine g_iadd cx dX9_measures_96 ?_
          refine g_aload_n (v := ad 0) cx dX9_measures_97 rfl ?_
          refine g_get (v := .ref (ad 1)) cx fk_X9_7 dX9_measures_98 0 rfl rfl ?_
          refine g_bipush (v := 17) cx dX9_measures_101 (by decide) ?_
          refine g_bipush (v := 9) cx dX9_measures_103 (by decide) ?_
          refine g_iload (v := nI i) cx dX9_measures_105 rfl ?_
          refine g_imul cx dX9_measures_107 ?_
          refine g_iadd cx dX9_measures_108 ?_
          refine g_bipush (v := 7) cx dX9_measures_109 (by decide) ?_
          refine g_iadd cx dX9_measures_111 ?_
          refine g_iald cx dX9_measures_112 1 ((17 + (9 * i)) + 7) rfl (rf_add (rf_add (nl 17) (rf_mul (nl 9) rfl)) (nl 7)) (by omega) (by first | decide | omega) ?_
          refine g_top (y := ((mMe e f nw i).1) ((17 + (9 * i)) + 7)) (rfl) ?_
          refine g_iast (ws' := wMo V ad (upd ((mMe e f nw i).1) ((17 + (9 * i)) + 8) (((mMe e f nw i).1) ((17 + (9 * i)) + 7))) rw (mNo nw ps s) im kp tx sw sv da co pl me fa ao al (nI (hsz s)) (nI z) ax ta ts tv (nI k) il) cx dX9_measures_113 1 ((17 + (9 * i)) + 8) rfl (rf_add (rf_add (nl 17) (rf_mul (nl 9) rfl)) (nl 8)) (by omega) (by first | decide | omega) rfl ?_
          refine g_iinc (x := (mMe e f nw i).2) (v := ((mMe e f nw i).2) + 1) (lv' := [(0, .ref (ad 0)), (1, .int (nw 16)), (2, .int (nI e - 1)), (3, .int (nI f)), (4, .int (((mMe e f nw i).2) + 1)), (5, .int (nI i))]) cx dX9_measures_114 rfl (by decide) rfl rfl ?_
          refine g_iinc (x := nI i) (v := nI (i + 1)) (lv' := [(0, .ref (ad 0)), (1, .int (nw 16)), (2, .int (nI e - 1)), (3, .int (nI f)), (4, .int (((mMe e f nw i).2) + 1)), (5, .int (nI (i + 1)))]) cx dX9_measures_117 rfl (by decide) (nI_add _ _) rfl ?_
          refine g_goto cx 59 dX9_measures_120 (by decide) ?_
          rw [show mMe e f nw (i + 1) = if i < e ∨ f ≤ i then (upd (mMe e f nw i).1 (17 + 9 * i + 8) ((mMe e f nw i).1 (17 + 9 * i + 7)), (mMe e f nw i).2 + 1) else mMe e f nw i from rfl, if_pos (Or.inl hde)] at ihi
          exact ihi
        · skip
          refine g_icmp_le cx 82 dX9_measures_73 (by decide) (fun hw12 => absurd hw12 (Int32.not_le.mpr (rf_predP (by omega) (by omega) (by omega)))) (fun hw12 => ?_)
          refine g_iload (v := nI i) cx dX9_measures_76 rfl ?_
          refine g_iload_n (v := nI f) cx dX9_measures_78 rfl ?_
          refine g_icmp_lt cx 117 dX9_measures_79 (by decide) (fun hw13 => ?_) (fun hw13 => ?_)
          · have hw13 := rf_ltP rfl rfl (by omega) (by omega) hw13
            refine g_iinc (x := nI i) (v := nI (i + 1)) (lv' := [(0, .ref (ad 0)), (1, .int (nw 16)), (2, .int (nI e - 1)), (3, .int (nI f)), (4, .int ((mMe e f nw i).2)), (5, .int (nI (i + 1)))]) cx dX9_measures_117 rfl (by decide) (nI_add _ _) rfl ?_
            refine g_goto cx 59 dX9_measures_120 (by decide) ?_
            rw [show mMe e f nw (i + 1) = if i < e ∨ f ≤ i then (upd (mMe e f nw i).1 (17 + 9 * i + 8) ((mMe e f nw i).1 (17 + 9 * i + 7)), (mMe e f nw i).2 + 1) else mMe e f nw i from rfl, if_neg (by omega)] at ihi
            exact ihi
          · have hw13 := rf_ltN rfl rfl (by omega) (by omega) hw13
            refine g_aload_n (v := ad 0) cx dX9_measures_82 rfl ?_
            refine g_get (v := .ref (ad 1)) cx fk_X9_7 dX9_measures_83 0 rfl rfl ?_
            refine g_bipush (v := 17) cx dX9_measures_86 (by decide) ?_
            refine g_bipush (v := 9) cx dX9_measures_88 (by decide) ?_
            refine g_iload (v := nI i) cx dX9_measures_90 rfl ?_
            refine g_imul cx dX9_measures_92 ?_
            refine g_iadd cx dX9_measures_93 ?_
            refine g_bipush (v := 8) cx dX9_measures_94 (by decide) ?_
            refine g_iadd cx dX9_measures_96 ?_
            refine g_aload_n (v := ad 0) cx dX9_measures_97 rfl ?_
            refine g_get (v := .ref (ad 1)) cx fk_X9_7 dX9_measures_98 0 rfl rfl ?_
            refine g_bipush (v := 17) cx dX9_measures_101 (by decide) ?_
            refine g_bipush (v := 9) cx dX9_measures_103 (by decide) ?_
            refine g_iload (v := nI i) cx dX9_measures_105 rfl ?_
            refine g_imul cx dX9_measures_107 ?_
            refine g_iadd cx dX9_measures_108 ?_
            refine g_bipush (v := 7) cx dX9_measures_109 (by decide) ?_
            refine g_iadd cx dX9_measures_111 ?_
            refine g_iald cx dX9_measures_112 1 ((17 + (9 * i)) + 7) rfl (rf_add (rf_add (nl 17) (rf_mul (nl 9) rfl)) (nl 7)) (by omega) (by first | decide | omega) ?_
            refine g_top (y := ((mMe e f nw i).1) ((17 + (9 * i)) + 7)) (rfl) ?_
            refine g_iast (ws' := wMo V ad (upd ((mMe e f nw i).1) ((17 + (9 * i)) + 8) (((mMe e f nw i).1) ((17 + (9 * i)) + 7))) rw (mNo nw ps s) im kp tx sw sv da co pl me fa ao al (nI (hsz s)) (nI z) ax ta ts tv (nI k) il) cx dX9_measures_113 1 ((17 + (9 * i)) + 8) rfl (rf_add (rf_add (nl 17) (rf_mul (nl 9) rfl)) (nl 8)) (by omega) (by first | decide | omega) rfl ?_
            refine g_iinc (x := (mMe e f nw i).2) (v := ((mMe e f nw i).2) + 1) (lv' := [(0, .ref (ad 0)), (1, .int (nw 16)), (2, .int (nI e - 1)), (3, .int (nI f)), (4, .int (((mMe e f nw i).2) + 1)), (5, .int (nI i))]) cx dX9_measures_114 rfl (by decide) rfl rfl ?_
            refine g_iinc (x := nI i) (v := nI (i + 1)) (lv' := [(0, .ref (ad 0)), (1, .int (nw 16)), (2, .int (nI e - 1)), (3, .int (nI f)), (4, .int (((mMe e f nw i).2) + 1)), (5, .int (nI (i + 1)))]) cx dX9_measures_117 rfl (by decide) (nI_add _ _) rfl ?_
            refine g_goto cx 59 dX9_measures_120 (by decide) ?_
            rw [show mMe e f nw (i + 1) = if i < e ∨ f ≤ i then (upd (mMe e f nw i).1 (17 + 9 * i + 8) ((mMe e f nw i).1 (17 + 9 * i + 7)), (mMe e f nw i).2 + 1) else mMe e f nw i from rfl, if_pos (Or.inr (by omega))] at ihi
            exact ihi
      · skip
        have hnX : (mMe e f nw n).1 0 = nI n := (mMe_0 n).trans hn
        refine g_iload (v := nI n) cx dX9_measures_59 rfl ?_
        refine g_aload_n (v := ad 0) cx dX9_measures_61 rfl ?_
        refine g_get (v := .ref (ad 1)) cx fk_X9_7 dX9_measures_62 0 rfl rfl ?_
        refine g_iconst (v := 0) cx dX9_measures_65 (by decide) ?_
        refine g_iald cx dX9_measures_66 1 0 rfl (nl 0) (by omega) (by first | decide | omega) ?_
        refine g_top (y := ((mMe e f nw n).1) 0) (rfl) ?_
        refine g_icmp_ge cx 123 dX9_measures_67 (by decide) (fun hw14 => ?_) (fun hw14 => absurd (rf_geMP rfl hnX (by omega) (by omega) (by omega)) hw14)
        refine g_iload (v := (mMe e f nw n).2) cx dX9_measures_123 rfl ?_
        exact hret _ _ _ _ dX9_measures_125 (rfl) ⟨rfl, rfl⟩
  · skip
    refine g_iconst (v := (-1)) cx dX9_measures_16 (by decide) ?_
    refine g_goto cx 25 dX9_measures_17 (by decide) ?_
    refine g_top (y := nI (mL nw (nw 16) n) - 1) (by rw [mL, if_pos hw1]; decide) ?_
    refine g_istore_n (lv' := [(0, .ref (ad 0)), (1, .int (nw 16)), (2, .int (nI (mL nw (nw 16) n) - 1))]) cx dX9_measures_25 (by decide) rfl ?_
    refine g_aload_n (v := ad 0) cx dX9_measures_26 rfl ?_
    refine g_iload_n (v := nw 16) cx dX9_measures_27 rfl ?_
    refine w_calli (r0 := nI (mB nw (nw 16) n)) (ws' := wMo V ad nw rw ps im kp tx sw sv da co pl me fa ao al (nI s) (nI z) ax ta ts tv (nI k) il) (As := [.int (nw 16)]) (rest := []) cx (c_X9_firstOfB V ad nw rw ps im kp tx sw sv da co pl me fa ao al (nI s) (nI z) ax ta ts tv (nI k) il (nw 16) n hn (by omega) hc) ml_X9_138 dX9_measures_28 (q0 := 0) rfl rfl rfl rfl rfl (Nat.le_of_ble_eq_true rfl) ⟨Nat.le_of_ble_eq_true rfl, Nat.le_of_ble_eq_true rfl⟩ ⟨Nat.le_refl _, Nat.le_refl _⟩ ?_
    refine g_istore_n (lv' := [(0, .ref (ad 0)), (1, .int (nw 16)), (2, .int (nI (mL nw (nw 16) n) - 1)), (3, .int (nI (mB nw (nw 16) n)))]) cx dX9_measures_31 (by decide) rfl ?_
    refine g_iload_n (v := nI (mL nw (nw 16) n) - 1) cx dX9_measures_32 rfl ?_
    have hLn : mL nw (nw 16) n ≤ n := by unfold mL; split <;> first | exact Nat.zero_le _ | exact mA_le _ _
    have hBn := mB_le nw (nw 16) n
    by_cases he0 : mL nw (nw 16) n = 0
    · skip
      refine g_if_ge cx 49 dX9_measures_33 (by decide) (fun hw15 => absurd hw15 (rf_pgeN he0)) (fun hw15 => ?_)
      refine g_iload_n (v := nI (mB nw (nw 16) n)) cx dX9_measures_36 rfl ?_
      refine g_aload_n (v := ad 0) cx dX9_measures_37 rfl ?_
      refine g_get (v := .ref (ad 1)) cx fk_X9_7 dX9_measures_38 0 rfl rfl ?_
      refine g_iconst (v := 0) cx dX9_measures_41 (by decide) ?_
      refine g_iald cx dX9_measures_42 1 0 rfl (nl 0) (by omega) (by first | decide | omega) ?_
      refine g_top (y := nw 0) (rfl) ?_
      refine g_icmp_ne cx 49 dX9_measures_43 (by decide) (fun hw16 => ?_) (fun hw16 => absurd hw16 (fun h => h1 ⟨he0, (nI_eq (by omega) (by omega)).mp (h.trans hn)⟩))
      clear h1
      refine g_aload_n (v := ad 0) cx dX9_measures_49 rfl ?_
      refine w_callv (ws' := wMo V ad nw rw (mNo nw ps s) im kp tx sw sv da co pl me fa ao al (nI (hsz s)) (nI z) ax ta ts tv (nI k) il) (As := []) (rest := []) cx (c_X9_note V ad nw rw ps im kp tx sw sv da co pl me fa ao al (nI z) ax ta ts tv (nI k) il s (by omega)) ml_X9_118 dX9_measures_50 (q0 := 0) rfl rfl rfl rfl rfl (Nat.le_of_ble_eq_true rfl) ⟨Nat.le_of_ble_eq_true rfl, Nat.le_of_ble_eq_true rfl⟩ ⟨Nat.le_refl _, Nat.le_refl _⟩ ?_
      generalize mL nw (nw 16) n = e at hret hLn ⊢
      generalize mB nw (nw 16) n = f at hret hBn ⊢
      refine g_iconst (v := 0) cx dX9_measures_53 (by decide) ?_
      refine g_istore (lv' := [(0, .ref (ad 0)), (1, .int (nw 16)), (2, .int (nI e - 1)), (3, .int (nI f)), (4, .int 0)]) cx dX9_measures_54 (by decide) rfl ?_
      refine g_iconst (v := 0) cx dX9_measures_56 (by decide) ?_
      refine g_istore (lv' := [(0, .ref (ad 0)), (1, .int (nw 16)), (2, .int (nI e - 1)), (3, .int (nI f)), (4, .int 0), (5, .int 0)]) cx dX9_measures_57 (by decide) rfl ?_
      refine rf_dn (P := fun i => G V K 6 0 0 (wMo V ad ((mMe e f nw i).1) rw (mNo nw ps s) im kp tx sw sv da co pl me fa ao al (nI (hsz s)) (nI z) ax ta ts tv (nI k) il) 59 [(0, .ref (ad 0)), (1, .int (nw 16)), (2, .int (nI e - 1)), (3, .int (nI f)), (4, .int ((mMe e f nw i).2)), (5, .int (nI i))] []) (n) (fun i hi ihi => ?_) ?_
      · skip
        have hin : i < n := hi
        have hnM : (mMe e f nw i).1 0 = nI n := (mMe_0 i).trans hn
        refine g_iload (v := nI i) cx dX9_measures_59 rfl ?_
        refine g_aload_n (v := ad 0) cx dX9_measures_61 rfl ?_
        refine g_get (v := .ref (ad 1)) cx fk_X9_7 dX9_measures_62 0 rfl rfl ?_
        refine g_iconst (v := 0) cx dX9_measures_65 (by decide) ?_
        refine g_iald cx dX9_measures_66 1 0 rfl (nl 0) (by omega) (by first | decide | omega) ?_
        refine g_top (y := ((mMe e f nw i).1) 0) (rfl) ?_
        refine g_icmp_ge cx 123 dX9_measures_67 (by decide) (fun hw17 => absurd hw17 (rf_geMN rfl hnM (by omega) (by omega) (by omega))) (fun hw17 => ?_)
        refine g_iload (v := nI i) cx dX9_measures_70 rfl ?_
        refine g_iload_n (v := nI e - 1) cx dX9_measures_72 rfl ?_
        by_cases hde : i < e
        · skip
          refine g_icmp_le cx 82 dX9_measures_73 (by decide) (fun hw18 => ?_) (fun hw18 => absurd (Int32.not_lt.mp (rf_predN (by omega) (by omega) hde)) hw18)
          refine g_aload_n (v := ad 0) cx dX9_measures_82 rfl ?_
          refine g_get (v := .ref (ad 1)) cx fk_X9_7 dX9_measures_83 0 rfl rfl ?_
          refine g_bipush (v := 17) cx dX9_measures_86 (by decide) ?_
          refine g_bipush (v := 9) cx dX9_measures_88 (by decide) ?_
          refine g_iload (v := nI i) cx dX9_measures_90 rfl ?_
          refine g_imul cx dX9_measures_92 ?_
          refine g_iadd cx dX9_measures_93 ?_
          refine g_bipush (v := 8) cx dX9_measures_94 (by decide) ?_
          refine g_iadd cx dX9_measures_96 ?_
          refine g_aload_n (v := ad 0) cx dX9_measures_97 rfl ?_
          refine g_get (v := .ref (ad 1)) cx fk_X9_7 dX9_measures_98 0 rfl rfl ?_
          refine g_bipush (v := 17) cx dX9_measures_101 (by decide) ?_
          refine g_bipush (v := 9) cx dX9_measures_103 (by decide) ?_
          refine g_iload (v := nI i) cx dX9_measures_105 rfl ?_
          refine g_imul cx dX9_measures_107 ?_
          refine g_iadd cx dX9_measures_108 ?_
          refine g_bipush (v := 7) cx dX9_measures_109 (by decide) ?_
          refine g_iadd cx dX9_measures_111 ?_
          refine g_iald cx dX9_measures_112 1 ((17 + (9 * i)) + 7) rfl (rf_add (rf_add (nl 17) (rf_mul (nl 9) rfl)) (nl 7)) (by omega) (by first | decide | omega) ?_
          refine g_top (y := ((mMe e f nw i).1) ((17 + (9 * i)) + 7)) (rfl) ?_
          refine g_iast (ws' := wMo V ad (upd ((mMe e f nw i).1) ((17 + (9 * i)) + 8) (((mMe e f nw i).1) ((17 + (9 * i)) + 7))) rw (mNo nw ps s) im kp tx sw sv da co pl me fa ao al (nI (hsz s)) (nI z) ax ta ts tv (nI k) il) cx dX9_measures_113 1 ((17 + (9 * i)) + 8) rfl (rf_add (rf_add (nl 17) (rf_mul (nl 9) rfl)) (nl 8)) (by omega) (by first | decide | omega) rfl ?_
          refine g_iinc (x := (mMe e f nw i).2) (v := ((mMe e f nw i).2) + 1) (lv' := [(0, .ref (ad 0)), (1, .int (nw 16)), (2, .int (nI e - 1)), (3, .int (nI f)), (4, .int (((mMe e f nw i).2) + 1)), (5, .int (nI i))]) cx dX9_measures_114 rfl (by decide) rfl rfl ?_
          refine g_iinc (x := nI i) (v := nI (i + 1)) (lv' := [(0, .ref (ad 0)), (1, .int (nw 16)), (2, .int (nI e - 1)), (3, .int (nI f)), (4, .int (((mMe e f nw i).2) + 1)), (5, .int (nI (i + 1)))]) cx dX9_measures_117 rfl (by decide) (nI_add _ _) rfl ?_
          refine g_goto cx 59 dX9_measures_120 (by decide) ?_
          rw [show mMe e f nw (i + 1) = if i < e ∨ f ≤ i then (upd (mMe e f nw i).1 (17 + 9 * i + 8) ((mMe e f nw i).1 (17 + 9 * i + 7)), (mMe e f nw i).2 + 1) else mMe e f nw i from rfl, if_pos (Or.inl hde)] at ihi
          exact ihi
        · skip
          refine g_icmp_le cx 82 dX9_measures_73 (by decide) (fun hw19 => absurd hw19 (Int32.not_le.mpr (rf_predP (by omega) (by omega) (by omega)))) (fun hw19 => ?_)
          refine g_iload (v := nI i) cx dX9_measures_76 rfl ?_
          refine g_iload_n (v := nI f) cx dX9_measures_78 rfl ?_
          refine g_icmp_lt cx 117 dX9_measures_79 (by decide) (fun hw20 => ?_) (fun hw20 => ?_)
          · have hw20 := rf_ltP rfl rfl (by omega) (by omega) hw20
            refine g_iinc (x := nI i) (v := nI (i + 1)) (lv' := [(0, .ref (ad 0)), (1, .int (nw 16)), (2, .int (nI e - 1)), (3, .int (nI f)), (4, .int ((mMe e f nw i).2)), (5, .int (nI (i + 1)))]) cx dX9_measures_117 rfl (by decide) (nI_add _ _) rfl ?_
            refine g_goto cx 59 dX9_measures_120 (by decide) ?_
            rw [show mMe e f nw (i + 1) = if i < e ∨ f ≤ i then (upd (mMe e f nw i).1 (17 + 9 * i + 8) ((mMe e f nw i).1 (17 + 9 * i + 7)), (mMe e f nw i).2 + 1) else mMe e f nw i from rfl, if_neg (by omega)] at ihi
            exact ihi
          · have hw20 := rf_ltN rfl rfl (by omega) (by omega) hw20
            refine g_aload_n (v := ad 0) cx dX9_measures_82 rfl ?_
            refine g_get (v := .ref (ad 1)) cx fk_X9_7 dX9_measures_83 0 rfl rfl ?_
            refine g_bipush (v := 17) cx dX9_measures_86 (by decide) ?_
            refine g_bipush (v := 9) cx dX9_measures_88 (by decide) ?_
            refine g_iload (v := nI i) cx dX9_measures_90 rfl ?_
            refine g_imul cx dX9_measures_92 ?_
            refine g_iadd cx dX9_measures_93 ?_
            refine g_bipush (v := 8) cx dX9_measures_94 (by decide) ?_
            refine g_iadd cx dX9_measures_96 ?_
            refine g_aload_n (v := ad 0) cx dX9_measures_97 rfl ?_
            refine g_get (v := .ref (ad 1)) cx fk_X9_7 dX9_measures_98 0 rfl rfl ?_
            refine g_bipush (v := 17) cx dX9_measures_101 (by decide) ?_
            refine g_bipush (v := 9) cx dX9_measures_103 (by decide) ?_
            refine g_iload (v := nI i) cx dX9_measures_105 rfl ?_
            refine g_imul cx dX9_measures_107 ?_
            refine g_iadd cx dX9_measures_108 ?_
            refine g_bipush (v := 7) cx dX9_measures_109 (by decide) ?_
            refine g_iadd cx dX9_measures_111 ?_
            refine g_iald cx dX9_measures_112 1 ((17 + (9 * i)) + 7) rfl (rf_add (rf_add (nl 17) (rf_mul (nl 9) rfl)) (nl 7)) (by omega) (by first | decide | omega) ?_
            refine g_top (y := ((mMe e f nw i).1) ((17 + (9 * i)) + 7)) (rfl) ?_
            refine g_iast (ws' := wMo V ad (upd ((mMe e f nw i).1) ((17 + (9 * i)) + 8) (((mMe e f nw i).1) ((17 + (9 * i)) + 7))) rw (mNo nw ps s) im kp tx sw sv da co pl me fa ao al (nI (hsz s)) (nI z) ax ta ts tv (nI k) il) cx dX9_measures_113 1 ((17 + (9 * i)) + 8) rfl (rf_add (rf_add (nl 17) (rf_mul (nl 9) rfl)) (nl 8)) (by omega) (by first | decide | omega) rfl ?_
            refine g_iinc (x := (mMe e f nw i).2) (v := ((mMe e f nw i).2) + 1) (lv' := [(0, .ref (ad 0)), (1, .int (nw 16)), (2, .int (nI e - 1)), (3, .int (nI f)), (4, .int (((mMe e f nw i).2) + 1)), (5, .int (nI i))]) cx dX9_measures_114 rfl (by decide) rfl rfl ?_
            refine g_iinc (x := nI i) (v := nI (i + 1)) (lv' := [(0, .ref (ad 0)), (1, .int (nw 16)), (2, .int (nI e - 1)), (3, .int (nI f)), (4, .int (((mMe e f nw i).2) + 1)), (5, .int (nI (i + 1)))]) cx dX9_measures_117 rfl (by decide) (nI_add _ _) rfl ?_
            refine g_goto cx 59 dX9_measures_120 (by decide) ?_
            rw [show mMe e f nw (i + 1) = if i < e ∨ f ≤ i then (upd (mMe e f nw i).1 (17 + 9 * i + 8) ((mMe e f nw i).1 (17 + 9 * i + 7)), (mMe e f nw i).2 + 1) else mMe e f nw i from rfl, if_pos (Or.inr (by omega))] at ihi
            exact ihi
      · skip
        have hnX : (mMe e f nw n).1 0 = nI n := (mMe_0 n).trans hn
        refine g_iload (v := nI n) cx dX9_measures_59 rfl ?_
        refine g_aload_n (v := ad 0) cx dX9_measures_61 rfl ?_
        refine g_get (v := .ref (ad 1)) cx fk_X9_7 dX9_measures_62 0 rfl rfl ?_
        refine g_iconst (v := 0) cx dX9_measures_65 (by decide) ?_
        refine g_iald cx dX9_measures_66 1 0 rfl (nl 0) (by omega) (by first | decide | omega) ?_
        refine g_top (y := ((mMe e f nw n).1) 0) (rfl) ?_
        refine g_icmp_ge cx 123 dX9_measures_67 (by decide) (fun hw21 => ?_) (fun hw21 => absurd (rf_geMP rfl hnX (by omega) (by omega) (by omega)) hw21)
        refine g_iload (v := (mMe e f nw n).2) cx dX9_measures_123 rfl ?_
        exact hret _ _ _ _ dX9_measures_125 (rfl) ⟨rfl, rfl⟩
    · skip
      refine g_if_ge cx 49 dX9_measures_33 (by decide) (fun hw22 => ?_) (fun hw22 => absurd (rf_pgeP he0 (by omega)) hw22)
      clear h1
      refine g_aload_n (v := ad 0) cx dX9_measures_49 rfl ?_
      refine w_callv (ws' := wMo V ad nw rw (mNo nw ps s) im kp tx sw sv da co pl me fa ao al (nI (hsz s)) (nI z) ax ta ts tv (nI k) il) (As := []) (rest := []) cx (c_X9_note V ad nw rw ps im kp tx sw sv da co pl me fa ao al (nI z) ax ta ts tv (nI k) il s (by omega)) ml_X9_118 dX9_measures_50 (q0 := 0) rfl rfl rfl rfl rfl (Nat.le_of_ble_eq_true rfl) ⟨Nat.le_of_ble_eq_true rfl, Nat.le_of_ble_eq_true rfl⟩ ⟨Nat.le_refl _, Nat.le_refl _⟩ ?_
      generalize mL nw (nw 16) n = e at hret hLn ⊢
      generalize mB nw (nw 16) n = f at hret hBn ⊢
      refine g_iconst (v := 0) cx dX9_measures_53 (by decide) ?_
      refine g_istore (lv' := [(0, .ref (ad 0)), (1, .int (nw 16)), (2, .int (nI e - 1)), (3, .int (nI f)), (4, .int 0)]) cx dX9_measures_54 (by decide) rfl ?_
      refine g_iconst (v := 0) cx dX9_measures_56 (by decide) ?_
      refine g_istore (lv' := [(0, .ref (ad 0)), (1, .int (nw 16)), (2, .int (nI e - 1)), (3, .int (nI f)), (4, .int 0), (5, .int 0)]) cx dX9_measures_57 (by decide) rfl ?_
      refine rf_dn (P := fun i => G V K 6 0 0 (wMo V ad ((mMe e f nw i).1) rw (mNo nw ps s) im kp tx sw sv da co pl me fa ao al (nI (hsz s)) (nI z) ax ta ts tv (nI k) il) 59 [(0, .ref (ad 0)), (1, .int (nw 16)), (2, .int (nI e - 1)), (3, .int (nI f)), (4, .int ((mMe e f nw i).2)), (5, .int (nI i))] []) (n) (fun i hi ihi => ?_) ?_
      · skip
        have hin : i < n := hi
        have hnM : (mMe e f nw i).1 0 = nI n := (mMe_0 i).trans hn
        refine g_iload (v := nI i) cx dX9_measures_59 rfl ?_
        refine g_aload_n (v := ad 0) cx dX9_measures_61 rfl ?_
        refine g_get (v := .ref (ad 1)) cx fk_X9_7 dX9_measures_62 0 rfl rfl ?_
        refine g_iconst (v := 0) cx dX9_measures_65 (by decide) ?_
        refine g_iald cx dX9_measures_66 1 0 rfl (nl 0) (by omega) (by first | decide | omega) ?_
        refine g_top (y := ((mMe e f nw i).1) 0) (rfl) ?_
        refine g_icmp_ge cx 123 dX9_measures_67 (by decide) (fun hw23 => absurd hw23 (rf_geMN rfl hnM (by omega) (by omega) (by omega))) (fun hw23 => ?_)
        refine g_iload (v := nI i) cx dX9_measures_70 rfl ?_
        refine g_iload_n (v := nI e - 1) cx dX9_measures_72 rfl ?_
        by_cases hde : i < e
        · skip
          refine g_icmp_le cx 82 dX9_measures_73 (by decide) (fun hw24 => ?_) (fun hw24 => absurd (Int32.not_lt.mp (rf_predN (by omega) (by omega) hde)) hw24)
          refine g_aload_n (v := ad 0) cx dX9_measures_82 rfl ?_
          refine g_get (v := .ref (ad 1)) cx fk_X9_7 dX9_measures_83 0 rfl rfl ?_
          refine g_bipush (v := 17) cx dX9_measures_86 (by decide) ?_
          refine g_bipush (v := 9) cx dX9_measures_88 (by decide) ?_
          refine g_iload (v := nI i) cx dX9_measures_90 rfl ?_
          refine g_imul cx dX9_measures_92 ?_
          refine g_iadd cx dX9_measures_93 ?_
          refine g_bipush (v := 8) cx dX9_measures_94 (by decide) ?_
          refine g_iadd cx dX9_measures_96 ?_
          refine g_aload_n (v := ad 0) cx dX9_measures_97 rfl ?_
          refine g_get (v := .ref (ad 1)) cx fk_X9_7 dX9_measures_98 0 rfl rfl ?_
          refine g_bipush (v := 17) cx dX9_measures_101 (by decide) ?_
          refine g_bipush (v := 9) cx dX9_measures_103 (by decide) ?_
          refine g_iload (v := nI i) cx dX9_measures_105 rfl ?_
          refine g_imul cx dX9_measures_107 ?_
          refine g_iadd cx dX9_measures_108 ?_
          refine g_bipush (v := 7) cx dX9_measures_109 (by decide) ?_
          refine g_iadd cx dX9_measures_111 ?_
          refine g_iald cx dX9_measures_112 1 ((17 + (9 * i)) + 7) rfl (rf_add (rf_add (nl 17) (rf_mul (nl 9) rfl)) (nl 7)) (by omega) (by first | decide | omega) ?_
          refine g_top (y := ((mMe e f nw i).1) ((17 + (9 * i)) + 7)) (rfl) ?_
          refine g_iast (ws' := wMo V ad (upd ((mMe e f nw i).1) ((17 + (9 * i)) + 8) (((mMe e f nw i).1) ((17 + (9 * i)) + 7))) rw (mNo nw ps s) im kp tx sw sv da co pl me fa ao al (nI (hsz s)) (nI z) ax ta ts tv (nI k) il) cx dX9_measures_113 1 ((17 + (9 * i)) + 8) rfl (rf_add (rf_add (nl 17) (rf_mul (nl 9) rfl)) (nl 8)) (by omega) (by first | decide | omega) rfl ?_
          refine g_iinc (x := (mMe e f nw i).2) (v := ((mMe e f nw i).2) + 1) (lv' := [(0, .ref (ad 0)), (1, .int (nw 16)), (2, .int (nI e - 1)), (3, .int (nI f)), (4, .int (((mMe e f nw i).2) + 1)), (5, .int (nI i))]) cx dX9_measures_114 rfl (by decide) rfl rfl ?_
          refine g_iinc (x := nI i) (v := nI (i + 1)) (lv' := [(0, .ref (ad 0)), (1, .int (nw 16)), (2, .int (nI e - 1)), (3, .int (nI f)), (4, .int (((mMe e f nw i).2) + 1)), (5, .int (nI (i + 1)))]) cx dX9_measures_117 rfl (by decide) (nI_add _ _) rfl ?_
          refine g_goto cx 59 dX9_measures_120 (by decide) ?_
          rw [show mMe e f nw (i + 1) = if i < e ∨ f ≤ i then (upd (mMe e f nw i).1 (17 + 9 * i + 8) ((mMe e f nw i).1 (17 + 9 * i + 7)), (mMe e f nw i).2 + 1) else mMe e f nw i from rfl, if_pos (Or.inl hde)] at ihi
          exact ihi
        · skip
          refine g_icmp_le cx 82 dX9_measures_73 (by decide) (fun hw25 => absurd hw25 (Int32.not_le.mpr (rf_predP (by omega) (by omega) (by omega)))) (fun hw25 => ?_)
          refine g_iload (v := nI i) cx dX9_measures_76 rfl ?_
          refine g_iload_n (v := nI f) cx dX9_measures_78 rfl ?_
          refine g_icmp_lt cx 117 dX9_measures_79 (by decide) (fun hw26 => ?_) (fun hw26 => ?_)
          · have hw26 := rf_ltP rfl rfl (by omega) (by omega) hw26
            refine g_iinc (x := nI i) (v := nI (i + 1)) (lv' := [(0, .ref (ad 0)), (1, .int (nw 16)), (2, .int (nI e - 1)), (3, .int (nI f)), (4, .int ((mMe e f nw i).2)), (5, .int (nI (i + 1)))]) cx dX9_measures_117 rfl (by decide) (nI_add _ _) rfl ?_
            refine g_goto cx 59 dX9_measures_120 (by decide) ?_
            rw [show mMe e f nw (i + 1) = if i < e ∨ f ≤ i then (upd (mMe e f nw i).1 (17 + 9 * i + 8) ((mMe e f nw i).1 (17 + 9 * i + 7)), (mMe e f nw i).2 + 1) else mMe e f nw i from rfl, if_neg (by omega)] at ihi
            exact ihi
          · have hw26 := rf_ltN rfl rfl (by omega) (by omega) hw26
            refine g_aload_n (v := ad 0) cx dX9_measures_82 rfl ?_
            refine g_get (v := .ref (ad 1)) cx fk_X9_7 dX9_measures_83 0 rfl rfl ?_
            refine g_bipush (v := 17) cx dX9_measures_86 (by decide) ?_
            refine g_bipush (v := 9) cx dX9_measures_88 (by decide) ?_
            refine g_iload (v := nI i) cx dX9_measures_90 rfl ?_
            refine g_imul cx dX9_measures_92 ?_
            refine g_iadd cx dX9_measures_93 ?_
            refine g_bipush (v := 8) cx dX9_measures_94 (by decide) ?_
            refine g_iadd cx dX9_measures_96 ?_
            refine g_aload_n (v := ad 0) cx dX9_measures_97 rfl ?_
            refine g_get (v := .ref (ad 1)) cx fk_X9_7 dX9_measures_98 0 rfl rfl ?_
            refine g_bipush (v := 17) cx dX9_measures_101 (by decide) ?_
            refine g_bipush (v := 9) cx dX9_measures_103 (by decide) ?_
            refine g_iload (v := nI i) cx dX9_measures_105 rfl ?_
            refine g_imul cx dX9_measures_107 ?_
            refine g_iadd cx dX9_measures_108 ?_
            refine g_bipush (v := 7) cx dX9_measures_109 (by decide) ?_
            refine g_iadd cx dX9_measures_111 ?_
            refine g_iald cx dX9_measures_112 1 ((17 + (9 * i)) + 7) rfl (rf_add (rf_add (nl 17) (rf_mul (nl 9) rfl)) (nl 7)) (by omega) (by first | decide | omega) ?_
            refine g_top (y := ((mMe e f nw i).1) ((17 + (9 * i)) + 7)) (rfl) ?_
            refine g_iast (ws' := wMo V ad (upd ((mMe e f nw i).1) ((17 + (9 * i)) + 8) (((mMe e f nw i).1) ((17 + (9 * i)) + 7))) rw (mNo nw ps s) im kp tx sw sv da co pl me fa ao al (nI (hsz s)) (nI z) ax ta ts tv (nI k) il) cx dX9_measures_113 1 ((17 + (9 * i)) + 8) rfl (rf_add (rf_add (nl 17) (rf_mul (nl 9) rfl)) (nl 8)) (by omega) (by first | decide | omega) rfl ?_
            refine g_iinc (x := (mMe e f nw i).2) (v := ((mMe e f nw i).2) + 1) (lv' := [(0, .ref (ad 0)), (1, .int (nw 16)), (2, .int (nI e - 1)), (3, .int (nI f)), (4, .int (((mMe e f nw i).2) + 1)), (5, .int (nI i))]) cx dX9_measures_114 rfl (by decide) rfl rfl ?_
            refine g_iinc (x := nI i) (v := nI (i + 1)) (lv' := [(0, .ref (ad 0)), (1, .int (nw 16)), (2, .int (nI e - 1)), (3, .int (nI f)), (4, .int (((mMe e f nw i).2) + 1)), (5, .int (nI (i + 1)))]) cx dX9_measures_117 rfl (by decide) (nI_add _ _) rfl ?_
            refine g_goto cx 59 dX9_measures_120 (by decide) ?_
            rw [show mMe e f nw (i + 1) = if i < e ∨ f ≤ i then (upd (mMe e f nw i).1 (17 + 9 * i + 8) ((mMe e f nw i).1 (17 + 9 * i + 7)), (mMe e f nw i).2 + 1) else mMe e f nw i from rfl, if_pos (Or.inr (by omega))] at ihi
            exact ihi
      · skip
        have hnX : (mMe e f nw n).1 0 = nI n := (mMe_0 n).trans hn
        refine g_iload (v := nI n) cx dX9_measures_59 rfl ?_
        refine g_aload_n (v := ad 0) cx dX9_measures_61 rfl ?_
        refine g_get (v := .ref (ad 1)) cx fk_X9_7 dX9_measures_62 0 rfl rfl ?_
        refine g_iconst (v := 0) cx dX9_measures_65 (by decide) ?_
        refine g_iald cx dX9_measures_66 1 0 rfl (nl 0) (by omega) (by first | decide | omega) ?_
        refine g_top (y := ((mMe e f nw n).1) 0) (rfl) ?_
        refine g_icmp_ge cx 123 dX9_measures_67 (by decide) (fun hw27 => ?_) (fun hw27 => absurd (rf_geMP rfl hnX (by omega) (by omega) (by omega)) hw27)
        refine g_iload (v := (mMe e f nw n).2) cx dX9_measures_123 rfl ?_
        exact hret _ _ _ _ dX9_measures_125 (rfl) ⟨rfl, rfl⟩
