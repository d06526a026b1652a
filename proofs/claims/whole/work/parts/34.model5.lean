def mA (c : Int32) (n : Nat) : Nat := ff (fun k => decide (hasB c k)) n
def mJ (c : Int32) (n : Nat) : Nat := ff (fun j => decide (hasB c (n - 1 - j))) n
def mB (nw : Nat → Int32) (c : Int32) (n : Nat) : Nat := if nw 1 = 0 then n else if c = 0 then n else if hasB c n then n else n - 1 - mJ c n
/-- where bits are looked for, one is found -/
def okc (nw : Nat → Int32) (c : Int32) (n : Nat) : Prop := ¬ nw 1 = 0 → ¬ c = 0 → ¬ hasB c n → mJ c n < n
def mWay (nw : Nat → Int32) (a l : Nat) : Int32 := fl (fun i s => s + nw (9 + (a + i))) l 0
def mTime (nw : Nat → Int32) (c : Int32) (n q : Nat) : Int32 :=
  if nw 1 = 1 ∧ c = 0 then mWay nw 0 (n + 1) + nw 0
  else if q = 0 then (if mA c n = 0 then -9 else 2 * mWay nw 0 (mA c n) + 2 * (nI (mA c n) - 1) + 1)
  else (if mB nw c n = n then -9 else 2 * mWay nw (mB nw c n + 1) (n - mB nw c n) + 2 * (nw 0 - 1 - nI (mB nw c n)) + 1)
theorem mA_le (c : Int32) (n : Nat) : mA c n ≤ n := ff_le _ _
theorem mB_le (nw : Nat → Int32) (c : Int32) (n : Nat) : mB nw c n ≤ n := by
  unfold mB; split; exact Nat.le_refl n; split; exact Nat.le_refl n; split <;> omega
theorem nI_up (i : Nat) : nI i - 1 + 1 = nI i := by rw [Int32.sub_add_cancel]
theorem nI_dn {a : Nat} (h : 1 ≤ a) : nI a + (-1) = nI (a - 1) := by
  obtain ⟨b, rfl⟩ : ∃ b, a = b + 1 := ⟨a - 1, by omega⟩
  rw [Nat.add_sub_cancel, ← nI_m1 b, Int32.sub_eq_add_neg]
theorem rf_pgeP {e : Nat} (h : ¬ e = 0) (h2 : e < 1073741824) : 0 ≤ nI e - 1 := Int32.not_lt.mp (rf_predN (a := 0) (by decide) h2 (by omega))
theorem rf_pgeN {e : Nat} (h : e = 0) : ¬ 0 ≤ nI e - 1 := by rw [h]; decide
def rm_X9_links : Room := { frames := 0, cells := 0, slots := 0, locals := 0 }
set_option maxRecDepth 100000 in
set_option maxHeartbeats 4000000 in
theorem c_X9_links (V : VT) (ad : Nat → Nat) (nw rw ps im kp tx sw sv da co pl me fa ao al : Nat → Int32) (de le ax ta ts tv se il : Int32) : CI V yX9_links cX9_links 1 .int rm_X9_links [.ref (ad 0)] (wMo V ad nw rw ps im kp tx sw sv da co pl me fa ao al de le ax ta ts tv se il) (fun r_ w_ => r_ = nw 0 + nw 1 ∧ w_ = wMo V ad nw rw ps im kp tx sw sv da co pl me fa ao al de le ax ta ts tv se il) := by
  refine CI_intro (by decide) (Nat.le_of_ble_eq_true rfl) (fun K cx hret => ?_)
  show G V K 1 0 0 (wMo V ad nw rw ps im kp tx sw sv da co pl me fa ao al de le ax ta ts tv se il) 0 [(0, .ref (ad 0))] []
  refine g_aload_n (v := ad 0) cx dX9_links_0 rfl ?_
  refine g_get (v := .ref (ad 1)) cx fk_X9_7 dX9_links_1 0 rfl rfl ?_
  refine g_iconst (v := 0) cx dX9_links_4 (by decide) ?_
  refine g_iald cx dX9_links_5 1 0 rfl (nl 0) (by omega) (by first | decide | omega) ?_
  refine g_top (y := nw 0) (rfl) ?_
  refine g_aload_n (v := ad 0) cx dX9_links_6 rfl ?_
  refine g_get (v := .ref (ad 1)) cx fk_X9_7 dX9_links_7 0 rfl rfl ?_
  refine g_iconst (v := 1) cx dX9_links_10 (by decide) ?_
  refine g_iald cx dX9_links_11 1 1 rfl (nl 1) (by omega) (by first | decide | omega) ?_
  refine g_top (y := nw 1) (rfl) ?_
  refine g_iadd cx dX9_links_12 ?_
  exact hret _ _ _ _ dX9_links_13 (rfl) ⟨rfl, rfl⟩
def rm_X9_lastOfA : Room := { frames := 1, cells := 0, slots := 0, locals := 21 }
set_option maxRecDepth 100000 in
set_option maxHeartbeats 4000000 in
theorem c_X9_lastOfA (V : VT) (ad : Nat → Nat) (nw rw ps im kp tx sw sv da co pl me fa ao al : Nat → Int32) (de le ax ta ts tv se il : Int32) (c : Int32) (n : Nat) (hn : nw 0 = nI n) (hn6 : n ≤ 6) : CI V yX9_lastOfA cX9_lastOfA 3 .int rm_X9_lastOfA [.ref (ad 0), .int c] (wMo V ad nw rw ps im kp tx sw sv da co pl me fa ao al de le ax ta ts tv se il) (fun r_ w_ => r_ = nI (mA c n) - 1 ∧ w_ = wMo V ad nw rw ps im kp tx sw sv da co pl me fa ao al de le ax ta ts tv se il) := by
  refine CI_intro (by decide) (Nat.le_of_ble_eq_true rfl) (fun K cx hret => ?_)
  show G V K 3 0 0 (wMo V ad nw rw ps im kp tx sw sv da co pl me fa ao al de le ax ta ts tv se il) 0 [(0, .ref (ad 0)), (1, .int c)] []
  refine g_iconst (v := (-1)) cx dX9_lastOfA_0 (by decide) ?_
  refine g_top (y := nI 0 - 1) (by decide) ?_
  refine g_istore_n (lv' := [(0, .ref (ad 0)), (1, .int c), (2, .int (nI 0 - 1))]) cx dX9_lastOfA_1 (by decide) rfl ?_
  refine rf_dn (P := fun i1 => G V K 3 0 0 (wMo V ad nw rw ps im kp tx sw sv da co pl me fa ao al de le ax ta ts tv se il) 2 [(0, .ref (ad 0)), (1, .int c), (2, .int (nI i1 - 1))] []) (mA c n) (fun i1 hi1 ihi1 => ?_) ?_
  · skip
    have hle := mA_le c n
    have hno : ¬ hasB c i1 := of_decide_eq_false (ff_no (fun k => decide (hasB c k)) n i1 hi1)
    refine g_iload_n (v := nI i1 - 1) cx dX9_lastOfA_2 rfl ?_
    refine g_iconst (v := 1) cx dX9_lastOfA_3 (by decide) ?_
    refine g_iadd cx dX9_lastOfA_4 ?_
    refine g_top (y := nI i1) (nI_up _) ?_
    refine g_aload_n (v := ad 0) cx dX9_lastOfA_5 rfl ?_
    refine g_get (v := .ref (ad 1)) cx fk_X9_7 dX9_lastOfA_6 0 rfl rfl ?_
    refine g_iconst (v := 0) cx dX9_lastOfA_9 (by decide) ?_
    refine g_iald cx dX9_lastOfA_10 1 0 rfl (nl 0) (by omega) (by first | decide | omega) ?_
    refine g_top (y := nw 0) (rfl) ?_
    refine g_icmp_ge cx 30 dX9_lastOfA_11 (by decide) (fun hw1 => absurd hw1 (rf_geMN rfl hn (by omega) (by omega) (by omega))) (fun hw1 => ?_)
    refine g_iload_n (v := c) cx dX9_lastOfA_14 rfl ?_
    refine g_iload_n (v := nI i1 - 1) cx dX9_lastOfA_15 rfl ?_
    refine g_iconst (v := 1) cx dX9_lastOfA_16 (by decide) ?_
    refine g_iadd cx dX9_lastOfA_17 ?_
    refine g_top (y := nI i1) (nI_up _) ?_
    refine k_callsi (r0 := bI (hasB c i1)) (ws' := wMo V ad nw rw ps im kp tx sw sv da co pl me fa ao al de le ax ta ts tv se il) (As := [.int c, .int (nI i1)]) (rest := []) cx (c_X9_has V c (nI i1) i1 rfl) ml_X9_124 dX9_lastOfA_18 [] rfl rfl [] rfl rfl rfl rfl rfl (Nat.le_of_ble_eq_true rfl) ⟨Nat.le_of_ble_eq_true rfl, Nat.le_of_ble_eq_true rfl⟩ ⟨Nat.le_refl _, Nat.le_refl _⟩ ?_
    refine g_if_ne_b cx 30 dX9_lastOfA_21 (by decide) (fun hw2 => absurd hw2 (hno)) (fun hw2 => ?_)
    refine g_iinc (x := nI i1 - 1) (v := nI (i1 + 1) - 1) (lv' := [(0, .ref (ad 0)), (1, .int c), (2, .int (nI (i1 + 1) - 1))]) cx dX9_lastOfA_24 rfl (by decide) ((nI_up _).trans (nI_m1 _).symm) rfl ?_
    refine g_goto cx 2 dX9_lastOfA_27 (by decide) ?_
    exact ihi1
  · skip
    rcases Nat.lt_or_ge (mA c n) n with he | he
    · have hy : hasB c (mA c n) := of_decide_eq_true (ff_yes (fun k => decide (hasB c k)) n he)
      refine g_iload_n (v := nI (mA c n) - 1) cx dX9_lastOfA_2 rfl ?_
      refine g_iconst (v := 1) cx dX9_lastOfA_3 (by decide) ?_
      refine g_iadd cx dX9_lastOfA_4 ?_
      refine g_top (y := nI (mA c n)) (nI_up _) ?_
      refine g_aload_n (v := ad 0) cx dX9_lastOfA_5 rfl ?_
      refine g_get (v := .ref (ad 1)) cx fk_X9_7 dX9_lastOfA_6 0 rfl rfl ?_
      refine g_iconst (v := 0) cx dX9_lastOfA_9 (by decide) ?_
      refine g_iald cx dX9_lastOfA_10 1 0 rfl (nl 0) (by omega) (by first | decide | omega) ?_
      refine g_top (y := nw 0) (rfl) ?_
      refine g_icmp_ge cx 30 dX9_lastOfA_11 (by decide) (fun hw3 => absurd hw3 (rf_geMN rfl hn (by omega) (by omega) (by omega))) (fun hw3 => ?_)
      refine g_iload_n (v := c) cx dX9_lastOfA_14 rfl ?_
      refine g_iload_n (v := nI (mA c n) - 1) cx dX9_lastOfA_15 rfl ?_
      refine g_iconst (v := 1) cx dX9_lastOfA_16 (by decide) ?_
      refine g_iadd cx dX9_lastOfA_17 ?_
      refine g_top (y := nI (mA c n)) (nI_up _) ?_
      refine k_callsi (r0 := bI (hasB c (mA c n))) (ws' := wMo V ad nw rw ps im kp tx sw sv da co pl me fa ao al de le ax ta ts tv se il) (As := [.int c, .int (nI (mA c n))]) (rest := []) cx (c_X9_has V c (nI (mA c n)) (mA c n) rfl) ml_X9_124 dX9_lastOfA_18 [] rfl rfl [] rfl rfl rfl rfl rfl (Nat.le_of_ble_eq_true rfl) ⟨Nat.le_of_ble_eq_true rfl, Nat.le_of_ble_eq_true rfl⟩ ⟨Nat.le_refl _, Nat.le_refl _⟩ ?_
      refine g_if_ne_b cx 30 dX9_lastOfA_21 (by decide) (fun hw4 => ?_) (fun hw4 => absurd (hy) hw4)
      refine g_iload_n (v := nI (mA c n) - 1) cx dX9_lastOfA_30 rfl ?_
      exact hret _ _ _ _ dX9_lastOfA_31 (rfl) ⟨rfl, rfl⟩
    · have he2 : mA c n = n := Nat.le_antisymm (mA_le c n) he
      refine g_iload_n (v := nI (mA c n) - 1) cx dX9_lastOfA_2 rfl ?_
      refine g_iconst (v := 1) cx dX9_lastOfA_3 (by decide) ?_
      refine g_iadd cx dX9_lastOfA_4 ?_
      refine g_top (y := nI (mA c n)) (nI_up _) ?_
      refine g_aload_n (v := ad 0) cx dX9_lastOfA_5 rfl ?_
      refine g_get (v := .ref (ad 1)) cx fk_X9_7 dX9_lastOfA_6 0 rfl rfl ?_
      refine g_iconst (v := 0) cx dX9_lastOfA_9 (by decide) ?_
      refine g_iald cx dX9_lastOfA_10 1 0 rfl (nl 0) (by omega) (by first | decide | omega) ?_
      refine g_top (y := nw 0) (rfl) ?_
      refine g_icmp_ge cx 30 dX9_lastOfA_11 (by decide) (fun hw5 => ?_) (fun hw5 => absurd (rf_geMP rfl hn (by omega) (by omega) (by omega)) hw5)
      refine g_iload_n (v := nI (mA c n) - 1) cx dX9_lastOfA_30 rfl ?_
      exact hret _ _ _ _ dX9_lastOfA_31 (rfl) ⟨rfl, rfl⟩
def rm_X9_isWhole : Room := { frames := 0, cells := 0, slots := 0, locals := 0 }
set_option maxRecDepth 100000 in
set_option maxHeartbeats 4000000 in
theorem c_X9_isWhole (V : VT) (ad : Nat → Nat) (nw rw ps im kp tx sw sv da co pl me fa ao al : Nat → Int32) (de le ax ta ts tv se il : Int32) (c : Int32) : CI V yX9_isWhole cX9_isWhole 2 .boolean rm_X9_isWhole [.ref (ad 0), .int c] (wMo V ad nw rw ps im kp tx sw sv da co pl me fa ao al de le ax ta ts tv se il) (fun r_ w_ => r_ = bI (nw 1 = 1 ∧ c = 0) ∧ w_ = wMo V ad nw rw ps im kp tx sw sv da co pl me fa ao al de le ax ta ts tv se il) := by
  refine CI_intro (by decide) (Nat.le_of_ble_eq_true rfl) (fun K cx hret => ?_)
  show G V K 2 0 0 (wMo V ad nw rw ps im kp tx sw sv da co pl me fa ao al de le ax ta ts tv se il) 0 [(0, .ref (ad 0)), (1, .int c)] []
  refine g_aload_n (v := ad 0) cx dX9_isWhole_0 rfl ?_
  refine g_get (v := .ref (ad 1)) cx fk_X9_7 dX9_isWhole_1 0 rfl rfl ?_
  refine g_iconst (v := 1) cx dX9_isWhole_4 (by decide) ?_
  refine g_iald cx dX9_isWhole_5 1 1 rfl (nl 1) (by omega) (by first | decide | omega) ?_
  refine g_top (y := nw 1) (rfl) ?_
  refine g_iconst (v := 1) cx dX9_isWhole_6 (by decide) ?_
  refine g_icmp_ne cx 18 dX9_isWhole_7 (by decide) (fun hw1 => ?_) (fun hw1 => ?_)
  · skip
    refine g_iconst (v := 0) cx dX9_isWhole_18 (by decide) ?_
    exact hret _ _ _ _ dX9_isWhole_19 (by first | rfl | exact rf_bnar) (⟨by simp only [bI, hw1, not_true_eq_false, not_false_eq_true, and_true, true_and, and_false, false_and, or_true, true_or, or_false, false_or, if_true, if_false], rfl⟩)
  · skip
    refine g_iload_n (v := c) cx dX9_isWhole_10 rfl ?_
    refine g_if_ne cx 18 dX9_isWhole_11 (by decide) (fun hw2 => ?_) (fun hw2 => ?_)
    · skip
      refine g_iconst (v := 0) cx dX9_isWhole_18 (by decide) ?_
      exact hret _ _ _ _ dX9_isWhole_19 (by first | rfl | exact rf_bnar) (⟨by simp only [bI, hw1, hw2, not_true_eq_false, not_false_eq_true, and_true, true_and, and_false, false_and, or_true, true_or, or_false, false_or, if_true, if_false], rfl⟩)
    · skip
      refine g_iconst (v := 1) cx dX9_isWhole_14 (by decide) ?_
      refine g_goto cx 19 dX9_isWhole_15 (by decide) ?_
      exact hret _ _ _ _ dX9_isWhole_19 (by first | rfl | exact rf_bnar) (⟨by simp only [bI, hw1, hw2, not_true_eq_false, not_false_eq_true, and_true, true_and, and_false, false_and, or_true, true_or, or_false, false_or, if_true, if_false], rfl⟩)
def rm_X9_firstOfB : Room := { frames := 1, cells := 0, slots := 0, locals := 21 }
set_option maxRecDepth 100000 in
set_option maxHeartbeats 4000000 in
theorem c_X9_firstOfB (V : VT) (ad : Nat → Nat) (nw rw ps im kp tx sw sv da co pl me fa ao al : Nat → Int32) (de le ax ta ts tv se il : Int32) (c : Int32) (n : Nat) (hn : nw 0 = nI n) (hn6 : n ≤ 6) (hc : okc nw c n) : CI V yX9_firstOfB cX9_firstOfB 4 .int rm_X9_firstOfB [.ref (ad 0), .int c] (wMo V ad nw rw ps im kp tx sw sv da co pl me fa ao al de le ax ta ts tv se il) (fun r_ w_ => r_ = nI (mB nw c n) ∧ w_ = wMo V ad nw rw ps im kp tx sw sv da co pl me fa ao al de le ax ta ts tv se il) := by
  refine CI_intro (by decide) (Nat.le_of_ble_eq_true rfl) (fun K cx hret => ?_)
  show G V K 4 0 0 (wMo V ad nw rw ps im kp tx sw sv da co pl me fa ao al de le ax ta ts tv se il) 0 [(0, .ref (ad 0)), (1, .int c)] []
  refine g_aload_n (v := ad 0) cx dX9_firstOfB_0 rfl ?_
  refine g_get (v := .ref (ad 1)) cx fk_X9_7 dX9_firstOfB_1 0 rfl rfl ?_
  refine g_iconst (v := 0) cx dX9_firstOfB_4 (by decide) ?_
  refine g_iald cx dX9_firstOfB_5 1 0 rfl (nl 0) (by omega) (by first | decide | omega) ?_
  refine g_top (y := nw 0) (rfl) ?_
  refine g_istore_n (lv' := [(0, .ref (ad 0)), (1, .int c), (2, .int (nw 0))]) cx dX9_firstOfB_6 (by decide) rfl ?_
  refine g_aload_n (v := ad 0) cx dX9_firstOfB_7 rfl ?_
  refine g_get (v := .ref (ad 1)) cx fk_X9_7 dX9_firstOfB_8 0 rfl rfl ?_
  refine g_iconst (v := 1) cx dX9_firstOfB_11 (by decide) ?_
  refine g_iald cx dX9_firstOfB_12 1 1 rfl (nl 1) (by omega) (by first | decide | omega) ?_
  refine g_top (y := nw 1) (rfl) ?_
  refine g_if_eq cx 28 dX9_firstOfB_13 (by decide) (fun hw1 => ?_) (fun hw1 => ?_)
  · skip
    refine g_iload_n (v := nw 0) cx dX9_firstOfB_28 rfl ?_
    exact hret _ _ _ _ dX9_firstOfB_29 (rfl) (⟨by rw [mB, if_pos hw1]; exact hn, rfl⟩)
  · skip
    refine g_iload_n (v := c) cx dX9_firstOfB_16 rfl ?_
    refine g_if_eq cx 28 dX9_firstOfB_17 (by decide) (fun hw2 => ?_) (fun hw2 => ?_)
    · skip
      refine g_iload_n (v := nw 0) cx dX9_firstOfB_28 rfl ?_
      exact hret _ _ _ _ dX9_firstOfB_29 (rfl) (⟨by rw [mB, if_neg hw1, if_pos hw2]; exact hn, rfl⟩)
    · skip
      refine g_iload_n (v := c) cx dX9_firstOfB_20 rfl ?_
      refine g_iload_n (v := nw 0) cx dX9_firstOfB_21 rfl ?_
      refine k_callsi (r0 := bI (hasB c n)) (ws' := wMo V ad nw rw ps im kp tx sw sv da co pl me fa ao al de le ax ta ts tv se il) (As := [.int c, .int (nw 0)]) (rest := []) cx (c_X9_has V c (nw 0) n hn) ml_X9_124 dX9_firstOfB_22 [] rfl rfl [] rfl rfl rfl rfl rfl (Nat.le_of_ble_eq_true rfl) ⟨Nat.le_of_ble_eq_true rfl, Nat.le_of_ble_eq_true rfl⟩ ⟨Nat.le_refl _, Nat.le_refl _⟩ ?_
      refine g_if_eq_b cx 30 dX9_firstOfB_25 (by decide) (fun hw3 => ?_) (fun hw3 => ?_)
      · skip
        refine g_iload_n (v := nw 0) cx dX9_firstOfB_30 rfl ?_
        refine g_iconst (v := 1) cx dX9_firstOfB_31 (by decide) ?_
        refine g_isub cx dX9_firstOfB_32 ?_
        have hJ := hc hw1 hw2 hw3
        refine g_top (y := nI (n - 1)) (rf_sub hn (nl 1) (by omega)) ?_
        refine g_istore_n (lv' := [(0, .ref (ad 0)), (1, .int c), (2, .int (nw 0)), (3, .int (nI (n - 1)))]) cx dX9_firstOfB_33 (by decide) rfl ?_
        refine rf_dn (P := fun j => G V K 4 0 0 (wMo V ad nw rw ps im kp tx sw sv da co pl me fa ao al de le ax ta ts tv se il) 34 [(0, .ref (ad 0)), (1, .int c), (2, .int (nw 0)), (3, .int (nI (n - 1 - j)))] []) (mJ c n) (fun j hj ihj => ?_) ?_
        · skip
          have hno : ¬ hasB c (n - 1 - j) := of_decide_eq_false (ff_no (fun j => decide (hasB c (n - 1 - j))) n j hj)
          have hjj : j < mJ c n := hj
          refine g_iload_n (v := c) cx dX9_firstOfB_34 rfl ?_
          refine g_iload_n (v := nI (n - 1 - j)) cx dX9_firstOfB_35 rfl ?_
          refine k_callsi (r0 := bI (hasB c (n - 1 - j))) (ws' := wMo V ad nw rw ps im kp tx sw sv da co pl me fa ao al de le ax ta ts tv se il) (As := [.int c, .int (nI (n - 1 - j))]) (rest := []) cx (c_X9_has V c (nI (n - 1 - j)) (n - 1 - j) rfl) ml_X9_124 dX9_firstOfB_36 [] rfl rfl [] rfl rfl rfl rfl rfl (Nat.le_of_ble_eq_true rfl) ⟨Nat.le_of_ble_eq_true rfl, Nat.le_of_ble_eq_true rfl⟩ ⟨Nat.le_refl _, Nat.le_refl _⟩ ?_
          refine g_if_ne_b cx 48 dX9_firstOfB_39 (by decide) (fun hw4 => absurd hw4 (hno)) (fun hw4 => ?_)
          refine g_iinc (x := nI (n - 1 - j)) (v := nI (n - 1 - (j + 1))) (lv' := [(0, .ref (ad 0)), (1, .int c), (2, .int (nw 0)), (3, .int (nI (n - 1 - (j + 1))))]) cx dX9_firstOfB_42 rfl (by decide) ((nI_dn (by omega)).trans (by rw [Nat.sub_sub])) rfl ?_
          refine g_goto cx 34 dX9_firstOfB_45 (by decide) ?_
          exact ihj
        · skip
          have hy : hasB c (n - 1 - mJ c n) := of_decide_eq_true (ff_yes (fun j => decide (hasB c (n - 1 - j))) n hJ)
          refine g_iload_n (v := c) cx dX9_firstOfB_34 rfl ?_
          refine g_iload_n (v := nI (n - 1 - (mJ c n))) cx dX9_firstOfB_35 rfl ?_
          refine k_callsi (r0 := bI (hasB c (n - 1 - (mJ c n)))) (ws' := wMo V ad nw rw ps im kp tx sw sv da co pl me fa ao al de le ax ta ts tv se il) (As := [.int c, .int (nI (n - 1 - (mJ c n)))]) (rest := []) cx (c_X9_has V c (nI (n - 1 - (mJ c n))) (n - 1 - (mJ c n)) rfl) ml_X9_124 dX9_firstOfB_36 [] rfl rfl [] rfl rfl rfl rfl rfl (Nat.le_of_ble_eq_true rfl) ⟨Nat.le_of_ble_eq_true rfl, Nat.le_of_ble_eq_true rfl⟩ ⟨Nat.le_refl _, Nat.le_refl _⟩ ?_
          refine g_if_ne_b cx 48 dX9_firstOfB_39 (by decide) (fun hw5 => ?_) (fun hw5 => absurd (hy) hw5)
          refine g_iload_n (v := nI (n - 1 - (mJ c n))) cx dX9_firstOfB_48 rfl ?_
          exact hret _ _ _ _ dX9_firstOfB_49 (rfl) (⟨by rw [mB, if_neg hw1, if_neg hw2, if_neg hw3], rfl⟩)
      · skip
        refine g_iload_n (v := nw 0) cx dX9_firstOfB_28 rfl ?_
        exact hret _ _ _ _ dX9_firstOfB_29 (rfl) (⟨by rw [mB, if_neg hw1, if_neg hw2, if_pos hw3]; exact hn, rfl⟩)
def rm_X9_way : Room := { frames := 0, cells := 0, slots := 0, locals := 0 }
set_option maxRecDepth 100000 in
set_option maxHeartbeats 4000000 in
theorem c_X9_way (V : VT) (ad : Nat → Nat) (nw rw ps im kp tx sw sv da co pl me fa ao al : Nat → Int32) (de le ax ta ts tv se il : Int32) (x : Int32) (b : Int32) (a : Nat) (ha : x = nI a) (l : Nat) (hb : b = nI (a + l) - 1) (hal : a + l ≤ 7) : CI V yX9_way cX9_way 5 .int rm_X9_way [.ref (ad 0), .int x, .int b] (wMo V ad nw rw ps im kp tx sw sv da co pl me fa ao al de le ax ta ts tv se il) (fun r_ w_ => r_ = mWay nw a l ∧ w_ = wMo V ad nw rw ps im kp tx sw sv da co pl me fa ao al de le ax ta ts tv se il) := by
  refine CI_intro (by decide) (Nat.le_of_ble_eq_true rfl) (fun K cx hret => ?_)
  show G V K 5 0 0 (wMo V ad nw rw ps im kp tx sw sv da co pl me fa ao al de le ax ta ts tv se il) 0 [(0, .ref (ad 0)), (1, .int x), (2, .int b)] []
  subst ha
  refine g_iconst (v := 0) cx dX9_way_0 (by decide) ?_
  refine g_istore_n (lv' := [(0, .ref (ad 0)), (1, .int (nI a)), (2, .int b), (3, .int 0)]) cx dX9_way_1 (by decide) rfl ?_
  refine g_iload_n (v := nI a) cx dX9_way_2 rfl ?_
  refine g_istore (lv' := [(0, .ref (ad 0)), (1, .int (nI a)), (2, .int b), (3, .int 0), (4, .int (nI a))]) cx dX9_way_3 (by decide) rfl ?_
  refine rf_dn (P := fun i => G V K 5 0 0 (wMo V ad nw rw ps im kp tx sw sv da co pl me fa ao al de le ax ta ts tv se il) 5 [(0, .ref (ad 0)), (1, .int (nI a)), (2, .int b), (3, .int (mWay nw a i)), (4, .int (nI (a + i)))] []) (l) (fun i hi ihi => ?_) ?_
  · skip
    have hil : i < l := hi
    refine g_iload (v := nI (a + i)) cx dX9_way_5 rfl ?_
    refine g_iload_n (v := b) cx dX9_way_7 rfl ?_
    refine g_icmp_gt cx 30 dX9_way_8 (by decide) (fun hw1 => absurd hw1 (by rw [hb]; exact rf_predN (by omega) (by omega) (by omega))) (fun hw1 => ?_)
    refine g_iload_n (v := mWay nw a i) cx dX9_way_11 rfl ?_
    refine g_aload_n (v := ad 0) cx dX9_way_12 rfl ?_
    refine g_get (v := .ref (ad 1)) cx fk_X9_7 dX9_way_13 0 rfl rfl ?_
    refine g_bipush (v := 9) cx dX9_way_16 (by decide) ?_
    refine g_iload (v := nI (a + i)) cx dX9_way_18 rfl ?_
    refine g_iadd cx dX9_way_20 ?_
    refine g_iald cx dX9_way_21 1 (9 + (a + i)) rfl (rf_add (nl 9) rfl) (by omega) (by first | decide | omega) ?_
    refine g_top (y := nw (9 + (a + i))) (rfl) ?_
    refine g_iadd cx dX9_way_22 ?_
    refine g_istore_n (lv' := [(0, .ref (ad 0)), (1, .int (nI a)), (2, .int b), (3, .int ((mWay nw a i) + (nw (9 + (a + i))))), (4, .int (nI (a + i)))]) cx dX9_way_23 (by decide) rfl ?_
    refine g_iinc (x := nI (a + i)) (v := nI ((a + i) + 1)) (lv' := [(0, .ref (ad 0)), (1, .int (nI a)), (2, .int b), (3, .int ((mWay nw a i) + (nw (9 + (a + i))))), (4, .int (nI ((a + i) + 1)))]) cx dX9_way_24 rfl (by decide) (nI_add _ _) rfl ?_
    refine g_goto cx 5 dX9_way_27 (by decide) ?_
    exact ihi
  · skip
    refine g_iload (v := nI (a + l)) cx dX9_way_5 rfl ?_
    refine g_iload_n (v := b) cx dX9_way_7 rfl ?_
    refine g_icmp_gt cx 30 dX9_way_8 (by decide) (fun hw2 => ?_) (fun hw2 => absurd (by rw [hb]; exact rf_predP (by omega) (by omega) (by omega)) hw2)
    refine g_iload_n (v := mWay nw a l) cx dX9_way_30 rfl ?_
    exact hret _ _ _ _ dX9_way_31 (rfl) ⟨rfl, rfl⟩
def rm_X9_timeOf : Room := { frames := 2, cells := 0, slots := 0, locals := 44 }
set_option maxRecDepth 100000 in
set_option maxHeartbeats 4000000 in
theorem c_X9_timeOf (V : VT) (ad : Nat → Nat) (nw rw ps im kp tx sw sv da co pl me fa ao al : Nat → Int32) (de le ax ta ts tv se il : Int32) (y : Int32) (c : Int32) (q : Nat) (hq : y = nI q) (n : Nat) (hn : nw 0 = nI n) (hn6 : n ≤ 6) (hc : okc nw c n) (hq2 : q ≤ 1) : CI V yX9_timeOf cX9_timeOf 6 .int rm_X9_timeOf [.ref (ad 0), .int y, .int c] (wMo V ad nw rw ps im kp tx sw sv da co pl me fa ao al de le ax ta ts tv se il) (fun r_ w_ => r_ = mTime nw c n q ∧ w_ = wMo V ad nw rw ps im kp tx sw sv da co pl me fa ao al de le ax ta ts tv se il) := by
  refine CI_intro (by decide) (Nat.le_of_ble_eq_true rfl) (fun K cx hret => ?_)
  show G V K 6 0 0 (wMo V ad nw rw ps im kp tx sw sv da co pl me fa ao al de le ax ta ts tv se il) 0 [(0, .ref (ad 0)), (1, .int y), (2, .int c)] []
  refine g_aload_n (v := ad 0) cx dX9_timeOf_0 rfl ?_
  refine g_get (v := .ref (ad 1)) cx fk_X9_7 dX9_timeOf_1 0 rfl rfl ?_
  refine g_iconst (v := 0) cx dX9_timeOf_4 (by decide) ?_
  refine g_iald cx dX9_timeOf_5 1 0 rfl (nl 0) (by omega) (by first | decide | omega) ?_
  refine g_top (y := nw 0) (rfl) ?_
  refine g_istore_n (lv' := [(0, .ref (ad 0)), (1, .int y), (2, .int c), (3, .int (nw 0))]) cx dX9_timeOf_6 (by decide) rfl ?_
  refine g_aload_n (v := ad 0) cx dX9_timeOf_7 rfl ?_
  refine g_iload_n (v := c) cx dX9_timeOf_8 rfl ?_
  refine w_calli (r0 := bI (nw 1 = 1 ∧ c = 0)) (ws' := wMo V ad nw rw ps im kp tx sw sv da co pl me fa ao al de le ax ta ts tv se il) (As := [.int c]) (rest := []) cx (c_X9_isWhole V ad nw rw ps im kp tx sw sv da co pl me fa ao al de le ax ta ts tv se il c) ml_X9_127 dX9_timeOf_9 (q0 := 0) rfl rfl rfl rfl rfl (Nat.le_of_ble_eq_true rfl) ⟨Nat.le_of_ble_eq_true rfl, Nat.le_of_ble_eq_true rfl⟩ ⟨Nat.le_refl _, Nat.le_refl _⟩ ?_
  refine g_if_eq_b cx 24 dX9_timeOf_12 (by decide) (fun hw1 => ?_) (fun hw1 => ?_)
  · skip
    have hAn := mA_le c n
    have hBn := mB_le nw c n
    refine g_aload_n (v := ad 0) cx dX9_timeOf_24 rfl ?_
    refine g_iload_n (v := c) cx dX9_timeOf_25 rfl ?_
    refine w_calli (r0 := nI (mA c n) - 1) (ws' := wMo V ad nw rw ps im kp tx sw sv da co pl me fa ao al de le ax ta ts tv se il) (As := [.int c]) (rest := []) cx (c_X9_lastOfA V ad nw rw ps im kp tx sw sv da co pl me fa ao al de le ax ta ts tv se il c n hn (by omega)) ml_X9_134 dX9_timeOf_26 (q0 := 0) rfl rfl rfl rfl rfl (Nat.le_of_ble_eq_true rfl) ⟨Nat.le_of_ble_eq_true rfl, Nat.le_of_ble_eq_true rfl⟩ ⟨Nat.le_refl _, Nat.le_refl _⟩ ?_
    refine g_istore (lv' := [(0, .ref (ad 0)), (1, .int y), (2, .int c), (3, .int (nw 0)), (4, .int (nI (mA c n) - 1))]) cx dX9_timeOf_29 (by decide) rfl ?_
    refine g_aload_n (v := ad 0) cx dX9_timeOf_31 rfl ?_
    refine g_iload_n (v := c) cx dX9_timeOf_32 rfl ?_
    refine w_calli (r0 := nI (mB nw c n)) (ws' := wMo V ad nw rw ps im kp tx sw sv da co pl me fa ao al de le ax ta ts tv se il) (As := [.int c]) (rest := []) cx (c_X9_firstOfB V ad nw rw ps im kp tx sw sv da co pl me fa ao al de le ax ta ts tv se il c n hn (by omega) hc) ml_X9_138 dX9_timeOf_33 (q0 := 0) rfl rfl rfl rfl rfl (Nat.le_of_ble_eq_true rfl) ⟨Nat.le_of_ble_eq_true rfl, Nat.le_of_ble_eq_true rfl⟩ ⟨Nat.le_refl _, Nat.le_refl _⟩ ?_
    refine g_istore (lv' := [(0, .ref (ad 0)), (1, .int y), (2, .int c), (3, .int (nw 0)), (4, .int (nI (mA c n) - 1)), (5, .int (nI (mB nw c n)))]) cx dX9_timeOf_36 (by decide) rfl ?_
    refine g_iload_n (v := y) cx dX9_timeOf_38 rfl ?_
    by_cases hq0 : q = 0
    · skip
      refine g_if_ne cx 69 dX9_timeOf_39 (by decide) (fun hw2 => absurd (by rw [hq, hq0]; rfl) hw2) (fun hw2 => ?_)
      refine g_iload (v := nI (mA c n) - 1) cx dX9_timeOf_42 rfl ?_
      by_cases he0 : mA c n = 0
      · skip
        refine g_if_ge cx 52 dX9_timeOf_44 (by decide) (fun hw3 => absurd hw3 (rf_pgeN he0)) (fun hw3 => ?_)
        refine g_bipush (v := (-9)) cx dX9_timeOf_47 (by decide) ?_
        refine g_goto cx 68 dX9_timeOf_49 (by decide) ?_
        exact hret _ _ _ _ dX9_timeOf_68 (rfl) (⟨by rw [mTime, if_neg hw1, if_pos hq0, if_pos he0], rfl⟩)
      · skip
        refine g_if_ge cx 52 dX9_timeOf_44 (by decide) (fun hw4 => ?_) (fun hw4 => absurd (rf_pgeP he0 (by omega)) hw4)
        refine g_iconst (v := 2) cx dX9_timeOf_52 (by decide) ?_
        refine g_aload_n (v := ad 0) cx dX9_timeOf_53 rfl ?_
        refine g_iconst (v := 0) cx dX9_timeOf_54 (by decide) ?_
        refine g_iload (v := nI (mA c n) - 1) cx dX9_timeOf_55 rfl ?_
        refine w_calli (r0 := mWay nw 0 (mA c n)) (ws' := wMo V ad nw rw ps im kp tx sw sv da co pl me fa ao al de le ax ta ts tv se il) (As := [.int 0, .int (nI (mA c n) - 1)]) (rest := [.int 2]) cx (c_X9_way V ad nw rw ps im kp tx sw sv da co pl me fa ao al de le ax ta ts tv se il 0 (nI (mA c n) - 1) 0 (nl 0) (mA c n) (by rw [Nat.zero_add]) (by omega)) ml_X9_130 dX9_timeOf_57 (q0 := 0) rfl rfl rfl rfl rfl (Nat.le_of_ble_eq_true rfl) ⟨Nat.le_of_ble_eq_true rfl, Nat.le_of_ble_eq_true rfl⟩ ⟨Nat.le_refl _, Nat.le_refl _⟩ ?_
        refine g_imul cx dX9_timeOf_60 ?_
        refine g_iconst (v := 2) cx dX9_timeOf_61 (by decide) ?_
        refine g_iload (v := nI (mA c n) - 1) cx dX9_timeOf_62 rfl ?_
        refine g_imul cx dX9_timeOf_64 ?_
        refine g_iadd cx dX9_timeOf_65 ?_
        refine g_iconst (v := 1) cx dX9_timeOf_66 (by decide) ?_
        refine g_iadd cx dX9_timeOf_67 ?_
        exact hret _ _ _ _ dX9_timeOf_68 (rfl) (⟨by rw [mTime, if_neg hw1, if_pos hq0, if_neg he0], rfl⟩)
    · skip
      refine g_if_ne cx 69 dX9_timeOf_39 (by decide) (fun hw5 => ?_) (fun hw5 => absurd hw5 (rf_eqMN hq (nl 0) (by omega) (by omega) hq0))
      refine g_iload (v := nI (mB nw c n)) cx dX9_timeOf_69 rfl ?_
      refine g_iload_n (v := nw 0) cx dX9_timeOf_71 rfl ?_
      by_cases hb0 : mB nw c n = n
      · skip
        refine g_icmp_ne cx 80 dX9_timeOf_72 (by decide) (fun hw6 => absurd (by rw [hn, hb0]) hw6) (fun hw6 => ?_)
        refine g_bipush (v := (-9)) cx dX9_timeOf_75 (by decide) ?_
        refine g_goto cx 102 dX9_timeOf_77 (by decide) ?_
        exact hret _ _ _ _ dX9_timeOf_102 (rfl) (⟨by rw [mTime, if_neg hw1, if_neg hq0, if_pos hb0], rfl⟩)
      · skip
        refine g_icmp_ne cx 80 dX9_timeOf_72 (by decide) (fun hw7 => ?_) (fun hw7 => absurd hw7 (fun h => hb0 ((nI_eq (by omega) (by omega)).mp (h.trans hn))))
        refine g_iconst (v := 2) cx dX9_timeOf_80 (by decide) ?_
        refine g_aload_n (v := ad 0) cx dX9_timeOf_81 rfl ?_
        refine g_iload (v := nI (mB nw c n)) cx dX9_timeOf_82 rfl ?_
        refine g_iconst (v := 1) cx dX9_timeOf_84 (by decide) ?_
        refine g_iadd cx dX9_timeOf_85 ?_
        refine g_iload_n (v := nw 0) cx dX9_timeOf_86 rfl ?_
        refine w_calli (r0 := mWay nw ((mB nw c n) + 1) (n - mB nw c n)) (ws' := wMo V ad nw rw ps im kp tx sw sv da co pl me fa ao al de le ax ta ts tv se il) (As := [.int ((nI (mB nw c n)) + 1), .int (nw 0)]) (rest := [.int 2]) cx (c_X9_way V ad nw rw ps im kp tx sw sv da co pl me fa ao al de le ax ta ts tv se il ((nI (mB nw c n)) + 1) (nw 0) ((mB nw c n) + 1) (rf_add rfl (nl 1)) (n - mB nw c n) (hn.trans (by rw [show mB nw c n + 1 + (n - mB nw c n) = n + 1 by omega]; exact (nI_m1 n).symm)) (by omega)) ml_X9_130 dX9_timeOf_87 (q0 := 0) rfl rfl rfl rfl rfl (Nat.le_of_ble_eq_true rfl) ⟨Nat.le_of_ble_eq_true rfl, Nat.le_of_ble_eq_true rfl⟩ ⟨Nat.le_refl _, Nat.le_refl _⟩ ?_
        refine g_imul cx dX9_timeOf_90 ?_
        refine g_iconst (v := 2) cx dX9_timeOf_91 (by decide) ?_
        refine g_iload_n (v := nw 0) cx dX9_timeOf_92 rfl ?_
        refine g_iconst (v := 1) cx dX9_timeOf_93 (by decide) ?_
        refine g_isub cx dX9_timeOf_94 ?_
        refine g_iload (v := nI (mB nw c n)) cx dX9_timeOf_95 rfl ?_
        refine g_isub cx dX9_timeOf_97 ?_
        refine g_imul cx dX9_timeOf_98 ?_
        refine g_iadd cx dX9_timeOf_99 ?_
        refine g_iconst (v := 1) cx dX9_timeOf_100 (by decide) ?_
        refine g_iadd cx dX9_timeOf_101 ?_
        exact hret _ _ _ _ dX9_timeOf_102 (rfl) (⟨by rw [mTime, if_neg hw1, if_neg hq0, if_neg hb0], rfl⟩)
  · skip
    refine g_aload_n (v := ad 0) cx dX9_timeOf_15 rfl ?_
    refine g_iconst (v := 0) cx dX9_timeOf_16 (by decide) ?_
    refine g_iload_n (v := nw 0) cx dX9_timeOf_17 rfl ?_
    refine w_calli (r0 := mWay nw 0 (n + 1)) (ws' := wMo V ad nw rw ps im kp tx sw sv da co pl me fa ao al de le ax ta ts tv se il) (As := [.int 0, .int (nw 0)]) (rest := []) cx (c_X9_way V ad nw rw ps im kp tx sw sv da co pl me fa ao al de le ax ta ts tv se il 0 (nw 0) 0 (nl 0) (n + 1) (hn.trans (by rw [Nat.zero_add]; exact (nI_m1 n).symm)) (by omega)) ml_X9_130 dX9_timeOf_18 (q0 := 0) rfl rfl rfl rfl rfl (Nat.le_of_ble_eq_true rfl) ⟨Nat.le_of_ble_eq_true rfl, Nat.le_of_ble_eq_true rfl⟩ ⟨Nat.le_refl _, Nat.le_refl _⟩ ?_
    refine g_iload_n (v := nw 0) cx dX9_timeOf_21 rfl ?_
    refine g_iadd cx dX9_timeOf_22 ?_
    exact hret _ _ _ _ dX9_timeOf_23 (rfl) (⟨by rw [mTime, if_pos hw1], rfl⟩)
